/-! ===== the class's plain calls ===== -/
def RSo (s : Int → Int) (mi : Mi) : Prop :=
  (mi 1 2 = s 12 ∧ mi 1 3 = s 11 ∧ mi 1 7 = hadB s ∧ mi 1 8 = s 0 ∧ mi 1 9 = s 1 ∧ mi 1 10 = s 8 ∧ mi 1 11 = s 9 ∧ mi 1 12 = s 10) ∧
  ((∀ p : Int, 0 ≤ p → p < s 11 → mi 10 p = s (30 + p)) ∧ (∀ j : Int, 0 ≤ j → j < 24 → mi 11 j = s (36 + j))) ∧
  ((mi 2 0 = 1 ∧ mi 2 1 = 100 ∧ mi 2 3 = s 16) ∧ ∀ j : Int, 0 ≤ j → j < s 16 → mi 3 j = s (99 + j)) ∧
  ((mi 12 0 = 3 ∧ mi 12 1 = 5 ∧ mi 12 3 = s 13) ∧ ∀ j : Int, 0 ≤ j → j < s 13 → mi 13 (j * 3) = s (60 + j) ∧ mi 13 (j * 3 + 1) = s (65 + j) ∧ mi 13 (j * 3 + 2) = s (70 + j)) ∧
  ((mi 14 0 = 1 ∧ mi 14 1 = 8 ∧ mi 14 3 = s 14) ∧ ∀ j : Int, 0 ≤ j → j < s 14 → mi 15 j = s (75 + j)) ∧
  ((mi 16 0 = 2 ∧ mi 16 1 = 8 ∧ mi 16 3 = s 15) ∧ ∀ j : Int, 0 ≤ j → j < s 15 → mi 17 (j * 2) = s (83 + j) ∧ mi 17 (j * 2 + 1) = s (91 + j))
theorem RS.o {s : Int → Int} {G : Gh} {mi : Mi} (h : RS 1 s G mi) : RSo s mi := h.1
theorem RS.w {s s' : Int → Int} {G : Gh} {mi mi' : Mi} (hR : RS 1 s G mi) (hW : WfA s) (hs : Sc kL mi mi') (he : ∀ j : Int, j = 11 ∨ j = 17 ∨ (18 ≤ j ∧ j < 30) ∨ 199 ≤ j → s' j = s j) (hN : RSo s' mi') : RS 1 s' G mi' :=
  hR.m hW.1.2.2.2.1 hW.1.1.2.2.2.2.2.1.2 hs he hN
-- #def RG obtain ⟨⟨n2, n3, n7, n8, n9, n10, n11, n12⟩, ⟨hm1, hm2⟩, ⟨⟨t0, t1, t3⟩, ht4⟩, ⟨⟨u0, u1, u3⟩, hu4⟩, ⟨⟨p0, p1, p3⟩, hp4⟩, ⟨⟨b0, b1, b3⟩, hb4⟩⟩ := hR.o
-- #def RX n2, n3, n7, n8, n9, n10, n11, n12, t0, t1, t3, u0, u1, u3, p0, p1, p3, b0, b1, b3
theorem hadB_k {s : Int → Int} {j v : Int} (h : j < 2 ∨ 8 ≤ j) : hadB (sH s j v) = hadB s := hadB_c (fun i h0 h1 => sH_k (by omega))
-- #def NN refine ⟨?_, ?_, ?_, ?_, ?_, ?_, ?_, ?_⟩ <;> simp (disch := omega) only [up_k, up_s, up_a, sH_k, sH_s, hadB_k, n2, n3, n7, n8, n9, n10, n11, n12]
-- #def CN hR.1.1.c
-- #def UA simp (disch := decide) only [up_a]
section CL
variable {d : Nat} {G : Gh} {mi : Mi} {K : Option PV → Gh → Mi → Prop} {o o' : Nat} {s : Int → Int} {p t v w a b c k n g q x lim : Int}
theorem c_feed (hC : ShC G) (hR : RS 1 s G mi) (hW : WfA s) (hK : ∀ mi', RS 1 (oFeed s x).2 G mi' → Sc kL mi mi' → K (some (pI (oFeed s x).1)) G mi') : OkC (d + 5) 159 [pR (some 0), pI x] G mi K := by
  obtain ⟨⟨⟨k1, k2, k3, l3, k9, l9, k10, l10, k11, l11⟩, ⟨k12, k13, l13, k14, k15, l15, k16, k17, l17, k18, l18⟩, ⟨r10, r14, r15, r16, r113, r114, r115, r116, r22, r122, r142, r162⟩⟩, -, ⟨⟨k0, r00, r01, r02, r03⟩, ⟨k37, r372, k38, l38⟩, ⟨k39, r390, r391, r392, r393, r394, r396, r397⟩, ⟨k40, l40, k41, l41, k42, l42, k43, l43, k44, l44, k45, l45⟩⟩⟩ := id hC
  obtain ⟨⟨n2, n3, n7, n8, n9, n10, n11, n12⟩, ⟨hm1, hm2⟩, ⟨⟨t0, t1, t3⟩, ht4⟩, ⟨⟨u0, u1, u3⟩, hu4⟩, ⟨⟨p0, p1, p3⟩, hp4⟩, ⟨⟨b0, b1, b3⟩, hb4⟩⟩ := hR.o
  obtain ⟨⟨⟨z0, z1, z8, z9, z10, z11, z12, z13, z14, z15, z16⟩, hh01, hT, hz17⟩, hWV, hWD, hWB, hWP, hWT, hWZ, hWF, hWK⟩ := id hW
  rw [E159]
  unfold oFeed at hK
  by_cases c2 : 0 ≤ x ∧ x ≤ 127
  · rw [if_pos c2] at hK
    by_cases c3 : s 16 = 100
    · rw [if_pos c3] at hK
      simp (disch := first | assumption | exact isL_i | exact isL_r | exact isL_n | exact i01a | exact i01b | omega) only [K159_0, K159_1, K159_2, K159_4, K159_7, K159_10, K159_12, K159_13, K159_14, K159_17, K159_20, K159_23, K159_26, K159_28, K159_31, K159_32, K159_35, K159_38, K159_39, K159_40, K159_41, K159_44, r10, r14, r15, r16, r113, r114, r115, r116, r22, r122, r142, r162, r00, r01, r02, r03, r372, r390, r391, r392, r393, r394, r396, r397, n2, n3, n7, n8, n9, n10, n11, n12, t0, t1, t3, u0, u1, u3, p0, p1, p3, b0, b1, b3, wr_id, td_e, tm_e, pu_n, pu_s, up_s, up_k, up_a, ↓reduceIte, Int.reduceLT, Int.reduceLE, Int.reduceEq, Int.reduceNeg, Int.reduceAdd, Int.reduceSub, Int.reduceMul, Int.reduceMod, Int.reduceDiv, Int.cast_ofNat_Int, not_true_eq_false, not_false_eq_true, Int.reduceTDiv, Int.reduceTMod, c_within, t_isFull, if_pos, if_neg]
      exact hK _ hR Sc.rf
    · rw [if_neg c3] at hK
      dsimp only at hK
      simp (disch := first | assumption | exact isL_i | exact isL_r | exact isL_n | exact i01a | exact i01b | omega) only [K159_0, K159_1, K159_2, K159_4, K159_7, K159_10, K159_12, K159_13, K159_14, K159_17, K159_20, K159_23, K159_26, K159_28, K159_31, K159_32, K159_35, K159_38, K159_39, K159_40, K159_41, K159_44, r10, r14, r15, r16, r113, r114, r115, r116, r22, r122, r142, r162, r00, r01, r02, r03, r372, r390, r391, r392, r393, r394, r396, r397, n2, n3, n7, n8, n9, n10, n11, n12, t0, t1, t3, u0, u1, u3, p0, p1, p3, b0, b1, b3, wr_id, td_e, tm_e, pu_n, pu_s, up_s, up_k, up_a, ↓reduceIte, Int.reduceLT, Int.reduceLE, Int.reduceEq, Int.reduceNeg, Int.reduceAdd, Int.reduceSub, Int.reduceMul, Int.reduceMod, Int.reduceDiv, Int.cast_ofNat_Int, not_true_eq_false, not_false_eq_true, Int.reduceTDiv, Int.reduceTMod, c_within, t_isFull, t_add1 (o := 2) (o' := 3), if_pos, if_neg]
      have hsc : Sc kL mi (up (up mi 3 (s 16) x) 2 3 (s 16 + 1)) := (Sc.rf.u (by decide)).u (by decide)
      refine hK _ (hR.w hW hsc (fun j hj => by simp (disch := omega) only [sH_k]) ⟨?_, ?_, ⟨⟨?_, ?_, ?_⟩, fun j j0 j1 => ?_⟩, ?_, ?_, ?_⟩) hsc
      · refine ⟨?_, ?_, ?_, ?_, ?_, ?_, ?_, ?_⟩ <;> simp (disch := omega) only [up_k, up_s, up_a, sH_k, sH_s, hadB_k, n2, n3, n7, n8, n9, n10, n11, n12]
      · exact RNh.c hR.1.2.1 z11.2 (by simp (disch := decide) only [up_a]) (by simp (disch := decide) only [up_a]) (fun j hj => by simp (disch := omega) only [sH_k])
      · simp (disch := decide) only [up_k, t0, up_a]
      · simp (disch := decide) only [up_k, t1, up_a]
      · simp only [up_s, sH_s]
      · rw [sH_s] at j1
        by_cases hj : j = s 16
        · subst hj
          simp (disch := omega) only [up_a, up_s, sH_k, sH_s]
        · simp (disch := omega) only [up_a, up_k, sH_k]
          exact ht4 j j0 (by omega)
      · exact RNs.c hR.1.2.2.2.1 z13.2 (by simp (disch := decide) only [up_a]) (by simp (disch := decide) only [up_a]) (fun j hj => by simp (disch := omega) only [sH_k])
      · exact RNp.c hR.1.2.2.2.2.1 z14.2 (by simp (disch := decide) only [up_a]) (by simp (disch := decide) only [up_a]) (fun j hj => by simp (disch := omega) only [sH_k])
      · exact RNb.c hR.1.2.2.2.2.2 z15.2 (by simp (disch := decide) only [up_a]) (by simp (disch := decide) only [up_a]) (fun j hj => by simp (disch := omega) only [sH_k])
  · rw [if_neg c2] at hK
    simp (disch := first | assumption | exact isL_i | exact isL_r | exact isL_n | exact i01a | exact i01b | omega) only [K159_0, K159_1, K159_2, K159_4, K159_7, K159_10, K159_12, K159_13, K159_14, K159_17, K159_20, K159_23, K159_26, K159_28, K159_31, K159_32, K159_35, K159_38, K159_39, K159_40, K159_41, K159_44, r10, r14, r15, r16, r113, r114, r115, r116, r22, r122, r142, r162, r00, r01, r02, r03, r372, r390, r391, r392, r393, r394, r396, r397, n2, n3, n7, n8, n9, n10, n11, n12, t0, t1, t3, u0, u1, u3, p0, p1, p3, b0, b1, b3, wr_id, td_e, tm_e, pu_n, pu_s, up_s, up_k, up_a, ↓reduceIte, Int.reduceLT, Int.reduceLE, Int.reduceEq, Int.reduceNeg, Int.reduceAdd, Int.reduceSub, Int.reduceMul, Int.reduceMod, Int.reduceDiv, Int.cast_ofNat_Int, not_true_eq_false, not_false_eq_true, Int.reduceTDiv, Int.reduceTMod, c_within, if_pos, if_neg]
    exact hK _ hR Sc.rf
/-- all but the numbers stays -/
theorem RS.nn {s' : Int → Int} {mi' : Mi} (hR : RS 1 s G mi) (hW : WfA s) (hs : Sc [1] mi mi') (he : ∀ j : Int, 11 ≤ j → j ≠ 12 → s' j = s j) (hN : RNn 1 s' mi') : RS 1 s' G mi' := by
  obtain ⟨⟨⟨z0, z1, z8, z9, z10, z11, z12, z13, z14, z15, z16⟩, hh01, hT, hz17⟩, hWV, hWD, hWB, hWP, hWT, hWZ, hWF, hWK⟩ := id hW
  refine hR.w hW (hs.wk (by decide)) (fun j hj => he j (by omega) (by omega)) ⟨hN, ?_, ?_, ?_, ?_, ?_⟩
  · exact RNh.c hR.1.2.1 z11.2 (hs _ (by decide)) (hs _ (by decide)) (fun j hj => he j (by omega) (by omega))
  · exact RNt.c hR.1.2.2.1 z16.2 (hs _ (by decide)) (hs _ (by decide)) (fun j hj => he j (by omega) (by omega))
  · exact RNs.c hR.1.2.2.2.1 z13.2 (hs _ (by decide)) (hs _ (by decide)) (fun j hj => he j (by omega) (by omega))
  · exact RNp.c hR.1.2.2.2.2.1 z14.2 (hs _ (by decide)) (hs _ (by decide)) (fun j hj => he j (by omega) (by omega))
  · exact RNb.c hR.1.2.2.2.2.2 z15.2 (hs _ (by decide)) (hs _ (by decide)) (fun j hj => he j (by omega) (by omega))
theorem c_point (hC : ShC G) (hR : RS 1 s G mi) (hW : WfA s) (hK : ∀ mi', RS 1 (oPoint s c).2 G mi' → Sc kL mi mi' → K (some (pI (oPoint s c).1)) G mi') : OkC (d + 5) 167 [pR (some 0), pI c] G mi K := by
  obtain ⟨⟨⟨k1, k2, k3, l3, k9, l9, k10, l10, k11, l11⟩, ⟨k12, k13, l13, k14, k15, l15, k16, k17, l17, k18, l18⟩, ⟨r10, r14, r15, r16, r113, r114, r115, r116, r22, r122, r142, r162⟩⟩, -, ⟨⟨k0, r00, r01, r02, r03⟩, ⟨k37, r372, k38, l38⟩, ⟨k39, r390, r391, r392, r393, r394, r396, r397⟩, ⟨k40, l40, k41, l41, k42, l42, k43, l43, k44, l44, k45, l45⟩⟩⟩ := id hC
  obtain ⟨⟨n2, n3, n7, n8, n9, n10, n11, n12⟩, ⟨hm1, hm2⟩, ⟨⟨t0, t1, t3⟩, ht4⟩, ⟨⟨u0, u1, u3⟩, hu4⟩, ⟨⟨p0, p1, p3⟩, hp4⟩, ⟨⟨b0, b1, b3⟩, hb4⟩⟩ := hR.o
  rw [E167]
  unfold oPoint at hK
  by_cases hc : isC c
  · rw [if_pos hc] at hK
    simp (disch := first | assumption | exact isL_i | exact isL_r | exact isL_n | exact i01a | exact i01b | omega) only [K167_0, K167_1, K167_4, K167_7, K167_8, K167_9, K167_10, K167_13, K167_16, K167_17, K167_18, K167_21, K167_22, K167_25, K167_26, r10, r14, r15, r16, r113, r114, r115, r116, r22, r122, r142, r162, r00, r01, r02, r03, r372, r390, r391, r392, r393, r394, r396, r397, n2, n3, n7, n8, n9, n10, n11, n12, t0, t1, t3, u0, u1, u3, p0, p1, p3, b0, b1, b3, wr_id, td_e, tm_e, pu_n, pu_s, up_s, up_k, up_a, ↓reduceIte, Int.reduceLT, Int.reduceLE, Int.reduceEq, Int.reduceNeg, Int.reduceAdd, Int.reduceSub, Int.reduceMul, Int.reduceMod, Int.reduceDiv, Int.cast_ofNat_Int, not_true_eq_false, not_false_eq_true, Int.reduceTDiv, Int.reduceTMod, c_isCell, if_pos, if_neg, if_pos hc]
    refine hK _ (hR.nn hW (sc_up (by decide)) (fun j h0 h1 => sH_k (by omega)) ?_) (sc_up (by decide))
    refine ⟨?_, ?_, ?_, ?_, ?_, ?_, ?_, ?_⟩ <;> simp (disch := omega) only [up_k, up_s, up_a, sH_k, sH_s, hadB_k, n2, n3, n7, n8, n9, n10, n11, n12]
  · rw [if_neg hc] at hK
    simp (disch := first | assumption | exact isL_i | exact isL_r | exact isL_n | exact i01a | exact i01b | omega) only [K167_0, K167_1, K167_4, K167_7, K167_8, K167_9, K167_10, K167_13, K167_16, K167_17, K167_18, K167_21, K167_22, K167_25, K167_26, r10, r14, r15, r16, r113, r114, r115, r116, r22, r122, r142, r162, r00, r01, r02, r03, r372, r390, r391, r392, r393, r394, r396, r397, n2, n3, n7, n8, n9, n10, n11, n12, t0, t1, t3, u0, u1, u3, p0, p1, p3, b0, b1, b3, wr_id, td_e, tm_e, pu_n, pu_s, up_s, up_k, up_a, ↓reduceIte, Int.reduceLT, Int.reduceLE, Int.reduceEq, Int.reduceNeg, Int.reduceAdd, Int.reduceSub, Int.reduceMul, Int.reduceMod, Int.reduceDiv, Int.cast_ofNat_Int, not_true_eq_false, not_false_eq_true, Int.reduceTDiv, Int.reduceTMod, c_isCell, if_pos, if_neg, if_neg hc]
    exact hK _ hR Sc.rf
theorem c_pass (hC : ShC G) (hR : RS 1 s G mi) (hW : WfA s) (hK : ∀ mi', RS 1 (oPass s n).2 G mi' → Sc kL mi mi' → K (some (pI (oPass s n).1)) G mi') : OkC (d + 5) 171 [pR (some 0), pI n] G mi K := by
  obtain ⟨⟨⟨k1, k2, k3, l3, k9, l9, k10, l10, k11, l11⟩, ⟨k12, k13, l13, k14, k15, l15, k16, k17, l17, k18, l18⟩, ⟨r10, r14, r15, r16, r113, r114, r115, r116, r22, r122, r142, r162⟩⟩, -, ⟨⟨k0, r00, r01, r02, r03⟩, ⟨k37, r372, k38, l38⟩, ⟨k39, r390, r391, r392, r393, r394, r396, r397⟩, ⟨k40, l40, k41, l41, k42, l42, k43, l43, k44, l44, k45, l45⟩⟩⟩ := id hC
  obtain ⟨⟨n2, n3, n7, n8, n9, n10, n11, n12⟩, ⟨hm1, hm2⟩, ⟨⟨t0, t1, t3⟩, ht4⟩, ⟨⟨u0, u1, u3⟩, hu4⟩, ⟨⟨p0, p1, p3⟩, hp4⟩, ⟨⟨b0, b1, b3⟩, hb4⟩⟩ := hR.o
  obtain ⟨⟨⟨z0, z1, z8, z9, z10, z11, z12, z13, z14, z15, z16⟩, hh01, hT, hz17⟩, hWV, hWD, hWB, hWP, hWT, hWZ, hWF, hWK⟩ := id hW
  rw [E171]
  unfold oPass at hK
  by_cases c2 : 0 ≤ n ∧ n ≤ 60
  · rw [if_pos c2] at hK
    by_cases c3 : 9999 < s 0 + n
    · rw [if_pos c3] at hK
      simp (disch := first | assumption | exact isL_i | exact isL_r | exact isL_n | exact i01a | exact i01b | omega) only [K171_0, K171_1, K171_2, K171_4, K171_7, K171_10, K171_12, K171_13, K171_14, K171_17, K171_20, K171_21, K171_22, K171_25, K171_28, K171_30, K171_31, K171_32, K171_35, K171_35i, K171_36, K171_39, K171_40, K171_41, K171_44, K171_45, K171_48, K171_49, K171_50, K171_53, K171_56, K171_57, K171_58, K171_61, K171_64, K171_65, K171_68, K171_71, r10, r14, r15, r16, r113, r114, r115, r116, r22, r122, r142, r162, r00, r01, r02, r03, r372, r390, r391, r392, r393, r394, r396, r397, n2, n3, n7, n8, n9, n10, n11, n12, t0, t1, t3, u0, u1, u3, p0, p1, p3, b0, b1, b3, wr_id, td_e, tm_e, pu_n, pu_s, up_s, up_k, up_a, ↓reduceIte, Int.reduceLT, Int.reduceLE, Int.reduceEq, Int.reduceNeg, Int.reduceAdd, Int.reduceSub, Int.reduceMul, Int.reduceMod, Int.reduceDiv, Int.cast_ofNat_Int, not_true_eq_false, not_false_eq_true, Int.reduceTDiv, Int.reduceTMod, c_within, if_pos, if_neg]
      exact hK _ hR Sc.rf
    · rw [if_neg c3] at hK
      by_cases c4 : s 8 < n
      · rw [if_pos c4] at hK
        simp (disch := first | assumption | exact isL_i | exact isL_r | exact isL_n | exact i01a | exact i01b | omega) only [K171_0, K171_1, K171_2, K171_4, K171_7, K171_10, K171_12, K171_13, K171_14, K171_17, K171_20, K171_21, K171_22, K171_25, K171_28, K171_30, K171_31, K171_32, K171_35, K171_35i, K171_36, K171_39, K171_40, K171_41, K171_44, K171_45, K171_48, K171_49, K171_50, K171_53, K171_56, K171_57, K171_58, K171_61, K171_64, K171_65, K171_68, K171_71, r10, r14, r15, r16, r113, r114, r115, r116, r22, r122, r142, r162, r00, r01, r02, r03, r372, r390, r391, r392, r393, r394, r396, r397, n2, n3, n7, n8, n9, n10, n11, n12, t0, t1, t3, u0, u1, u3, p0, p1, p3, b0, b1, b3, wr_id, td_e, tm_e, pu_n, pu_s, up_s, up_k, up_a, ↓reduceIte, Int.reduceLT, Int.reduceLE, Int.reduceEq, Int.reduceNeg, Int.reduceAdd, Int.reduceSub, Int.reduceMul, Int.reduceMod, Int.reduceDiv, Int.cast_ofNat_Int, not_true_eq_false, not_false_eq_true, Int.reduceTDiv, Int.reduceTMod, c_within, if_pos, if_neg]
        refine hK _ (hR.nn hW (Sc.tr (sc_up (by decide)) (sc_up (by decide))) (fun j h0 h1 => by simp (disch := omega) only [sH_k]) ?_) (Sc.tr (sc_up (by decide)) (sc_up (by decide)))
        refine ⟨?_, ?_, ?_, ?_, ?_, ?_, ?_, ?_⟩ <;> simp (disch := omega) only [up_k, up_s, up_a, sH_k, sH_s, hadB_k, n2, n3, n7, n8, n9, n10, n11, n12]
      · rw [if_neg c4] at hK
        by_cases c5 : s 8 = n
        · rw [show s 8 - n = 0 by omega] at hK
          simp (disch := first | assumption | exact isL_i | exact isL_r | exact isL_n | exact i01a | exact i01b | omega) only [K171_0, K171_1, K171_2, K171_4, K171_7, K171_10, K171_12, K171_13, K171_14, K171_17, K171_20, K171_21, K171_22, K171_25, K171_28, K171_30, K171_31, K171_32, K171_35, K171_35i, K171_36, K171_39, K171_40, K171_41, K171_44, K171_45, K171_48, K171_49, K171_50, K171_53, K171_56, K171_57, K171_58, K171_61, K171_64, K171_65, K171_68, K171_71, r10, r14, r15, r16, r113, r114, r115, r116, r22, r122, r142, r162, r00, r01, r02, r03, r372, r390, r391, r392, r393, r394, r396, r397, n2, n3, n7, n8, n9, n10, n11, n12, t0, t1, t3, u0, u1, u3, p0, p1, p3, b0, b1, b3, wr_id, td_e, tm_e, pu_n, pu_s, up_s, up_k, up_a, ↓reduceIte, Int.reduceLT, Int.reduceLE, Int.reduceEq, Int.reduceNeg, Int.reduceAdd, Int.reduceSub, Int.reduceMul, Int.reduceMod, Int.reduceDiv, Int.cast_ofNat_Int, not_true_eq_false, not_false_eq_true, Int.reduceTDiv, Int.reduceTMod, c_within, if_pos, if_neg, show s 8 - n = 0 by omega]
          refine hK _ (hR.nn hW (Sc.tr (sc_up (by decide)) (sc_up (by decide))) (fun j h0 h1 => by simp (disch := omega) only [sH_k]) ?_) (Sc.tr (sc_up (by decide)) (sc_up (by decide)))
          refine ⟨?_, ?_, ?_, ?_, ?_, ?_, ?_, ?_⟩ <;> simp (disch := omega) only [up_k, up_s, up_a, sH_k, sH_s, hadB_k, n2, n3, n7, n8, n9, n10, n11, n12]
        · simp (disch := first | assumption | exact isL_i | exact isL_r | exact isL_n | exact i01a | exact i01b | omega) only [K171_0, K171_1, K171_2, K171_4, K171_7, K171_10, K171_12, K171_13, K171_14, K171_17, K171_20, K171_21, K171_22, K171_25, K171_28, K171_30, K171_31, K171_32, K171_35, K171_35i, K171_36, K171_39, K171_40, K171_41, K171_44, K171_45, K171_48, K171_49, K171_50, K171_53, K171_56, K171_57, K171_58, K171_61, K171_64, K171_65, K171_68, K171_71, r10, r14, r15, r16, r113, r114, r115, r116, r22, r122, r142, r162, r00, r01, r02, r03, r372, r390, r391, r392, r393, r394, r396, r397, n2, n3, n7, n8, n9, n10, n11, n12, t0, t1, t3, u0, u1, u3, p0, p1, p3, b0, b1, b3, wr_id, td_e, tm_e, pu_n, pu_s, up_s, up_k, up_a, ↓reduceIte, Int.reduceLT, Int.reduceLE, Int.reduceEq, Int.reduceNeg, Int.reduceAdd, Int.reduceSub, Int.reduceMul, Int.reduceMod, Int.reduceDiv, Int.cast_ofNat_Int, not_true_eq_false, not_false_eq_true, Int.reduceTDiv, Int.reduceTMod, c_within, if_pos, if_neg]
          refine hK _ (hR.nn hW (Sc.tr (sc_up (by decide)) (sc_up (by decide))) (fun j h0 h1 => by simp (disch := omega) only [sH_k]) ?_) (Sc.tr (sc_up (by decide)) (sc_up (by decide)))
          refine ⟨?_, ?_, ?_, ?_, ?_, ?_, ?_, ?_⟩ <;> simp (disch := omega) only [up_k, up_s, up_a, sH_k, sH_s, hadB_k, n2, n3, n7, n8, n9, n10, n11, n12]
  · rw [if_neg c2] at hK
    simp (disch := first | assumption | exact isL_i | exact isL_r | exact isL_n | exact i01a | exact i01b | omega) only [K171_0, K171_1, K171_2, K171_4, K171_7, K171_10, K171_12, K171_13, K171_14, K171_17, K171_20, K171_21, K171_22, K171_25, K171_28, K171_30, K171_31, K171_32, K171_35, K171_35i, K171_36, K171_39, K171_40, K171_41, K171_44, K171_45, K171_48, K171_49, K171_50, K171_53, K171_56, K171_57, K171_58, K171_61, K171_64, K171_65, K171_68, K171_71, r10, r14, r15, r16, r113, r114, r115, r116, r22, r122, r142, r162, r00, r01, r02, r03, r372, r390, r391, r392, r393, r394, r396, r397, n2, n3, n7, n8, n9, n10, n11, n12, t0, t1, t3, u0, u1, u3, p0, p1, p3, b0, b1, b3, wr_id, td_e, tm_e, pu_n, pu_s, up_s, up_k, up_a, ↓reduceIte, Int.reduceLT, Int.reduceLE, Int.reduceEq, Int.reduceNeg, Int.reduceAdd, Int.reduceSub, Int.reduceMul, Int.reduceMod, Int.reduceDiv, Int.cast_ofNat_Int, not_true_eq_false, not_false_eq_true, Int.reduceTDiv, Int.reduceTMod, c_within, if_pos, if_neg]
    exact hK _ hR Sc.rf
theorem c_move (hC : ShC G) (hR : RS 1 s G mi) (hW : WfA s) (hK : ∀ mi', RS 1 (oMove s p c).2 G mi' → Sc kL mi mi' → K (some (pI (oMove s p c).1)) G mi') : OkC (d + 5) 165 [pR (some 0), pI p, pI c] G mi K := by
  obtain ⟨⟨⟨k1, k2, k3, l3, k9, l9, k10, l10, k11, l11⟩, ⟨k12, k13, l13, k14, k15, l15, k16, k17, l17, k18, l18⟩, ⟨r10, r14, r15, r16, r113, r114, r115, r116, r22, r122, r142, r162⟩⟩, -, ⟨⟨k0, r00, r01, r02, r03⟩, ⟨k37, r372, k38, l38⟩, ⟨k39, r390, r391, r392, r393, r394, r396, r397⟩, ⟨k40, l40, k41, l41, k42, l42, k43, l43, k44, l44, k45, l45⟩⟩⟩ := id hC
  obtain ⟨⟨n2, n3, n7, n8, n9, n10, n11, n12⟩, ⟨hm1, hm2⟩, ⟨⟨t0, t1, t3⟩, ht4⟩, ⟨⟨u0, u1, u3⟩, hu4⟩, ⟨⟨p0, p1, p3⟩, hp4⟩, ⟨⟨b0, b1, b3⟩, hb4⟩⟩ := hR.o
  obtain ⟨⟨⟨z0, z1, z8, z9, z10, z11, z12, z13, z14, z15, z16⟩, hh01, hT, hz17⟩, hWV, hWD, hWB, hWP, hWT, hWZ, hWF, hWK⟩ := id hW
  rw [E165]
  unfold oMove at hK
  by_cases hp : isT s p
  · obtain ⟨T, g1, g2, -⟩ := hR.2.1 p hp.1 hp.2
    have g1 : gR G 9 p = some T := g1
    by_cases hc : isC c
    · rw [if_pos ⟨hp, hc⟩] at hK
      dsimp only at hK
      have e1 : mi 10 p = s (30 + p) := hm1 p hp.1 hp.2
      simp (disch := first | assumption | exact isL_i | exact isL_r | exact isL_n | exact i01a | exact i01b | omega) only [K165_0, K165_1, K165_4, K165_5, K165_8, K165_8n, K165_11, K165_12, K165_15, K165_18, K165_19, K165_20, K165_21, K165_24, K165_25, K165_26, K165_29, r10, r14, r15, r16, r113, r114, r115, r116, r22, r122, r142, r162, r00, r01, r02, r03, r372, r390, r391, r392, r393, r394, r396, r397, n2, n3, n7, n8, n9, n10, n11, n12, t0, t1, t3, u0, u1, u3, p0, p1, p3, b0, b1, b3, wr_id, td_e, tm_e, pu_n, pu_s, up_s, up_k, up_a, ↓reduceIte, Int.reduceLT, Int.reduceLE, Int.reduceEq, Int.reduceNeg, Int.reduceAdd, Int.reduceSub, Int.reduceMul, Int.reduceMod, Int.reduceDiv, Int.cast_ofNat_Int, not_true_eq_false, not_false_eq_true, Int.reduceTDiv, Int.reduceTMod, c_find hC hR z11.2, c_isCell, if_pos hp, g1, if_pos, if_neg, reduceCtorEq]
      rw [E138]
      simp (disch := first | assumption | exact isL_i | exact isL_r | exact isL_n | exact i01a | exact i01b | omega) only [K138_0, K138_1, K138_2, K138_5, K138_6, K138_7, K138_10, K138_11, K138_14, K138_17, K138_18, K138_21, K138_22, K138_23, K138_24, K138_25, K165_29, r10, r14, r15, r16, r113, r114, r115, r116, r22, r122, r142, r162, r00, r01, r02, r03, r372, r390, r391, r392, r393, r394, r396, r397, n2, n3, n7, n8, n9, n10, n11, n12, t0, t1, t3, u0, u1, u3, p0, p1, p3, b0, b1, b3, wr_id, td_e, tm_e, pu_n, pu_s, up_s, up_k, up_a, ↓reduceIte, Int.reduceLT, Int.reduceLE, Int.reduceEq, Int.reduceNeg, Int.reduceAdd, Int.reduceSub, Int.reduceMul, Int.reduceMod, Int.reduceDiv, Int.cast_ofNat_Int, not_true_eq_false, not_false_eq_true, Int.reduceTDiv, Int.reduceTMod, c_homeOf hC hR z11.2 hp.1 hp.2, c_isIn, l10, if_pos, if_neg]
      have hsc : Sc kL mi (up mi 10 p c) := sc_up (by decide)
      refine hK _ (hR.w hW hsc (fun j hj => by simp (disch := omega) only [sH_k]) ⟨?_, ⟨fun q q0 q1 => ?_, fun j j0 j1 => ?_⟩, ?_, ?_, ?_, ?_⟩) hsc
      · exact RNn.c hR.1.1 (by simp (disch := decide) only [up_a]) (fun j h0 h1 => sH_k (by omega))
      · rw [sH_k (by omega)] at q1
        by_cases e : q = p
        · subst e; rw [up_s, sH_s]
        · rw [up_k e, sH_k (by omega)]; exact hm1 q q0 q1
      · rw [up_a (by decide), sH_k (by omega)]; exact hm2 j j0 j1
      · exact RNt.c hR.1.2.2.1 z16.2 (by simp (disch := decide) only [up_a]) (by simp (disch := decide) only [up_a]) (fun j hj => sH_k (by omega))
      · exact RNs.c hR.1.2.2.2.1 z13.2 (by simp (disch := decide) only [up_a]) (by simp (disch := decide) only [up_a]) (fun j hj => sH_k (by omega))
      · exact RNp.c hR.1.2.2.2.2.1 z14.2 (by simp (disch := decide) only [up_a]) (by simp (disch := decide) only [up_a]) (fun j hj => sH_k (by omega))
      · exact RNb.c hR.1.2.2.2.2.2 z15.2 (by simp (disch := decide) only [up_a]) (by simp (disch := decide) only [up_a]) (fun j hj => sH_k (by omega))
    · rw [if_neg (fun h => hc h.2)] at hK
      simp (disch := first | assumption | exact isL_i | exact isL_r | exact isL_n | exact i01a | exact i01b | omega) only [K165_0, K165_1, K165_4, K165_5, K165_8, K165_8n, K165_11, K165_12, K165_15, K165_18, K165_19, K165_20, K165_21, K165_24, K165_25, K165_26, K165_29, r10, r14, r15, r16, r113, r114, r115, r116, r22, r122, r142, r162, r00, r01, r02, r03, r372, r390, r391, r392, r393, r394, r396, r397, n2, n3, n7, n8, n9, n10, n11, n12, t0, t1, t3, u0, u1, u3, p0, p1, p3, b0, b1, b3, wr_id, td_e, tm_e, pu_n, pu_s, up_s, up_k, up_a, ↓reduceIte, Int.reduceLT, Int.reduceLE, Int.reduceEq, Int.reduceNeg, Int.reduceAdd, Int.reduceSub, Int.reduceMul, Int.reduceMod, Int.reduceDiv, Int.cast_ofNat_Int, not_true_eq_false, not_false_eq_true, Int.reduceTDiv, Int.reduceTMod, c_find hC hR z11.2, c_isCell, if_pos hp, g1, if_pos, if_neg, reduceCtorEq]
      exact hK _ hR Sc.rf
  · rw [if_neg (fun h => hp h.1)] at hK
    simp (disch := first | assumption | exact isL_i | exact isL_r | exact isL_n | exact i01a | exact i01b | omega) only [K165_0, K165_1, K165_4, K165_5, K165_8, K165_8n, K165_11, K165_12, K165_15, K165_18, K165_19, K165_20, K165_21, K165_24, K165_25, K165_26, K165_29, r10, r14, r15, r16, r113, r114, r115, r116, r22, r122, r142, r162, r00, r01, r02, r03, r372, r390, r391, r392, r393, r394, r396, r397, n2, n3, n7, n8, n9, n10, n11, n12, t0, t1, t3, u0, u1, u3, p0, p1, p3, b0, b1, b3, wr_id, td_e, tm_e, pu_n, pu_s, up_s, up_k, up_a, ↓reduceIte, Int.reduceLT, Int.reduceLE, Int.reduceEq, Int.reduceNeg, Int.reduceAdd, Int.reduceSub, Int.reduceMul, Int.reduceMod, Int.reduceDiv, Int.cast_ofNat_Int, not_true_eq_false, not_false_eq_true, Int.reduceTDiv, Int.reduceTMod, c_find hC hR z11.2, if_neg hp, if_pos, if_neg]
    exact hK _ hR Sc.rf
theorem c_row (hC : ShC G) (hR : RS 1 s G mi) (hW : WfA s) (hK : ∀ mi', RS 1 (oRow s p k n).2 G mi' → Sc kL mi mi' → K (some (pI (oRow s p k n).1)) G mi') : OkC (d + 5) 164 [pR (some 0), pI p, pI k, pI n] G mi K := by
  obtain ⟨⟨⟨k1, k2, k3, l3, k9, l9, k10, l10, k11, l11⟩, ⟨k12, k13, l13, k14, k15, l15, k16, k17, l17, k18, l18⟩, ⟨r10, r14, r15, r16, r113, r114, r115, r116, r22, r122, r142, r162⟩⟩, -, ⟨⟨k0, r00, r01, r02, r03⟩, ⟨k37, r372, k38, l38⟩, ⟨k39, r390, r391, r392, r393, r394, r396, r397⟩, ⟨k40, l40, k41, l41, k42, l42, k43, l43, k44, l44, k45, l45⟩⟩⟩ := id hC
  obtain ⟨⟨n2, n3, n7, n8, n9, n10, n11, n12⟩, ⟨hm1, hm2⟩, ⟨⟨t0, t1, t3⟩, ht4⟩, ⟨⟨u0, u1, u3⟩, hu4⟩, ⟨⟨p0, p1, p3⟩, hp4⟩, ⟨⟨b0, b1, b3⟩, hb4⟩⟩ := hR.o
  obtain ⟨⟨⟨z0, z1, z8, z9, z10, z11, z12, z13, z14, z15, z16⟩, hh01, hT, hz17⟩, hWV, hWD, hWB, hWP, hWT, hWZ, hWF, hWK⟩ := id hW
  rw [E164]
  unfold oRow at hK
  by_cases hp : isT s p
  · obtain ⟨T, g1, g2, c1, c2, -⟩ := hR.2.1 p hp.1 hp.2
    have g1 : gR G 9 p = some T := g1
    have hth : thg (gK G T).1 = true := by rw [c1]; exact kcl_thg
    by_cases hk : 0 ≤ k ∧ k ≤ 3
    · rw [if_pos ⟨hp, hk⟩] at hK
      by_cases h9 : 0 ≤ n ∧ n ≤ 9
      · rw [if_pos h9] at hK
        by_cases h6 : s (18 + p) = 6
        · rw [if_pos h6] at hK
          dsimp only at hK
          have hp6 : p < 6 := by omega
          simp (disch := first | assumption | exact isL_i | exact isL_r | exact isL_n | exact i01a | exact i01b | omega) only [K164_0, K164_1, K164_4, K164_5, K164_8, K164_10, K164_12, K164_12n, K164_15, K164_16, K164_17, K164_18, K164_21, K164_24, K164_25, K164_26, K164_27, K164_28, K164_30, K164_33, K164_36, K164_38, K164_39, K164_41, K164_44, K164_46, K164_49, K164_50, K164_53, K164_54, K164_55, K164_56, K164_59, K164_62, K164_64, r10, r14, r15, r16, r113, r114, r115, r116, r22, r122, r142, r162, r00, r01, r02, r03, r372, r390, r391, r392, r393, r394, r396, r397, n2, n3, n7, n8, n9, n10, n11, n12, t0, t1, t3, u0, u1, u3, p0, p1, p3, b0, b1, b3, wr_id, td_e, tm_e, pu_n, pu_s, up_s, up_k, up_a, ↓reduceIte, Int.reduceLT, Int.reduceLE, Int.reduceEq, Int.reduceNeg, Int.reduceAdd, Int.reduceSub, Int.reduceMul, Int.reduceMod, Int.reduceDiv, Int.cast_ofNat_Int, not_true_eq_false, not_false_eq_true, Int.reduceTDiv, Int.reduceTMod, c_find hC hR z11.2, c_within, if_pos hp, g1, c2, if_pos, if_neg, reduceCtorEq]
          rw [E140]
          simp (disch := first | assumption | exact isL_i | exact isL_r | exact isL_n | exact i01a | exact i01b | omega) only [K140_0, K140_1, K140_2, K140_3, K140_6, K140_8, K140_9, K140_10, K140_11, K140_12, K140_13, K140_15, K140_16, K140_19, K140_21, K140_24, K140_27, K140_28, K140_31, K140_33, K140_34, K140_35, K140_37, K164_59, K164_62, K164_64, r10, r14, r15, r16, r113, r114, r115, r116, r22, r122, r142, r162, r00, r01, r02, r03, r372, r390, r391, r392, r393, r394, r396, r397, n2, n3, n7, n8, n9, n10, n11, n12, t0, t1, t3, u0, u1, u3, p0, p1, p3, b0, b1, b3, wr_id, td_e, tm_e, pu_n, pu_s, up_s, up_k, up_a, ↓reduceIte, Int.reduceLT, Int.reduceLE, Int.reduceEq, Int.reduceNeg, Int.reduceAdd, Int.reduceSub, Int.reduceMul, Int.reduceMod, Int.reduceDiv, Int.cast_ofNat_Int, not_true_eq_false, not_false_eq_true, Int.reduceTDiv, Int.reduceTMod, c_rowNumber hC hR hp.1 hp6 hk.1 hk.2, c_isIn, l11, if_pos, if_neg]
          have hsc : Sc kL mi (up mi 11 (p * 4 + k) n) := sc_up (by decide)
          refine hK _ (hR.w hW hsc (fun j hj => by simp (disch := omega) only [sH_k]) ⟨?_, ⟨fun q q0 q1 => ?_, fun j j0 j1 => ?_⟩, ?_, ?_, ?_, ?_⟩) hsc
          · exact RNn.c hR.1.1 (by simp (disch := decide) only [up_a]) (fun j h0 h1 => sH_k (by omega))
          · rw [sH_k (by omega)] at q1
            rw [up_a (by decide), sH_k (by omega)]; exact hm1 q q0 q1
          · by_cases e : j = p * 4 + k
            · subst e; rw [up_s, show 36 + (p * 4 + k) = 36 + 4 * p + k by omega, sH_s]
            · rw [up_k e, sH_k (by omega)]; exact hm2 j j0 j1
          · exact RNt.c hR.1.2.2.1 z16.2 (by simp (disch := decide) only [up_a]) (by simp (disch := decide) only [up_a]) (fun j hj => sH_k (by omega))
          · exact RNs.c hR.1.2.2.2.1 z13.2 (by simp (disch := decide) only [up_a]) (by simp (disch := decide) only [up_a]) (fun j hj => sH_k (by omega))
          · exact RNp.c hR.1.2.2.2.2.1 z14.2 (by simp (disch := decide) only [up_a]) (by simp (disch := decide) only [up_a]) (fun j hj => sH_k (by omega))
          · exact RNb.c hR.1.2.2.2.2.2 z15.2 (by simp (disch := decide) only [up_a]) (by simp (disch := decide) only [up_a]) (fun j hj => sH_k (by omega))
        · rw [if_neg h6] at hK
          simp (disch := first | assumption | exact isL_i | exact isL_r | exact isL_n | exact i01a | exact i01b | omega) only [K164_0, K164_1, K164_4, K164_5, K164_8, K164_10, K164_12, K164_12n, K164_15, K164_16, K164_17, K164_18, K164_21, K164_24, K164_25, K164_26, K164_27, K164_28, K164_30, K164_33, K164_36, K164_38, K164_39, K164_41, K164_44, K164_46, K164_49, K164_50, K164_53, K164_54, K164_55, K164_56, K164_59, K164_62, K164_64, r10, r14, r15, r16, r113, r114, r115, r116, r22, r122, r142, r162, r00, r01, r02, r03, r372, r390, r391, r392, r393, r394, r396, r397, n2, n3, n7, n8, n9, n10, n11, n12, t0, t1, t3, u0, u1, u3, p0, p1, p3, b0, b1, b3, wr_id, td_e, tm_e, pu_n, pu_s, up_s, up_k, up_a, ↓reduceIte, Int.reduceLT, Int.reduceLE, Int.reduceEq, Int.reduceNeg, Int.reduceAdd, Int.reduceSub, Int.reduceMul, Int.reduceMod, Int.reduceDiv, Int.cast_ofNat_Int, not_true_eq_false, not_false_eq_true, Int.reduceTDiv, Int.reduceTMod, c_find hC hR z11.2, c_within, if_pos hp, g1, c2, if_pos, if_neg, reduceCtorEq]
          exact hK _ hR Sc.rf
      · rw [if_neg h9] at hK
        simp (disch := first | assumption | exact isL_i | exact isL_r | exact isL_n | exact i01a | exact i01b | omega) only [K164_0, K164_1, K164_4, K164_5, K164_8, K164_10, K164_12, K164_12n, K164_15, K164_16, K164_17, K164_18, K164_21, K164_24, K164_25, K164_26, K164_27, K164_28, K164_30, K164_33, K164_36, K164_38, K164_39, K164_41, K164_44, K164_46, K164_49, K164_50, K164_53, K164_54, K164_55, K164_56, K164_59, K164_62, K164_64, r10, r14, r15, r16, r113, r114, r115, r116, r22, r122, r142, r162, r00, r01, r02, r03, r372, r390, r391, r392, r393, r394, r396, r397, n2, n3, n7, n8, n9, n10, n11, n12, t0, t1, t3, u0, u1, u3, p0, p1, p3, b0, b1, b3, wr_id, td_e, tm_e, pu_n, pu_s, up_s, up_k, up_a, ↓reduceIte, Int.reduceLT, Int.reduceLE, Int.reduceEq, Int.reduceNeg, Int.reduceAdd, Int.reduceSub, Int.reduceMul, Int.reduceMod, Int.reduceDiv, Int.cast_ofNat_Int, not_true_eq_false, not_false_eq_true, Int.reduceTDiv, Int.reduceTMod, c_find hC hR z11.2, c_within, if_pos hp, g1, if_pos, if_neg, reduceCtorEq]
        exact hK _ hR Sc.rf
    · rw [if_neg (fun h => hk h.2)] at hK
      simp (disch := first | assumption | exact isL_i | exact isL_r | exact isL_n | exact i01a | exact i01b | omega) only [K164_0, K164_1, K164_4, K164_5, K164_8, K164_10, K164_12, K164_12n, K164_15, K164_16, K164_17, K164_18, K164_21, K164_24, K164_25, K164_26, K164_27, K164_28, K164_30, K164_33, K164_36, K164_38, K164_39, K164_41, K164_44, K164_46, K164_49, K164_50, K164_53, K164_54, K164_55, K164_56, K164_59, K164_62, K164_64, r10, r14, r15, r16, r113, r114, r115, r116, r22, r122, r142, r162, r00, r01, r02, r03, r372, r390, r391, r392, r393, r394, r396, r397, n2, n3, n7, n8, n9, n10, n11, n12, t0, t1, t3, u0, u1, u3, p0, p1, p3, b0, b1, b3, wr_id, td_e, tm_e, pu_n, pu_s, up_s, up_k, up_a, ↓reduceIte, Int.reduceLT, Int.reduceLE, Int.reduceEq, Int.reduceNeg, Int.reduceAdd, Int.reduceSub, Int.reduceMul, Int.reduceMod, Int.reduceDiv, Int.cast_ofNat_Int, not_true_eq_false, not_false_eq_true, Int.reduceTDiv, Int.reduceTMod, c_find hC hR z11.2, c_within, if_pos hp, g1, if_pos, if_neg, reduceCtorEq]
      exact hK _ hR Sc.rf
  · rw [if_neg (fun h => hp h.1)] at hK
    simp (disch := first | assumption | exact isL_i | exact isL_r | exact isL_n | exact i01a | exact i01b | omega) only [K164_0, K164_1, K164_4, K164_5, K164_8, K164_10, K164_12, K164_12n, K164_15, K164_16, K164_17, K164_18, K164_21, K164_24, K164_25, K164_26, K164_27, K164_28, K164_30, K164_33, K164_36, K164_38, K164_39, K164_41, K164_44, K164_46, K164_49, K164_50, K164_53, K164_54, K164_55, K164_56, K164_59, K164_62, K164_64, r10, r14, r15, r16, r113, r114, r115, r116, r22, r122, r142, r162, r00, r01, r02, r03, r372, r390, r391, r392, r393, r394, r396, r397, n2, n3, n7, n8, n9, n10, n11, n12, t0, t1, t3, u0, u1, u3, p0, p1, p3, b0, b1, b3, wr_id, td_e, tm_e, pu_n, pu_s, up_s, up_k, up_a, ↓reduceIte, Int.reduceLT, Int.reduceLE, Int.reduceEq, Int.reduceNeg, Int.reduceAdd, Int.reduceSub, Int.reduceMul, Int.reduceMod, Int.reduceDiv, Int.cast_ofNat_Int, not_true_eq_false, not_false_eq_true, Int.reduceTDiv, Int.reduceTMod, c_find hC hR z11.2, if_neg hp, if_pos, if_neg]
    exact hK _ hR Sc.rf
theorem hadB_set (hh : ∀ p : Int, 0 ≤ p → p < 6 → (0 ≤ s (2 + p) ∧ s (2 + p) ≤ 1)) (h0 : 0 ≤ p) (h6 : p < 6) : iOr (hadB s) (iShl 1 p) = hadB (sH s (2 + p) 1) ∧ iAnd (hadB s) (iXor (iShl 1 p) (-1)) = hadB (sH s (2 + p) 0) := by
  obtain ⟨b1, b2⟩ := hadB_bd hh
  obtain ⟨e1, -⟩ := b_set b1 b2 h0 h6
  obtain ⟨e2, -⟩ := b_clr b1 b2 h0 h6
  have e3 := hadB_bt hh h0 h6
  obtain ⟨a0, a1⟩ := hh p h0 h6
  rw [e1, e2]
  unfold clr
  rw [e3]
  have h : p = 0 ∨ p = 1 ∨ p = 2 ∨ p = 3 ∨ p = 4 ∨ p = 5 := by omega
  unfold hadB
  rcases h with rfl | rfl | rfl | rfl | rfl | rfl
  all_goals
    simp only [sH, Int.reduceAdd, Int.reduceEq, ↓reduceIte, show p2 0 = 1 by decide, show p2 1 = 2 by decide, show p2 2 = 4 by decide, show p2 3 = 8 by decide, show p2 4 = 16 by decide, show p2 5 = 32 by decide] at a0 a1 ⊢
    constructor
    all_goals (split <;> omega)
theorem c_had (hC : ShC G) (hR : RS 1 s G mi) (hW : WfA s) (hv0 : 0 ≤ v) (hv1 : v ≤ 1) (hK : ∀ mi', RS 1 (oHad s p v).2 G mi' → Sc kL mi mi' → K (some (pI (oHad s p v).1)) G mi') : OkC (d + 5) 166 [pR (some 0), pI p, pI v] G mi K := by
  obtain ⟨⟨⟨k1, k2, k3, l3, k9, l9, k10, l10, k11, l11⟩, ⟨k12, k13, l13, k14, k15, l15, k16, k17, l17, k18, l18⟩, ⟨r10, r14, r15, r16, r113, r114, r115, r116, r22, r122, r142, r162⟩⟩, -, ⟨⟨k0, r00, r01, r02, r03⟩, ⟨k37, r372, k38, l38⟩, ⟨k39, r390, r391, r392, r393, r394, r396, r397⟩, ⟨k40, l40, k41, l41, k42, l42, k43, l43, k44, l44, k45, l45⟩⟩⟩ := id hC
  obtain ⟨⟨n2, n3, n7, n8, n9, n10, n11, n12⟩, ⟨hm1, hm2⟩, ⟨⟨t0, t1, t3⟩, ht4⟩, ⟨⟨u0, u1, u3⟩, hu4⟩, ⟨⟨p0, p1, p3⟩, hp4⟩, ⟨⟨b0, b1, b3⟩, hb4⟩⟩ := hR.o
  obtain ⟨⟨⟨z0, z1, z8, z9, z10, z11, z12, z13, z14, z15, z16⟩, hh01, hT, hz17⟩, hWV, hWD, hWB, hWP, hWT, hWZ, hWF, hWK⟩ := id hW
  rw [E166]
  unfold oHad at hK
  by_cases hp : isT s p
  · obtain ⟨T, g1, g2, -⟩ := hR.2.1 p hp.1 hp.2
    have g1 : gR G 9 p = some T := g1
    have hp6 : p < 6 := by omega
    obtain ⟨a0, a1⟩ := hh01 p hp.1 hp6
    obtain ⟨s1, s2⟩ := hadB_set hh01 hp.1 hp6
    have ea : (if s (2 + p) = 1 then (1 : Int) else 0) = s (2 + p) := by split <;> omega
    have h0 := hp.1
    rw [if_pos hp] at hK
    dsimp only at hK
    by_cases hv : v = 0
    · rw [if_pos hv] at hK
      simp (disch := first | assumption | exact isL_i | exact isL_r | exact isL_n | exact i01a | exact i01b | omega) only [K166_0, K166_1, K166_4, K166_5, K166_8, K166_8n, K166_11, K166_12, K166_13, K166_14, K166_17, K166_18, K166_21, K166_24, K166_25, K166_26, K166_27, K166_28, K166_30, K166_31, K166_34, K166_35, K166_38, K166_39, K166_42, K166_45, K166_47, K166_48, K166_51, K166_52, K166_55, K166_58, K166_60, K166_61, K166_62, K166_63, K166_66, K166_67, r10, r14, r15, r16, r113, r114, r115, r116, r22, r122, r142, r162, r00, r01, r02, r03, r372, r390, r391, r392, r393, r394, r396, r397, n2, n3, n7, n8, n9, n10, n11, n12, t0, t1, t3, u0, u1, u3, p0, p1, p3, b0, b1, b3, wr_id, td_e, tm_e, pu_n, pu_s, up_s, up_k, up_a, ↓reduceIte, Int.reduceLT, Int.reduceLE, Int.reduceEq, Int.reduceNeg, Int.reduceAdd, Int.reduceSub, Int.reduceMul, Int.reduceMod, Int.reduceDiv, Int.cast_ofNat_Int, not_true_eq_false, not_false_eq_true, Int.reduceTDiv, Int.reduceTMod, c_find hC hR z11.2, c_isHad hC hR hh01, c_bit, if_pos hp, g1, s1, s2, ea, if_pos, if_neg, reduceCtorEq]
      refine hK _ (hR.nn hW (sc_up (by decide)) (fun j h0 h1 => sH_k (by omega)) ?_) (sc_up (by decide))
      refine ⟨?_, ?_, ?_, ?_, ?_, ?_, ?_, ?_⟩ <;> simp (disch := omega) only [up_k, up_s, up_a, sH_k, sH_s, hadB_k, n2, n3, n7, n8, n9, n10, n11, n12]
    · rw [if_neg hv] at hK
      simp (disch := first | assumption | exact isL_i | exact isL_r | exact isL_n | exact i01a | exact i01b | omega) only [K166_0, K166_1, K166_4, K166_5, K166_8, K166_8n, K166_11, K166_12, K166_13, K166_14, K166_17, K166_18, K166_21, K166_24, K166_25, K166_26, K166_27, K166_28, K166_30, K166_31, K166_34, K166_35, K166_38, K166_39, K166_42, K166_45, K166_47, K166_48, K166_51, K166_52, K166_55, K166_58, K166_60, K166_61, K166_62, K166_63, K166_66, K166_67, r10, r14, r15, r16, r113, r114, r115, r116, r22, r122, r142, r162, r00, r01, r02, r03, r372, r390, r391, r392, r393, r394, r396, r397, n2, n3, n7, n8, n9, n10, n11, n12, t0, t1, t3, u0, u1, u3, p0, p1, p3, b0, b1, b3, wr_id, td_e, tm_e, pu_n, pu_s, up_s, up_k, up_a, ↓reduceIte, Int.reduceLT, Int.reduceLE, Int.reduceEq, Int.reduceNeg, Int.reduceAdd, Int.reduceSub, Int.reduceMul, Int.reduceMod, Int.reduceDiv, Int.cast_ofNat_Int, not_true_eq_false, not_false_eq_true, Int.reduceTDiv, Int.reduceTMod, c_find hC hR z11.2, c_isHad hC hR hh01, c_bit, if_pos hp, g1, s1, s2, ea, if_pos, if_neg, reduceCtorEq]
      refine hK _ (hR.nn hW (sc_up (by decide)) (fun j h0 h1 => sH_k (by omega)) ?_) (sc_up (by decide))
      refine ⟨?_, ?_, ?_, ?_, ?_, ?_, ?_, ?_⟩ <;> simp (disch := omega) only [up_k, up_s, up_a, sH_k, sH_s, hadB_k, n2, n3, n7, n8, n9, n10, n11, n12]
  · rw [if_neg hp] at hK
    simp (disch := first | assumption | exact isL_i | exact isL_r | exact isL_n | exact i01a | exact i01b | omega) only [K166_0, K166_1, K166_4, K166_5, K166_8, K166_8n, K166_11, K166_12, K166_13, K166_14, K166_17, K166_18, K166_21, K166_24, K166_25, K166_26, K166_27, K166_28, K166_30, K166_31, K166_34, K166_35, K166_38, K166_39, K166_42, K166_45, K166_47, K166_48, K166_51, K166_52, K166_55, K166_58, K166_60, K166_61, K166_62, K166_63, K166_66, K166_67, r10, r14, r15, r16, r113, r114, r115, r116, r22, r122, r142, r162, r00, r01, r02, r03, r372, r390, r391, r392, r393, r394, r396, r397, n2, n3, n7, n8, n9, n10, n11, n12, t0, t1, t3, u0, u1, u3, p0, p1, p3, b0, b1, b3, wr_id, td_e, tm_e, pu_n, pu_s, up_s, up_k, up_a, ↓reduceIte, Int.reduceLT, Int.reduceLE, Int.reduceEq, Int.reduceNeg, Int.reduceAdd, Int.reduceSub, Int.reduceMul, Int.reduceMod, Int.reduceDiv, Int.cast_ofNat_Int, not_true_eq_false, not_false_eq_true, Int.reduceTDiv, Int.reduceTMod, c_find hC hR z11.2, if_neg hp, if_pos, if_neg]
    exact hK _ hR Sc.rf
theorem c_of (hC : ShC G) (hR : RS 1 s G mi) (hW : WfA s) : OkC (d + 5) 162 [pR (some 0), pI p, pI k] G mi K = K (some (pI (oOf s p k).1)) G mi := by
  obtain ⟨⟨⟨k1, k2, k3, l3, k9, l9, k10, l10, k11, l11⟩, ⟨k12, k13, l13, k14, k15, l15, k16, k17, l17, k18, l18⟩, ⟨r10, r14, r15, r16, r113, r114, r115, r116, r22, r122, r142, r162⟩⟩, -, ⟨⟨k0, r00, r01, r02, r03⟩, ⟨k37, r372, k38, l38⟩, ⟨k39, r390, r391, r392, r393, r394, r396, r397⟩, ⟨k40, l40, k41, l41, k42, l42, k43, l43, k44, l44, k45, l45⟩⟩⟩ := id hC
  obtain ⟨⟨n2, n3, n7, n8, n9, n10, n11, n12⟩, ⟨hm1, hm2⟩, ⟨⟨t0, t1, t3⟩, ht4⟩, ⟨⟨u0, u1, u3⟩, hu4⟩, ⟨⟨p0, p1, p3⟩, hp4⟩, ⟨⟨b0, b1, b3⟩, hb4⟩⟩ := hR.o
  obtain ⟨⟨⟨z0, z1, z8, z9, z10, z11, z12, z13, z14, z15, z16⟩, hh01, hT, hz17⟩, hWV, hWD, hWB, hWP, hWT, hWZ, hWF, hWK⟩ := id hW
  rw [E162]
  unfold oOf
  by_cases hp : isT s p
  · obtain ⟨T, g1, g2, c1, c2, c3, c4, -⟩ := hR.2.1 p hp.1 hp.2
    have g1 : gR G 9 p = some T := g1
    have hp6 : p < 6 := by omega
    have h0 := hp.1
    have hth : thg (gK G T).1 = true := by rw [c1]; exact kcl_thg
    obtain ⟨a0, a1⟩ := hh01 p hp.1 hp6
    have ea : (if s (2 + p) = 1 then (1 : Int) else 0) = s (2 + p) := by split <;> omega
    rw [if_pos hp]
    by_cases hk : 0 ≤ k ∧ k ≤ 3
    · simp (disch := first | assumption | exact isL_i | exact isL_r | exact isL_n | exact i01a | exact i01b | omega) only [K162_0, K162_1, K162_4, K162_5, K162_8, K162_9, K162_10, K162_10n, K162_13, K162_14, K162_15, K162_16, K162_19, K162_22, K162_23, K162_24, K162_25, K162_52, K162_53, K162_56, K162_57, K162_58, K162_61, K162_62, K162_63, K162_66, K162_67, K162_70, K162_71, K162_72, K162_75, K162_76, K162_79, K162_82, r10, r14, r15, r16, r113, r114, r115, r116, r22, r122, r142, r162, r00, r01, r02, r03, r372, r390, r391, r392, r393, r394, r396, r397, n2, n3, n7, n8, n9, n10, n11, n12, t0, t1, t3, u0, u1, u3, p0, p1, p3, b0, b1, b3, wr_id, td_e, tm_e, pu_n, pu_s, up_s, up_k, up_a, ↓reduceIte, Int.reduceLT, Int.reduceLE, Int.reduceEq, Int.reduceNeg, Int.reduceAdd, Int.reduceSub, Int.reduceMul, Int.reduceMod, Int.reduceDiv, Int.cast_ofNat_Int, not_true_eq_false, not_false_eq_true, Int.reduceTDiv, Int.reduceTMod, c_find hC hR z11.2, c_isHad hC hR hh01, c_homeOf hC hR z11.2 hp.1 hp.2, c_within, c_bit, if_pos hp, if_pos hk, g1, c2, c4, ea, if_pos, if_neg, reduceCtorEq]
      repeat' split
      all_goals first | rfl | (exfalso; omega)
    · rw [if_neg (by omega), if_neg (by omega), if_neg (by omega), if_neg (by omega)]
      simp (disch := first | assumption | exact isL_i | exact isL_r | exact isL_n | exact i01a | exact i01b | omega) only [K162_0, K162_1, K162_4, K162_5, K162_8, K162_9, K162_10, K162_10n, K162_13, K162_14, K162_15, K162_16, K162_19, K162_22, K162_23, K162_24, K162_25, K162_52, K162_53, K162_56, K162_57, K162_58, K162_61, K162_62, K162_63, K162_66, K162_67, K162_70, K162_71, K162_72, K162_75, K162_76, K162_79, K162_82, r10, r14, r15, r16, r113, r114, r115, r116, r22, r122, r142, r162, r00, r01, r02, r03, r372, r390, r391, r392, r393, r394, r396, r397, n2, n3, n7, n8, n9, n10, n11, n12, t0, t1, t3, u0, u1, u3, p0, p1, p3, b0, b1, b3, wr_id, td_e, tm_e, pu_n, pu_s, up_s, up_k, up_a, ↓reduceIte, Int.reduceLT, Int.reduceLE, Int.reduceEq, Int.reduceNeg, Int.reduceAdd, Int.reduceSub, Int.reduceMul, Int.reduceMod, Int.reduceDiv, Int.cast_ofNat_Int, not_true_eq_false, not_false_eq_true, Int.reduceTDiv, Int.reduceTMod, c_find hC hR z11.2, c_within, if_pos hp, if_neg hk, g1, if_pos, if_neg, reduceCtorEq]
  · rw [if_neg hp]
    simp (disch := first | assumption | exact isL_i | exact isL_r | exact isL_n | exact i01a | exact i01b | omega) only [K162_0, K162_1, K162_4, K162_5, K162_8, K162_9, K162_10, K162_10n, K162_13, K162_14, K162_15, K162_16, K162_19, K162_22, K162_23, K162_24, K162_25, K162_52, K162_53, K162_56, K162_57, K162_58, K162_61, K162_62, K162_63, K162_66, K162_67, K162_70, K162_71, K162_72, K162_75, K162_76, K162_79, K162_82, r10, r14, r15, r16, r113, r114, r115, r116, r22, r122, r142, r162, r00, r01, r02, r03, r372, r390, r391, r392, r393, r394, r396, r397, n2, n3, n7, n8, n9, n10, n11, n12, t0, t1, t3, u0, u1, u3, p0, p1, p3, b0, b1, b3, wr_id, td_e, tm_e, pu_n, pu_s, up_s, up_k, up_a, ↓reduceIte, Int.reduceLT, Int.reduceLE, Int.reduceEq, Int.reduceNeg, Int.reduceAdd, Int.reduceSub, Int.reduceMul, Int.reduceMod, Int.reduceDiv, Int.cast_ofNat_Int, not_true_eq_false, not_false_eq_true, Int.reduceTDiv, Int.reduceTMod, c_find hC hR z11.2, if_neg hp, if_pos, if_neg]
end CL
