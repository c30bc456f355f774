/-! ===== the class: soon, then, looked, as, mean, count, trace ===== -/
theorem soonF_sw {s : Int → Int} {hz p cell tick : Int} (m : Nat) (n : Int) : soonF s hz p cell tick (m + 1) n = if farF cell (atF s p (tick + n)) ≤ n ∧ ¬ dimP s hz p (tick + n) then n else soonF s hz p cell tick m (n + 1) := by
  simp only [soonF]
  by_cases h : ¬ dimP s hz p (tick + n) ∧ farF cell (atF s p (tick + n)) ≤ n
  · rw [if_pos h, if_pos ⟨h.2, h.1⟩]
  · rw [if_neg h, if_neg (fun e => h ⟨e.2, e.1⟩)]
def sn5 (x : Int) : Int := if x = 1000000000 then -5 else x
def TRc (L : List Int) (mi : Mi) : Prop := (mi 37 0 = 1 ∧ mi 37 1 = 20 ∧ mi 37 3 = L.length) ∧ ∀ i : Nat, i < L.length → mi 38 i = L.getD i 0
section CL
variable {d : Nat} {G : Gh} {mi : Mi} {K : Option PV → Gh → Mi → Prop} {o o' T : Nat} {s : Int → Int} {p t v w a b c k n g q x lim hm pc ah ce : Int}
theorem c_soon_lp (hC : ShC G) (hR : RS 1 s G mi) (hW : WfA s) (h0 : 0 ≤ p) (h1 : p < s 11) (hTh : RTh G mi T (s (18 + p)) p (s (24 + p))) (hce : 0 ≤ ce) (hce' : ce ≤ 23) (ha : 0 ≤ ah) (ha' : ah ≤ 9900) : ∀ (m : Nat) (n : Int) (x5 : Option PV), isL x5 = false → n + m = 41 → 1 ≤ n →
    Ok (d + 4) 154 3 [some (pR (some 39)), some (pR (some T)), some (pI ce), some (pI ah), some (pI n), x5] [] G mi K = K (some (pI (sn5 (soonF s (hazF s) p ce (s 0 + ah) m n)))) G mi := by
  obtain ⟨⟨⟨k1, k2, k3, l3, k9, l9, k10, l10, k11, l11⟩, ⟨k12, k13, l13, k14, k15, l15, k16, k17, l17, k18, l18⟩, ⟨r10, r14, r15, r16, r113, r114, r115, r116, r22, r122, r142, r162⟩⟩, -, ⟨⟨k0, r00, r01, r02, r03⟩, ⟨k37, r372, k38, l38⟩, ⟨k39, r390, r391, r392, r393, r394, r396, r397⟩, ⟨k40, l40, k41, l41, k42, l42, k43, l43, k44, l44, k45, l45⟩⟩⟩ := id hC
  obtain ⟨⟨n2, n3, n7, n8, n9, n10, n11, n12⟩, ⟨hm1, hm2⟩, ⟨⟨t0, t1, t3⟩, ht4⟩, ⟨⟨u0, u1, u3⟩, hu4⟩, ⟨⟨p0, p1, p3⟩, hp4⟩, ⟨⟨b0, b1, b3⟩, hb4⟩⟩ := hR.o
  obtain ⟨⟨⟨z0, z1, z8, z9, z10, z11, z12, z13, z14, z15, z16⟩, hh01, hT, hz17⟩, hWV, hWD, hWB, hWP, hWT, hWZ, hWF, hWK⟩ := id hW
  obtain ⟨V, v1, v2, v3, ⟨v4, v5, v6⟩, -⟩ := hR.2.2
  have kV := v3.1
  have v6 : mi V 2 = hazF s := v6
  obtain ⟨c1, c2, c3, c4, c5⟩ := id hTh
  have hth : thg (gK G T).1 = true := by rw [c1]; exact kcl_thg
  obtain ⟨⟨q1, q2⟩, -, -⟩ := hT.1 p h0 (by omega)
  intro m
  induction m with
  | zero =>
    intro n x5 r5 hn hn1
    rw [K154_3]
    simp (disch := first | assumption | exact isL_i | exact isL_r | exact isL_n | exact i01a | exact i01b | omega) only [K154_5, K154_7, K154_71, K154_73, wr_id, td_e, tm_e, pu_n, pu_s, up_s, up_k, up_a, ↓reduceIte, Int.reduceLT, Int.reduceLE, Int.reduceEq, Int.reduceNeg, Int.reduceAdd, Int.reduceSub, Int.reduceMul, Int.reduceMod, Int.reduceDiv, Int.cast_ofNat_Int, not_true_eq_false, not_false_eq_true, Int.reduceTDiv, Int.reduceTMod, if_pos, if_neg, soonF, sn5]
  | succ m ih =>
    intro n x5 r5 hn hn1
    obtain ⟨f1, f2⟩ := atF_wf hT (t := s 0 + ah + n) h0 (by omega)
    rw [soonF_sw, K154_3]
    by_cases cf : farF ce (atF s p (s 0 + ah + n)) ≤ n
    · by_cases cd : dimP s (hazF s) p (s 0 + ah + n)
      · rw [if_neg (fun h => h.2 cd), ← ih (n + 1) (some (pI (atF s p (s 0 + ah + n)))) isL_i (by omega) (by omega)]
        simp (disch := first | assumption | exact isL_i | exact isL_r | exact isL_n | exact i01a | exact i01b | omega) only [K154_5, K154_7, K154_10, K154_11, K154_14, K154_15, K154_16, K154_19, K154_22, K154_23, K154_24, K154_26, K154_27, K154_30, K154_32, K154_33, K154_35, K154_38, K154_40, K154_43, K154_44, K154_46, K154_47, K154_50, K154_53, r10, r14, r15, r16, r113, r114, r115, r116, r22, r122, r142, r162, r00, r01, r02, r03, r372, r390, r391, r392, r393, r394, r396, r397, n2, n3, n7, n8, n9, n10, n11, n12, t0, t1, t3, u0, u1, u3, p0, p1, p3, b0, b1, b3, wr_id, td_e, tm_e, pu_n, pu_s, up_s, up_k, up_a, ↓reduceIte, Int.reduceLT, Int.reduceLE, Int.reduceEq, Int.reduceNeg, Int.reduceAdd, Int.reduceSub, Int.reduceMul, Int.reduceMod, Int.reduceDiv, Int.cast_ofNat_Int, not_true_eq_false, not_false_eq_true, Int.reduceTDiv, Int.reduceTMod, c_cellOn hC hR hT z11.2 h0 h1 hTh, c_far, v1, v6, if_pos, if_neg]
        obtain ⟨d1, d2⟩ := cd
        rcases k7 q1 q2 with e | e | e | e | e | e | e
        all_goals
          rw [e] at c1 d1
          first | exact absurd rfl d1 | skip
        all_goals
          simp only [kcl, ↓reduceIte, Int.reduceEq] at c1
          simp (disch := first | assumption | exact isL_i | exact isL_r | exact isL_n | exact i01a | exact i01b | omega) only [K154_56c1, K154_56c2, K154_56c3, K154_56c5, K154_56c6, K154_56c9, K154_56c10, K154_59, K154_62, K154_64, K154_65, K154_68, wr_id, td_e, tm_e, pu_n, pu_s, up_s, up_k, up_a, ↓reduceIte, Int.reduceLT, Int.reduceLE, Int.reduceEq, Int.reduceNeg, Int.reduceAdd, Int.reduceSub, Int.reduceMul, Int.reduceMod, Int.reduceDiv, Int.cast_ofNat_Int, not_true_eq_false, not_false_eq_true, Int.reduceTDiv, Int.reduceTMod, c_dmG, if_pos, if_neg]
      · rw [if_pos ⟨cf, cd⟩]
        have hsn : sn5 n = n := by unfold sn5; rw [if_neg (by omega)]
        rw [hsn]
        simp (disch := first | assumption | exact isL_i | exact isL_r | exact isL_n | exact i01a | exact i01b | omega) only [K154_5, K154_7, K154_10, K154_11, K154_14, K154_15, K154_16, K154_19, K154_22, K154_23, K154_24, K154_26, K154_27, K154_30, K154_32, K154_33, K154_35, K154_38, K154_40, K154_43, K154_44, K154_46, K154_47, K154_50, K154_53, r10, r14, r15, r16, r113, r114, r115, r116, r22, r122, r142, r162, r00, r01, r02, r03, r372, r390, r391, r392, r393, r394, r396, r397, n2, n3, n7, n8, n9, n10, n11, n12, t0, t1, t3, u0, u1, u3, p0, p1, p3, b0, b1, b3, wr_id, td_e, tm_e, pu_n, pu_s, up_s, up_k, up_a, ↓reduceIte, Int.reduceLT, Int.reduceLE, Int.reduceEq, Int.reduceNeg, Int.reduceAdd, Int.reduceSub, Int.reduceMul, Int.reduceMod, Int.reduceDiv, Int.cast_ofNat_Int, not_true_eq_false, not_false_eq_true, Int.reduceTDiv, Int.reduceTMod, c_cellOn hC hR hT z11.2 h0 h1 hTh, c_far, v1, v6, if_pos, if_neg]
        rcases k7 q1 q2 with e | e | e | e | e | e | e
        all_goals
          have cd' := cd
          unfold dimP at cd'
          rw [e] at c1 cd'
          simp only [kcl, ↓reduceIte, Int.reduceEq, not_false_eq_true, true_and, not_true_eq_false, false_and] at c1 cd'
          simp (disch := first | assumption | exact isL_i | exact isL_r | exact isL_n | exact i01a | exact i01b | omega) only [K154_56c1, K154_56c2, K154_56c3, K154_56c5, K154_56c6, K154_56c9, K154_56c10, K154_59, K154_62, K154_64, wr_id, td_e, tm_e, pu_n, pu_s, up_s, up_k, up_a, ↓reduceIte, Int.reduceLT, Int.reduceLE, Int.reduceEq, Int.reduceNeg, Int.reduceAdd, Int.reduceSub, Int.reduceMul, Int.reduceMod, Int.reduceDiv, Int.cast_ofNat_Int, not_true_eq_false, not_false_eq_true, Int.reduceTDiv, Int.reduceTMod, c_dmG, c_dmI, if_pos, if_neg]
    · rw [if_neg (fun h => cf h.1), ← ih (n + 1) (some (pI (atF s p (s 0 + ah + n)))) isL_i (by omega) (by omega)]
      simp (disch := first | assumption | exact isL_i | exact isL_r | exact isL_n | exact i01a | exact i01b | omega) only [K154_5, K154_7, K154_10, K154_11, K154_14, K154_15, K154_16, K154_19, K154_22, K154_23, K154_24, K154_26, K154_27, K154_30, K154_32, K154_33, K154_35, K154_38, K154_40, K154_65, K154_68, r10, r14, r15, r16, r113, r114, r115, r116, r22, r122, r142, r162, r00, r01, r02, r03, r372, r390, r391, r392, r393, r394, r396, r397, n2, n3, n7, n8, n9, n10, n11, n12, t0, t1, t3, u0, u1, u3, p0, p1, p3, b0, b1, b3, wr_id, td_e, tm_e, pu_n, pu_s, up_s, up_k, up_a, ↓reduceIte, Int.reduceLT, Int.reduceLE, Int.reduceEq, Int.reduceNeg, Int.reduceAdd, Int.reduceSub, Int.reduceMul, Int.reduceMod, Int.reduceDiv, Int.cast_ofNat_Int, not_true_eq_false, not_false_eq_true, Int.reduceTDiv, Int.reduceTMod, c_cellOn hC hR hT z11.2 h0 h1 hTh, c_far, if_pos, if_neg]
theorem c_soonFrom (hC : ShC G) (hR : RS 1 s G mi) (hW : WfA s) (h0 : 0 ≤ p) (h1 : p < s 11) (hTh : RTh G mi T (s (18 + p)) p (s (24 + p))) (hce : 0 ≤ ce) (hce' : ce ≤ 23) (ha : 0 ≤ ah) (ha' : ah ≤ 9900) :
    OkC (d + 4) 154 [pR (some 39), pR (some T), pI ce, pI ah] G mi K = K (some (pI (sn5 (soonF s (hazF s) p ce (s 0 + ah) 40 1)))) G mi := by
  rw [E154]
  simp (disch := first | assumption | exact isL_i | exact isL_r | exact isL_n | exact i01a | exact i01b | omega) only [K154_0, K154_1, wr_id, td_e, tm_e, pu_n, pu_s, up_s, up_k, up_a, ↓reduceIte, Int.reduceLT, Int.reduceLE, Int.reduceEq, Int.reduceNeg, Int.reduceAdd, Int.reduceSub, Int.reduceMul, Int.reduceMod, Int.reduceDiv, Int.cast_ofNat_Int, not_true_eq_false, not_false_eq_true, Int.reduceTDiv, Int.reduceTMod]
  exact c_soon_lp hC hR hW h0 h1 hTh hce hce' ha ha' 40 1 none isL_n (by decide) (by decide)
theorem c_soon (hC : ShC G) (hR : RS 1 s G mi) (hW : WfA s) : OkC (d + 5) 174 [pR (some 0), pI p] G mi K = K (some (pI (oSoon s p))) G mi := by
  obtain ⟨⟨⟨k1, k2, k3, l3, k9, l9, k10, l10, k11, l11⟩, ⟨k12, k13, l13, k14, k15, l15, k16, k17, l17, k18, l18⟩, ⟨r10, r14, r15, r16, r113, r114, r115, r116, r22, r122, r142, r162⟩⟩, -, ⟨⟨k0, r00, r01, r02, r03⟩, ⟨k37, r372, k38, l38⟩, ⟨k39, r390, r391, r392, r393, r394, r396, r397⟩, ⟨k40, l40, k41, l41, k42, l42, k43, l43, k44, l44, k45, l45⟩⟩⟩ := id hC
  obtain ⟨⟨n2, n3, n7, n8, n9, n10, n11, n12⟩, ⟨hm1, hm2⟩, ⟨⟨t0, t1, t3⟩, ht4⟩, ⟨⟨u0, u1, u3⟩, hu4⟩, ⟨⟨p0, p1, p3⟩, hp4⟩, ⟨⟨b0, b1, b3⟩, hb4⟩⟩ := hR.o
  obtain ⟨⟨⟨z0, z1, z8, z9, z10, z11, z12, z13, z14, z15, z16⟩, hh01, hT, hz17⟩, hWV, hWD, hWB, hWP, hWT, hWZ, hWF, hWK⟩ := id hW
  rw [E174]
  unfold oSoon
  by_cases hp : isT s p
  · obtain ⟨T, g1, g2, hTh⟩ := hR.2.1 p hp.1 hp.2
    have g1 : gR G 9 p = some T := g1
    rw [if_pos hp]
    simp (disch := first | assumption | exact isL_i | exact isL_r | exact isL_n | exact i01a | exact i01b | omega) only [K174_0, K174_1, K174_4, K174_5, K174_8, K174_9, K174_10, K174_10n, K174_13, K174_14, K174_17, K174_18, K174_21, K174_22, K174_23, K174_26, K174_29, r10, r14, r15, r16, r113, r114, r115, r116, r22, r122, r142, r162, r00, r01, r02, r03, r372, r390, r391, r392, r393, r394, r396, r397, n2, n3, n7, n8, n9, n10, n11, n12, t0, t1, t3, u0, u1, u3, p0, p1, p3, b0, b1, b3, wr_id, td_e, tm_e, pu_n, pu_s, up_s, up_k, up_a, ↓reduceIte, Int.reduceLT, Int.reduceLE, Int.reduceEq, Int.reduceNeg, Int.reduceAdd, Int.reduceSub, Int.reduceMul, Int.reduceMod, Int.reduceDiv, Int.cast_ofNat_Int, not_true_eq_false, not_false_eq_true, Int.reduceTDiv, Int.reduceTMod, c_find hC hR z11.2, if_pos hp, g1, reduceCtorEq, if_pos, if_neg]
    rw [K174_30 k39, c_soonFrom hC hR hW hp.1 hp.2 hTh z1.1 z1.2 (by decide) (by decide)]
    simp (disch := first | assumption | exact isL_i | exact isL_r | exact isL_n | exact i01a | exact i01b | omega) only [K174_33, wr_id, td_e, tm_e, pu_n, pu_s, up_s, up_k, up_a, ↓reduceIte, Int.reduceLT, Int.reduceLE, Int.reduceEq, Int.reduceNeg, Int.reduceAdd, Int.reduceSub, Int.reduceMul, Int.reduceMod, Int.reduceDiv, Int.cast_ofNat_Int, not_true_eq_false, not_false_eq_true, Int.reduceTDiv, Int.reduceTMod, Int.add_zero]
    rfl
  · rw [if_neg hp]
    simp (disch := first | assumption | exact isL_i | exact isL_r | exact isL_n | exact i01a | exact i01b | omega) only [K174_0, K174_1, K174_4, K174_5, K174_8, K174_9, K174_10, K174_10n, K174_13, K174_14, K174_17, K174_18, K174_21, K174_22, K174_23, K174_26, K174_29, K174_30, K174_33, r10, r14, r15, r16, r113, r114, r115, r116, r22, r122, r142, r162, r00, r01, r02, r03, r372, r390, r391, r392, r393, r394, r396, r397, wr_id, td_e, tm_e, pu_n, pu_s, up_s, up_k, up_a, ↓reduceIte, Int.reduceLT, Int.reduceLE, Int.reduceEq, Int.reduceNeg, Int.reduceAdd, Int.reduceSub, Int.reduceMul, Int.reduceMod, Int.reduceDiv, Int.cast_ofNat_Int, not_true_eq_false, not_false_eq_true, Int.reduceTDiv, Int.reduceTMod, c_find hC hR z11.2, if_neg hp, if_pos, if_neg]
theorem c_then (hC : ShC G) (hR : RS 1 s G mi) (hW : WfA s) (hK : ∀ mi', RS 1 s G mi' → Sc kL mi mi' → K (some (pI (oThen s p n k))) G mi') : OkC (d + 5) 163 [pR (some 0), pI p, pI n, pI k] G mi K := by
  obtain ⟨⟨⟨k1, k2, k3, l3, k9, l9, k10, l10, k11, l11⟩, ⟨k12, k13, l13, k14, k15, l15, k16, k17, l17, k18, l18⟩, ⟨r10, r14, r15, r16, r113, r114, r115, r116, r22, r122, r142, r162⟩⟩, -, ⟨⟨k0, r00, r01, r02, r03⟩, ⟨k37, r372, k38, l38⟩, ⟨k39, r390, r391, r392, r393, r394, r396, r397⟩, ⟨k40, l40, k41, l41, k42, l42, k43, l43, k44, l44, k45, l45⟩⟩⟩ := id hC
  obtain ⟨⟨n2, n3, n7, n8, n9, n10, n11, n12⟩, ⟨hm1, hm2⟩, ⟨⟨t0, t1, t3⟩, ht4⟩, ⟨⟨u0, u1, u3⟩, hu4⟩, ⟨⟨p0, p1, p3⟩, hp4⟩, ⟨⟨b0, b1, b3⟩, hb4⟩⟩ := hR.o
  obtain ⟨⟨⟨z0, z1, z8, z9, z10, z11, z12, z13, z14, z15, z16⟩, hh01, hT, hz17⟩, hWV, hWD, hWB, hWP, hWT, hWZ, hWF, hWK⟩ := id hW
  obtain ⟨V, v1, v2, v3, ⟨v4, v5, v6⟩, -⟩ := hR.2.2
  have kV := v3.1
  have v6 : mi V 2 = hazF s := v6
  rw [E163]
  unfold oThen at hK
  by_cases hp : isT s p
  · obtain ⟨T, g1, g2, hTh⟩ := hR.2.1 p hp.1 hp.2
    have g1 : gR G 9 p = some T := g1
    obtain ⟨c1, c2, c3, c4, c5⟩ := id hTh
    have hth : thg (gK G T).1 = true := by rw [c1]; exact kcl_thg
    obtain ⟨⟨q1, q2⟩, -, -⟩ := hT.1 p hp.1 (by omega)
    by_cases hn6 : 0 ≤ n ∧ n ≤ 60
    · rw [if_pos ⟨hp, hn6⟩] at hK
      obtain ⟨f1, f2⟩ := atF_wf hT (t := s 0 + n) hp.1 (by omega)
      by_cases hk : 0 ≤ k ∧ k ≤ 3
      · simp (disch := first | assumption | exact isL_i | exact isL_r | exact isL_n | exact i01a | exact i01b | omega) only [K163_0, K163_1, K163_4, K163_5, K163_8, K163_10, K163_12, K163_12n, K163_15, K163_16, K163_17, K163_19, K163_22, K163_25, K163_26, K163_27, K163_28, K163_31, K163_34, K163_36, K163_37, K163_38, K163_41, K163_44, K163_45, K163_46, K163_48, K163_49, K163_52, K163_54, K163_56, K163_59, r10, r14, r15, r16, r113, r114, r115, r116, r22, r122, r142, r162, r00, r01, r02, r03, r372, r390, r391, r392, r393, r394, r396, r397, n2, n3, n7, n8, n9, n10, n11, n12, t0, t1, t3, u0, u1, u3, p0, p1, p3, b0, b1, b3, wr_id, td_e, tm_e, pu_n, pu_s, up_s, up_k, up_a, ↓reduceIte, Int.reduceLT, Int.reduceLE, Int.reduceEq, Int.reduceNeg, Int.reduceAdd, Int.reduceSub, Int.reduceMul, Int.reduceMod, Int.reduceDiv, Int.cast_ofNat_Int, not_true_eq_false, not_false_eq_true, Int.reduceTDiv, Int.reduceTMod, c_find hC hR z11.2, c_within, c_cellOn hC hR hT z11.2 hp.1 hp.2 hTh, if_pos hp, if_pos hk, g1, reduceCtorEq, if_pos, if_neg]
        have h4 : k = 0 ∨ k = 1 ∨ k = 2 ∨ k = 3 := by omega
        rcases h4 with rfl | rfl | rfl | rfl
        · simp only [↓reduceIte, Int.reduceEq] at hK
          simp (disch := first | assumption | exact isL_i | exact isL_r | exact isL_n | exact i01a | exact i01b | omega) only [K163_61, K163_62, K163_88, K163_90, wr_id, td_e, tm_e, pu_n, pu_s, up_s, up_k, up_a, ↓reduceIte, Int.reduceLT, Int.reduceLE, Int.reduceEq, Int.reduceNeg, Int.reduceAdd, Int.reduceSub, Int.reduceMul, Int.reduceMod, Int.reduceDiv, Int.cast_ofNat_Int, not_true_eq_false, not_false_eq_true, Int.reduceTDiv, Int.reduceTMod]
          exact hK mi hR Sc.rf
        · simp only [↓reduceIte, Int.reduceEq] at hK
          have hK := hK mi hR Sc.rf
          simp (disch := first | assumption | exact isL_i | exact isL_r | exact isL_n | exact i01a | exact i01b | omega) only [K163_61, K163_62, K163_91, K163_93, K163_95, K163_96, K163_99, K163_102, r10, r14, r15, r16, r113, r114, r115, r116, r22, r122, r142, r162, r00, r01, r02, r03, r372, r390, r391, r392, r393, r394, r396, r397, wr_id, td_e, tm_e, pu_n, pu_s, up_s, up_k, up_a, ↓reduceIte, Int.reduceLT, Int.reduceLE, Int.reduceEq, Int.reduceNeg, Int.reduceAdd, Int.reduceSub, Int.reduceMul, Int.reduceMod, Int.reduceDiv, Int.cast_ofNat_Int, not_true_eq_false, not_false_eq_true, Int.reduceTDiv, Int.reduceTMod, v1, v6]
          unfold dimP at hK
          rcases k7 q1 q2 with e | e | e | e | e | e | e
          all_goals
            rw [e] at c1 hK
            simp only [kcl, ↓reduceIte, Int.reduceEq, not_false_eq_true, true_and, not_true_eq_false, false_and] at c1 hK
            simp (disch := first | assumption | exact isL_i | exact isL_r | exact isL_n | exact i01a | exact i01b | omega) only [K163_105c1, K163_105c2, K163_105c3, K163_105c5, K163_105c6, K163_105c9, K163_105c10, K163_108, K163_111, wr_id, td_e, tm_e, pu_n, pu_s, up_s, up_k, up_a, ↓reduceIte, Int.reduceLT, Int.reduceLE, Int.reduceEq, Int.reduceNeg, Int.reduceAdd, Int.reduceSub, Int.reduceMul, Int.reduceMod, Int.reduceDiv, Int.cast_ofNat_Int, not_true_eq_false, not_false_eq_true, Int.reduceTDiv, Int.reduceTMod, c_dmG, c_dmI, c_bit]
            exact hK
        · simp only [↓reduceIte, Int.reduceEq] at hK
          simp (disch := first | assumption | exact isL_i | exact isL_r | exact isL_n | exact i01a | exact i01b | omega) only [K163_61, K163_62, K163_112, K163_113, K163_116, K163_118, K163_120, r10, r14, r15, r16, r113, r114, r115, r116, r22, r122, r142, r162, r00, r01, r02, r03, r372, r390, r391, r392, r393, r394, r396, r397, wr_id, td_e, tm_e, pu_n, pu_s, up_s, up_k, up_a, ↓reduceIte, Int.reduceLT, Int.reduceLE, Int.reduceEq, Int.reduceNeg, Int.reduceAdd, Int.reduceSub, Int.reduceMul, Int.reduceMod, Int.reduceDiv, Int.cast_ofNat_Int, not_true_eq_false, not_false_eq_true, Int.reduceTDiv, Int.reduceTMod]
          rw [K163_122 k1]
          refine c_baseOn hC hR hWV hT z11.2 hp.1 hp.2 hTh (by omega) (by omega) fun m1 hs => ?_
          simp (disch := first | assumption | exact isL_i | exact isL_r | exact isL_n | exact i01a | exact i01b | omega) only [K163_125, wr_id, td_e, tm_e, pu_n, pu_s, up_s, up_k, up_a, ↓reduceIte, Int.reduceLT, Int.reduceLE, Int.reduceEq, Int.reduceNeg, Int.reduceAdd, Int.reduceSub, Int.reduceMul, Int.reduceMod, Int.reduceDiv, Int.cast_ofNat_Int, not_true_eq_false, not_false_eq_true, Int.reduceTDiv, Int.reduceTMod]
          exact hK m1 (hR.q hs) (q_k hs)
        · simp only [↓reduceIte, Int.reduceEq] at hK
          simp (disch := first | assumption | exact isL_i | exact isL_r | exact isL_n | exact i01a | exact i01b | omega) only [K163_61, K163_62, K163_126, K163_127, K163_130, K163_132, K163_134, r10, r14, r15, r16, r113, r114, r115, r116, r22, r122, r142, r162, r00, r01, r02, r03, r372, r390, r391, r392, r393, r394, r396, r397, wr_id, td_e, tm_e, pu_n, pu_s, up_s, up_k, up_a, ↓reduceIte, Int.reduceLT, Int.reduceLE, Int.reduceEq, Int.reduceNeg, Int.reduceAdd, Int.reduceSub, Int.reduceMul, Int.reduceMod, Int.reduceDiv, Int.cast_ofNat_Int, not_true_eq_false, not_false_eq_true, Int.reduceTDiv, Int.reduceTMod]
          rw [K163_136 k1]
          refine c_worthOn hC hR hWV hT z11.2 hp.1 hp.2 g2 hTh (by omega) (by omega) fun m1 hs => ?_
          simp (disch := first | assumption | exact isL_i | exact isL_r | exact isL_n | exact i01a | exact i01b | omega) only [K163_139, wr_id, td_e, tm_e, pu_n, pu_s, up_s, up_k, up_a, ↓reduceIte, Int.reduceLT, Int.reduceLE, Int.reduceEq, Int.reduceNeg, Int.reduceAdd, Int.reduceSub, Int.reduceMul, Int.reduceMod, Int.reduceDiv, Int.cast_ofNat_Int, not_true_eq_false, not_false_eq_true, Int.reduceTDiv, Int.reduceTMod]
          exact hK m1 (hR.q hs) (q_k hs)
      · rw [if_neg (by omega), if_neg (by omega), if_neg (by omega), if_neg (by omega)] at hK
        simp (disch := first | assumption | exact isL_i | exact isL_r | exact isL_n | exact i01a | exact i01b | omega) only [K163_0, K163_1, K163_4, K163_5, K163_8, K163_10, K163_12, K163_12n, K163_15, K163_16, K163_17, K163_19, K163_22, K163_25, K163_26, K163_27, K163_28, K163_31, K163_34, K163_36, r10, r14, r15, r16, r113, r114, r115, r116, r22, r122, r142, r162, r00, r01, r02, r03, r372, r390, r391, r392, r393, r394, r396, r397, n2, n3, n7, n8, n9, n10, n11, n12, t0, t1, t3, u0, u1, u3, p0, p1, p3, b0, b1, b3, wr_id, td_e, tm_e, pu_n, pu_s, up_s, up_k, up_a, ↓reduceIte, Int.reduceLT, Int.reduceLE, Int.reduceEq, Int.reduceNeg, Int.reduceAdd, Int.reduceSub, Int.reduceMul, Int.reduceMod, Int.reduceDiv, Int.cast_ofNat_Int, not_true_eq_false, not_false_eq_true, Int.reduceTDiv, Int.reduceTMod, c_find hC hR z11.2, c_within, if_pos hp, if_neg hk, g1, reduceCtorEq, if_pos, if_neg]
        exact hK mi hR Sc.rf
    · rw [if_neg (fun h => hn6 h.2)] at hK
      simp (disch := first | assumption | exact isL_i | exact isL_r | exact isL_n | exact i01a | exact i01b | omega) only [K163_0, K163_1, K163_4, K163_5, K163_8, K163_10, K163_12, K163_12n, K163_15, K163_16, K163_17, K163_19, K163_22, K163_25, K163_26, K163_27, K163_28, K163_31, K163_34, K163_36, r10, r14, r15, r16, r113, r114, r115, r116, r22, r122, r142, r162, r00, r01, r02, r03, r372, r390, r391, r392, r393, r394, r396, r397, n2, n3, n7, n8, n9, n10, n11, n12, t0, t1, t3, u0, u1, u3, p0, p1, p3, b0, b1, b3, wr_id, td_e, tm_e, pu_n, pu_s, up_s, up_k, up_a, ↓reduceIte, Int.reduceLT, Int.reduceLE, Int.reduceEq, Int.reduceNeg, Int.reduceAdd, Int.reduceSub, Int.reduceMul, Int.reduceMod, Int.reduceDiv, Int.cast_ofNat_Int, not_true_eq_false, not_false_eq_true, Int.reduceTDiv, Int.reduceTMod, c_find hC hR z11.2, c_within, if_pos hp, g1, reduceCtorEq, if_pos, if_neg]
      exact hK mi hR Sc.rf
  · rw [if_neg (fun h => hp h.1)] at hK
    simp (disch := first | assumption | exact isL_i | exact isL_r | exact isL_n | exact i01a | exact i01b | omega) only [K163_0, K163_1, K163_4, K163_5, K163_8, K163_10, K163_12, K163_12n, K163_15, K163_16, K163_17, K163_19, K163_22, K163_25, K163_26, K163_27, K163_28, K163_31, K163_34, K163_36, r10, r14, r15, r16, r113, r114, r115, r116, r22, r122, r142, r162, r00, r01, r02, r03, r372, r390, r391, r392, r393, r394, r396, r397, n2, n3, n7, n8, n9, n10, n11, n12, t0, t1, t3, u0, u1, u3, p0, p1, p3, b0, b1, b3, wr_id, td_e, tm_e, pu_n, pu_s, up_s, up_k, up_a, ↓reduceIte, Int.reduceLT, Int.reduceLE, Int.reduceEq, Int.reduceNeg, Int.reduceAdd, Int.reduceSub, Int.reduceMul, Int.reduceMod, Int.reduceDiv, Int.cast_ofNat_Int, not_true_eq_false, not_false_eq_true, Int.reduceTDiv, Int.reduceTMod, c_find hC hR z11.2, if_neg hp, if_pos, if_neg]
    exact hK mi hR Sc.rf
theorem c_looked_lp (hC : ShC G) (hR : RS 1 s G mi) (hW : WfA s) : ∀ (m : Nat) (k : Int) (x2 : Option PV), isL x2 = false → k + m = s 15 → 0 ≤ k →
    Ok (d + 5) 184 2 [some (pR (some 0)), some (pI k), x2] [] G mi K = K (some (pI (lookF s m k))) G mi := by
  obtain ⟨⟨⟨k1, k2, k3, l3, k9, l9, k10, l10, k11, l11⟩, ⟨k12, k13, l13, k14, k15, l15, k16, k17, l17, k18, l18⟩, ⟨r10, r14, r15, r16, r113, r114, r115, r116, r22, r122, r142, r162⟩⟩, -, ⟨⟨k0, r00, r01, r02, r03⟩, ⟨k37, r372, k38, l38⟩, ⟨k39, r390, r391, r392, r393, r394, r396, r397⟩, ⟨k40, l40, k41, l41, k42, l42, k43, l43, k44, l44, k45, l45⟩⟩⟩ := id hC
  obtain ⟨⟨n2, n3, n7, n8, n9, n10, n11, n12⟩, ⟨hm1, hm2⟩, ⟨⟨t0, t1, t3⟩, ht4⟩, ⟨⟨u0, u1, u3⟩, hu4⟩, ⟨⟨p0, p1, p3⟩, hp4⟩, ⟨⟨b0, b1, b3⟩, hb4⟩⟩ := hR.o
  obtain ⟨⟨⟨z0, z1, z8, z9, z10, z11, z12, z13, z14, z15, z16⟩, hh01, hT, hz17⟩, hWV, hWD, hWB, hWP, hWT, hWZ, hWF, hWK⟩ := id hW
  intro m
  induction m with
  | zero =>
    intro k x2 r2 hk k0
    rw [K184_2]
    simp (disch := first | assumption | exact isL_i | exact isL_r | exact isL_n | exact i01a | exact i01b | omega) only [K184_3, K184_4, K184_7, K184_10, K184_13, K184_78, K184_80, r10, r14, r15, r16, r113, r114, r115, r116, r22, r122, r142, r162, r00, r01, r02, r03, r372, r390, r391, r392, r393, r394, r396, r397, n2, n3, n7, n8, n9, n10, n11, n12, t0, t1, t3, u0, u1, u3, p0, p1, p3, b0, b1, b3, wr_id, td_e, tm_e, pu_n, pu_s, up_s, up_k, up_a, ↓reduceIte, Int.reduceLT, Int.reduceLE, Int.reduceEq, Int.reduceNeg, Int.reduceAdd, Int.reduceSub, Int.reduceMul, Int.reduceMod, Int.reduceDiv, Int.cast_ofNat_Int, not_true_eq_false, not_false_eq_true, Int.reduceTDiv, Int.reduceTMod, t_size, if_pos, if_neg]
    rfl
  | succ m ih =>
    intro k x2 r2 hk k0
    obtain ⟨e1, e2⟩ := hb4 k k0 (by omega)
    obtain ⟨d1, d2⟩ := hWB.2 k k0 (by omega)
    have d3 := hWK k k0 (by omega)
    have hkk : 0 ≤ k ∧ k < s 15 := ⟨k0, by omega⟩
    have hp : isT s (s (83 + k)) := ⟨d1, d3⟩
    obtain ⟨T, g1, g2, hTh⟩ := hR.2.1 _ hp.1 hp.2
    have g1 : gR G 9 (s (83 + k)) = some T := g1
    have gt : ∀ (b : Int) (d' : Nat) (K' : Option PV → Gh → Mi → Prop), 0 ≤ b → b < 2 → OkC d' 84 [pR (some 16), pI k, pI b] G mi K' = K' (some (pI (mi 17 (k * 2 + b)))) G mi := by
      intro b d' K' b0 b3
      rw [t_get (o := 16) (o' := 17) k16 r162 k17 (by omega) (by omega) (by omega) (by omega) (by omega) (by rw [‹mi 16 0 = 2›, ‹mi 16 1 = 8›]; omega) b0 (by omega), ‹mi 16 0 = 2›, ‹mi 16 3 = s 15›, if_pos hkk]
    simp only [lookF]
    rw [K184_2]
    by_cases cc : atF s (s (83 + k)) (s 0) = s (91 + k)
    · rw [if_pos cc, ← ih (k + 1) (some (pR (some T))) isL_r (by omega) (by omega)]
      simp (disch := first | assumption | exact isL_i | exact isL_r | exact isL_n | exact i01a | exact i01b | omega) only [K184_3, K184_4, K184_7, K184_10, K184_13, K184_16, K184_17, K184_20, K184_21, K184_24, K184_27, K184_28, K184_29, K184_32, K184_35, K184_36, K184_37, K184_37n, K184_40, K184_41, K184_44, K184_45, K184_46, K184_49, K184_52, K184_55, K184_56, K184_59, K184_62, K184_63, K184_64, K184_67, K184_70, K184_71, K184_72, K184_75, r10, r14, r15, r16, r113, r114, r115, r116, r22, r122, r142, r162, r00, r01, r02, r03, r372, r390, r391, r392, r393, r394, r396, r397, n2, n3, n7, n8, n9, n10, n11, n12, t0, t1, t3, u0, u1, u3, p0, p1, p3, b0, b1, b3, wr_id, td_e, tm_e, pu_n, pu_s, up_s, up_k, up_a, ↓reduceIte, Int.reduceLT, Int.reduceLE, Int.reduceEq, Int.reduceNeg, Int.reduceAdd, Int.reduceSub, Int.reduceMul, Int.reduceMod, Int.reduceDiv, Int.cast_ofNat_Int, not_true_eq_false, not_false_eq_true, Int.reduceTDiv, Int.reduceTMod, t_size, gt, Int.add_zero, e1, e2, c_find hC hR z11.2, if_pos hp, g1, reduceCtorEq, c_cellOn hC hR hT z11.2 hp.1 hp.2 hTh, if_pos, if_neg]
    · rw [if_neg cc]
      simp (disch := first | assumption | exact isL_i | exact isL_r | exact isL_n | exact i01a | exact i01b | omega) only [K184_3, K184_4, K184_7, K184_10, K184_13, K184_16, K184_17, K184_20, K184_21, K184_24, K184_27, K184_28, K184_29, K184_32, K184_35, K184_36, K184_37, K184_37n, K184_40, K184_41, K184_44, K184_45, K184_46, K184_49, K184_52, K184_55, K184_56, K184_59, K184_62, K184_63, K184_64, K184_67, K184_70, K184_71, K184_72, K184_75, r10, r14, r15, r16, r113, r114, r115, r116, r22, r122, r142, r162, r00, r01, r02, r03, r372, r390, r391, r392, r393, r394, r396, r397, n2, n3, n7, n8, n9, n10, n11, n12, t0, t1, t3, u0, u1, u3, p0, p1, p3, b0, b1, b3, wr_id, td_e, tm_e, pu_n, pu_s, up_s, up_k, up_a, ↓reduceIte, Int.reduceLT, Int.reduceLE, Int.reduceEq, Int.reduceNeg, Int.reduceAdd, Int.reduceSub, Int.reduceMul, Int.reduceMod, Int.reduceDiv, Int.cast_ofNat_Int, not_true_eq_false, not_false_eq_true, Int.reduceTDiv, Int.reduceTMod, t_size, gt, Int.add_zero, e1, e2, c_find hC hR z11.2, if_pos hp, g1, reduceCtorEq, c_cellOn hC hR hT z11.2 hp.1 hp.2 hTh, if_pos, if_neg]
theorem c_looked (hC : ShC G) (hR : RS 1 s G mi) (hW : WfA s) : OkC (d + 5) 184 [pR (some 0)] G mi K = K (some (pI (lookF s (s 15).toNat 0))) G mi := by
  obtain ⟨⟨⟨z0, z1, z8, z9, z10, z11, z12, z13, z14, z15, z16⟩, hh01, hT, hz17⟩, hWV, hWD, hWB, hWP, hWT, hWZ, hWF, hWK⟩ := id hW
  rw [E184]
  simp (disch := first | assumption | exact isL_i | exact isL_r | exact isL_n | exact i01a | exact i01b | omega) only [K184_0, K184_1, wr_id, td_e, tm_e, pu_n, pu_s, up_s, up_k, up_a, ↓reduceIte, Int.reduceLT, Int.reduceLE, Int.reduceEq, Int.reduceNeg, Int.reduceAdd, Int.reduceSub, Int.reduceMul, Int.reduceMod, Int.reduceDiv, Int.cast_ofNat_Int, not_true_eq_false, not_false_eq_true, Int.reduceTDiv, Int.reduceTMod]
  exact c_looked_lp hC hR hW _ 0 none isL_n (by omega) (by decide)
theorem c_as (hC : ShC G) (hR : RS 1 s G mi) (hW : WfA s) : OkC (d + 5) 187 [pR (some 0), pI p, pI k] G mi K = K (some (pI (oAs s p k))) G mi := by
  obtain ⟨⟨⟨k1, k2, k3, l3, k9, l9, k10, l10, k11, l11⟩, ⟨k12, k13, l13, k14, k15, l15, k16, k17, l17, k18, l18⟩, ⟨r10, r14, r15, r16, r113, r114, r115, r116, r22, r122, r142, r162⟩⟩, -, ⟨⟨k0, r00, r01, r02, r03⟩, ⟨k37, r372, k38, l38⟩, ⟨k39, r390, r391, r392, r393, r394, r396, r397⟩, ⟨k40, l40, k41, l41, k42, l42, k43, l43, k44, l44, k45, l45⟩⟩⟩ := id hC
  obtain ⟨⟨n2, n3, n7, n8, n9, n10, n11, n12⟩, ⟨hm1, hm2⟩, ⟨⟨t0, t1, t3⟩, ht4⟩, ⟨⟨u0, u1, u3⟩, hu4⟩, ⟨⟨p0, p1, p3⟩, hp4⟩, ⟨⟨b0, b1, b3⟩, hb4⟩⟩ := hR.o
  obtain ⟨⟨⟨z0, z1, z8, z9, z10, z11, z12, z13, z14, z15, z16⟩, hh01, hT, hz17⟩, hWV, hWD, hWB, hWP, hWT, hWZ, hWF, hWK⟩ := id hW
  rw [E187]
  unfold oAs
  by_cases hp : isT s p
  · obtain ⟨T, g1, g2, hTh⟩ := hR.2.1 p hp.1 hp.2
    have g1 : gR G 9 p = some T := g1
    obtain ⟨c1, c2, c3, c4, c5⟩ := id hTh
    have hth : thg (gK G T).1 = true := by rw [c1]; exact kcl_thg
    obtain ⟨⟨q1, q2⟩, -, -⟩ := hT.1 p hp.1 (by omega)
    by_cases hk : 0 ≤ k ∧ k ≤ 6
    · rw [if_pos ⟨hp, hk⟩]
      simp (disch := first | assumption | exact isL_i | exact isL_r | exact isL_n | exact i01a | exact i01b | omega) only [K187_0, K187_1, K187_4, K187_5, K187_8, K187_9, K187_10, K187_10n, K187_13, K187_14, K187_15, K187_17, K187_20, K187_23, K187_24, K187_25, K187_26, r10, r14, r15, r16, r113, r114, r115, r116, r22, r122, r142, r162, r00, r01, r02, r03, r372, r390, r391, r392, r393, r394, r396, r397, n2, n3, n7, n8, n9, n10, n11, n12, t0, t1, t3, u0, u1, u3, p0, p1, p3, b0, b1, b3, wr_id, td_e, tm_e, pu_n, pu_s, up_s, up_k, up_a, ↓reduceIte, Int.reduceLT, Int.reduceLE, Int.reduceEq, Int.reduceNeg, Int.reduceAdd, Int.reduceSub, Int.reduceMul, Int.reduceMod, Int.reduceDiv, Int.cast_ofNat_Int, not_true_eq_false, not_false_eq_true, Int.reduceTDiv, Int.reduceTMod, c_find hC hR z11.2, c_within, if_pos hp, if_pos hk, g1, reduceCtorEq, if_pos, if_neg]
      rcases k7 q1 q2 with e | e | e | e | e | e | e
      all_goals
        rw [e] at c1
        simp only [kcl, ↓reduceIte, Int.reduceEq] at c1
        rw [e]
        rcases k7 hk.1 hk.2 with rfl | rfl | rfl | rfl | rfl | rfl | rfl
        all_goals
          rw [K187_27, E201]
          simp (disch := first | assumption | exact isL_i | exact isL_r | exact isL_n | exact i01a | exact i01b | omega) only [K201_0, K201_1, K201_40, K201_41, K201_42, K201_43, K201_46, K201_47, K201_48, K201_51, K201_52, K201_53, K201_56, K201_57, K201_58, K201_61, K201_62, K201_63, K201_66, K201_67, K201_68, K201_71, K187_30, K187_33, K187_34, K187_37, K187_40, K187_42, wr_id, td_e, tm_e, pu_n, pu_s, up_s, up_k, up_a, ↓reduceIte, Int.reduceLT, Int.reduceLE, Int.reduceEq, Int.reduceNeg, Int.reduceAdd, Int.reduceSub, Int.reduceMul, Int.reduceMod, Int.reduceDiv, Int.cast_ofNat_Int, not_true_eq_false, not_false_eq_true, Int.reduceTDiv, Int.reduceTMod, c1, c4, List.mem_cons, List.not_mem_nil, or_false, Int.reduceEq, or_self, false_or, true_or, or_true, Int.cast_ofNat_Int, Int.reduceLT, and_false, false_and, and_true, true_and, reduceIte, undP]
    · rw [if_neg (fun h => hk h.2)]
      simp (disch := first | assumption | exact isL_i | exact isL_r | exact isL_n | exact i01a | exact i01b | omega) only [K187_0, K187_1, K187_4, K187_5, K187_8, K187_9, K187_10, K187_10n, K187_13, K187_14, K187_15, K187_17, K187_20, K187_23, K187_24, r10, r14, r15, r16, r113, r114, r115, r116, r22, r122, r142, r162, r00, r01, r02, r03, r372, r390, r391, r392, r393, r394, r396, r397, n2, n3, n7, n8, n9, n10, n11, n12, t0, t1, t3, u0, u1, u3, p0, p1, p3, b0, b1, b3, wr_id, td_e, tm_e, pu_n, pu_s, up_s, up_k, up_a, ↓reduceIte, Int.reduceLT, Int.reduceLE, Int.reduceEq, Int.reduceNeg, Int.reduceAdd, Int.reduceSub, Int.reduceMul, Int.reduceMod, Int.reduceDiv, Int.cast_ofNat_Int, not_true_eq_false, not_false_eq_true, Int.reduceTDiv, Int.reduceTMod, c_find hC hR z11.2, c_within, if_pos hp, if_neg hk, g1, reduceCtorEq, if_pos, if_neg]
  · rw [if_neg (fun h => hp h.1)]
    simp (disch := first | assumption | exact isL_i | exact isL_r | exact isL_n | exact i01a | exact i01b | omega) only [K187_0, K187_1, K187_4, K187_5, K187_8, K187_9, K187_10, K187_10n, K187_13, K187_14, K187_15, K187_17, K187_20, K187_23, K187_24, r10, r14, r15, r16, r113, r114, r115, r116, r22, r122, r142, r162, r00, r01, r02, r03, r372, r390, r391, r392, r393, r394, r396, r397, n2, n3, n7, n8, n9, n10, n11, n12, t0, t1, t3, u0, u1, u3, p0, p1, p3, b0, b1, b3, wr_id, td_e, tm_e, pu_n, pu_s, up_s, up_k, up_a, ↓reduceIte, Int.reduceLT, Int.reduceLE, Int.reduceEq, Int.reduceNeg, Int.reduceAdd, Int.reduceSub, Int.reduceMul, Int.reduceMod, Int.reduceDiv, Int.cast_ofNat_Int, not_true_eq_false, not_false_eq_true, Int.reduceTDiv, Int.reduceTMod, c_find hC hR z11.2, if_neg hp, if_pos, if_neg]
theorem c_trace {L : List Int} (hC : ShC G) (hL : TRc L mi) (hl : L.length ≤ 20) : OkC (d + 5) 186 [pR (some 0), pI k] G mi K = K (some (pI (if 0 ≤ k ∧ k < L.length then L.getD k.toNat 0 else -1))) G mi := by
  obtain ⟨⟨⟨k1, k2, k3, l3, k9, l9, k10, l10, k11, l11⟩, ⟨k12, k13, l13, k14, k15, l15, k16, k17, l17, k18, l18⟩, ⟨r10, r14, r15, r16, r113, r114, r115, r116, r22, r122, r142, r162⟩⟩, -, ⟨⟨k0, r00, r01, r02, r03⟩, ⟨k37, r372, k38, l38⟩, ⟨k39, r390, r391, r392, r393, r394, r396, r397⟩, ⟨k40, l40, k41, l41, k42, l42, k43, l43, k44, l44, k45, l45⟩⟩⟩ := id hC
  obtain ⟨⟨e1, e2, e3⟩, e4⟩ := hL
  rw [E186]
  simp (disch := first | assumption | exact isL_i | exact isL_r | exact isL_n | exact i01a | exact i01b | omega) only [K186_0, K186_1, K186_4, K186_5, r10, r14, r15, r16, r113, r114, r115, r116, r22, r122, r142, r162, r00, r01, r02, r03, r372, r390, r391, r392, r393, r394, r396, r397, wr_id, td_e, tm_e, pu_n, pu_s, up_s, up_k, up_a, ↓reduceIte, Int.reduceLT, Int.reduceLE, Int.reduceEq, Int.reduceNeg, Int.reduceAdd, Int.reduceSub, Int.reduceMul, Int.reduceMod, Int.reduceDiv, Int.cast_ofNat_Int, not_true_eq_false, not_false_eq_true, Int.reduceTDiv, Int.reduceTMod]
  rw [K186_6 k37, t_get (o := 37) (o' := 38) k37 r372 k38 (by omega) (by omega) (by omega) (by omega) (by omega) (by rw [e1, e2]; omega) (by decide) (by omega), e1, e3, Int.mul_one, Int.add_zero]
  by_cases h : 0 ≤ k ∧ k < L.length
  · rw [if_pos h, if_pos h]
    have := e4 k.toNat (by omega)
    rw [Int.toNat_of_nonneg h.1] at this
    rw [this]
    simp (disch := first | assumption | exact isL_i | exact isL_r | exact isL_n | exact i01a | exact i01b | omega) only [K186_9, wr_id, td_e, tm_e, pu_n, pu_s, up_s, up_k, up_a, ↓reduceIte, Int.reduceLT, Int.reduceLE, Int.reduceEq, Int.reduceNeg, Int.reduceAdd, Int.reduceSub, Int.reduceMul, Int.reduceMod, Int.reduceDiv, Int.cast_ofNat_Int, not_true_eq_false, not_false_eq_true, Int.reduceTDiv, Int.reduceTMod]
  · rw [if_neg h, if_neg h]
    simp (disch := first | assumption | exact isL_i | exact isL_r | exact isL_n | exact i01a | exact i01b | omega) only [K186_9, wr_id, td_e, tm_e, pu_n, pu_s, up_s, up_k, up_a, ↓reduceIte, Int.reduceLT, Int.reduceLE, Int.reduceEq, Int.reduceNeg, Int.reduceAdd, Int.reduceSub, Int.reduceMul, Int.reduceMod, Int.reduceDiv, Int.cast_ofNat_Int, not_true_eq_false, not_false_eq_true, Int.reduceTDiv, Int.reduceTMod]
theorem c_count {L : List Int} (hC : ShC G) (hR : RS 1 s G mi) (hL : TRc L mi) : OkC (d + 5) 190 [pR (some 0), pI k] G mi K = K (some (pI (if k = 6 then (L.length : Int) else if 0 ≤ k ∧ k ≤ 5 then s (11 + k) else -1))) G mi := by
  obtain ⟨⟨⟨k1, k2, k3, l3, k9, l9, k10, l10, k11, l11⟩, ⟨k12, k13, l13, k14, k15, l15, k16, k17, l17, k18, l18⟩, ⟨r10, r14, r15, r16, r113, r114, r115, r116, r22, r122, r142, r162⟩⟩, -, ⟨⟨k0, r00, r01, r02, r03⟩, ⟨k37, r372, k38, l38⟩, ⟨k39, r390, r391, r392, r393, r394, r396, r397⟩, ⟨k40, l40, k41, l41, k42, l42, k43, l43, k44, l44, k45, l45⟩⟩⟩ := id hC
  obtain ⟨⟨n2, n3, n7, n8, n9, n10, n11, n12⟩, ⟨hm1, hm2⟩, ⟨⟨t0, t1, t3⟩, ht4⟩, ⟨⟨u0, u1, u3⟩, hu4⟩, ⟨⟨p0, p1, p3⟩, hp4⟩, ⟨⟨b0, b1, b3⟩, hb4⟩⟩ := hR.o
  obtain ⟨⟨e1, e2, e3⟩, e4⟩ := hL
  by_cases hk : 0 ≤ k ∧ k ≤ 6
  · rcases k7 hk.1 hk.2 with rfl | rfl | rfl | rfl | rfl | rfl | rfl
    all_goals
      rw [E190]
      simp (disch := first | assumption | exact isL_i | exact isL_r | exact isL_n | exact i01a | exact i01b | omega) only [K190_0, K190_1, K190_44, K190_45, K190_48, K190_51, K190_52, K190_53, K190_56, K190_59, K190_60, K190_61, K190_64, K190_67, K190_70, K190_71, K190_72, K190_75, K190_78, K190_81, K190_82, K190_83, K190_86, K190_89, K190_92, K190_93, K190_94, K190_97, K190_100, K190_103, K190_104, K190_105, K190_108, K190_111, K190_112, K190_113, r10, r14, r15, r16, r113, r114, r115, r116, r22, r122, r142, r162, r00, r01, r02, r03, r372, r390, r391, r392, r393, r394, r396, r397, n2, n3, n7, n8, n9, n10, n11, n12, t0, t1, t3, u0, u1, u3, p0, p1, p3, b0, b1, b3, wr_id, td_e, tm_e, pu_n, pu_s, up_s, up_k, up_a, ↓reduceIte, Int.reduceLT, Int.reduceLE, Int.reduceEq, Int.reduceNeg, Int.reduceAdd, Int.reduceSub, Int.reduceMul, Int.reduceMod, Int.reduceDiv, Int.cast_ofNat_Int, not_true_eq_false, not_false_eq_true, Int.reduceTDiv, Int.reduceTMod, t_size, e3, and_self, Int.add_zero]
  · rw [E190, if_neg (by omega), if_neg (by omega)]
    simp (disch := first | assumption | exact isL_i | exact isL_r | exact isL_n | exact i01a | exact i01b | omega) only [K190_0, K190_1, K190_112, K190_113, wr_id, td_e, tm_e, pu_n, pu_s, up_s, up_k, up_a, ↓reduceIte, Int.reduceLT, Int.reduceLE, Int.reduceEq, Int.reduceNeg, Int.reduceAdd, Int.reduceSub, Int.reduceMul, Int.reduceMod, Int.reduceDiv, Int.cast_ofNat_Int, not_true_eq_false, not_false_eq_true, Int.reduceTDiv, Int.reduceTMod, if_neg]
end CL
