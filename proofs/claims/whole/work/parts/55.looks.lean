/-! ===== the class: tick, look, aim, odds, done ===== -/
theorem WfA_1 {s : Int → Int} {c : Int} (hW : WfA s) (h0 : 0 ≤ c) (h1 : c ≤ 23) : WfA (sH s 1 c) := by
  obtain ⟨⟨⟨z0, z1, z8, z9, z10, z11, z12, z13, z14, z15, z16⟩, hh01, hT, hz17⟩, hWV, hWD, hWB, hWP, hWT, hWZ, hWF, hWK⟩ := hW
  have hs : Stat s (sH s 1 c) := fun j hj => sH_k (by omega)
  have k : ∀ j : Int, ¬ j = 1 → sH s 1 c j = s j := fun j hj => sH_k hj
  refine ⟨⟨⟨?_, ?_, ?_, ?_, ?_, ?_, ?_, ?_, ?_, ?_, ?_⟩, fun p p0 p6 => ?_, st_T hs hT, ?_⟩, st_V hs hz17.1 hWV, ⟨?_, fun j j0 j1 => ?_⟩, ⟨?_, fun j j0 j1 => ?_⟩, fun j j0 j1 => ?_, fun j j0 j1 => ?_, fun p p0 p6 => ?_, fun j hj => ?_, fun j j0 j1 => ?_⟩
  · rw [k _ (by decide)]; exact z0
  · rw [sH_s]; exact ⟨h0, h1⟩
  · rw [k _ (by decide)]; exact z8
  · rw [k _ (by decide)]; exact z9
  · rw [k _ (by decide)]; exact z10
  · rw [k _ (by decide)]; exact z11
  · rw [k _ (by decide)]; exact z12
  · rw [k _ (by decide)]; exact z13
  · rw [k _ (by decide)]; exact z14
  · rw [k _ (by decide)]; exact z15
  · rw [k _ (by decide)]; exact z16
  · rw [k _ (by omega)]; exact hh01 p p0 p6
  · rw [k _ (by decide), k _ (by decide)]; exact hz17
  · rw [k _ (by decide)]; exact hWD.1
  · rw [k _ (by omega)] at j1 ⊢; exact hWD.2 j j0 j1
  · rw [k _ (by decide)]; exact hWB.1
  · rw [k _ (by omega)] at j1 ⊢; exact hWB.2 j j0 j1
  · rw [k _ (by omega)]; exact hWP j j0 j1
  · rw [k _ (by omega)]; exact hWT j j0 j1
  · rw [k _ (by omega)] at p0
    rw [k _ (by omega), k _ (by omega), k _ (by omega), k _ (by omega), k _ (by omega)]; exact hWZ p p0 p6
  · rw [k _ (by omega)]; exact hWF j hj
  · rw [k _ (by omega)] at j1
    rw [k _ (by omega), k _ (by omega)]; exact hWK j j0 j1
theorem sees_1 {s : Int → Int} {c hz p t e : Int} (p0 : 0 ≤ p) : seesP (sH s 1 c) hz p t e = seesP s hz p t e := by
  have hs : Stat s (sH s 1 c) := fun j hj => sH_k (by omega)
  unfold seesP
  rw [st_at hs p0, st_dim hs p0, sH_k (by omega)]
theorem sL_1 {s : Int → Int} {c hz a e : Int} : ∀ (m : Nat), sL (sH s 1 c) hz m a e = sL s hz m a e := by
  intro m
  induction m with
  | zero => rfl
  | succ m ih =>
    simp only [sL]
    rw [ih, sH_k (by omega)]
    by_cases h : seesP s hz m (s 0 + a) e
    · rw [if_pos h, if_pos (by rw [sees_1 (by omega)]; exact h)]
    · rw [if_neg h, if_neg (by rw [sees_1 (by omega)]; exact h)]
theorem FSn_1 {s : Int → Int} {c hz n : Int} {i : Nat} {mi : Mi} (h17 : -1 ≤ s 17) (h : FSn s hz n i mi) : FSn (sH s 1 c) hz n i mi := by
  have hs : Stat s (sH s 1 c) := fun j hj => sH_k (by omega)
  refine ⟨fun a e a1 a2 e0 e1 => ?_, fun a j a1 a2 j0 j1 hj hd => ?_⟩
  · rw [sL_1]; exact h.1 a e a1 a2 e0 e1
  · rw [sH_k (by omega)] at hj hd ⊢
    rw [st_dim hs j0] at hd
    rw [st_worth hs h17 j0]
    exact h.2 a j a1 a2 j0 j1 hj hd
section CL
variable {d : Nat} {G : Gh} {mi : Mi} {K : Option PV → Gh → Mi → Prop} {o o' T : Nat} {s s' : Int → Int} {p t v w a b c k n g q x lim hm pc ah ce u l hz y : Int} {L : List Int}
theorem c_most (hC : ShC G) (hR : RS 1 s G mi) (hW : WfA s) {N : Int} (hn0 : 0 ≤ n) (hn5 : n ≤ 5) (hnN : n ≤ N) (hN8 : N ≤ 8) (hc : 0 ≤ c) (hc' : c ≤ 23) (hF : FSn s hz N (s 11).toNat mi)
    (hK : ∀ mi', BR n (bstL (sH s 1 c) hz n.toNat) mi' → ScT mi mi' → K (some (pI (bstL (sH s 1 c) hz n.toNat).2)) G mi') : OkC (d + 10) 151 [pR (some 39), pI c, pI n] G mi K := by
  obtain ⟨⟨⟨k1, k2, k3, l3, k9, l9, k10, l10, k11, l11⟩, ⟨k12, k13, l13, k14, k15, l15, k16, k17, l17, k18, l18⟩, ⟨r10, r14, r15, r16, r113, r114, r115, r116, r22, r122, r142, r162⟩⟩, -, ⟨⟨k0, r00, r01, r02, r03⟩, ⟨k37, r372, k38, l38⟩, ⟨k39, r390, r391, r392, r393, r394, r396, r397⟩, ⟨k40, l40, k41, l41, k42, l42, k43, l43, k44, l44, k45, l45⟩⟩⟩ := id hC
  obtain ⟨⟨n2, n3, n7, n8, n9, n10, n11, n12⟩, ⟨hm1, hm2⟩, ⟨⟨t0, t1, t3⟩, ht4⟩, ⟨⟨u0, u1, u3⟩, hu4⟩, ⟨⟨p0, p1, p3⟩, hp4⟩, ⟨⟨b0, b1, b3⟩, hb4⟩⟩ := hR.o
  obtain ⟨⟨⟨z0, z1, z8, z9, z10, z11, z12, z13, z14, z15, z16⟩, hh01, hT, hz17⟩, hWV, hWD, hWB, hWP, hWT, hWZ, hWF, hWK⟩ := id hW
  have hW1 := WfA_1 (c := c) hW hc hc'
  have hF1 : FSn (sH s 1 c) hz N ((sH s 1 c) 11).toNat (up mi 39 5 (-1)) := by
    rw [sH_k (by decide)]
    exact FSn_1 hz17.1 (hF.sc (sc_up (by decide)))
  rw [E151]
  simp (disch := first | assumption | exact isL_i | exact isL_r | exact isL_n | exact i01a | exact i01b | omega) only [K151_0, K151_1, K151_2, K151_5, K151_6, K151_7, K151_8, K151_9, K151_10, K151_13, K151_16, r10, r14, r15, r16, r113, r114, r115, r116, r22, r122, r142, r162, r00, r01, r02, r03, r372, r390, r391, r392, r393, r394, r396, r397, n2, n3, n7, n8, n9, n10, n11, n12, t0, t1, t3, u0, u1, u3, p0, p1, p3, b0, b1, b3, wr_id, td_e, tm_e, pu_n, pu_s, up_s, up_k, up_a, ↓reduceIte, Int.reduceLT, Int.reduceLE, Int.reduceEq, Int.reduceNeg, Int.reduceAdd, Int.reduceSub, Int.reduceMul, Int.reduceMod, Int.reduceDiv, Int.cast_ofNat_Int, not_true_eq_false, not_false_eq_true, Int.reduceTDiv, Int.reduceTMod]
  rw [K151_17 k39]
  obtain ⟨e, he⟩ : ∃ e : Nat, (e : Int) = n := ⟨n.toNat, by omega⟩
  have hdd : d + 9 = (d + 6 - e) + e + 3 := by omega
  have J := c_try (d := d + 6 - e) (K := fun r G' mi' => Ok (d + 10) 151 20 [some (pR (some 39)), some (pI c), some (pI n)] (pu r []) G' mi' K) hC hW1 hn5 hnN hN8 e (up mi 39 5 (-1)) 0 0 (0, -1) (by omega) (by decide) hF1 (fun j j0 j1 => by omega) ⟨up_s, fun h => absurd h (by decide)⟩ (by decide) (fun mi' h1 h2 h3 => ?_)
  · rw [← hdd] at J
    have e1 : (simP (sH s 1 c) hz 0 0).1 1 = c := (sH_s : sH s 1 c 1 = c)
    have e2 : hadB (simP (sH s 1 c) hz 0 0).1 = hadB s := (hadB_k (by decide) : hadB (sH s 1 c) = hadB s)
    rw [e1, e2] at J
    exact J
  · have hst : ScT mi mi' := ScT.tr ⟨sc_up (by decide), fun j hj => up_k hj⟩ h3
    have hen : n.toNat = e := by omega
    have e0 : (0 : Int) * 5 ^ e = 0 := Int.zero_mul _
    rw [e0] at h2
    have h2 : BR n (bstL (sH s 1 c) hz n.toNat) mi' := by
      unfold bstL bestL
      rw [hen]
      rw [hen] at h2
      exact h2
    have h39 := h2.1
    simp (disch := first | assumption | exact isL_i | exact isL_r | exact isL_n | exact i01a | exact i01b | omega) only [K151_20, K151_21, K151_24, wr_id, td_e, tm_e, pu_n, pu_s, up_s, up_k, up_a, ↓reduceIte, Int.reduceLT, Int.reduceLE, Int.reduceEq, Int.reduceNeg, Int.reduceAdd, Int.reduceSub, Int.reduceMul, Int.reduceMod, Int.reduceDiv, Int.cast_ofNat_Int, not_true_eq_false, not_false_eq_true, Int.reduceTDiv, Int.reduceTMod, h39]
    exact hK mi' h2 hst
theorem ScT.kk {mi' : Mi} (h : ScT mi mi') : Sc kL mi mi' := h.1.wk (by decide)
theorem RS.tt {mi' : Mi} (hR : RS 1 s G mi) (h : ScT mi mi') : RS 1 s G mi' := hR.q (h.1.wk (by decide))
theorem bst_g (hW : WfA s) {m : Nat} : 0 ≤ (bstL s hz m).2 ∧ (bstL s hz m).2 ≤ 180000 * m := by
  obtain ⟨⟨⟨z0, z1, z8, z9, z10, z11, z12, z13, z14, z15, z16⟩, hh01, hT, hz17⟩, hWV, hWD, hWB, hWP, hWT, hWZ, hWF, hWK⟩ := id hW
  have hb : ∀ (M : Nat) (r : Int) (b : Int × Int), (0 ≤ b.2 ∨ 0 < M) → b.2 ≤ 180000 * m → 0 ≤ (bestF (fun q => (simP s hz m q).2) M r b).2 ∧ (bestF (fun q => (simP s hz m q).2) M r b).2 ≤ 180000 * m := by
    intro M
    induction M with
    | zero => intro r b h h'; exact ⟨h.elim id (fun h => absurd h (by decide)), h'⟩
    | succ M ih =>
      intro r b h h'
      have hg := (simP_wf (hz := hz) hW.g z1.1 z1.2 m r).2.2.2
      simp only [bestF]
      refine ih (r + 1) _ (Or.inl ?_) ?_
      · split
        · exact hg.1
        · omega
      · split
        · exact hg.2
        · exact h'
  exact hb (5 ^ m) 0 (0, -1) (Or.inr (Nat.pow_pos (by decide))) (by dsimp only; omega)
theorem c_look (hC : ShC G) (hR : RS 1 s G mi) (hW : WfA s) (hK : ∀ mi', RS 1 s G mi' → Sc kL mi mi' → K (some (pI (oLook s n k))) G mi') : OkC (d + 12) 172 [pR (some 0), pI n, pI k] G mi K := by
  obtain ⟨⟨⟨k1, k2, k3, l3, k9, l9, k10, l10, k11, l11⟩, ⟨k12, k13, l13, k14, k15, l15, k16, k17, l17, k18, l18⟩, ⟨r10, r14, r15, r16, r113, r114, r115, r116, r22, r122, r142, r162⟩⟩, -, ⟨⟨k0, r00, r01, r02, r03⟩, ⟨k37, r372, k38, l38⟩, ⟨k39, r390, r391, r392, r393, r394, r396, r397⟩, ⟨k40, l40, k41, l41, k42, l42, k43, l43, k44, l44, k45, l45⟩⟩⟩ := id hC
  obtain ⟨⟨n2, n3, n7, n8, n9, n10, n11, n12⟩, ⟨hm1, hm2⟩, ⟨⟨t0, t1, t3⟩, ht4⟩, ⟨⟨u0, u1, u3⟩, hu4⟩, ⟨⟨p0, p1, p3⟩, hp4⟩, ⟨⟨b0, b1, b3⟩, hb4⟩⟩ := hR.o
  obtain ⟨⟨⟨z0, z1, z8, z9, z10, z11, z12, z13, z14, z15, z16⟩, hh01, hT, hz17⟩, hWV, hWD, hWB, hWP, hWT, hWZ, hWF, hWK⟩ := id hW
  obtain ⟨V, v1, v2, v3, ⟨v4, v5, v6⟩, -⟩ := hR.2.2
  have kV := v3.1
  have v6 : mi V 2 = hazF s := v6
  have k43' : 20 ≤ (gK G 43).1 := by omega
  rw [E172]
  unfold oLook at hK
  by_cases hk : -1 ≤ k ∧ k ≤ 4
  · rw [if_pos hk] at hK
    by_cases h5 : 0 ≤ n ∧ n ≤ 5
    · rw [if_pos h5] at hK
      by_cases hkn : k < n
      · simp (disch := first | assumption | exact isL_i | exact isL_r | exact isL_n | exact i01a | exact i01b | omega) only [K172_0, K172_1, K172_2, K172_3, K172_6, K172_9, K172_10, K172_11, K172_12, K172_13, K172_14, K172_17, K172_20, K172_22, K172_23, K172_24, K172_25, K172_28, K172_30, K172_31, K172_32, K172_35, K172_36, K172_37, K172_40, K172_43, r10, r14, r15, r16, r113, r114, r115, r116, r22, r122, r142, r162, r00, r01, r02, r03, r372, r390, r391, r392, r393, r394, r396, r397, n2, n3, n7, n8, n9, n10, n11, n12, t0, t1, t3, u0, u1, u3, p0, p1, p3, b0, b1, b3, wr_id, td_e, tm_e, pu_n, pu_s, up_s, up_k, up_a, ↓reduceIte, Int.reduceLT, Int.reduceLE, Int.reduceEq, Int.reduceNeg, Int.reduceAdd, Int.reduceSub, Int.reduceMul, Int.reduceMod, Int.reduceDiv, Int.cast_ofNat_Int, not_true_eq_false, not_false_eq_true, Int.reduceTDiv, Int.reduceTMod, c_within, v1, v6, if_pos, if_neg]
        rw [K172_46 k39]
        refine c_foresee hC hR hW h5.1 (by omega) fun m1 hF1 hs1 => ?_
        have hR1 := hR.q (hs1.wk (by decide))
        obtain ⟨⟨-, -, -, -, a9, -⟩, -⟩ := hR1.o
        simp (disch := first | assumption | exact isL_i | exact isL_r | exact isL_n | exact i01a | exact i01b | omega) only [K172_49, K172_50, K172_53, K172_54, K172_57, K172_60, r10, r14, r15, r16, r113, r114, r115, r116, r22, r122, r142, r162, r00, r01, r02, r03, r372, r390, r391, r392, r393, r394, r396, r397, wr_id, td_e, tm_e, pu_n, pu_s, up_s, up_k, up_a, ↓reduceIte, Int.reduceLT, Int.reduceLE, Int.reduceEq, Int.reduceNeg, Int.reduceAdd, Int.reduceSub, Int.reduceMul, Int.reduceMod, Int.reduceDiv, Int.cast_ofNat_Int, not_true_eq_false, not_false_eq_true, Int.reduceTDiv, Int.reduceTMod, a9, pu_n]
        rw [K172_61 k39]
        refine c_most hC hR1 hW h5.1 h5.2 (Int.le_refl n) (by omega) z1.1 z1.2 hF1 fun m2 hB2 hs2 => ?_
        rw [sH_id] at hB2 ⊢
        have hK := hK m2 (hR1.tt hs2) (Sc.tr (hs1.wk (by decide)) hs2.kk)
        have hbg := (bst_g (hz := hazF s) (m := n.toNat) hW).1
        by_cases c1 : k = -1
        · rw [if_pos c1] at hK
          simp (disch := first | assumption | exact isL_i | exact isL_r | exact isL_n | exact i01a | exact i01b | omega) only [K172_64, K172_65, K172_66, K172_69, K172_70, K172_73, K172_74, K172_77, K172_78, K172_81, wr_id, td_e, tm_e, pu_n, pu_s, up_s, up_k, up_a, ↓reduceIte, Int.reduceLT, Int.reduceLE, Int.reduceEq, Int.reduceNeg, Int.reduceAdd, Int.reduceSub, Int.reduceMul, Int.reduceMod, Int.reduceDiv, Int.cast_ofNat_Int, not_true_eq_false, not_false_eq_true, Int.reduceTDiv, Int.reduceTMod, if_pos, if_neg]
          exact hK
        · rw [if_neg c1, if_pos hkn] at hK
          have e43 := hB2.2 hbg k (by omega) hkn
          simp (disch := first | assumption | exact isL_i | exact isL_r | exact isL_n | exact i01a | exact i01b | omega) only [K172_64, K172_65, K172_66, K172_69, K172_70, K172_73, K172_74, K172_77, r10, r14, r15, r16, r113, r114, r115, r116, r22, r122, r142, r162, r00, r01, r02, r03, r372, r390, r391, r392, r393, r394, r396, r397, wr_id, td_e, tm_e, pu_n, pu_s, up_s, up_k, up_a, ↓reduceIte, Int.reduceLT, Int.reduceLE, Int.reduceEq, Int.reduceNeg, Int.reduceAdd, Int.reduceSub, Int.reduceMul, Int.reduceMod, Int.reduceDiv, Int.cast_ofNat_Int, not_true_eq_false, not_false_eq_true, Int.reduceTDiv, Int.reduceTMod, if_pos, if_neg]
          rw [K172_78 k39, E153]
          simp (disch := first | assumption | exact isL_i | exact isL_r | exact isL_n | exact i01a | exact i01b | omega) only [K153_0, K153_1, K153_4, K153_5, K153_8, K153_11, K153_12, K153_15, K153_16, K153_17, K153_20, K153_22, K172_81, r10, r14, r15, r16, r113, r114, r115, r116, r22, r122, r142, r162, r00, r01, r02, r03, r372, r390, r391, r392, r393, r394, r396, r397, wr_id, td_e, tm_e, pu_n, pu_s, up_s, up_k, up_a, ↓reduceIte, Int.reduceLT, Int.reduceLE, Int.reduceEq, Int.reduceNeg, Int.reduceAdd, Int.reduceSub, Int.reduceMul, Int.reduceMod, Int.reduceDiv, Int.cast_ofNat_Int, not_true_eq_false, not_false_eq_true, Int.reduceTDiv, Int.reduceTMod, c_isIn, l43, e43, if_pos, if_neg]
          exact hK
      · rw [if_neg (by omega), if_neg hkn] at hK
        simp (disch := first | assumption | exact isL_i | exact isL_r | exact isL_n | exact i01a | exact i01b | omega) only [K172_0, K172_1, K172_2, K172_3, K172_6, K172_9, K172_10, K172_11, K172_12, K172_13, K172_14, K172_17, K172_20, K172_22, K172_23, K172_24, K172_25, K172_28, K172_30, r10, r14, r15, r16, r113, r114, r115, r116, r22, r122, r142, r162, r00, r01, r02, r03, r372, r390, r391, r392, r393, r394, r396, r397, n2, n3, n7, n8, n9, n10, n11, n12, t0, t1, t3, u0, u1, u3, p0, p1, p3, b0, b1, b3, wr_id, td_e, tm_e, pu_n, pu_s, up_s, up_k, up_a, ↓reduceIte, Int.reduceLT, Int.reduceLE, Int.reduceEq, Int.reduceNeg, Int.reduceAdd, Int.reduceSub, Int.reduceMul, Int.reduceMod, Int.reduceDiv, Int.cast_ofNat_Int, not_true_eq_false, not_false_eq_true, Int.reduceTDiv, Int.reduceTMod, c_within, if_pos, if_neg]
        exact hK mi hR Sc.rf
    · rw [if_neg h5] at hK
      simp (disch := first | assumption | exact isL_i | exact isL_r | exact isL_n | exact i01a | exact i01b | omega) only [K172_0, K172_1, K172_2, K172_3, K172_6, K172_9, K172_10, K172_11, K172_12, K172_13, K172_14, K172_17, K172_20, K172_22, K172_23, K172_24, K172_25, K172_28, K172_30, r10, r14, r15, r16, r113, r114, r115, r116, r22, r122, r142, r162, r00, r01, r02, r03, r372, r390, r391, r392, r393, r394, r396, r397, n2, n3, n7, n8, n9, n10, n11, n12, t0, t1, t3, u0, u1, u3, p0, p1, p3, b0, b1, b3, wr_id, td_e, tm_e, pu_n, pu_s, up_s, up_k, up_a, ↓reduceIte, Int.reduceLT, Int.reduceLE, Int.reduceEq, Int.reduceNeg, Int.reduceAdd, Int.reduceSub, Int.reduceMul, Int.reduceMod, Int.reduceDiv, Int.cast_ofNat_Int, not_true_eq_false, not_false_eq_true, Int.reduceTDiv, Int.reduceTMod, c_within, if_pos, if_neg]
      exact hK mi hR Sc.rf
  · rw [if_neg hk] at hK
    simp (disch := first | assumption | exact isL_i | exact isL_r | exact isL_n | exact i01a | exact i01b | omega) only [K172_0, K172_1, K172_2, K172_3, K172_6, K172_9, K172_10, K172_11, K172_12, K172_13, K172_14, K172_17, K172_20, K172_22, K172_23, K172_24, K172_25, K172_28, K172_30, r10, r14, r15, r16, r113, r114, r115, r116, r22, r122, r142, r162, r00, r01, r02, r03, r372, r390, r391, r392, r393, r394, r396, r397, n2, n3, n7, n8, n9, n10, n11, n12, t0, t1, t3, u0, u1, u3, p0, p1, p3, b0, b1, b3, wr_id, td_e, tm_e, pu_n, pu_s, up_s, up_k, up_a, ↓reduceIte, Int.reduceLT, Int.reduceLE, Int.reduceEq, Int.reduceNeg, Int.reduceAdd, Int.reduceSub, Int.reduceMul, Int.reduceMod, Int.reduceDiv, Int.cast_ofNat_Int, not_true_eq_false, not_false_eq_true, Int.reduceTDiv, Int.reduceTMod, c_within, if_pos, if_neg]
    exact hK mi hR Sc.rf
theorem c_aim_lp (hC : ShC G) (hW : WfA s) (hn0 : 0 ≤ n) (hn5 : n ≤ 3) : ∀ (m : Nat) (mi : Mi) (c : Int) (b : Int × Int) (x6 : Option PV), isL x6 = false → c + m = 24 → 0 ≤ c → -1 ≤ b.2 → RS 1 s G mi → FSn s hz n (s 11).toNat mi →
    (∀ mi', RS 1 s G mi' → Sc kL mi mi' → K (some (pI (if w = 0 then (aimL s hz n.toNat m c b).1 else (aimL s hz n.toNat m c b).2))) G mi') →
    Ok (d + 12) 173 49 [some (pR (some 0)), some (pI n), some (pI w), some (pI b.1), some (pI b.2), some (pI c), x6] [] G mi K := by
  obtain ⟨⟨⟨k1, k2, k3, l3, k9, l9, k10, l10, k11, l11⟩, ⟨k12, k13, l13, k14, k15, l15, k16, k17, l17, k18, l18⟩, ⟨r10, r14, r15, r16, r113, r114, r115, r116, r22, r122, r142, r162⟩⟩, -, ⟨⟨k0, r00, r01, r02, r03⟩, ⟨k37, r372, k38, l38⟩, ⟨k39, r390, r391, r392, r393, r394, r396, r397⟩, ⟨k40, l40, k41, l41, k42, l42, k43, l43, k44, l44, k45, l45⟩⟩⟩ := id hC
  obtain ⟨⟨⟨z0, z1, z8, z9, z10, z11, z12, z13, z14, z15, z16⟩, hh01, hT, hz17⟩, hWV, hWD, hWB, hWP, hWT, hWZ, hWF, hWK⟩ := id hW
  intro m
  induction m with
  | zero =>
    intro mi c b x6 r6 hc c0 hb hR hF hK
    have hK := hK mi hR Sc.rf
    simp only [aimL] at hK
    rw [K173_49]
    by_cases hw : w = 0
    · rw [if_pos hw] at hK
      simp (disch := first | assumption | exact isL_i | exact isL_r | exact isL_n | exact i01a | exact i01b | omega) only [K173_51, K173_53, K173_88, K173_89, K173_92, K173_93, K173_96, K173_98, wr_id, td_e, tm_e, pu_n, pu_s, up_s, up_k, up_a, ↓reduceIte, Int.reduceLT, Int.reduceLE, Int.reduceEq, Int.reduceNeg, Int.reduceAdd, Int.reduceSub, Int.reduceMul, Int.reduceMod, Int.reduceDiv, Int.cast_ofNat_Int, not_true_eq_false, not_false_eq_true, Int.reduceTDiv, Int.reduceTMod, if_pos, if_neg]
      exact hK
    · rw [if_neg hw] at hK
      simp (disch := first | assumption | exact isL_i | exact isL_r | exact isL_n | exact i01a | exact i01b | omega) only [K173_51, K173_53, K173_88, K173_89, K173_92, K173_93, K173_96, K173_98, wr_id, td_e, tm_e, pu_n, pu_s, up_s, up_k, up_a, ↓reduceIte, Int.reduceLT, Int.reduceLE, Int.reduceEq, Int.reduceNeg, Int.reduceAdd, Int.reduceSub, Int.reduceMul, Int.reduceMod, Int.reduceDiv, Int.cast_ofNat_Int, not_true_eq_false, not_false_eq_true, Int.reduceTDiv, Int.reduceTMod, if_pos, if_neg]
      exact hK
  | succ m ih =>
    intro mi c b x6 r6 hc c0 hb hR hF hK
    simp only [aimL] at hK
    rw [K173_49]
    simp (disch := first | assumption | exact isL_i | exact isL_r | exact isL_n | exact i01a | exact i01b | omega) only [K173_51, K173_53, K173_56, K173_57, K173_60, K173_62, r10, r14, r15, r16, r113, r114, r115, r116, r22, r122, r142, r162, r00, r01, r02, r03, r372, r390, r391, r392, r393, r394, r396, r397, wr_id, td_e, tm_e, pu_n, pu_s, up_s, up_k, up_a, ↓reduceIte, Int.reduceLT, Int.reduceLE, Int.reduceEq, Int.reduceNeg, Int.reduceAdd, Int.reduceSub, Int.reduceMul, Int.reduceMod, Int.reduceDiv, Int.cast_ofNat_Int, not_true_eq_false, not_false_eq_true, Int.reduceTDiv, Int.reduceTMod, if_pos, if_neg]
    rw [K173_63 k39]
    refine c_most (d := d + 1) hC hR hW hn0 (by omega) (Int.le_refl n) (by omega) c0 (by omega) hF fun m2 hB2 hs2 => ?_
    by_cases hb2 : b.2 < (bstL (sH s 1 c) hz n.toNat).2
    · rw [if_pos hb2] at hK
      simp (disch := first | assumption | exact isL_i | exact isL_r | exact isL_n | exact i01a | exact i01b | omega) only [K173_66, K173_68, K173_70, K173_72, K173_75, K173_77, K173_78, K173_80, K173_82, K173_85, wr_id, td_e, tm_e, pu_n, pu_s, up_s, up_k, up_a, ↓reduceIte, Int.reduceLT, Int.reduceLE, Int.reduceEq, Int.reduceNeg, Int.reduceAdd, Int.reduceSub, Int.reduceMul, Int.reduceMod, Int.reduceDiv, Int.cast_ofNat_Int, not_true_eq_false, not_false_eq_true, Int.reduceTDiv, Int.reduceTMod, if_pos, if_neg]
      exact ih m2 (c + 1) (c, (bstL (sH s 1 c) hz n.toNat).2) _ isL_i (by omega) (by omega) (by dsimp only; omega) (hR.tt hs2) (hF.sc (hs2.1.wk (by decide))) (fun mi' h1 h2 => hK mi' h1 (hs2.kk.tr h2))
    · rw [if_neg hb2] at hK
      simp (disch := first | assumption | exact isL_i | exact isL_r | exact isL_n | exact i01a | exact i01b | omega) only [K173_66, K173_68, K173_70, K173_72, K173_75, K173_77, K173_78, K173_80, K173_82, K173_85, wr_id, td_e, tm_e, pu_n, pu_s, up_s, up_k, up_a, ↓reduceIte, Int.reduceLT, Int.reduceLE, Int.reduceEq, Int.reduceNeg, Int.reduceAdd, Int.reduceSub, Int.reduceMul, Int.reduceMod, Int.reduceDiv, Int.cast_ofNat_Int, not_true_eq_false, not_false_eq_true, Int.reduceTDiv, Int.reduceTMod, if_pos, if_neg]
      exact ih m2 (c + 1) b _ isL_i (by omega) (by omega) hb (hR.tt hs2) (hF.sc (hs2.1.wk (by decide))) (fun mi' h1 h2 => hK mi' h1 (hs2.kk.tr h2))
theorem aimL_b (hW : WfA s) {n m : Nat} : aimL s hz n (m + 1) 0 (-1, -1) = aimL s hz n (m + 1) 0 (0, -1) := by
  simp only [aimL]
  have h := (bst_g (hz := hz) (m := n) (WfA_1 (c := 0) hW (by decide) (by decide))).1
  rw [if_pos (show (-1 : Int) < _ by omega), if_pos (show (-1 : Int) < _ by omega)]
theorem c_aim (hC : ShC G) (hR : RS 1 s G mi) (hW : WfA s) (hK : ∀ mi', RS 1 s G mi' → Sc kL mi mi' → K (some (pI (oAim s n k))) G mi') : OkC (d + 12) 173 [pR (some 0), pI n, pI k] G mi K := by
  obtain ⟨⟨⟨k1, k2, k3, l3, k9, l9, k10, l10, k11, l11⟩, ⟨k12, k13, l13, k14, k15, l15, k16, k17, l17, k18, l18⟩, ⟨r10, r14, r15, r16, r113, r114, r115, r116, r22, r122, r142, r162⟩⟩, -, ⟨⟨k0, r00, r01, r02, r03⟩, ⟨k37, r372, k38, l38⟩, ⟨k39, r390, r391, r392, r393, r394, r396, r397⟩, ⟨k40, l40, k41, l41, k42, l42, k43, l43, k44, l44, k45, l45⟩⟩⟩ := id hC
  obtain ⟨⟨n2, n3, n7, n8, n9, n10, n11, n12⟩, ⟨hm1, hm2⟩, ⟨⟨t0, t1, t3⟩, ht4⟩, ⟨⟨u0, u1, u3⟩, hu4⟩, ⟨⟨p0, p1, p3⟩, hp4⟩, ⟨⟨b0, b1, b3⟩, hb4⟩⟩ := hR.o
  obtain ⟨⟨⟨z0, z1, z8, z9, z10, z11, z12, z13, z14, z15, z16⟩, hh01, hT, hz17⟩, hWV, hWD, hWB, hWP, hWT, hWZ, hWF, hWK⟩ := id hW
  obtain ⟨V, v1, v2, v3, ⟨v4, v5, v6⟩, -⟩ := hR.2.2
  have kV := v3.1
  have v6 : mi V 2 = hazF s := v6
  rw [E173]
  unfold oAim at hK
  by_cases hk : 0 ≤ k ∧ k ≤ 1
  · rw [if_pos hk] at hK
    by_cases h5 : 1 ≤ n ∧ n ≤ 3
    · rw [if_pos h5, aimL_b hW] at hK
      simp (disch := first | assumption | exact isL_i | exact isL_r | exact isL_n | exact i01a | exact i01b | omega) only [K173_0, K173_1, K173_2, K173_3, K173_6, K173_9, K173_10, K173_11, K173_12, K173_13, K173_14, K173_17, K173_20, K173_22, K173_23, K173_24, K173_27, K173_28, K173_29, K173_32, K173_35, r10, r14, r15, r16, r113, r114, r115, r116, r22, r122, r142, r162, r00, r01, r02, r03, r372, r390, r391, r392, r393, r394, r396, r397, n2, n3, n7, n8, n9, n10, n11, n12, t0, t1, t3, u0, u1, u3, p0, p1, p3, b0, b1, b3, wr_id, td_e, tm_e, pu_n, pu_s, up_s, up_k, up_a, ↓reduceIte, Int.reduceLT, Int.reduceLE, Int.reduceEq, Int.reduceNeg, Int.reduceAdd, Int.reduceSub, Int.reduceMul, Int.reduceMod, Int.reduceDiv, Int.cast_ofNat_Int, not_true_eq_false, not_false_eq_true, Int.reduceTDiv, Int.reduceTMod, c_within, v1, v6, if_pos, if_neg]
      rw [K173_38 k39]
      refine c_foresee hC hR hW (by omega) (by omega) fun m1 hF1 hs1 => ?_
      have hR1 := hR.q (hs1.wk (by decide))
      simp (disch := first | assumption | exact isL_i | exact isL_r | exact isL_n | exact i01a | exact i01b | omega) only [K173_41, K173_42, K173_43, K173_44, K173_46, K173_47, wr_id, td_e, tm_e, pu_n, pu_s, up_s, up_k, up_a, ↓reduceIte, Int.reduceLT, Int.reduceLE, Int.reduceEq, Int.reduceNeg, Int.reduceAdd, Int.reduceSub, Int.reduceMul, Int.reduceMod, Int.reduceDiv, Int.cast_ofNat_Int, not_true_eq_false, not_false_eq_true, Int.reduceTDiv, Int.reduceTMod, pu_n]
      exact c_aim_lp hC hW (by omega) h5.2 24 m1 0 (0, -1) none isL_n (by decide) (by decide) (by decide) hR1 hF1 (fun mi' h1 h2 => hK mi' h1 (Sc.tr (hs1.wk (by decide)) h2))
    · rw [if_neg h5] at hK
      simp (disch := first | assumption | exact isL_i | exact isL_r | exact isL_n | exact i01a | exact i01b | omega) only [K173_0, K173_1, K173_2, K173_3, K173_6, K173_9, K173_10, K173_11, K173_12, K173_13, K173_14, K173_17, K173_20, K173_22, r10, r14, r15, r16, r113, r114, r115, r116, r22, r122, r142, r162, r00, r01, r02, r03, r372, r390, r391, r392, r393, r394, r396, r397, n2, n3, n7, n8, n9, n10, n11, n12, t0, t1, t3, u0, u1, u3, p0, p1, p3, b0, b1, b3, wr_id, td_e, tm_e, pu_n, pu_s, up_s, up_k, up_a, ↓reduceIte, Int.reduceLT, Int.reduceLE, Int.reduceEq, Int.reduceNeg, Int.reduceAdd, Int.reduceSub, Int.reduceMul, Int.reduceMod, Int.reduceDiv, Int.cast_ofNat_Int, not_true_eq_false, not_false_eq_true, Int.reduceTDiv, Int.reduceTMod, c_within, if_pos, if_neg]
      exact hK mi hR Sc.rf
  · rw [if_neg hk] at hK
    simp (disch := first | assumption | exact isL_i | exact isL_r | exact isL_n | exact i01a | exact i01b | omega) only [K173_0, K173_1, K173_2, K173_3, K173_6, K173_9, K173_10, K173_11, K173_12, K173_13, K173_14, K173_17, K173_20, K173_22, r10, r14, r15, r16, r113, r114, r115, r116, r22, r122, r142, r162, r00, r01, r02, r03, r372, r390, r391, r392, r393, r394, r396, r397, n2, n3, n7, n8, n9, n10, n11, n12, t0, t1, t3, u0, u1, u3, p0, p1, p3, b0, b1, b3, wr_id, td_e, tm_e, pu_n, pu_s, up_s, up_k, up_a, ↓reduceIte, Int.reduceLT, Int.reduceLE, Int.reduceEq, Int.reduceNeg, Int.reduceAdd, Int.reduceSub, Int.reduceMul, Int.reduceMod, Int.reduceDiv, Int.cast_ofNat_Int, not_true_eq_false, not_false_eq_true, Int.reduceTDiv, Int.reduceTMod, c_within, if_pos, if_neg]
    exact hK mi hR Sc.rf
end CL
