/-! ===== the class: odds, tick, done ===== -/
section CL
variable {d : Nat} {G : Gh} {mi : Mi} {K : Option PV → Gh → Mi → Prop} {o o' T : Nat} {s s' : Int → Int} {p t v w a b c k n g q x lim hm pc ah ce u l hz y : Int} {L : List Int}
theorem c_odds_lp (hC : ShC G) (hW : WfA s) (hn0 : 0 ≤ n) (hn3 : n ≤ 3) (hw : 0 ≤ w) (hw' : w ≤ 1) : ∀ (m : Nat) (mi : Mi) (h u : Int), h + m = 4 → 0 ≤ h → 0 ≤ u → u ≤ h → RS 1 s G mi →
    (∀ mi', RS 1 s G mi' → Sc kL mi mi' → K (some (pL ((if w = 0 then oddL s n.toNat q m h u else 4) / euF 6 (oddL s n.toNat q m h u) 4))) G mi') →
    Ok (d + 12) 179 39 [some (pR (some 0)), some (pI n), some (pI q), some (pI w), some (pI u), some (pI h)] [] G mi K := by
  obtain ⟨⟨⟨k1, k2, k3, l3, k9, l9, k10, l10, k11, l11⟩, ⟨k12, k13, l13, k14, k15, l15, k16, k17, l17, k18, l18⟩, ⟨r10, r14, r15, r16, r113, r114, r115, r116, r22, r122, r142, r162⟩⟩, -, ⟨⟨k0, r00, r01, r02, r03⟩, ⟨k37, r372, k38, l38⟩, ⟨k39, r390, r391, r392, r393, r394, r396, r397⟩, ⟨k40, l40, k41, l41, k42, l42, k43, l43, k44, l44, k45, l45⟩⟩⟩ := id hC
  obtain ⟨⟨⟨z0, z1, z8, z9, z10, z11, z12, z13, z14, z15, z16⟩, hh01, hT, hz17⟩, hWV, hWD, hWB, hWP, hWT, hWZ, hWF, hWK⟩ := id hW
  intro m
  induction m with
  | zero =>
    intro mi h u hh h0 u0 u1 hR hK
    have hK := hK mi hR Sc.rf
    simp only [oddL] at hK
    rw [K179_39]
    simp (disch := first | assumption | exact isL_i | exact isL_r | exact isL_n | exact i01a | exact i01b | omega) only [K179_41, K179_42, K179_83, K179_85, K179_86, K179_87, K179_90, wr_id, td_e, tm_e, pu_n, pu_s, up_s, up_k, up_a, ↓reduceIte, Int.reduceLT, Int.reduceLE, Int.reduceEq, Int.reduceNeg, Int.reduceAdd, Int.reduceSub, Int.reduceMul, Int.reduceMod, Int.reduceDiv, Int.cast_ofNat_Int, not_true_eq_false, not_false_eq_true, Int.reduceTDiv, Int.reduceTMod, c_partOf, if_pos, if_neg]
    exact hK
  | succ m ih =>
    intro mi h u hh h0 u0 u1 hR hK
    simp only [oddL] at hK
    rw [K179_39]
    simp (disch := first | assumption | exact isL_i | exact isL_r | exact isL_n | exact i01a | exact i01b | omega) only [K179_41, K179_42, K179_45, K179_46, K179_49, K179_50, r10, r14, r15, r16, r113, r114, r115, r116, r22, r122, r142, r162, r00, r01, r02, r03, r372, r390, r391, r392, r393, r394, r396, r397, wr_id, td_e, tm_e, pu_n, pu_s, up_s, up_k, up_a, ↓reduceIte, Int.reduceLT, Int.reduceLE, Int.reduceEq, Int.reduceNeg, Int.reduceAdd, Int.reduceSub, Int.reduceMul, Int.reduceMod, Int.reduceDiv, Int.cast_ofNat_Int, not_true_eq_false, not_false_eq_true, Int.reduceTDiv, Int.reduceTMod, if_pos, if_neg]
    rw [K179_52 k39]
    refine c_foresee (hz := h) hC hR hW hn0 (by omega) fun m1 hF1 hs1 => ?_
    have hR1 := hR.q (hs1.wk (by decide))
    obtain ⟨⟨-, -, -, -, a9, -⟩, -⟩ := hR1.o
    simp (disch := first | assumption | exact isL_i | exact isL_r | exact isL_n | exact i01a | exact i01b | omega) only [K179_55, K179_56, K179_59, K179_60, K179_63, K179_66, r10, r14, r15, r16, r113, r114, r115, r116, r22, r122, r142, r162, r00, r01, r02, r03, r372, r390, r391, r392, r393, r394, r396, r397, wr_id, td_e, tm_e, pu_n, pu_s, up_s, up_k, up_a, ↓reduceIte, Int.reduceLT, Int.reduceLE, Int.reduceEq, Int.reduceNeg, Int.reduceAdd, Int.reduceSub, Int.reduceMul, Int.reduceMod, Int.reduceDiv, Int.cast_ofNat_Int, not_true_eq_false, not_false_eq_true, Int.reduceTDiv, Int.reduceTMod, a9, pu_n]
    rw [K179_67 k39]
    refine c_most (d := d + 1) hC hR1 hW hn0 (by omega) (Int.le_refl n) (by omega) z1.1 z1.2 hF1 fun m2 hB2 hs2 => ?_
    rw [sH_id] at hB2 ⊢
    have hsk : Sc kL mi m2 := Sc.tr (hs1.wk (by decide)) hs2.kk
    by_cases hb : q ≤ (bstL s h n.toNat).2
    · rw [if_pos hb] at hK
      simp (disch := first | assumption | exact isL_i | exact isL_r | exact isL_n | exact i01a | exact i01b | omega) only [K179_70, K179_71, K179_74, K179_77, K179_80, wr_id, td_e, tm_e, pu_n, pu_s, up_s, up_k, up_a, ↓reduceIte, Int.reduceLT, Int.reduceLE, Int.reduceEq, Int.reduceNeg, Int.reduceAdd, Int.reduceSub, Int.reduceMul, Int.reduceMod, Int.reduceDiv, Int.cast_ofNat_Int, not_true_eq_false, not_false_eq_true, Int.reduceTDiv, Int.reduceTMod, if_pos, if_neg]
      exact ih m2 (h + 1) (u + 1) (by omega) (by omega) (by omega) (by omega) (hR1.tt hs2) (fun mi' g1 g2 => hK mi' g1 (hsk.tr g2))
    · rw [if_neg hb] at hK
      simp (disch := first | assumption | exact isL_i | exact isL_r | exact isL_n | exact i01a | exact i01b | omega) only [K179_70, K179_71, K179_74, K179_77, K179_80, wr_id, td_e, tm_e, pu_n, pu_s, up_s, up_k, up_a, ↓reduceIte, Int.reduceLT, Int.reduceLE, Int.reduceEq, Int.reduceNeg, Int.reduceAdd, Int.reduceSub, Int.reduceMul, Int.reduceMod, Int.reduceDiv, Int.cast_ofNat_Int, not_true_eq_false, not_false_eq_true, Int.reduceTDiv, Int.reduceTMod, if_pos, if_neg]
      exact ih m2 (h + 1) u (by omega) (by omega) (by omega) (by omega) (hR1.tt hs2) (fun mi' g1 g2 => hK mi' g1 (hsk.tr g2))
theorem c_odds (hC : ShC G) (hR : RS 1 s G mi) (hW : WfA s) (hK : ∀ mi', RS 1 s G mi' → Sc kL mi mi' → K (some (pL (oOdds s n q w))) G mi') : OkC (d + 12) 179 [pR (some 0), pI n, pI q, pI w] G mi K := by
  rw [E179]
  unfold oOdds at hK
  by_cases h1 : 0 ≤ n ∧ n ≤ 3
  · by_cases h2 : 0 ≤ q ∧ q ≤ 9999
    · by_cases h3 : 0 ≤ w ∧ w ≤ 1
      · rw [if_pos ⟨h1, h2, h3⟩] at hK
        simp (disch := first | assumption | exact isL_i | exact isL_r | exact isL_n | exact i01a | exact i01b | omega) only [K179_0, K179_1, K179_2, K179_3, K179_6, K179_9, K179_10, K179_11, K179_14, K179_17, K179_20, K179_21, K179_22, K179_23, K179_26, K179_29, K179_32, K179_33, K179_34, K179_36, K179_37, wr_id, td_e, tm_e, pu_n, pu_s, up_s, up_k, up_a, ↓reduceIte, Int.reduceLT, Int.reduceLE, Int.reduceEq, Int.reduceNeg, Int.reduceAdd, Int.reduceSub, Int.reduceMul, Int.reduceMod, Int.reduceDiv, Int.cast_ofNat_Int, not_true_eq_false, not_false_eq_true, Int.reduceTDiv, Int.reduceTMod, c_within, if_pos, if_neg]
        exact c_odds_lp hC hW h1.1 h1.2 h3.1 h3.2 4 mi 0 0 (by decide) (by decide) (by decide) (by decide) hR hK
      · rw [if_neg (fun h => h3 h.2.2)] at hK
        simp (disch := first | assumption | exact isL_i | exact isL_r | exact isL_n | exact i01a | exact i01b | omega) only [K179_0, K179_1, K179_2, K179_3, K179_6, K179_9, K179_10, K179_11, K179_14, K179_17, K179_20, K179_21, K179_22, K179_23, K179_26, K179_29, K179_32, wr_id, td_e, tm_e, pu_n, pu_s, up_s, up_k, up_a, ↓reduceIte, Int.reduceLT, Int.reduceLE, Int.reduceEq, Int.reduceNeg, Int.reduceAdd, Int.reduceSub, Int.reduceMul, Int.reduceMod, Int.reduceDiv, Int.cast_ofNat_Int, not_true_eq_false, not_false_eq_true, Int.reduceTDiv, Int.reduceTMod, c_within, if_pos, if_neg]
        exact hK _ hR Sc.rf
    · rw [if_neg (fun h => h2 h.2.1)] at hK
      simp (disch := first | assumption | exact isL_i | exact isL_r | exact isL_n | exact i01a | exact i01b | omega) only [K179_0, K179_1, K179_2, K179_3, K179_6, K179_9, K179_10, K179_11, K179_14, K179_17, K179_20, K179_21, K179_22, K179_23, K179_26, K179_29, K179_32, wr_id, td_e, tm_e, pu_n, pu_s, up_s, up_k, up_a, ↓reduceIte, Int.reduceLT, Int.reduceLE, Int.reduceEq, Int.reduceNeg, Int.reduceAdd, Int.reduceSub, Int.reduceMul, Int.reduceMod, Int.reduceDiv, Int.cast_ofNat_Int, not_true_eq_false, not_false_eq_true, Int.reduceTDiv, Int.reduceTMod, c_within, if_pos, if_neg]
      exact hK _ hR Sc.rf
  · rw [if_neg (fun h => h1 h.1)] at hK
    simp (disch := first | assumption | exact isL_i | exact isL_r | exact isL_n | exact i01a | exact i01b | omega) only [K179_0, K179_1, K179_2, K179_3, K179_6, K179_9, K179_10, K179_11, K179_14, K179_17, K179_20, K179_21, K179_22, K179_23, K179_26, K179_29, K179_32, wr_id, td_e, tm_e, pu_n, pu_s, up_s, up_k, up_a, ↓reduceIte, Int.reduceLT, Int.reduceLE, Int.reduceEq, Int.reduceNeg, Int.reduceAdd, Int.reduceSub, Int.reduceMul, Int.reduceMod, Int.reduceDiv, Int.cast_ofNat_Int, not_true_eq_false, not_false_eq_true, Int.reduceTDiv, Int.reduceTMod, c_within, if_pos, if_neg]
    exact hK _ hR Sc.rf
theorem c_tick (hC : ShC G) (hR : RS 1 s G mi) (hW : WfA s) (hK : ∀ mi', RS 1 (oTick s k).2 G mi' → Sc kL mi mi' → K (some (pI (oTick s k).1)) G mi') : OkC (d + 12) 170 [pR (some 0), pI k] G mi K := by
  obtain ⟨⟨⟨k1, k2, k3, l3, k9, l9, k10, l10, k11, l11⟩, ⟨k12, k13, l13, k14, k15, l15, k16, k17, l17, k18, l18⟩, ⟨r10, r14, r15, r16, r113, r114, r115, r116, r22, r122, r142, r162⟩⟩, -, ⟨⟨k0, r00, r01, r02, r03⟩, ⟨k37, r372, k38, l38⟩, ⟨k39, r390, r391, r392, r393, r394, r396, r397⟩, ⟨k40, l40, k41, l41, k42, l42, k43, l43, k44, l44, k45, l45⟩⟩⟩ := id hC
  obtain ⟨⟨n2, n3, n7, n8, n9, n10, n11, n12⟩, ⟨hm1, hm2⟩, ⟨⟨t0, t1, t3⟩, ht4⟩, ⟨⟨u0, u1, u3⟩, hu4⟩, ⟨⟨p0, p1, p3⟩, hp4⟩, ⟨⟨b0, b1, b3⟩, hb4⟩⟩ := hR.o
  obtain ⟨⟨⟨z0, z1, z8, z9, z10, z11, z12, z13, z14, z15, z16⟩, hh01, hT, hz17⟩, hWV, hWD, hWB, hWP, hWT, hWZ, hWF, hWK⟩ := id hW
  obtain ⟨V, v1, v2, v3, ⟨v4, v5, v6⟩, -⟩ := hR.2.2
  have kV := v3.1
  have v6 : mi V 2 = hazF s := v6
  rw [E170]
  unfold oTick at hK
  by_cases hk : 0 ≤ k ∧ k ≤ 4
  · rw [if_pos hk] at hK
    by_cases c1 : s 8 = 0
    · rw [if_pos (Or.inl c1)] at hK
      simp (disch := first | assumption | exact isL_i | exact isL_r | exact isL_n | exact i01a | exact i01b | omega) only [K170_0, K170_1, K170_2, K170_3, K170_6, K170_9, K170_10, K170_11, K170_12, K170_15, K170_18, K170_21, K170_22, K170_25, K170_28, K170_31, K170_34, K170_36, r10, r14, r15, r16, r113, r114, r115, r116, r22, r122, r142, r162, r00, r01, r02, r03, r372, r390, r391, r392, r393, r394, r396, r397, n2, n3, n7, n8, n9, n10, n11, n12, t0, t1, t3, u0, u1, u3, p0, p1, p3, b0, b1, b3, wr_id, td_e, tm_e, pu_n, pu_s, up_s, up_k, up_a, ↓reduceIte, Int.reduceLT, Int.reduceLE, Int.reduceEq, Int.reduceNeg, Int.reduceAdd, Int.reduceSub, Int.reduceMul, Int.reduceMod, Int.reduceDiv, Int.cast_ofNat_Int, not_true_eq_false, not_false_eq_true, Int.reduceTDiv, Int.reduceTMod, c_within, if_pos, if_neg]
      exact hK _ hR Sc.rf
    · by_cases c2 : s 0 = 9999
      · rw [if_pos (Or.inr c2)] at hK
        simp (disch := first | assumption | exact isL_i | exact isL_r | exact isL_n | exact i01a | exact i01b | omega) only [K170_0, K170_1, K170_2, K170_3, K170_6, K170_9, K170_10, K170_11, K170_12, K170_15, K170_18, K170_21, K170_22, K170_25, K170_28, K170_31, K170_34, K170_36, r10, r14, r15, r16, r113, r114, r115, r116, r22, r122, r142, r162, r00, r01, r02, r03, r372, r390, r391, r392, r393, r394, r396, r397, n2, n3, n7, n8, n9, n10, n11, n12, t0, t1, t3, u0, u1, u3, p0, p1, p3, b0, b1, b3, wr_id, td_e, tm_e, pu_n, pu_s, up_s, up_k, up_a, ↓reduceIte, Int.reduceLT, Int.reduceLE, Int.reduceEq, Int.reduceNeg, Int.reduceAdd, Int.reduceSub, Int.reduceMul, Int.reduceMod, Int.reduceDiv, Int.cast_ofNat_Int, not_true_eq_false, not_false_eq_true, Int.reduceTDiv, Int.reduceTMod, c_within, if_pos, if_neg]
        exact hK _ hR Sc.rf
      · rw [if_neg (fun h => h.elim c1 c2)] at hK
        dsimp only at hK
        simp (disch := first | assumption | exact isL_i | exact isL_r | exact isL_n | exact i01a | exact i01b | omega) only [K170_0, K170_1, K170_2, K170_3, K170_6, K170_9, K170_10, K170_11, K170_12, K170_15, K170_18, K170_21, K170_22, K170_25, K170_28, K170_31, K170_34, K170_36, K170_37, K170_38, K170_41, K170_42, K170_43, K170_46, K170_49, r10, r14, r15, r16, r113, r114, r115, r116, r22, r122, r142, r162, r00, r01, r02, r03, r372, r390, r391, r392, r393, r394, r396, r397, n2, n3, n7, n8, n9, n10, n11, n12, t0, t1, t3, u0, u1, u3, p0, p1, p3, b0, b1, b3, wr_id, td_e, tm_e, pu_n, pu_s, up_s, up_k, up_a, ↓reduceIte, Int.reduceLT, Int.reduceLE, Int.reduceEq, Int.reduceNeg, Int.reduceAdd, Int.reduceSub, Int.reduceMul, Int.reduceMod, Int.reduceDiv, Int.cast_ofNat_Int, not_true_eq_false, not_false_eq_true, Int.reduceTDiv, Int.reduceTMod, c_within, v1, v6, if_pos, if_neg]
        rw [K170_52 k39]
        refine c_foresee (n := 1) hC hR hW (by decide) (by decide) fun m1 hF1 hs1 => ?_
        have hR1 := hR.q (hs1.wk (by decide))
        obtain ⟨⟨a2, a3, a7, a8, a9, a10, a11, a12⟩, -⟩ := hR1.o
        obtain ⟨t1, t2⟩ := brt_in (k := k) z1.1 z1.2
        have hA : Adv s s 0 := Adv.rf z1 hh01
        have hF2 : FSn s (hazF s) 1 (s 11).toNat (up m1 1 9 (brt (s 1) k)) := by
          unfold FSn
          rw [up_a (by decide), up_a (by decide)]
          exact hF1
        have h40 : m1 40 (24 + brt (s 1) k) = sL s (hazF s) (s 11).toNat 1 (brt (s 1) k) := hF1.1 1 _ (by decide) (by decide) t1 (by omega)
        have eG : gaT s (hazF s) k = gaR s (hazF s) (s 0 + 1) (brt (s 1) k) (s 11).toNat 0 := by
          unfold gaT
          rw [if_neg (by omega)]
        have eH : iOr (hadB s) (sL s (hazF s) (s 11).toNat 1 (brt (s 1) k)) = hadB (gs s (hazF s) k) := by
          have := adv_had (hz := hazF s) (c := brt (s 1) k) hA z11.1 z11.2
          rw [Int.zero_add] at this
          rw [this]
          unfold gs
          rw [if_neg (by omega)]
        have hgb := gaT_bd hW.g (hz := hazF s) (k := k)
        have hga := c_gainAt (d := d + 9) (K := fun r G' mi' => Ok (d + 12) 170 95 [some (pR (some 0)), some (pI k), none] (pu r []) G' mi' K) hC hW hF2 hA (by decide) (by decide) (by decide) t1 t2
        rw [← eG, Int.zero_add] at hga
        simp (disch := first | assumption | exact isL_i | exact isL_r | exact isL_n | exact i01a | exact i01b | omega) only [K170_55, K170_56, K170_59, K170_60, K170_63, K170_66, K170_67, K170_70, K170_73, K170_74, K170_77, K170_78, K170_79, K170_82, K170_85, K170_86, K170_89, r10, r14, r15, r16, r113, r114, r115, r116, r22, r122, r142, r162, r00, r01, r02, r03, r372, r390, r391, r392, r393, r394, r396, r397, wr_id, td_e, tm_e, pu_n, pu_s, up_s, up_k, up_a, ↓reduceIte, Int.reduceLT, Int.reduceLE, Int.reduceEq, Int.reduceNeg, Int.reduceAdd, Int.reduceSub, Int.reduceMul, Int.reduceMod, Int.reduceDiv, Int.cast_ofNat_Int, not_true_eq_false, not_false_eq_true, Int.reduceTDiv, Int.reduceTMod, a9, a7, pu_n, c_moved]
        rw [K170_92 k39]
        refine hga.mpr ?_
        have hsc : Sc kL mi m1 := hs1.wk (by decide)
        have est := gs_st (s := s) (hz := hazF s) (k := k) z11.2
        have e0 := gs_0 (s := s) (hz := hazF s) (k := k)
        have e1 : gs s (hazF s) k 1 = brt (s 1) k := by
          unfold gs
          rw [if_neg (by omega)]
          unfold gsp
          rw [if_neg (by decide), if_pos rfl]
        have hfin : ∀ v, v = gainM s (gaT s (hazF s) k) → RS 1 (sH (sH (gs s (hazF s) k) 10 (gainM s (gaT s (hazF s) k))) 8 (s 8 - 1)) G (up (up (up (up (up m1 1 9 (brt (s 1) k)) 1 7 (hadB (gs s (hazF s) k))) 1 12 v) 1 10 (s 8 - 1)) 1 8 (s 0 + 1)) := by
          intro v hv
          refine hR1.nn hW ((((((Sc.rf.u (by decide)).u (by decide)).u (by decide)).u (by decide)).u (by decide))) (fun j h0 h1 => ?_) ?_
          · rw [sH_k (by omega), sH_k (by omega)]; exact est j (by omega)
          · have x12 := est 12 (by decide)
            have x11 := est 11 (by decide)
            have x9 := est 9 (by decide)
            refine ⟨?_, ?_, ?_, ?_, ?_, ?_, ?_, ?_⟩ <;> simp (disch := omega) only [up_k, up_s, up_a, sH_k, sH_s, hadB_k, a2, a3, a7, a8, a9, a10, a11, a12, e0, e1, x12, x11, x9, hv]
        have hsf : ∀ v, Sc kL mi (up (up (up (up (up m1 1 9 (brt (s 1) k)) 1 7 (hadB (gs s (hazF s) k))) 1 12 v) 1 10 (s 8 - 1)) 1 8 (s 0 + 1)) := fun v => ((((hsc.u (by decide)).u (by decide)).u (by decide)).u (by decide)).u (by decide)
        by_cases c3 : 9999999 < s 10 + gaT s (hazF s) k
        · have hgm : (9999999 : Int) = gainM s (gaT s (hazF s) k) := by unfold gainM; rw [if_pos c3]
          simp (disch := first | assumption | exact isL_i | exact isL_r | exact isL_n | exact i01a | exact i01b | omega) only [K170_95, K170_96, K170_97, K170_100, K170_100i, K170_101, K170_104, K170_105, K170_108, K170_109, K170_110, K170_113, K170_116, K170_119, K170_120, K170_123, K170_124, K170_127, K170_129, K170_130, K170_133, K170_136, K170_137, K170_138, K170_141, K170_144, K170_145, K170_148, K170_148i, K170_149, K170_152, K170_153, K170_154, K170_157, K170_158, K170_161, K170_161i, K170_162, K170_165, K170_166, K170_167, K170_170, K170_171, r10, r14, r15, r16, r113, r114, r115, r116, r22, r122, r142, r162, r00, r01, r02, r03, r372, r390, r391, r392, r393, r394, r396, r397, wr_id, td_e, tm_e, pu_n, pu_s, up_s, up_k, up_a, ↓reduceIte, Int.reduceLT, Int.reduceLE, Int.reduceEq, Int.reduceNeg, Int.reduceAdd, Int.reduceSub, Int.reduceMul, Int.reduceMod, Int.reduceDiv, Int.cast_ofNat_Int, not_true_eq_false, not_false_eq_true, Int.reduceTDiv, Int.reduceTMod, a7, a8, a9, a10, a11, a12, pu_n, c_seenAt hC, h40, eH, if_pos, if_neg]
          exact hK _ (hfin _ hgm) (hsf _)
        · by_cases c4 : s 10 + gaT s (hazF s) k = 9999999
          · have hgm : (9999999 : Int) = gainM s (gaT s (hazF s) k) := by unfold gainM; rw [if_neg c3, c4]
            simp (disch := first | assumption | exact isL_i | exact isL_r | exact isL_n | exact i01a | exact i01b | omega) only [K170_95, K170_96, K170_97, K170_100, K170_100i, K170_101, K170_104, K170_105, K170_108, K170_109, K170_110, K170_113, K170_116, K170_119, K170_120, K170_123, K170_124, K170_127, K170_129, K170_130, K170_133, K170_136, K170_137, K170_138, K170_141, K170_144, K170_145, K170_148, K170_148i, K170_149, K170_152, K170_153, K170_154, K170_157, K170_158, K170_161, K170_161i, K170_162, K170_165, K170_166, K170_167, K170_170, K170_171, r10, r14, r15, r16, r113, r114, r115, r116, r22, r122, r142, r162, r00, r01, r02, r03, r372, r390, r391, r392, r393, r394, r396, r397, wr_id, td_e, tm_e, pu_n, pu_s, up_s, up_k, up_a, ↓reduceIte, Int.reduceLT, Int.reduceLE, Int.reduceEq, Int.reduceNeg, Int.reduceAdd, Int.reduceSub, Int.reduceMul, Int.reduceMod, Int.reduceDiv, Int.cast_ofNat_Int, not_true_eq_false, not_false_eq_true, Int.reduceTDiv, Int.reduceTMod, a7, a8, a9, a10, a11, a12, pu_n, c_seenAt hC, h40, eH, c4, if_pos, if_neg]
            exact hK _ (hfin _ hgm) (hsf _)
          · have hgm : s 10 + gaT s (hazF s) k = gainM s (gaT s (hazF s) k) := by unfold gainM; rw [if_neg c3]
            simp (disch := first | assumption | exact isL_i | exact isL_r | exact isL_n | exact i01a | exact i01b | omega) only [K170_95, K170_96, K170_97, K170_100, K170_100i, K170_101, K170_104, K170_105, K170_108, K170_109, K170_110, K170_113, K170_116, K170_119, K170_120, K170_123, K170_124, K170_127, K170_129, K170_130, K170_133, K170_136, K170_137, K170_138, K170_141, K170_144, K170_145, K170_148, K170_148i, K170_149, K170_152, K170_153, K170_154, K170_157, K170_158, K170_161, K170_161i, K170_162, K170_165, K170_166, K170_167, K170_170, K170_171, r10, r14, r15, r16, r113, r114, r115, r116, r22, r122, r142, r162, r00, r01, r02, r03, r372, r390, r391, r392, r393, r394, r396, r397, wr_id, td_e, tm_e, pu_n, pu_s, up_s, up_k, up_a, ↓reduceIte, Int.reduceLT, Int.reduceLE, Int.reduceEq, Int.reduceNeg, Int.reduceAdd, Int.reduceSub, Int.reduceMul, Int.reduceMod, Int.reduceDiv, Int.cast_ofNat_Int, not_true_eq_false, not_false_eq_true, Int.reduceTDiv, Int.reduceTMod, a7, a8, a9, a10, a11, a12, pu_n, c_seenAt hC, h40, eH, if_pos, if_neg]
            exact hK _ (hfin _ hgm) (hsf _)
  · rw [if_neg hk] at hK
    simp (disch := first | assumption | exact isL_i | exact isL_r | exact isL_n | exact i01a | exact i01b | omega) only [K170_0, K170_1, K170_2, K170_3, K170_6, K170_9, K170_10, K170_11, K170_12, K170_15, K170_18, K170_21, K170_22, K170_25, K170_28, K170_31, K170_34, K170_36, r10, r14, r15, r16, r113, r114, r115, r116, r22, r122, r142, r162, r00, r01, r02, r03, r372, r390, r391, r392, r393, r394, r396, r397, n2, n3, n7, n8, n9, n10, n11, n12, t0, t1, t3, u0, u1, u3, p0, p1, p3, b0, b1, b3, wr_id, td_e, tm_e, pu_n, pu_s, up_s, up_k, up_a, ↓reduceIte, Int.reduceLT, Int.reduceLE, Int.reduceEq, Int.reduceNeg, Int.reduceAdd, Int.reduceSub, Int.reduceMul, Int.reduceMod, Int.reduceDiv, Int.cast_ofNat_Int, not_true_eq_false, not_false_eq_true, Int.reduceTDiv, Int.reduceTMod, c_within, if_pos, if_neg]
    exact hK _ hR Sc.rf
theorem c_done_lp (hC : ShC G) (hR : RS 1 s G mi) (hW : WfA s) (hF : FSn s hz (s 14) (s 11).toNat mi) (hw : 0 ≤ w ∧ w ≤ 2) : ∀ (m : Nat) (k : Int) (b : (Int → Int) × Int) (x7 : Option PV), isL x7 = false → k + m = s 14 → 0 ≤ k → Adv s b.1 k → 0 ≤ b.2 → b.2 ≤ 180000 * k →
    (K (some (pI (if w = 0 then (planL s hz m k b).2 else if w = 1 then (planL s hz m k b).1 1 else if s 8 < s 14 then 0 else s 8 - s 14))) G mi) →
    Ok (d + 12) 182 63 [some (pR (some 0)), some (pI w), some (pI (s 14)), some (pI (b.1 1)), some (pI (hadB b.1)), some (pI b.2), some (pI k), x7] [] G mi K := by
  obtain ⟨⟨⟨k1, k2, k3, l3, k9, l9, k10, l10, k11, l11⟩, ⟨k12, k13, l13, k14, k15, l15, k16, k17, l17, k18, l18⟩, ⟨r10, r14, r15, r16, r113, r114, r115, r116, r22, r122, r142, r162⟩⟩, -, ⟨⟨k0, r00, r01, r02, r03⟩, ⟨k37, r372, k38, l38⟩, ⟨k39, r390, r391, r392, r393, r394, r396, r397⟩, ⟨k40, l40, k41, l41, k42, l42, k43, l43, k44, l44, k45, l45⟩⟩⟩ := id hC
  obtain ⟨⟨n2, n3, n7, n8, n9, n10, n11, n12⟩, ⟨hm1, hm2⟩, ⟨⟨t0, t1, t3⟩, ht4⟩, ⟨⟨u0, u1, u3⟩, hu4⟩, ⟨⟨p0, p1, p3⟩, hp4⟩, ⟨⟨b0, b1, b3⟩, hb4⟩⟩ := hR.o
  obtain ⟨⟨⟨z0, z1, z8, z9, z10, z11, z12, z13, z14, z15, z16⟩, hh01, hT, hz17⟩, hWV, hWD, hWB, hWP, hWT, hWZ, hWF, hWK⟩ := id hW
  intro m
  induction m with
  | zero =>
    intro k b x7 r7 hk k0 hA b1 b2 hK
    simp only [planL] at hK
    rw [K182_63]
    have h3 : w = 0 ∨ w = 1 ∨ w = 2 := by omega
    rcases h3 with rfl | rfl | rfl
    · simp only [↓reduceIte] at hK
      simp (disch := first | assumption | exact isL_i | exact isL_r | exact isL_n | exact i01a | exact i01b | omega) only [K182_65, K182_66, K182_139, K182_140, K182_168, K182_170, K182_171, K182_172, K182_173, K182_174, K182_175, K182_178, K182_181, K182_182, K182_183, K182_186, wr_id, td_e, tm_e, pu_n, pu_s, up_s, up_k, up_a, ↓reduceIte, Int.reduceLT, Int.reduceLE, Int.reduceEq, Int.reduceNeg, Int.reduceAdd, Int.reduceSub, Int.reduceMul, Int.reduceMod, Int.reduceDiv, Int.cast_ofNat_Int, not_true_eq_false, not_false_eq_true, Int.reduceTDiv, Int.reduceTMod, if_pos, if_neg]
      exact hK
    · simp only [↓reduceIte, Int.reduceEq] at hK
      simp (disch := first | assumption | exact isL_i | exact isL_r | exact isL_n | exact i01a | exact i01b | omega) only [K182_65, K182_66, K182_139, K182_140, K182_168, K182_170, K182_171, K182_172, K182_173, K182_174, K182_175, K182_178, K182_181, K182_182, K182_183, K182_186, wr_id, td_e, tm_e, pu_n, pu_s, up_s, up_k, up_a, ↓reduceIte, Int.reduceLT, Int.reduceLE, Int.reduceEq, Int.reduceNeg, Int.reduceAdd, Int.reduceSub, Int.reduceMul, Int.reduceMod, Int.reduceDiv, Int.cast_ofNat_Int, not_true_eq_false, not_false_eq_true, Int.reduceTDiv, Int.reduceTMod, if_pos, if_neg]
      exact hK
    · simp only [↓reduceIte, Int.reduceEq] at hK
      by_cases c8 : s 8 < s 14
      · rw [if_pos c8] at hK
        simp (disch := first | assumption | exact isL_i | exact isL_r | exact isL_n | exact i01a | exact i01b | omega) only [K182_65, K182_66, K182_139, K182_140, K182_168, K182_170, K182_171, K182_172, K182_173, K182_174, K182_175, K182_178, K182_181, K182_182, K182_183, K182_186, r10, r14, r15, r16, r113, r114, r115, r116, r22, r122, r142, r162, r00, r01, r02, r03, r372, r390, r391, r392, r393, r394, r396, r397, n2, n3, n7, n8, n9, n10, n11, n12, t0, t1, t3, u0, u1, u3, p0, p1, p3, b0, b1, b3, wr_id, td_e, tm_e, pu_n, pu_s, up_s, up_k, up_a, ↓reduceIte, Int.reduceLT, Int.reduceLE, Int.reduceEq, Int.reduceNeg, Int.reduceAdd, Int.reduceSub, Int.reduceMul, Int.reduceMod, Int.reduceDiv, Int.cast_ofNat_Int, not_true_eq_false, not_false_eq_true, Int.reduceTDiv, Int.reduceTMod, if_pos, if_neg]
        exact hK
      · rw [if_neg c8] at hK
        by_cases c9 : s 8 - s 14 = 0
        · rw [c9] at hK
          simp (disch := first | assumption | exact isL_i | exact isL_r | exact isL_n | exact i01a | exact i01b | omega) only [K182_65, K182_66, K182_139, K182_140, K182_168, K182_170, K182_171, K182_172, K182_173, K182_174, K182_175, K182_178, K182_181, K182_182, K182_183, K182_186, r10, r14, r15, r16, r113, r114, r115, r116, r22, r122, r142, r162, r00, r01, r02, r03, r372, r390, r391, r392, r393, r394, r396, r397, n2, n3, n7, n8, n9, n10, n11, n12, t0, t1, t3, u0, u1, u3, p0, p1, p3, b0, b1, b3, wr_id, td_e, tm_e, pu_n, pu_s, up_s, up_k, up_a, ↓reduceIte, Int.reduceLT, Int.reduceLE, Int.reduceEq, Int.reduceNeg, Int.reduceAdd, Int.reduceSub, Int.reduceMul, Int.reduceMod, Int.reduceDiv, Int.cast_ofNat_Int, not_true_eq_false, not_false_eq_true, Int.reduceTDiv, Int.reduceTMod, c9, if_pos, if_neg]
          exact hK
        · simp (disch := first | assumption | exact isL_i | exact isL_r | exact isL_n | exact i01a | exact i01b | omega) only [K182_65, K182_66, K182_139, K182_140, K182_168, K182_170, K182_171, K182_172, K182_173, K182_174, K182_175, K182_178, K182_181, K182_182, K182_183, K182_186, r10, r14, r15, r16, r113, r114, r115, r116, r22, r122, r142, r162, r00, r01, r02, r03, r372, r390, r391, r392, r393, r394, r396, r397, n2, n3, n7, n8, n9, n10, n11, n12, t0, t1, t3, u0, u1, u3, p0, p1, p3, b0, b1, b3, wr_id, td_e, tm_e, pu_n, pu_s, up_s, up_k, up_a, ↓reduceIte, Int.reduceLT, Int.reduceLE, Int.reduceEq, Int.reduceNeg, Int.reduceAdd, Int.reduceSub, Int.reduceMul, Int.reduceMod, Int.reduceDiv, Int.cast_ofNat_Int, not_true_eq_false, not_false_eq_true, Int.reduceTDiv, Int.reduceTMod, if_pos, if_neg]
          exact hK
  | succ m ih =>
    intro k b x7 r7 hk k0 hA b1 b2 hK
    simp only [planL] at hK
    have hkk : 0 ≤ k ∧ k < s 14 := ⟨k0, by omega⟩
    have e75 := hp4 k k0 hkk.2
    obtain ⟨d1, d2⟩ := hWP k k0 (by omega)
    have gt : ∀ (d' : Nat) (K' : Option PV → Gh → Mi → Prop), OkC d' 84 [pR (some 14), pI k, pI 0] G mi K' = K' (some (pI (s (75 + k)))) G mi := by
      intro d' K'
      rw [t_get (o := 14) (o' := 15) k14 r142 k15 (by omega) (by omega) (by omega) (by omega) (by omega) (by rw [‹mi 14 0 = 1›, ‹mi 14 1 = 8›]; omega) (by decide) (by omega), ‹mi 14 0 = 1›, ‹mi 14 3 = s 14›, if_pos hkk, Int.mul_one, Int.add_zero, e75]
    have e11 : b.1 11 = s 11 := hA.1 11 (by decide)
    have hS' := hW.g.st hA.1
    have hgb := gaT_bd hS' (hz := hz) (k := s (75 + k))
    have hA' := hA.st (hz := hz) (q := s (75 + k)) z11.2
    rw [K182_63]
    by_cases c5 : s (75 + k) = 5
    · have eg1 : gaT b.1 hz (s (75 + k)) = 0 := by unfold gaT; rw [if_pos c5]
      have eg2 : gs b.1 hz (s (75 + k)) 1 = b.1 1 := by unfold gs; rw [if_pos c5]; rfl
      have eg3 : hadB (gs b.1 hz (s (75 + k))) = hadB b.1 := hadB_c (fun j j0 j1 => by unfold gs; rw [if_pos c5]; exact if_neg (by omega))
      have J := ih (k + 1) (gs b.1 hz (s (75 + k)), b.2 + gaT b.1 hz (s (75 + k))) (some (pI (s (75 + k)))) isL_i (by omega) (by omega) hA' (by dsimp only; omega) (by dsimp only; omega) hK
      dsimp only at J
      rw [eg1, eg2, eg3, Int.add_zero] at J
      simp (disch := first | assumption | exact isL_i | exact isL_r | exact isL_n | exact i01a | exact i01b | omega) only [K182_65, K182_66, K182_69, K182_70, K182_73, K182_76, K182_78, K182_79, K182_82, K182_84, K182_86, K182_87, K182_133, K182_136, r10, r14, r15, r16, r113, r114, r115, r116, r22, r122, r142, r162, r00, r01, r02, r03, r372, r390, r391, r392, r393, r394, r396, r397, n2, n3, n7, n8, n9, n10, n11, n12, t0, t1, t3, u0, u1, u3, p0, p1, p3, b0, b1, b3, wr_id, td_e, tm_e, pu_n, pu_s, up_s, up_k, up_a, ↓reduceIte, Int.reduceLT, Int.reduceLE, Int.reduceEq, Int.reduceNeg, Int.reduceAdd, Int.reduceSub, Int.reduceMul, Int.reduceMod, Int.reduceDiv, Int.cast_ofNat_Int, not_true_eq_false, not_false_eq_true, Int.reduceTDiv, Int.reduceTMod, gt, if_pos, if_neg]
      exact J
    · obtain ⟨t1, t2⟩ := brt_in (k := s (75 + k)) hA.2.2.1.1 hA.2.2.1.2
      have h40 : mi 40 ((k + 1) * 24 + brt (b.1 1) (s (75 + k))) = sL s hz (s 11).toNat (k + 1) (brt (b.1 1) (s (75 + k))) := hF.1 _ _ (by omega) (by omega) t1 (by omega)
      have eG : gaT b.1 hz (s (75 + k)) = gaR b.1 hz (b.1 0 + 1) (brt (b.1 1) (s (75 + k))) (s 11).toNat 0 := by
        unfold gaT
        rw [if_neg c5, e11]
      have eH : iOr (hadB b.1) (sL s hz (s 11).toNat (k + 1) (brt (b.1 1) (s (75 + k)))) = hadB (gs b.1 hz (s (75 + k))) := by
        rw [adv_had hA z11.1 z11.2]
        unfold gs
        rw [if_neg c5, e11]
      have e1 : gs b.1 hz (s (75 + k)) 1 = brt (b.1 1) (s (75 + k)) := by
        unfold gs
        rw [if_neg c5]
        unfold gsp
        rw [if_neg (by decide), if_pos rfl]
      have hga : ∀ K', OkC (d + 11) 150 [pR (some 39), pI (k + 1), pI (brt (b.1 1) (s (75 + k))), pI (hadB b.1)] G mi K' = K' (some (pI (gaT b.1 hz (s (75 + k))))) G mi := by
        intro K'
        rw [eG]
        exact c_gainAt (d := d + 9) hC hW hF hA (by omega) (by omega) (by omega) t1 t2
      have J := ih (k + 1) (gs b.1 hz (s (75 + k)), b.2 + gaT b.1 hz (s (75 + k))) (some (pI (s (75 + k)))) isL_i (by omega) (by omega) hA' (by dsimp only; omega) (by dsimp only; omega) hK
      dsimp only at J
      rw [e1] at J
      have hb1 := hA.2.2.1
      simp (disch := first | assumption | exact isL_i | exact isL_r | exact isL_n | exact i01a | exact i01b | omega) only [K182_65, K182_66, K182_69, K182_70, K182_73, K182_76, K182_78, K182_79, K182_82, K182_84, K182_86, K182_87, K182_90, K182_91, K182_93, K182_96, K182_97, K182_99, K182_100, K182_103, K182_105, K182_106, K182_107, K182_108, r10, r14, r15, r16, r113, r114, r115, r116, r22, r122, r142, r162, r00, r01, r02, r03, r372, r390, r391, r392, r393, r394, r396, r397, n2, n3, n7, n8, n9, n10, n11, n12, t0, t1, t3, u0, u1, u3, p0, p1, p3, b0, b1, b3, wr_id, td_e, tm_e, pu_n, pu_s, up_s, up_k, up_a, ↓reduceIte, Int.reduceLT, Int.reduceLE, Int.reduceEq, Int.reduceNeg, Int.reduceAdd, Int.reduceSub, Int.reduceMul, Int.reduceMod, Int.reduceDiv, Int.cast_ofNat_Int, not_true_eq_false, not_false_eq_true, Int.reduceTDiv, Int.reduceTMod, gt, c_moved, if_pos, if_neg]
      rw [K182_110 k39, hga]
      simp (disch := first | assumption | exact isL_i | exact isL_r | exact isL_n | exact i01a | exact i01b | omega) only [K182_113, K182_114, K182_116, K182_118, K182_119, K182_122, K182_124, K182_125, K182_126, K182_127, K182_130, K182_131, K182_133, K182_136, r10, r14, r15, r16, r113, r114, r115, r116, r22, r122, r142, r162, r00, r01, r02, r03, r372, r390, r391, r392, r393, r394, r396, r397, wr_id, td_e, tm_e, pu_n, pu_s, up_s, up_k, up_a, ↓reduceIte, Int.reduceLT, Int.reduceLE, Int.reduceEq, Int.reduceNeg, Int.reduceAdd, Int.reduceSub, Int.reduceMul, Int.reduceMod, Int.reduceDiv, Int.cast_ofNat_Int, not_true_eq_false, not_false_eq_true, Int.reduceTDiv, Int.reduceTMod, c_seenAt hC, h40, eH]
      exact J
theorem c_done (hC : ShC G) (hR : RS 1 s G mi) (hW : WfA s) (hK : ∀ mi', RS 1 s G mi' → Sc kL mi mi' → K (some (pI (oDone s w))) G mi') : OkC (d + 12) 182 [pR (some 0), pI w] G mi K := by
  obtain ⟨⟨⟨k1, k2, k3, l3, k9, l9, k10, l10, k11, l11⟩, ⟨k12, k13, l13, k14, k15, l15, k16, k17, l17, k18, l18⟩, ⟨r10, r14, r15, r16, r113, r114, r115, r116, r22, r122, r142, r162⟩⟩, -, ⟨⟨k0, r00, r01, r02, r03⟩, ⟨k37, r372, k38, l38⟩, ⟨k39, r390, r391, r392, r393, r394, r396, r397⟩, ⟨k40, l40, k41, l41, k42, l42, k43, l43, k44, l44, k45, l45⟩⟩⟩ := id hC
  obtain ⟨⟨n2, n3, n7, n8, n9, n10, n11, n12⟩, ⟨hm1, hm2⟩, ⟨⟨t0, t1, t3⟩, ht4⟩, ⟨⟨u0, u1, u3⟩, hu4⟩, ⟨⟨p0, p1, p3⟩, hp4⟩, ⟨⟨b0, b1, b3⟩, hb4⟩⟩ := hR.o
  obtain ⟨⟨⟨z0, z1, z8, z9, z10, z11, z12, z13, z14, z15, z16⟩, hh01, hT, hz17⟩, hWV, hWD, hWB, hWP, hWT, hWZ, hWF, hWK⟩ := id hW
  obtain ⟨V, v1, v2, v3, ⟨v4, v5, v6⟩, -⟩ := hR.2.2
  have kV := v3.1
  have v6 : mi V 2 = hazF s := v6
  rw [E182]
  unfold oDone at hK
  by_cases hw : 0 ≤ w ∧ w ≤ 2
  · rw [if_pos hw] at hK
    simp (disch := first | assumption | exact isL_i | exact isL_r | exact isL_n | exact i01a | exact i01b | omega) only [K182_0, K182_1, K182_2, K182_3, K182_6, K182_9, K182_10, K182_11, K182_12, K182_15, K182_18, K182_21, K182_22, K182_23, K182_26, K182_27, K182_28, K182_31, K182_34, r10, r14, r15, r16, r113, r114, r115, r116, r22, r122, r142, r162, r00, r01, r02, r03, r372, r390, r391, r392, r393, r394, r396, r397, n2, n3, n7, n8, n9, n10, n11, n12, t0, t1, t3, u0, u1, u3, p0, p1, p3, b0, b1, b3, wr_id, td_e, tm_e, pu_n, pu_s, up_s, up_k, up_a, ↓reduceIte, Int.reduceLT, Int.reduceLE, Int.reduceEq, Int.reduceNeg, Int.reduceAdd, Int.reduceSub, Int.reduceMul, Int.reduceMod, Int.reduceDiv, Int.cast_ofNat_Int, not_true_eq_false, not_false_eq_true, Int.reduceTDiv, Int.reduceTMod, c_within, t_size, v1, v6, if_pos, if_neg]
    rw [K182_37 k39]
    refine c_foresee (n := s 14) hC hR hW z14.1 z14.2 fun m1 hF1 hs1 => ?_
    have hR1 := hR.q (hs1.wk (by decide))
    obtain ⟨⟨a2, a3, a7, a8, a9, a10, a11, a12⟩, -⟩ := hR1.o
    simp (disch := first | assumption | exact isL_i | exact isL_r | exact isL_n | exact i01a | exact i01b | omega) only [K182_40, K182_41, K182_44, K182_47, K182_48, K182_49, K182_52, K182_55, K182_57, K182_58, K182_60, K182_61, r10, r14, r15, r16, r113, r114, r115, r116, r22, r122, r142, r162, r00, r01, r02, r03, r372, r390, r391, r392, r393, r394, r396, r397, wr_id, td_e, tm_e, pu_n, pu_s, up_s, up_k, up_a, ↓reduceIte, Int.reduceLT, Int.reduceLE, Int.reduceEq, Int.reduceNeg, Int.reduceAdd, Int.reduceSub, Int.reduceMul, Int.reduceMod, Int.reduceDiv, Int.cast_ofNat_Int, not_true_eq_false, not_false_eq_true, Int.reduceTDiv, Int.reduceTMod, a9, a7, pu_n]
    exact c_done_lp hC hR1 hW hF1 hw (s 14).toNat 0 (s, 0) none isL_n (by omega) (by decide) (Adv.rf z1 hh01) (by dsimp only; omega) (by dsimp only; omega) (hK m1 hR1 (hs1.wk (by decide)))
  · rw [if_neg hw] at hK
    simp (disch := first | assumption | exact isL_i | exact isL_r | exact isL_n | exact i01a | exact i01b | omega) only [K182_0, K182_1, K182_2, K182_3, K182_6, K182_9, K182_10, r10, r14, r15, r16, r113, r114, r115, r116, r22, r122, r142, r162, r00, r01, r02, r03, r372, r390, r391, r392, r393, r394, r396, r397, n2, n3, n7, n8, n9, n10, n11, n12, t0, t1, t3, u0, u1, u3, p0, p1, p3, b0, b1, b3, wr_id, td_e, tm_e, pu_n, pu_s, up_s, up_k, up_a, ↓reduceIte, Int.reduceLT, Int.reduceLE, Int.reduceEq, Int.reduceNeg, Int.reduceAdd, Int.reduceSub, Int.reduceMul, Int.reduceMod, Int.reduceDiv, Int.cast_ofNat_Int, not_true_eq_false, not_false_eq_true, Int.reduceTDiv, Int.reduceTMod, c_within, if_pos, if_neg]
    exact hK _ hR Sc.rf
end CL
