/-! ===== the class: fractions, mean, act ===== -/
def shY (k : Int) : Nat := if k = 1 ∨ k = 4 then 101 else if k = 5 then 112 else 91
def skY (k : Int) : Nat := if k = 2 ∨ k = 5 then 104 else if k = 6 then 116 else 92
def tlY (k : Int) : Nat := if k = 3 ∨ k = 6 then 97 else if k = 4 then 108 else 93
-- #def YR shY, skY, tlY, ↓reduceIte, Int.reduceEq, or_self, or_true, true_or, or_false, false_or
theorem eu1 {f : Nat} {u l : Int} (h : ¬ l = 0) : euF (f + 1) u l = euF f l (u % l) := by simp only [euF]; rw [if_neg h]
section CL
variable {d : Nat} {G : Gh} {mi : Mi} {K : Option PV → Gh → Mi → Prop} {o o' T : Nat} {s : Int → Int} {p t v w a b c k n g q x lim hm pc ah ce u l : Int} {L : List Int}
theorem c_partOf (hu : 0 ≤ u) (hu' : u ≤ 200000) (hl : 0 < l) (hl' : l ≤ 6) : OkC d 200 [pI u, pI l, pI w] G mi K = K (some (pL ((if w = 0 then u else l) / euF 6 u l))) G mi := by
  rw [eu1 (by omega)]
  have h6 : l = 1 ∨ l = 2 ∨ l = 3 ∨ l = 4 ∨ l = 5 ∨ l = 6 := by omega
  have J : ∀ (y4 : Option PV) (sh : Int), 0 < sh → isL y4 = false → Ok d 200 34 [some (pI u), some (pI l), some (pI w), some (pI sh), y4] [] G mi K = K (some (pL ((if w = 0 then u else l) / sh))) G mi := by
    intro y4 sh hs r4
    by_cases hw : w = 0
    · rw [if_pos hw]
      simp (disch := first | assumption | exact isL_i | exact isL_r | exact isL_n | exact i01a | exact i01b | omega) only [K200_34, K200_35, K200_38, K200_39, K200_42, K200_43, K200_44, K200_45, K200_46, wr_id, td_e, tm_e, pu_n, pu_s, up_s, up_k, up_a, ↓reduceIte, Int.reduceLT, Int.reduceLE, Int.reduceEq, Int.reduceNeg, Int.reduceAdd, Int.reduceSub, Int.reduceMul, Int.reduceMod, Int.reduceDiv, Int.cast_ofNat_Int, not_true_eq_false, not_false_eq_true, Int.reduceTDiv, Int.reduceTMod, if_pos, if_neg]
    · rw [if_neg hw]
      simp (disch := first | assumption | exact isL_i | exact isL_r | exact isL_n | exact i01a | exact i01b | omega) only [K200_34, K200_35, K200_38, K200_39, K200_42, K200_43, K200_44, K200_45, K200_46, wr_id, td_e, tm_e, pu_n, pu_s, up_s, up_k, up_a, ↓reduceIte, Int.reduceLT, Int.reduceLE, Int.reduceEq, Int.reduceNeg, Int.reduceAdd, Int.reduceSub, Int.reduceMul, Int.reduceMod, Int.reduceDiv, Int.cast_ofNat_Int, not_true_eq_false, not_false_eq_true, Int.reduceTDiv, Int.reduceTMod, if_pos, if_neg]
  have hr : u % l = 0 ∨ u % l = 1 ∨ u % l = 2 ∨ u % l = 3 ∨ u % l = 4 ∨ u % l = 5 := by
    have := Int.emod_nonneg u (show l ≠ 0 by omega)
    have := Int.emod_lt_of_pos u hl
    omega
  rcases h6 with rfl | rfl | rfl | rfl | rfl | rfl
  all_goals
    rcases hr with h | h | h | h | h | h
  all_goals first
    | (exfalso; omega)
    | (have i2 : u % 2 = 0 ∨ u % 2 = 1 := by omega
       have i3 : u % 3 = 0 ∨ u % 3 = 1 ∨ u % 3 = 2 := by omega
       rw [E200, h]
       simp (disch := first | assumption | exact isL_i | exact isL_r | exact isL_n | exact i01a | exact i01b | omega) only [K200_0, K200_1, K200_2, K200_3, K200_5, K200_7, K200_8, K200_11, K200_12, K200_14, K200_15, K200_18, K200_19, K200_21, K200_22, K200_25, K200_27, K200_28, K200_31, wr_id, td_e, tm_e, pu_n, pu_s, up_s, up_k, up_a, ↓reduceIte, Int.reduceLT, Int.reduceLE, Int.reduceEq, Int.reduceNeg, Int.reduceAdd, Int.reduceSub, Int.reduceMul, Int.reduceMod, Int.reduceDiv, Int.cast_ofNat_Int, not_true_eq_false, not_false_eq_true, Int.reduceTDiv, Int.reduceTMod, ite_self, if_pos, if_neg, h, isL_i, J]
       rfl)
theorem c_mean_lp (hC : ShC G) (hW : WfA s) : ∀ (m : Nat) (mi : Mi) (b : Int × Int) (k : Int) (x5 : Option PV), isL x5 = false → RS 1 s G mi → k + m = s 11 → 0 ≤ k → 0 ≤ b.1 → b.1 + 30000 * m ≤ 180000 → 0 ≤ b.2 → b.2 ≤ k →
    (∀ mi', RS 1 s G mi' → Sc kL mi mi' → K (some (pL (if (0 ≤ w ∧ w ≤ 1) ∧ ¬ (meanL s m k b).2 = 0 then (if w = 0 then (meanL s m k b).1 else (meanL s m k b).2) / euF 6 (meanL s m k b).1 (meanL s m k b).2 else nO))) G mi') →
    Ok (d + 5) 180 7 [some (pR (some 0)), some (pI w), some (pI b.1), some (pI b.2), some (pI k), x5] [] G mi K := by
  obtain ⟨⟨⟨k1, k2, k3, l3, k9, l9, k10, l10, k11, l11⟩, ⟨k12, k13, l13, k14, k15, l15, k16, k17, l17, k18, l18⟩, ⟨r10, r14, r15, r16, r113, r114, r115, r116, r22, r122, r142, r162⟩⟩, -, ⟨⟨k0, r00, r01, r02, r03⟩, ⟨k37, r372, k38, l38⟩, ⟨k39, r390, r391, r392, r393, r394, r396, r397⟩, ⟨k40, l40, k41, l41, k42, l42, k43, l43, k44, l44, k45, l45⟩⟩⟩ := id hC
  obtain ⟨⟨⟨z0, z1, z8, z9, z10, z11, z12, z13, z14, z15, z16⟩, hh01, hT, hz17⟩, hWV, hWD, hWB, hWP, hWT, hWZ, hWF, hWK⟩ := id hW
  intro m
  induction m with
  | zero =>
    intro mi b k x5 r5 hR hk k0 b1 b2 b3 b4 hK
    obtain ⟨⟨n2, n3, n7, n8, n9, n10, n11, n12⟩, ⟨hm1, hm2⟩, ⟨⟨t0, t1, t3⟩, ht4⟩, ⟨⟨u0, u1, u3⟩, hu4⟩, ⟨⟨p0, p1, p3⟩, hp4⟩, ⟨⟨b0, b1, b3⟩, hb4⟩⟩ := hR.o
    have hK : K (some (pL (if (0 ≤ w ∧ w ≤ 1) ∧ ¬ b.2 = 0 then (if w = 0 then b.1 else b.2) / euF 6 b.1 b.2 else nO))) G mi := hK mi hR Sc.rf
    rw [K180_7]
    by_cases h3 : 0 ≤ w ∧ w ≤ 1
    · by_cases hl : b.2 = 0
      · rw [if_neg (show ¬ ((0 ≤ w ∧ w ≤ 1) ∧ ¬ b.2 = 0) from fun h => h.2 hl)] at hK
        simp (disch := first | assumption | exact isL_i | exact isL_r | exact isL_n | exact i01a | exact i01b | omega) only [K180_9, K180_10, K180_13, K180_16, K180_91, K180_92, K180_93, K180_94, K180_97, K180_100, K180_101, K180_104, K180_105, K180_106, K180_107, K180_110, K180_113, K180_116, r10, r14, r15, r16, r113, r114, r115, r116, r22, r122, r142, r162, r00, r01, r02, r03, r372, r390, r391, r392, r393, r394, r396, r397, n2, n3, n7, n8, n9, n10, n11, n12, t0, t1, t3, u0, u1, u3, p0, p1, p3, b0, b1, b3, wr_id, td_e, tm_e, pu_n, pu_s, up_s, up_k, up_a, ↓reduceIte, Int.reduceLT, Int.reduceLE, Int.reduceEq, Int.reduceNeg, Int.reduceAdd, Int.reduceSub, Int.reduceMul, Int.reduceMod, Int.reduceDiv, Int.cast_ofNat_Int, not_true_eq_false, not_false_eq_true, Int.reduceTDiv, Int.reduceTMod, c_within, if_pos, if_neg]
        exact hK
      · rw [if_pos (show (0 ≤ w ∧ w ≤ 1) ∧ ¬ b.2 = 0 from ⟨h3, hl⟩)] at hK
        simp (disch := first | assumption | exact isL_i | exact isL_r | exact isL_n | exact i01a | exact i01b | omega) only [K180_9, K180_10, K180_13, K180_16, K180_91, K180_92, K180_93, K180_94, K180_97, K180_100, K180_101, K180_104, K180_105, K180_106, K180_107, K180_110, K180_113, K180_116, r10, r14, r15, r16, r113, r114, r115, r116, r22, r122, r142, r162, r00, r01, r02, r03, r372, r390, r391, r392, r393, r394, r396, r397, n2, n3, n7, n8, n9, n10, n11, n12, t0, t1, t3, u0, u1, u3, p0, p1, p3, b0, b1, b3, wr_id, td_e, tm_e, pu_n, pu_s, up_s, up_k, up_a, ↓reduceIte, Int.reduceLT, Int.reduceLE, Int.reduceEq, Int.reduceNeg, Int.reduceAdd, Int.reduceSub, Int.reduceMul, Int.reduceMod, Int.reduceDiv, Int.cast_ofNat_Int, not_true_eq_false, not_false_eq_true, Int.reduceTDiv, Int.reduceTMod, c_within, c_partOf, if_pos, if_neg]
        exact hK
    · rw [if_neg (show ¬ ((0 ≤ w ∧ w ≤ 1) ∧ ¬ b.2 = 0) from fun h => h3 h.1)] at hK
      simp (disch := first | assumption | exact isL_i | exact isL_r | exact isL_n | exact i01a | exact i01b | omega) only [K180_9, K180_10, K180_13, K180_16, K180_91, K180_92, K180_93, K180_94, K180_97, K180_100, K180_101, K180_104, K180_105, K180_106, K180_107, K180_110, K180_113, K180_116, r10, r14, r15, r16, r113, r114, r115, r116, r22, r122, r142, r162, r00, r01, r02, r03, r372, r390, r391, r392, r393, r394, r396, r397, n2, n3, n7, n8, n9, n10, n11, n12, t0, t1, t3, u0, u1, u3, p0, p1, p3, b0, b1, b3, wr_id, td_e, tm_e, pu_n, pu_s, up_s, up_k, up_a, ↓reduceIte, Int.reduceLT, Int.reduceLE, Int.reduceEq, Int.reduceNeg, Int.reduceAdd, Int.reduceSub, Int.reduceMul, Int.reduceMod, Int.reduceDiv, Int.cast_ofNat_Int, not_true_eq_false, not_false_eq_true, Int.reduceTDiv, Int.reduceTMod, c_within, if_pos, if_neg]
      exact hK
  | succ m ih =>
    intro mi b k x5 r5 hR hk k0 b1 b2 b3 b4 hK
    obtain ⟨⟨n2, n3, n7, n8, n9, n10, n11, n12⟩, ⟨hm1, hm2⟩, ⟨⟨t0, t1, t3⟩, ht4⟩, ⟨⟨u0, u1, u3⟩, hu4⟩, ⟨⟨p0, p1, p3⟩, hp4⟩, ⟨⟨b0, b1, b3⟩, hb4⟩⟩ := hR.o
    obtain ⟨w1, w2⟩ := worthF_bd hWV hT (p := k) (t := s 0) k0 (by omega)
    have hp : isT s k := ⟨k0, by omega⟩
    obtain ⟨T, g1, g2, hTh⟩ := hR.2.1 _ hp.1 hp.2
    have g1 : gR G 9 k = some T := g1
    obtain ⟨y0, y1⟩ := hh01 k k0 (by omega)
    have k6 : k < 6 := by omega
    rw [K180_7]
    by_cases hb : s (2 + k) = 0
    · rw [show meanL s (m + 1) k b = meanL s m (k + 1) (b.1 + worthF s k (s 0), b.2 + 1) from by simp only [meanL]; rw [if_pos hb]] at hK
      simp (disch := first | assumption | exact isL_i | exact isL_r | exact isL_n | exact i01a | exact i01b | omega) only [K180_9, K180_10, K180_13, K180_16, K180_19, K180_20, K180_23, K180_25, K180_28, K180_30, K180_32, K180_32n, K180_35, K180_36, K180_39, K180_41, K180_44, K180_47, K180_48, K180_49, K180_52, K180_54, K180_55, K180_58, K180_60, K180_61, K180_64, K180_67, K180_70, K180_71, K180_74, r10, r14, r15, r16, r113, r114, r115, r116, r22, r122, r142, r162, r00, r01, r02, r03, r372, r390, r391, r392, r393, r394, r396, r397, n2, n3, n7, n8, n9, n10, n11, n12, t0, t1, t3, u0, u1, u3, p0, p1, p3, b0, b1, b3, wr_id, td_e, tm_e, pu_n, pu_s, up_s, up_k, up_a, ↓reduceIte, Int.reduceLT, Int.reduceLE, Int.reduceEq, Int.reduceNeg, Int.reduceAdd, Int.reduceSub, Int.reduceMul, Int.reduceMod, Int.reduceDiv, Int.cast_ofNat_Int, not_true_eq_false, not_false_eq_true, Int.reduceTDiv, Int.reduceTMod, c_find hC hR z11.2, if_pos hp, g1, reduceCtorEq, c_isHad hC hR hh01, c_cellOn hC hR hT z11.2 hp.1 hp.2 hTh, hb, if_pos, if_neg]
      rw [K180_77 k1]
      refine c_worthOn hC hR hWV hT z11.2 hp.1 hp.2 g2 hTh (by omega) (by omega) fun m1 hs => ?_
      simp (disch := first | assumption | exact isL_i | exact isL_r | exact isL_n | exact i01a | exact i01b | omega) only [K180_80, K180_81, K180_82, K180_85, K180_88, wr_id, td_e, tm_e, pu_n, pu_s, up_s, up_k, up_a, ↓reduceIte, Int.reduceLT, Int.reduceLE, Int.reduceEq, Int.reduceNeg, Int.reduceAdd, Int.reduceSub, Int.reduceMul, Int.reduceMod, Int.reduceDiv, Int.cast_ofNat_Int, not_true_eq_false, not_false_eq_true, Int.reduceTDiv, Int.reduceTMod]
      exact ih m1 (b.1 + worthF s k (s 0), b.2 + 1) (k + 1) _ isL_r (hR.q hs) (by omega) (by omega) (by dsimp only; omega) (by dsimp only; omega) (by dsimp only; omega) (by dsimp only; omega) (fun mi' h1 h2 => hK mi' h1 ((q_k hs).tr h2))
    · rw [show meanL s (m + 1) k b = meanL s m (k + 1) b from by simp only [meanL]; rw [if_neg hb]] at hK
      have hb1 : s (2 + k) = 1 := by omega
      simp (disch := first | assumption | exact isL_i | exact isL_r | exact isL_n | exact i01a | exact i01b | omega) only [K180_9, K180_10, K180_13, K180_16, K180_19, K180_20, K180_23, K180_25, K180_28, K180_30, K180_32, K180_32n, K180_35, K180_36, K180_39, K180_41, K180_44, K180_85, K180_88, r10, r14, r15, r16, r113, r114, r115, r116, r22, r122, r142, r162, r00, r01, r02, r03, r372, r390, r391, r392, r393, r394, r396, r397, n2, n3, n7, n8, n9, n10, n11, n12, t0, t1, t3, u0, u1, u3, p0, p1, p3, b0, b1, b3, wr_id, td_e, tm_e, pu_n, pu_s, up_s, up_k, up_a, ↓reduceIte, Int.reduceLT, Int.reduceLE, Int.reduceEq, Int.reduceNeg, Int.reduceAdd, Int.reduceSub, Int.reduceMul, Int.reduceMod, Int.reduceDiv, Int.cast_ofNat_Int, not_true_eq_false, not_false_eq_true, Int.reduceTDiv, Int.reduceTMod, c_find hC hR z11.2, if_pos hp, g1, reduceCtorEq, c_isHad hC hR hh01, hb1, if_pos, if_neg]
      exact ih mi b (k + 1) _ isL_r hR (by omega) (by omega) (by omega) (by omega) (by omega) (by omega) hK
theorem c_mean (hC : ShC G) (hR : RS 1 s G mi) (hW : WfA s) (hK : ∀ mi', RS 1 s G mi' → Sc kL mi mi' → K (some (pL (oMean s w))) G mi') : OkC (d + 5) 180 [pR (some 0), pI w] G mi K := by
  obtain ⟨⟨⟨z0, z1, z8, z9, z10, z11, z12, z13, z14, z15, z16⟩, hh01, hT, hz17⟩, hWV, hWD, hWB, hWP, hWT, hWZ, hWF, hWK⟩ := id hW
  rw [E180]
  simp (disch := first | assumption | exact isL_i | exact isL_r | exact isL_n | exact i01a | exact i01b | omega) only [K180_0, K180_1, K180_2, K180_3, K180_4, K180_5, wr_id, td_e, tm_e, pu_n, pu_s, up_s, up_k, up_a, ↓reduceIte, Int.reduceLT, Int.reduceLE, Int.reduceEq, Int.reduceNeg, Int.reduceAdd, Int.reduceSub, Int.reduceMul, Int.reduceMod, Int.reduceDiv, Int.cast_ofNat_Int, not_true_eq_false, not_false_eq_true, Int.reduceTDiv, Int.reduceTMod]
  exact c_mean_lp hC hW (s 11).toNat mi (0, 0) 0 none isL_n hR (by omega) (by decide) (by decide) (by dsimp only; omega) (by decide) (by decide) hK
/-! ===== acts ===== -/
theorem TRc.add {L : List Int} {a : Int} (h : TRc L mi) : TRc (L ++ [a]) (up (up mi 38 L.length a) 37 3 (L.length + 1)) := by
  obtain ⟨⟨e1, e2, e3⟩, e4⟩ := h
  refine ⟨⟨?_, ?_, ?_⟩, fun i hi => ?_⟩
  · simp (disch := decide) only [up_k, up_a]; exact e1
  · simp (disch := decide) only [up_k, up_a]; exact e2
  · rw [up_s, List.length_append, List.length_singleton]; omega
  · rw [up_a (by decide)]
    rw [List.length_append, List.length_singleton] at hi
    by_cases hi2 : i < L.length
    · rw [up_k (by omega), e4 i hi2, gD_l hi2]
    · have : i = L.length := by omega
      subst this
      rw [up_s, gD_r]
theorem c_tr (hC : ShC G) (hL : TRc L mi) (h20 : L.length < 20) (hK : ∀ mi', TRc (L ++ [a]) mi' → Sc [37, 38] mi mi' → K (some (pI (L.length + 1))) G mi') : OkC d 83 [pR (some 37), pI a, pI b, pI c] G mi K := by
  obtain ⟨⟨⟨k1, k2, k3, l3, k9, l9, k10, l10, k11, l11⟩, ⟨k12, k13, l13, k14, k15, l15, k16, k17, l17, k18, l18⟩, ⟨r10, r14, r15, r16, r113, r114, r115, r116, r22, r122, r142, r162⟩⟩, -, ⟨⟨k0, r00, r01, r02, r03⟩, ⟨k37, r372, k38, l38⟩, ⟨k39, r390, r391, r392, r393, r394, r396, r397⟩, ⟨k40, l40, k41, l41, k42, l42, k43, l43, k44, l44, k45, l45⟩⟩⟩ := id hC
  obtain ⟨⟨e1, e2, e3⟩, e4⟩ := id hL
  rw [t_add1 (o := 37) (o' := 38) k37 r372 k38 (by decide) e1 (by omega) (by omega) (by omega) (by omega), e3]
  exact hK _ hL.add ((Sc.rf.u (by decide)).u (by decide))
theorem RTh.tr {mi' : Mi} (h : RTh G mi T k p v) (h55 : 55 ≤ T) (hs : Sc [37, 38] mi mi') : RTh G mi' T k p v := by
  obtain ⟨h1, h2, h3, h4, h5⟩ := h
  have e : mi' T = mi T := hs T (by simp only [List.mem_cons, List.not_mem_nil, or_false, not_or]; omega)
  exact ⟨h1, by rw [e]; exact h2, by rw [e]; exact h3, by rw [e]; exact h4, h5⟩
theorem c_shG (hC : ShC G) (h55 : 55 ≤ T) (hTh : RTh G mi T k n v) (hL : TRc L mi) (h20 : L.length < 20) (hK : ∀ mi', TRc (L ++ [1]) mi' → Sc [37, 38] mi mi' → K (some (pI (wr (x + n)))) G mi') : OkC (d + 1) 91 [pR (some T), pI x] G mi K := by
  obtain ⟨⟨⟨k1, k2, k3, l3, k9, l9, k10, l10, k11, l11⟩, ⟨k12, k13, l13, k14, k15, l15, k16, k17, l17, k18, l18⟩, ⟨r10, r14, r15, r16, r113, r114, r115, r116, r22, r122, r142, r162⟩⟩, -, ⟨⟨k0, r00, r01, r02, r03⟩, ⟨k37, r372, k38, l38⟩, ⟨k39, r390, r391, r392, r393, r394, r396, r397⟩, ⟨k40, l40, k41, l41, k42, l42, k43, l43, k44, l44, k45, l45⟩⟩⟩ := id hC
  obtain ⟨c1, c2, c3, c4, c5⟩ := id hTh
  have hth : thg (gK G T).1 = true := by rw [c1]; exact kcl_thg
  rw [E91]
  simp (disch := first | assumption | exact isL_i | exact isL_r | exact isL_n | exact i01a | exact i01b | omega) only [K91_0, K91_1, K91_4, K91_5, K91_6, wr_id, td_e, tm_e, pu_n, pu_s, up_s, up_k, up_a, ↓reduceIte, Int.reduceLT, Int.reduceLE, Int.reduceEq, Int.reduceNeg, Int.reduceAdd, Int.reduceSub, Int.reduceMul, Int.reduceMod, Int.reduceDiv, Int.cast_ofNat_Int, not_true_eq_false, not_false_eq_true, Int.reduceTDiv, Int.reduceTMod, c5]
  rw [K91_7 k37]
  refine c_tr hC hL h20 fun m1 h1 s1 => ?_
  obtain ⟨-, d2, d3, d4, -⟩ := hTh.tr h55 s1
  simp (disch := first | assumption | exact isL_i | exact isL_r | exact isL_n | exact i01a | exact i01b | omega) only [K91_10, K91_10i, K91_11, K91_12, K91_13, K91_16, K91_17, pu_n, pu_s, d3]
  exact hK m1 h1 s1
theorem c_shO (hC : ShC G) (hc : (gK G T).1 = 2 ∨ (gK G T).1 = 5) (h55 : 55 ≤ T) (hTh : RTh G mi T k n v) (hL : TRc L mi) (h20 : L.length < 19) (hK : ∀ mi', TRc (L ++ [11, 1]) mi' → Sc [37, 38] mi mi' → K (some (pI (wr (wr (x * 3) + n)))) G mi') : OkC (d + 2) 101 [pR (some T), pI x] G mi K := by
  obtain ⟨⟨⟨k1, k2, k3, l3, k9, l9, k10, l10, k11, l11⟩, ⟨k12, k13, l13, k14, k15, l15, k16, k17, l17, k18, l18⟩, ⟨r10, r14, r15, r16, r113, r114, r115, r116, r22, r122, r142, r162⟩⟩, -, ⟨⟨k0, r00, r01, r02, r03⟩, ⟨k37, r372, k38, l38⟩, ⟨k39, r390, r391, r392, r393, r394, r396, r397⟩, ⟨k40, l40, k41, l41, k42, l42, k43, l43, k44, l44, k45, l45⟩⟩⟩ := id hC
  obtain ⟨c1, c2, c3, c4, c5⟩ := id hTh
  have hth : thg (gK G T).1 = true := by rw [c1]; exact kcl_thg
  rw [E101]
  simp (disch := first | assumption | exact isL_i | exact isL_r | exact isL_n | exact i01a | exact i01b | omega) only [K101_0, K101_1, K101_4, K101_6, K101_7, wr_id, td_e, tm_e, pu_n, pu_s, up_s, up_k, up_a, ↓reduceIte, Int.reduceLT, Int.reduceLE, Int.reduceEq, Int.reduceNeg, Int.reduceAdd, Int.reduceSub, Int.reduceMul, Int.reduceMod, Int.reduceDiv, Int.cast_ofNat_Int, not_true_eq_false, not_false_eq_true, Int.reduceTDiv, Int.reduceTMod, c5]
  rw [K101_8 k37]
  refine c_tr hC hL (by omega) fun m1 h1 s1 => ?_
  have hTh1 := hTh.tr h55 s1
  rcases hc with hc | hc
  all_goals
    simp (disch := first | assumption | exact isL_i | exact isL_r | exact isL_n | exact i01a | exact i01b | omega) only [K101_11, K101_11i, K101_12, K101_13, K101_14, K101_15, K101_16c2, K101_16c5, pu_n, pu_s]
    refine c_shG hC h55 hTh1 h1 (by rw [List.length_append]; simp only [List.length_singleton]; omega) fun m2 h2 s2 => ?_
    simp (disch := first | assumption | exact isL_i | exact isL_r | exact isL_n | exact i01a | exact i01b | omega) only [K101_19, pu_n, pu_s]
    exact hK m2 (by rw [List.append_assoc] at h2; exact h2) (s1.tr s2)
theorem c_shI (hC : ShC G) (hc : (gK G T).1 = 6) (h55 : 55 ≤ T) (hTh : RTh G mi T k n v) (hL : TRc L mi) (h20 : L.length < 19) (hK : ∀ mi', TRc (L ++ [51, 1]) mi' → Sc [37, 38] mi mi' → K (some (pI (iXor (wr (x + n)) n))) G mi') : OkC (d + 2) 112 [pR (some T), pI x] G mi K := by
  obtain ⟨⟨⟨k1, k2, k3, l3, k9, l9, k10, l10, k11, l11⟩, ⟨k12, k13, l13, k14, k15, l15, k16, k17, l17, k18, l18⟩, ⟨r10, r14, r15, r16, r113, r114, r115, r116, r22, r122, r142, r162⟩⟩, -, ⟨⟨k0, r00, r01, r02, r03⟩, ⟨k37, r372, k38, l38⟩, ⟨k39, r390, r391, r392, r393, r394, r396, r397⟩, ⟨k40, l40, k41, l41, k42, l42, k43, l43, k44, l44, k45, l45⟩⟩⟩ := id hC
  obtain ⟨c1, c2, c3, c4, c5⟩ := id hTh
  have hth : thg (gK G T).1 = true := by rw [c1]; exact kcl_thg
  rw [E112]
  simp (disch := first | assumption | exact isL_i | exact isL_r | exact isL_n | exact i01a | exact i01b | omega) only [K112_0, K112_1, K112_4, K112_6, K112_7, wr_id, td_e, tm_e, pu_n, pu_s, up_s, up_k, up_a, ↓reduceIte, Int.reduceLT, Int.reduceLE, Int.reduceEq, Int.reduceNeg, Int.reduceAdd, Int.reduceSub, Int.reduceMul, Int.reduceMod, Int.reduceDiv, Int.cast_ofNat_Int, not_true_eq_false, not_false_eq_true, Int.reduceTDiv, Int.reduceTMod, c5]
  rw [K112_8 k37]
  refine c_tr hC hL (by omega) fun m1 h1 s1 => ?_
  have hTh1 := hTh.tr h55 s1
  simp (disch := first | assumption | exact isL_i | exact isL_r | exact isL_n | exact i01a | exact i01b | omega) only [K112_11, K112_11i, K112_12, K112_13, K112_14, pu_n, pu_s]
  refine c_shG hC h55 hTh1 h1 (by rw [List.length_append]; simp only [List.length_singleton]; omega) fun m2 h2 s2 => ?_
  obtain ⟨-, d2, d3, d4, -⟩ := hTh1.tr h55 s2
  simp (disch := first | assumption | exact isL_i | exact isL_r | exact isL_n | exact i01a | exact i01b | omega) only [K112_17, K112_18, K112_21, K112_22, pu_n, pu_s, d3]
  exact hK m2 (by rw [List.append_assoc] at h2; exact h2) (s1.tr s2)
theorem c_shows (hC : ShC G) (h0 : 0 ≤ k) (h6 : k ≤ 6) (h55 : 55 ≤ T) (hTh : RTh G mi T k n v) (hL : TRc L mi) (h20 : L.length < 18) (hK : ∀ mi', TRc (L ++ shB k) mi' → Sc [37, 38] mi mi' → K (some (pI (shA k n x))) G mi') : OkC (d + 2) (shY k) [pR (some T), pI x] G mi K := by
  have c1 := hTh.1
  unfold shA shB at hK
  unfold shY
  by_cases e1 : k = 1 ∨ k = 4
  · rw [if_pos e1]
    simp only [if_pos e1] at hK
    refine c_shO hC ?_ h55 hTh hL (by omega) hK
    rcases e1 with rfl | rfl
    · exact Or.inl c1
    · exact Or.inr c1
  · rw [if_neg e1]
    simp only [if_neg e1] at hK
    by_cases e5 : k = 5
    · rw [if_pos e5]
      simp only [if_pos e5] at hK
      subst e5
      exact c_shI hC c1 h55 hTh hL (by omega) hK
    · rw [if_neg e5]
      simp only [if_neg e5] at hK
      exact c_shG (d := d + 1) hC h55 hTh hL (by omega) hK
theorem c_skG (hC : ShC G) (h0 : 0 ≤ k) (h6 : k ≤ 6) (h55 : 55 ≤ T) (hTh : RTh G mi T k n v) (hL : TRc L mi) (h20 : L.length < 17) (hK : ∀ mi', TRc (L ++ 2 :: shB k) mi' → Sc [37, 38] mi mi' → K (some (pI (wr (shA k n x - v)))) G mi') : OkC (d + 3) 92 [pR (some T), pI x] G mi K := by
  obtain ⟨⟨⟨k1, k2, k3, l3, k9, l9, k10, l10, k11, l11⟩, ⟨k12, k13, l13, k14, k15, l15, k16, k17, l17, k18, l18⟩, ⟨r10, r14, r15, r16, r113, r114, r115, r116, r22, r122, r142, r162⟩⟩, -, ⟨⟨k0, r00, r01, r02, r03⟩, ⟨k37, r372, k38, l38⟩, ⟨k39, r390, r391, r392, r393, r394, r396, r397⟩, ⟨k40, l40, k41, l41, k42, l42, k43, l43, k44, l44, k45, l45⟩⟩⟩ := id hC
  obtain ⟨c1, c2, c3, c4, c5⟩ := id hTh
  have hth : thg (gK G T).1 = true := by rw [c1]; exact kcl_thg
  rw [E92]
  simp (disch := first | assumption | exact isL_i | exact isL_r | exact isL_n | exact i01a | exact i01b | omega) only [K92_0, K92_1, K92_4, K92_5, K92_6, wr_id, td_e, tm_e, pu_n, pu_s, up_s, up_k, up_a, ↓reduceIte, Int.reduceLT, Int.reduceLE, Int.reduceEq, Int.reduceNeg, Int.reduceAdd, Int.reduceSub, Int.reduceMul, Int.reduceMod, Int.reduceDiv, Int.cast_ofNat_Int, not_true_eq_false, not_false_eq_true, Int.reduceTDiv, Int.reduceTMod, c5]
  rw [K92_7 k37]
  refine c_tr hC hL (by omega) fun m1 h1 s1 => ?_
  have hTh1 := hTh.tr h55 s1
  simp (disch := first | assumption | exact isL_i | exact isL_r | exact isL_n | exact i01a | exact i01b | omega) only [K92_10, K92_10i, K92_11, K92_12, pu_n, pu_s]
  have hv : ∀ Q, Ok (d + 3) 92 13 [some (pR (some T)), some (pI x)] [pI x, pR (some T)] G m1 Q = OkC (d + 2) (shY k) [pR (some T), pI x] G m1 (fun r G' mi' => Ok (d + 3) 92 16 [some (pR (some T)), some (pI x)] (pu r []) G' mi' Q) := by
    intro Q
    rcases k7 h0 h6 with e | e | e | e | e | e | e
    all_goals
      rw [e] at c1
      simp only [kcl, ↓reduceIte, Int.reduceEq] at c1
      rw [e]
      simp (disch := first | assumption | exact isL_i | exact isL_r | exact isL_n | exact i01a | exact i01b | omega) only [K92_13c1, K92_13c2, K92_13c3, K92_13c5, K92_13c6, K92_13c9, K92_13c10, shY, skY, tlY, ↓reduceIte, Int.reduceEq, or_self, or_true, true_or, or_false, false_or]
  have hv' := hv K
  rw [show Ok (d + 3) 92 13 [some (Sum.inr (Sum.inr (Sum.inl (some T)))), some (pI x)] [pI x, Sum.inr (Sum.inr (Sum.inl (some T)))] G m1 K = _ from hv']
  refine c_shows hC h0 h6 h55 hTh1 h1 (by rw [List.length_append]; simp only [List.length_singleton]; omega) fun m2 h2 s2 => ?_
  obtain ⟨-, d2, d3, d4, -⟩ := hTh1.tr h55 s2
  simp (disch := first | assumption | exact isL_i | exact isL_r | exact isL_n | exact i01a | exact i01b | omega) only [K92_16, K92_17, K92_20, K92_21, pu_n, pu_s, d4]
  exact hK m2 (by rw [List.append_assoc] at h2; exact h2) (s1.tr s2)
theorem c_skH (hC : ShC G) (hc : (gK G T).1 = 3 ∨ (gK G T).1 = 6) (h0 : 0 ≤ k) (h6 : k ≤ 6) (h55 : 55 ≤ T) (hTh : RTh G mi T k n v) (hL : TRc L mi) (h20 : L.length < 16) (hK : ∀ mi', TRc (L ++ 21 :: 2 :: shB k) mi' → Sc [37, 38] mi mi' → K (some (pI (wr (-(wr (shA k n x - v)))))) G mi') : OkC (d + 4) 104 [pR (some T), pI x] G mi K := by
  obtain ⟨⟨⟨k1, k2, k3, l3, k9, l9, k10, l10, k11, l11⟩, ⟨k12, k13, l13, k14, k15, l15, k16, k17, l17, k18, l18⟩, ⟨r10, r14, r15, r16, r113, r114, r115, r116, r22, r122, r142, r162⟩⟩, -, ⟨⟨k0, r00, r01, r02, r03⟩, ⟨k37, r372, k38, l38⟩, ⟨k39, r390, r391, r392, r393, r394, r396, r397⟩, ⟨k40, l40, k41, l41, k42, l42, k43, l43, k44, l44, k45, l45⟩⟩⟩ := id hC
  obtain ⟨c1, c2, c3, c4, c5⟩ := id hTh
  have hth : thg (gK G T).1 = true := by rw [c1]; exact kcl_thg
  rw [E104]
  simp (disch := first | assumption | exact isL_i | exact isL_r | exact isL_n | exact i01a | exact i01b | omega) only [K104_0, K104_1, K104_4, K104_6, K104_7, wr_id, td_e, tm_e, pu_n, pu_s, up_s, up_k, up_a, ↓reduceIte, Int.reduceLT, Int.reduceLE, Int.reduceEq, Int.reduceNeg, Int.reduceAdd, Int.reduceSub, Int.reduceMul, Int.reduceMod, Int.reduceDiv, Int.cast_ofNat_Int, not_true_eq_false, not_false_eq_true, Int.reduceTDiv, Int.reduceTMod, c5]
  rw [K104_8 k37]
  refine c_tr hC hL (by omega) fun m1 h1 s1 => ?_
  have hTh1 := hTh.tr h55 s1
  rcases hc with hc | hc
  all_goals
    simp (disch := first | assumption | exact isL_i | exact isL_r | exact isL_n | exact i01a | exact i01b | omega) only [K104_11, K104_11i, K104_12, K104_13, K104_14c3, K104_14c6, pu_n, pu_s]
    refine c_skG hC h0 h6 h55 hTh1 h1 (by rw [List.length_append]; simp only [List.length_singleton]; omega) fun m2 h2 s2 => ?_
    simp (disch := first | assumption | exact isL_i | exact isL_r | exact isL_n | exact i01a | exact i01b | omega) only [K104_17, K104_18, pu_n, pu_s]
    exact hK m2 (by rw [List.append_assoc] at h2; exact h2) (s1.tr s2)
theorem c_skD (hC : ShC G) (hc : (gK G T).1 = 10) (h0 : 0 ≤ k) (h6 : k ≤ 6) (h55 : 55 ≤ T) (hTh : RTh G mi T k n v) (hL : TRc L mi) (h20 : L.length < 16) (hK : ∀ mi', TRc (L ++ 61 :: 2 :: shB k) mi' → Sc [37, 38] mi mi' → K (some (pI (wr (wr (shA k n x - v) + v)))) G mi') : OkC (d + 4) 116 [pR (some T), pI x] G mi K := by
  obtain ⟨⟨⟨k1, k2, k3, l3, k9, l9, k10, l10, k11, l11⟩, ⟨k12, k13, l13, k14, k15, l15, k16, k17, l17, k18, l18⟩, ⟨r10, r14, r15, r16, r113, r114, r115, r116, r22, r122, r142, r162⟩⟩, -, ⟨⟨k0, r00, r01, r02, r03⟩, ⟨k37, r372, k38, l38⟩, ⟨k39, r390, r391, r392, r393, r394, r396, r397⟩, ⟨k40, l40, k41, l41, k42, l42, k43, l43, k44, l44, k45, l45⟩⟩⟩ := id hC
  obtain ⟨c1, c2, c3, c4, c5⟩ := id hTh
  have hth : thg (gK G T).1 = true := by rw [c1]; exact kcl_thg
  rw [E116]
  simp (disch := first | assumption | exact isL_i | exact isL_r | exact isL_n | exact i01a | exact i01b | omega) only [K116_0, K116_1, K116_4, K116_6, K116_7, wr_id, td_e, tm_e, pu_n, pu_s, up_s, up_k, up_a, ↓reduceIte, Int.reduceLT, Int.reduceLE, Int.reduceEq, Int.reduceNeg, Int.reduceAdd, Int.reduceSub, Int.reduceMul, Int.reduceMod, Int.reduceDiv, Int.cast_ofNat_Int, not_true_eq_false, not_false_eq_true, Int.reduceTDiv, Int.reduceTMod, c5]
  rw [K116_8 k37]
  refine c_tr hC hL (by omega) fun m1 h1 s1 => ?_
  have hTh1 := hTh.tr h55 s1
  simp (disch := first | assumption | exact isL_i | exact isL_r | exact isL_n | exact i01a | exact i01b | omega) only [K116_11, K116_11i, K116_12, K116_13, K116_14, pu_n, pu_s]
  refine c_skG hC h0 h6 h55 hTh1 h1 (by rw [List.length_append]; simp only [List.length_singleton]; omega) fun m2 h2 s2 => ?_
  obtain ⟨-, d2, d3, d4, -⟩ := hTh1.tr h55 s2
  simp (disch := first | assumption | exact isL_i | exact isL_r | exact isL_n | exact i01a | exact i01b | omega) only [K116_17, K116_18, K116_21, K116_22, pu_n, pu_s, d4]
  exact hK m2 (by rw [List.append_assoc] at h2; exact h2) (s1.tr s2)
theorem c_shakes (hC : ShC G) (h0 : 0 ≤ k) (h6 : k ≤ 6) (h55 : 55 ≤ T) (hTh : RTh G mi T k n v) (hL : TRc L mi) (h20 : L.length < 16) (hK : ∀ mi', TRc (L ++ skB k) mi' → Sc [37, 38] mi mi' → K (some (pI (skA k n v x))) G mi') : OkC (d + 4) (skY k) [pR (some T), pI x] G mi K := by
  have c1 := hTh.1
  unfold skA skB at hK
  unfold skY
  by_cases e1 : k = 2 ∨ k = 5
  · rw [if_pos e1]
    simp only [if_pos e1] at hK
    refine c_skH hC ?_ h0 h6 h55 hTh hL (by omega) hK
    rcases e1 with rfl | rfl
    · exact Or.inl c1
    · exact Or.inr c1
  · rw [if_neg e1]
    simp only [if_neg e1] at hK
    by_cases e5 : k = 6
    · rw [if_pos e5]
      simp only [if_pos e5] at hK
      subst e5
      exact c_skD hC c1 h0 h6 h55 hTh hL (by omega) hK
    · rw [if_neg e5]
      simp only [if_neg e5] at hK
      exact c_skG (d := d + 1) hC h0 h6 h55 hTh hL (by omega) hK
end CL
