/-! ===== tables; what stays of a state ===== -/
section CL
variable {d : Nat} {G : Gh} {mi : Mi} {K : Option PV → Gh → Mi → Prop} {o o' : Nat} {s : Int → Int} {p t v w a b c k n g q x lim : Int}
theorem t_size (hk : (gK G o).1 = 8) : OkC d 80 [pR (some o)] G mi K = K (some (pI (mi o 3))) G mi := by
  rw [E80]
  simp (disch := first | assumption | exact isL_i | exact isL_r | exact isL_n | exact i01a | exact i01b | omega) only [K80_0, K80_1, K80_4, wr_id, td_e, tm_e, pu_n, pu_s, up_s, up_k, up_a, ↓reduceIte, Int.reduceLT, Int.reduceLE, Int.reduceEq, Int.reduceNeg, Int.reduceAdd, Int.reduceSub, Int.reduceMul, Int.reduceMod, Int.reduceDiv, Int.cast_ofNat_Int, not_true_eq_false, not_false_eq_true, Int.reduceTDiv, Int.reduceTMod]
theorem t_isFull (hk : (gK G o).1 = 8) : OkC d 81 [pR (some o)] G mi K = K (some (pI (if mi o 1 ≤ mi o 3 then 1 else 0))) G mi := by
  rw [E81]
  by_cases h : mi o 1 ≤ mi o 3
  · simp (disch := first | assumption | exact isL_i | exact isL_r | exact isL_n | exact i01a | exact i01b | omega) only [K81_0, K81_1, K81_4, K81_5, K81_8, K81_11, K81_12, K81_15, K81_16, wr_id, td_e, tm_e, pu_n, pu_s, up_s, up_k, up_a, ↓reduceIte, Int.reduceLT, Int.reduceLE, Int.reduceEq, Int.reduceNeg, Int.reduceAdd, Int.reduceSub, Int.reduceMul, Int.reduceMod, Int.reduceDiv, Int.cast_ofNat_Int, not_true_eq_false, not_false_eq_true, Int.reduceTDiv, Int.reduceTMod, if_pos, if_neg]
  · simp (disch := first | assumption | exact isL_i | exact isL_r | exact isL_n | exact i01a | exact i01b | omega) only [K81_0, K81_1, K81_4, K81_5, K81_8, K81_11, K81_12, K81_15, K81_16, wr_id, td_e, tm_e, pu_n, pu_s, up_s, up_k, up_a, ↓reduceIte, Int.reduceLT, Int.reduceLE, Int.reduceEq, Int.reduceNeg, Int.reduceAdd, Int.reduceSub, Int.reduceMul, Int.reduceMod, Int.reduceDiv, Int.cast_ofNat_Int, not_true_eq_false, not_false_eq_true, Int.reduceTDiv, Int.reduceTMod, if_pos, if_neg]
theorem t_clear (hk : (gK G o).1 = 8) : OkC d 82 [pR (some o)] G mi K = K (some (pI 0)) G (up mi o 3 0) := by
  rw [E82]
  simp (disch := first | assumption | exact isL_i | exact isL_r | exact isL_n | exact i01a | exact i01b | omega) only [K82_0, K82_1, K82_2, K82_5, K82_6, K82_9, wr_id, td_e, tm_e, pu_n, pu_s, up_s, up_k, up_a, ↓reduceIte, Int.reduceLT, Int.reduceLE, Int.reduceEq, Int.reduceNeg, Int.reduceAdd, Int.reduceSub, Int.reduceMul, Int.reduceMod, Int.reduceDiv, Int.cast_ofNat_Int, not_true_eq_false, not_false_eq_true, Int.reduceTDiv, Int.reduceTMod]
theorem t_get (hk : (gK G o).1 = 8) (hr : gR G o 2 = some o') (hk' : (gK G o').1 = 20) (hw : 1 ≤ mi o 0) (hw' : mi o 0 ≤ 3) (h3 : 0 ≤ mi o 3) (h31 : mi o 3 ≤ mi o 1) (hl : mi o 1 ≤ 200) (hlen : mi o 1 * mi o 0 ≤ (gK G o').2) (hn : 0 ≤ b) (hb : b < mi o 0) :
    OkC d 84 [pR (some o), pI a, pI b] G mi K = K (some (pI (if 0 ≤ a ∧ a < mi o 3 then mi o' (a * mi o 0 + b) else -1))) G mi := by
  rw [E84]
  have hk20 : 20 ≤ (gK G o').1 := by omega
  by_cases h0 : 0 ≤ a
  · by_cases h1 : a < mi o 3
    · rw [if_pos ⟨h0, h1⟩]
      have hm : (a + 1) * mi o 0 ≤ mi o 1 * mi o 0 := Int.mul_le_mul_of_nonneg_right (by omega) (by omega)
      have hm' : (a + 1) * mi o 0 = a * mi o 0 + mi o 0 := by rw [Int.add_mul, Int.one_mul]
      obtain ⟨f1, f2⟩ := mulb h0 (show a ≤ 200 by omega) (show 0 ≤ mi o 0 by omega) hw'
      simp (disch := first | assumption | exact isL_i | exact isL_r | exact isL_n | exact i01a | exact i01b | omega) only [K84_0, K84_1, K84_4, K84_5, K84_6, K84_9, K84_12, K84_13, K84_14, K84_17, K84_20, K84_21, K84_24, K84_25, K84_26, K84_29, K84_32, K84_33, K84_34, K84_35, K84_36, K84_39, K84_40, K84_41, K84_42, K84_43, K84_44, K84_45, K84_48, K84_49, K84_52, K84_53, K84_56, K84_57, K84_58, K84_61, K84_62, wr_id, td_e, tm_e, pu_n, pu_s, up_s, up_k, up_a, ↓reduceIte, Int.reduceLT, Int.reduceLE, Int.reduceEq, Int.reduceNeg, Int.reduceAdd, Int.reduceSub, Int.reduceMul, Int.reduceMod, Int.reduceDiv, Int.cast_ofNat_Int, not_true_eq_false, not_false_eq_true, Int.reduceTDiv, Int.reduceTMod, hr, if_pos, if_neg]
    · rw [if_neg (fun h => h1 h.2)]
      simp (disch := first | assumption | exact isL_i | exact isL_r | exact isL_n | exact i01a | exact i01b | omega) only [K84_0, K84_1, K84_4, K84_5, K84_6, K84_9, K84_12, K84_13, K84_14, K84_17, K84_20, K84_21, K84_24, K84_25, K84_26, K84_29, K84_32, K84_33, K84_34, K84_35, K84_36, K84_39, K84_40, K84_41, K84_42, K84_43, K84_44, K84_45, K84_48, K84_49, K84_52, K84_53, K84_56, K84_57, K84_58, K84_61, K84_62, wr_id, td_e, tm_e, pu_n, pu_s, up_s, up_k, up_a, ↓reduceIte, Int.reduceLT, Int.reduceLE, Int.reduceEq, Int.reduceNeg, Int.reduceAdd, Int.reduceSub, Int.reduceMul, Int.reduceMod, Int.reduceDiv, Int.cast_ofNat_Int, not_true_eq_false, not_false_eq_true, Int.reduceTDiv, Int.reduceTMod, if_pos, if_neg]
  · rw [if_neg (fun h => h0 h.1)]
    simp (disch := first | assumption | exact isL_i | exact isL_r | exact isL_n | exact i01a | exact i01b | omega) only [K84_0, K84_1, K84_4, K84_5, K84_6, K84_9, K84_12, K84_13, K84_14, K84_17, K84_20, K84_21, K84_24, K84_25, K84_26, K84_29, K84_32, K84_33, K84_34, K84_35, K84_36, K84_39, K84_40, K84_41, K84_42, K84_43, K84_44, K84_45, K84_48, K84_49, K84_52, K84_53, K84_56, K84_57, K84_58, K84_61, K84_62, wr_id, td_e, tm_e, pu_n, pu_s, up_s, up_k, up_a, ↓reduceIte, Int.reduceLT, Int.reduceLE, Int.reduceEq, Int.reduceNeg, Int.reduceAdd, Int.reduceSub, Int.reduceMul, Int.reduceMod, Int.reduceDiv, Int.cast_ofNat_Int, not_true_eq_false, not_false_eq_true, Int.reduceTDiv, Int.reduceTMod, if_pos, if_neg]
theorem t_add1 (hk : (gK G o).1 = 8) (hr : gR G o 2 = some o') (hk' : (gK G o').1 = 20) (hoo : ¬ o = o') (hw : mi o 0 = 1) (h3 : 0 ≤ mi o 3) (h31 : mi o 3 < mi o 1) (hl : mi o 1 ≤ 200) (hlen : mi o 1 ≤ (gK G o').2) :
    OkC d 83 [pR (some o), pI a, pI b, pI c] G mi K = K (some (pI (mi o 3 + 1))) G (up (up mi o' (mi o 3) a) o 3 (mi o 3 + 1)) := by
  have hk20 : 20 ≤ (gK G o').1 := by omega
  rw [E83]
  simp (disch := first | assumption | exact isL_i | exact isL_r | exact isL_n | exact i01a | exact i01b | omega) only [K83_0, K83_1, K83_4, K83_5, K83_8, K83_9, K83_11, K83_12, K83_15, K83_16, K83_19, K83_22, K83_24, K83_27, K83_29, K83_30, K83_33, K83_34, K83_35, K83_38, K83_39, K83_42, K83_43, K83_46, K83_48, K83_49, K83_50, K83_51, K83_54, K83_55, K83_58, K83_59, K83_62, K83_64, K83_65, K83_66, K83_67, K83_68, K83_69, K83_72, K83_73, K83_76, K83_77, K83_80, K83_82, K83_83, K83_84, K83_85, K83_86, K83_87, K83_87i, K83_88, K83_91, K83_92, K83_93, K83_96, K83_97, K83_100, wr_id, td_e, tm_e, pu_n, pu_s, up_s, up_k, up_a, ↓reduceIte, Int.reduceLT, Int.reduceLE, Int.reduceEq, Int.reduceNeg, Int.reduceAdd, Int.reduceSub, Int.reduceMul, Int.reduceMod, Int.reduceDiv, Int.cast_ofNat_Int, not_true_eq_false, not_false_eq_true, Int.reduceTDiv, Int.reduceTMod, hr, hw, if_pos, if_neg, Int.mul_one]
theorem t_add2 (hk : (gK G o).1 = 8) (hr : gR G o 2 = some o') (hk' : (gK G o').1 = 20) (hoo : ¬ o = o') (hw : mi o 0 = 2) (h3 : 0 ≤ mi o 3) (h31 : mi o 3 < mi o 1) (hl : mi o 1 ≤ 200) (hlen : mi o 1 * 2 ≤ (gK G o').2) :
    OkC d 83 [pR (some o), pI a, pI b, pI c] G mi K = K (some (pI (mi o 3 + 1))) G (up (up (up mi o' (mi o 3 * 2) a) o' (mi o 3 * 2 + 1) b) o 3 (mi o 3 + 1)) := by
  have hk20 : 20 ≤ (gK G o').1 := by omega
  rw [E83]
  simp (disch := first | assumption | exact isL_i | exact isL_r | exact isL_n | exact i01a | exact i01b | omega) only [K83_0, K83_1, K83_4, K83_5, K83_8, K83_9, K83_11, K83_12, K83_15, K83_16, K83_19, K83_22, K83_24, K83_27, K83_29, K83_30, K83_33, K83_34, K83_35, K83_38, K83_39, K83_42, K83_43, K83_46, K83_48, K83_49, K83_50, K83_51, K83_54, K83_55, K83_58, K83_59, K83_62, K83_64, K83_65, K83_66, K83_67, K83_68, K83_69, K83_72, K83_73, K83_76, K83_77, K83_80, K83_82, K83_83, K83_84, K83_85, K83_86, K83_87, K83_87i, K83_88, K83_91, K83_92, K83_93, K83_96, K83_97, K83_100, wr_id, td_e, tm_e, pu_n, pu_s, up_s, up_k, up_a, ↓reduceIte, Int.reduceLT, Int.reduceLE, Int.reduceEq, Int.reduceNeg, Int.reduceAdd, Int.reduceSub, Int.reduceMul, Int.reduceMod, Int.reduceDiv, Int.cast_ofNat_Int, not_true_eq_false, not_false_eq_true, Int.reduceTDiv, Int.reduceTMod, hr, hw, if_pos, if_neg]
theorem t_add3 (hk : (gK G o).1 = 8) (hr : gR G o 2 = some o') (hk' : (gK G o').1 = 20) (hoo : ¬ o = o') (hw : mi o 0 = 3) (h3 : 0 ≤ mi o 3) (h31 : mi o 3 < mi o 1) (hl : mi o 1 ≤ 200) (hlen : mi o 1 * 3 ≤ (gK G o').2) :
    OkC d 83 [pR (some o), pI a, pI b, pI c] G mi K = K (some (pI (mi o 3 + 1))) G (up (up (up (up mi o' (mi o 3 * 3) a) o' (mi o 3 * 3 + 1) b) o' (mi o 3 * 3 + 2) c) o 3 (mi o 3 + 1)) := by
  have hk20 : 20 ≤ (gK G o').1 := by omega
  rw [E83]
  simp (disch := first | assumption | exact isL_i | exact isL_r | exact isL_n | exact i01a | exact i01b | omega) only [K83_0, K83_1, K83_4, K83_5, K83_8, K83_9, K83_11, K83_12, K83_15, K83_16, K83_19, K83_22, K83_24, K83_27, K83_29, K83_30, K83_33, K83_34, K83_35, K83_38, K83_39, K83_42, K83_43, K83_46, K83_48, K83_49, K83_50, K83_51, K83_54, K83_55, K83_58, K83_59, K83_62, K83_64, K83_65, K83_66, K83_67, K83_68, K83_69, K83_72, K83_73, K83_76, K83_77, K83_80, K83_82, K83_83, K83_84, K83_85, K83_86, K83_87, K83_87i, K83_88, K83_91, K83_92, K83_93, K83_96, K83_97, K83_100, wr_id, td_e, tm_e, pu_n, pu_s, up_s, up_k, up_a, ↓reduceIte, Int.reduceLT, Int.reduceLE, Int.reduceEq, Int.reduceNeg, Int.reduceAdd, Int.reduceSub, Int.reduceMul, Int.reduceMod, Int.reduceDiv, Int.cast_ofNat_Int, not_true_eq_false, not_false_eq_true, Int.reduceTDiv, Int.reduceTMod, hr, hw, if_pos, if_neg]
end CL
/-- the reference's row of numbers, all its ranges -/
def WfA (s : Int → Int) : Prop := WfN s ∧ WfV s ∧ WfD s ∧ WfB s ∧ (∀ j : Int, 0 ≤ j → j < 8 → 0 ≤ s (75 + j) ∧ s (75 + j) ≤ 5) ∧ (∀ j : Int, 0 ≤ j → j < 100 → 0 ≤ s (99 + j) ∧ s (99 + j) ≤ 127) ∧
  (∀ p : Int, s 11 ≤ p → p < 6 → s (2 + p) = 0 ∧ s (36 + 4 * p) = 0 ∧ s (36 + 4 * p + 1) = 0 ∧ s (36 + 4 * p + 2) = 0 ∧ s (36 + 4 * p + 3) = 0) ∧ WfZ s ∧ (∀ k : Int, 0 ≤ k → k < s 15 → s (83 + k) < s 11)
theorem WfA.g {s : Int → Int} (h : WfA s) : WfG s := ⟨h.1.2.2.1, h.2.1, ⟨h.1.2.2.2.1, h.1.2.2.2.2.1⟩, h.1.1.2.2.2.2.2.1⟩
-- #def WA obtain ⟨⟨⟨z0, z1, z8, z9, z10, z11, z12, z13, z14, z15, z16⟩, hh01, hT, hz17⟩, hWV, hWD, hWB, hWP, hWT, hWZ, hWF, hWK⟩ := id hW
theorem hadB_c {s s' : Int → Int} (h : ∀ j : Int, 2 ≤ j → j < 8 → s' j = s j) : hadB s' = hadB s := by
  unfold hadB
  rw [h 2 (by decide) (by decide), h 3 (by decide) (by decide), h 4 (by decide) (by decide), h 5 (by decide) (by decide), h 6 (by decide) (by decide), h 7 (by decide) (by decide)]
theorem RNn.c {s s' : Int → Int} {mi mi' : Mi} (h : RNn 1 s mi) (e : mi' 1 = mi 1) (hs : ∀ j : Int, 0 ≤ j → j < 13 → s' j = s j) : RNn 1 s' mi' := by
  obtain ⟨h1, h2, h3, h4, h5, h6, h7, h8⟩ := h
  have eh := hadB_c (s := s) (s' := s') (fun j h0 h1 => hs j (by omega) (by omega))
  unfold RNn
  rw [e, eh, hs 12 (by decide) (by decide), hs 11 (by decide) (by decide), hs 0 (by decide) (by decide), hs 1 (by decide) (by decide), hs 8 (by decide) (by decide), hs 9 (by decide) (by decide), hs 10 (by decide) (by decide)]
  exact ⟨h1, h2, h3, h4, h5, h6, h7, h8⟩
theorem RNh.c {s s' : Int → Int} {mi mi' : Mi} (h : RNh 1 s mi) (hn : s 11 ≤ 6) (e10 : mi' 10 = mi 10) (e11 : mi' 11 = mi 11) (hs : ∀ j : Int, j = 11 ∨ (30 ≤ j ∧ j < 60) → s' j = s j) : RNh 1 s' mi' := by
  obtain ⟨h1, h2⟩ := h
  refine ⟨fun p p0 p1 => ?_, fun j j0 j1 => ?_⟩
  · rw [hs 11 (Or.inl rfl)] at p1
    rw [hs (30 + p) (by omega)]
    show mi' 10 p = _
    rw [e10]; exact h1 p p0 p1
  · rw [hs (36 + j) (by omega)]
    show mi' 11 j = _
    rw [e11]; exact h2 j j0 j1
theorem RNt.c {s s' : Int → Int} {mi mi' : Mi} (h : RNt 1 s mi) (hn : s 16 ≤ 100) (e2 : mi' 2 = mi 2) (e3 : mi' 3 = mi 3) (hs : ∀ j : Int, j = 16 ∨ (99 ≤ j ∧ j < 199) → s' j = s j) : RNt 1 s' mi' := by
  obtain ⟨h1, h2⟩ := h
  have e2' : mi' (1 + 1) = mi (1 + 1) := e2
  have e3' : mi' (1 + 2) = mi (1 + 2) := e3
  unfold RNt
  rw [e2', e3', hs 16 (Or.inl rfl)]
  refine ⟨h1, fun j j0 j1 => ?_⟩
  rw [hs (99 + j) (by omega)]; exact h2 j j0 j1
theorem RNs.c {s s' : Int → Int} {mi mi' : Mi} (h : RNs 1 s mi) (hn : s 13 ≤ 5) (e2 : mi' 12 = mi 12) (e3 : mi' 13 = mi 13) (hs : ∀ j : Int, j = 13 ∨ (60 ≤ j ∧ j < 75) → s' j = s j) : RNs 1 s' mi' := by
  obtain ⟨h1, h2⟩ := h
  have e2' : mi' (1 + 11) = mi (1 + 11) := e2
  have e3' : mi' (1 + 12) = mi (1 + 12) := e3
  unfold RNs
  rw [e2', e3', hs 13 (Or.inl rfl)]
  refine ⟨h1, fun j j0 j1 => ?_⟩
  rw [hs (60 + j) (by omega), hs (65 + j) (by omega), hs (70 + j) (by omega)]; exact h2 j j0 j1
theorem RNp.c {s s' : Int → Int} {mi mi' : Mi} (h : RNp 1 s mi) (hn : s 14 ≤ 8) (e2 : mi' 14 = mi 14) (e3 : mi' 15 = mi 15) (hs : ∀ j : Int, j = 14 ∨ (75 ≤ j ∧ j < 83) → s' j = s j) : RNp 1 s' mi' := by
  obtain ⟨h1, h2⟩ := h
  have e2' : mi' (1 + 13) = mi (1 + 13) := e2
  have e3' : mi' (1 + 14) = mi (1 + 14) := e3
  unfold RNp
  rw [e2', e3', hs 14 (Or.inl rfl)]
  refine ⟨h1, fun j j0 j1 => ?_⟩
  rw [hs (75 + j) (by omega)]; exact h2 j j0 j1
theorem RNb.c {s s' : Int → Int} {mi mi' : Mi} (h : RNb 1 s mi) (hn : s 15 ≤ 8) (e2 : mi' 16 = mi 16) (e3 : mi' 17 = mi 17) (hs : ∀ j : Int, j = 15 ∨ (83 ≤ j ∧ j < 99) → s' j = s j) : RNb 1 s' mi' := by
  obtain ⟨h1, h2⟩ := h
  have e2' : mi' (1 + 15) = mi (1 + 15) := e2
  have e3' : mi' (1 + 16) = mi (1 + 16) := e3
  unfold RNb
  rw [e2', e3', hs 15 (Or.inl rfl)]
  refine ⟨h1, fun j j0 j1 => ?_⟩
  rw [hs (83 + j) (by omega), hs (91 + j) (by omega)]; exact h2 j j0 j1
theorem vw_c {s s' : Int → Int} (h17 : -1 ≤ s 17) (h : ∀ j : Int, j = 17 ∨ 199 ≤ j → s' j = s j) : coinF s' = coinF s ∧ telF s' 204 0 = telF s 204 0 ∧ telF s' 209 0 = telF s 209 0 ∧ stepsF s' = stepsF s ∧ manyF s' = manyF s := by
  have e17 := h 17 (Or.inl rfl)
  have et : ∀ w n : Int, 199 ≤ w → telF s' w n = telF s w n := fun w n hw => st_tel e17 (fun hne => h _ (by omega))
  have em : manyF s' = manyF s := by
    unfold manyF
    rw [e17]
    by_cases c : s 17 = -1
    · rw [if_pos c, if_pos c]
    · rw [if_neg c, if_neg c]; exact h _ (by omega)
  have eg : ∀ (n : Nat) (a : Int), 199 ≤ a ∨ n = 0 → seg s' a n = seg s a n := by
    intro n
    induction n with
    | zero => intro a _; rfl
    | succ n ih =>
      intro a ha
      simp only [seg]
      rw [h a (by omega), ih (a + 1) (by omega)]
  refine ⟨?_, et 204 0 (by decide), et 209 0 (by decide), ?_, em⟩
  · unfold coinF; rw [et 199 8 (by decide)]
  · unfold stepsF
    rw [em, e17]
    refine eg _ _ ?_
    by_cases c : s 17 = -1
    · right
      unfold manyF
      rw [if_pos c]; rfl
    · left; omega
theorem RS.m {s s' : Int → Int} {G : Gh} {mi mi' : Mi} (hR : RS 1 s G mi) (h17 : -1 ≤ s 17) (hn : s 11 ≤ 6) (hs : Sc kL mi mi') (he : ∀ j : Int, j = 11 ∨ j = 17 ∨ (18 ≤ j ∧ j < 30) ∨ 199 ≤ j → s' j = s j) (hN : RNn 1 s' mi' ∧ RNh 1 s' mi' ∧ RNt 1 s' mi' ∧ RNs 1 s' mi' ∧ RNp 1 s' mi' ∧ RNb 1 s' mi') : RS 1 s' G mi' := by
  obtain ⟨-, hT, hV⟩ := hR
  obtain ⟨v1, v2, v3, v4, -⟩ := vw_c h17 (s' := s') (fun j hj => he j (by omega))
  exact ⟨hN, hT.sc hs (he 11 (by omega)) (fun p h0 h1 => ⟨he _ (by omega), he _ (by omega)⟩), hV.sc hs v1 v2 v3 v4⟩
