/-! ===== the reference's calls, the plain ones: what is answered, what its row of numbers becomes ===== -/
def ScM (mi mi' : Mi) : Prop := Sc [46, 47, 49, 50, 51, 52, 53] mi mi' ∧ mi' 46 4 = mi 46 4 ∧ mi' 46 19 = mi 46 19
theorem ScM.rf {mi : Mi} : ScM mi mi := ⟨Sc.rf, rfl, rfl⟩
theorem ScM.u47 {mi : Mi} {k v : Int} : ScM mi (up mi 47 k v) := ⟨sc_up (by decide), by rw [up_a (by decide)], by rw [up_a (by decide)]⟩
theorem ScM.tr {mi mi' mi'' : Mi} (h : ScM mi mi') (h' : ScM mi' mi'') : ScM mi mi'' := ⟨h.1.tr h'.1, h'.2.1.trans h.2.1, h'.2.2.trans h.2.2⟩
theorem ScM.sc {mi mi' : Mi} (h : Sc [47, 49, 50, 51, 52, 53] mi mi') : ScM mi mi' := ⟨h.wk (by decide), by rw [h 46 (by decide)], by rw [h 46 (by decide)]⟩
abbrev isT (s : Int → Int) (p : Int) : Prop := 0 ≤ p ∧ p < s 11
abbrev isC (c : Int) : Prop := 0 ≤ c ∧ c ≤ 23
def oPoint (s : Int → Int) (c : Int) : Int × (Int → Int) := if isC c then (s 1, sH s 1 c) else (-1, s)
def oMove (s : Int → Int) (p c : Int) : Int × (Int → Int) := if isT s p ∧ isC c then (s (30 + p), sH s (30 + p) c) else (-1, s)
def oHad (s : Int → Int) (p v : Int) : Int × (Int → Int) := if isT s p then (s (2 + p), sH s (2 + p) (if v = 0 then 0 else 1)) else (-1, s)
def oRow (s : Int → Int) (p k n : Int) : Int × (Int → Int) := if isT s p ∧ (0 ≤ k ∧ k ≤ 3) then (if 0 ≤ n ∧ n ≤ 9 then (if s (18 + p) = 6 then (s (36 + 4 * p + k), sH s (36 + 4 * p + k) n) else (-3, s)) else (-2, s)) else (-1, s)
def oOf (s : Int → Int) (p k : Int) : Int × (Int → Int) := (if isT s p then (if k = 0 then s (18 + p) else if k = 1 then s (24 + p) else if k = 2 then s (30 + p) else if k = 3 then s (2 + p) else -1) else -1, s)
section MO
variable {d : Nat} {G : Gh} {mi : Mi} {K : Option PV → Gh → Mi → Prop} {p t v w a b c k n : Int}
theorem m_becomes (hG : ShM G) (h0 : 0 ≤ w) (h1 : w < 919) : OkC d 33 [pR (some 46), pI w, pI v] G mi K = K (some (pI (mi 47 w))) G (up mi 47 w v) := by
  obtain ⟨⟨k46, k47, l47, k48, l48, k49, l49, k50, l50, k51, l51⟩, ⟨k52, l52, k53, l53, k54, l54⟩, ⟨g1, g2, g3, g11, g12, g15, g16, g18⟩⟩ := id hG
  rw [E33]
  simp (disch := first | assumption | exact isL_i | exact isL_r | exact isL_n | exact i01a | exact i01b | omega) only [K33_0, K33_1, K33_4, K33_5, K33_6, K33_7, K33_8, K33_11, K33_12, K33_13, K33_14, K33_15, g1, g2, g3, g11, g12, g15, g16, g18, wr_id, td_e, tm_e, pu_n, pu_s, up_s, up_k, up_a, ↓reduceIte, Int.reduceLT, Int.reduceLE, Int.reduceEq, Int.reduceNeg, Int.reduceAdd, Int.reduceSub, Int.reduceMul, Int.reduceMod, Int.reduceDiv, Int.cast_ofNat_Int, not_true_eq_false, not_false_eq_true, Int.reduceTDiv, Int.reduceTMod]
theorem m_point (hG : ShM G) (hK : ∀ mi', mi' 47 = (oPoint (mi 47) c).2 → ScM mi mi' → K (some (pI (oPoint (mi 47) c).1)) G mi') : OkC (d + 3) 37 [pR (some 46), pI c] G mi K := by
  obtain ⟨⟨k46, k47, l47, k48, l48, k49, l49, k50, l50, k51, l51⟩, ⟨k52, l52, k53, l53, k54, l54⟩, ⟨g1, g2, g3, g11, g12, g15, g16, g18⟩⟩ := id hG
  rw [E37]
  unfold oPoint at hK
  by_cases hc : isC c
  · rw [if_pos hc] at hK
    simp (disch := first | assumption | exact isL_i | exact isL_r | exact isL_n | exact i01a | exact i01b | omega) only [K37_0, K37_1, K37_4, K37_7, K37_8, K37_9, K37_10, K37_13, K37_16, K37_17, g1, g2, g3, g11, g12, g15, g16, g18, wr_id, td_e, tm_e, pu_n, pu_s, up_s, up_k, up_a, ↓reduceIte, Int.reduceLT, Int.reduceLE, Int.reduceEq, Int.reduceNeg, Int.reduceAdd, Int.reduceSub, Int.reduceMul, Int.reduceMod, Int.reduceDiv, Int.cast_ofNat_Int, not_true_eq_false, not_false_eq_true, Int.reduceTDiv, Int.reduceTMod, m_isCell, m_becomes, if_pos, if_neg, if_pos hc]
    exact hK _ up_sH ScM.u47
  · rw [if_neg hc] at hK
    simp (disch := first | assumption | exact isL_i | exact isL_r | exact isL_n | exact i01a | exact i01b | omega) only [K37_0, K37_1, K37_4, K37_7, K37_8, K37_9, K37_10, K37_13, K37_16, K37_17, g1, g2, g3, g11, g12, g15, g16, g18, wr_id, td_e, tm_e, pu_n, pu_s, up_s, up_k, up_a, ↓reduceIte, Int.reduceLT, Int.reduceLE, Int.reduceEq, Int.reduceNeg, Int.reduceAdd, Int.reduceSub, Int.reduceMul, Int.reduceMod, Int.reduceDiv, Int.cast_ofNat_Int, not_true_eq_false, not_false_eq_true, Int.reduceTDiv, Int.reduceTMod, m_isCell, m_becomes, if_pos, if_neg, if_neg hc]
    exact hK _ rfl ScM.rf
theorem m_move (hG : ShM G) (hn : 0 ≤ mi 47 11) (hn' : mi 47 11 ≤ 6) (hK : ∀ mi', mi' 47 = (oMove (mi 47) p c).2 → ScM mi mi' → K (some (pI (oMove (mi 47) p c).1)) G mi') : OkC (d + 3) 35 [pR (some 46), pI p, pI c] G mi K := by
  obtain ⟨⟨k46, k47, l47, k48, l48, k49, l49, k50, l50, k51, l51⟩, ⟨k52, l52, k53, l53, k54, l54⟩, ⟨g1, g2, g3, g11, g12, g15, g16, g18⟩⟩ := id hG
  rw [E35]
  unfold oMove at hK
  by_cases hp : isT (mi 47) p
  · by_cases hc : isC c
    · rw [if_pos ⟨hp, hc⟩] at hK
      simp (disch := first | assumption | exact isL_i | exact isL_r | exact isL_n | exact i01a | exact i01b | omega) only [K35_0, K35_1, K35_2, K35_5, K35_8, K35_9, K35_12, K35_15, K35_16, K35_18, K35_19, K35_20, K35_21, K35_24, K35_27, K35_28, g1, g2, g3, g11, g12, g15, g16, g18, wr_id, td_e, tm_e, pu_n, pu_s, up_s, up_k, up_a, ↓reduceIte, Int.reduceLT, Int.reduceLE, Int.reduceEq, Int.reduceNeg, Int.reduceAdd, Int.reduceSub, Int.reduceMul, Int.reduceMod, Int.reduceDiv, Int.cast_ofNat_Int, not_true_eq_false, not_false_eq_true, Int.reduceTDiv, Int.reduceTMod, m_isThing, m_isCell, m_becomes, if_pos, if_neg]
      exact hK _ up_sH ScM.u47
    · rw [if_neg (fun h => hc h.2)] at hK
      simp (disch := first | assumption | exact isL_i | exact isL_r | exact isL_n | exact i01a | exact i01b | omega) only [K35_0, K35_1, K35_2, K35_5, K35_8, K35_9, K35_12, K35_15, K35_16, K35_18, K35_19, K35_20, K35_21, K35_24, K35_27, K35_28, g1, g2, g3, g11, g12, g15, g16, g18, wr_id, td_e, tm_e, pu_n, pu_s, up_s, up_k, up_a, ↓reduceIte, Int.reduceLT, Int.reduceLE, Int.reduceEq, Int.reduceNeg, Int.reduceAdd, Int.reduceSub, Int.reduceMul, Int.reduceMod, Int.reduceDiv, Int.cast_ofNat_Int, not_true_eq_false, not_false_eq_true, Int.reduceTDiv, Int.reduceTMod, m_isThing, m_isCell, m_becomes, if_pos, if_neg]
      exact hK _ rfl ScM.rf
  · rw [if_neg (fun h => hp h.1)] at hK
    simp (disch := first | assumption | exact isL_i | exact isL_r | exact isL_n | exact i01a | exact i01b | omega) only [K35_0, K35_1, K35_2, K35_5, K35_8, K35_9, K35_12, K35_15, K35_16, K35_18, K35_19, K35_20, K35_21, K35_24, K35_27, K35_28, g1, g2, g3, g11, g12, g15, g16, g18, wr_id, td_e, tm_e, pu_n, pu_s, up_s, up_k, up_a, ↓reduceIte, Int.reduceLT, Int.reduceLE, Int.reduceEq, Int.reduceNeg, Int.reduceAdd, Int.reduceSub, Int.reduceMul, Int.reduceMod, Int.reduceDiv, Int.cast_ofNat_Int, not_true_eq_false, not_false_eq_true, Int.reduceTDiv, Int.reduceTMod, m_isThing, m_isCell, m_becomes, if_pos, if_neg]
    exact hK _ rfl ScM.rf
theorem m_had (hG : ShM G) (hn : 0 ≤ mi 47 11) (hn' : mi 47 11 ≤ 6) (hK : ∀ mi', mi' 47 = (oHad (mi 47) p v).2 → ScM mi mi' → K (some (pI (oHad (mi 47) p v).1)) G mi') : OkC (d + 3) 36 [pR (some 46), pI p, pI v] G mi K := by
  obtain ⟨⟨k46, k47, l47, k48, l48, k49, l49, k50, l50, k51, l51⟩, ⟨k52, l52, k53, l53, k54, l54⟩, ⟨g1, g2, g3, g11, g12, g15, g16, g18⟩⟩ := id hG
  rw [E36]
  unfold oHad at hK
  by_cases hp : isT (mi 47) p
  · rw [if_pos hp] at hK
    by_cases hv : v = 0
    all_goals simp (disch := first | assumption | exact isL_i | exact isL_r | exact isL_n | exact i01a | exact i01b | omega) only [K36_0, K36_1, K36_2, K36_5, K36_8, K36_9, K36_10, K36_11, K36_12, K36_13, K36_16, K36_17, K36_20, K36_21, K36_24, K36_27, K36_28, g1, g2, g3, g11, g12, g15, g16, g18, wr_id, td_e, tm_e, pu_n, pu_s, up_s, up_k, up_a, ↓reduceIte, Int.reduceLT, Int.reduceLE, Int.reduceEq, Int.reduceNeg, Int.reduceAdd, Int.reduceSub, Int.reduceMul, Int.reduceMod, Int.reduceDiv, Int.cast_ofNat_Int, not_true_eq_false, not_false_eq_true, Int.reduceTDiv, Int.reduceTMod, m_isThing, m_becomes, if_pos, if_neg]
    · rw [if_pos hv] at hK
      exact hK _ up_sH ScM.u47
    · rw [if_neg hv] at hK
      exact hK _ up_sH ScM.u47
  · rw [if_neg hp] at hK
    simp (disch := first | assumption | exact isL_i | exact isL_r | exact isL_n | exact i01a | exact i01b | omega) only [K36_0, K36_1, K36_2, K36_5, K36_8, K36_9, K36_10, K36_11, K36_12, K36_13, K36_16, K36_17, K36_20, K36_21, K36_24, K36_27, K36_28, g1, g2, g3, g11, g12, g15, g16, g18, wr_id, td_e, tm_e, pu_n, pu_s, up_s, up_k, up_a, ↓reduceIte, Int.reduceLT, Int.reduceLE, Int.reduceEq, Int.reduceNeg, Int.reduceAdd, Int.reduceSub, Int.reduceMul, Int.reduceMod, Int.reduceDiv, Int.cast_ofNat_Int, not_true_eq_false, not_false_eq_true, Int.reduceTDiv, Int.reduceTMod, m_isThing, m_becomes, if_pos, if_neg]
    exact hK _ rfl ScM.rf
theorem m_row (hG : ShM G) (hn : 0 ≤ mi 47 11) (hn' : mi 47 11 ≤ 6) (hK : ∀ mi', mi' 47 = (oRow (mi 47) p k n).2 → ScM mi mi' → K (some (pI (oRow (mi 47) p k n).1)) G mi') : OkC (d + 3) 34 [pR (some 46), pI p, pI k, pI n] G mi K := by
  obtain ⟨⟨k46, k47, l47, k48, l48, k49, l49, k50, l50, k51, l51⟩, ⟨k52, l52, k53, l53, k54, l54⟩, ⟨g1, g2, g3, g11, g12, g15, g16, g18⟩⟩ := id hG
  rw [E34]
  unfold oRow at hK
  by_cases hp : isT (mi 47) p
  · by_cases hk : 0 ≤ k ∧ k ≤ 3
    · rw [if_pos ⟨hp, hk⟩] at hK
      by_cases h9 : 0 ≤ n ∧ n ≤ 9
      · rw [if_pos h9] at hK
        by_cases h6 : mi 47 (18 + p) = 6
        · rw [if_pos h6] at hK
          simp (disch := first | assumption | exact isL_i | exact isL_r | exact isL_n | exact i01a | exact i01b | omega) only [K34_0, K34_1, K34_2, K34_5, K34_8, K34_9, K34_10, K34_11, K34_14, K34_17, K34_18, K34_19, K34_20, K34_21, K34_23, K34_26, K34_29, K34_31, K34_32, K34_33, K34_36, K34_38, K34_39, K34_40, K34_41, K34_43, K34_46, K34_47, K34_49, K34_50, K34_51, K34_52, K34_53, K34_54, K34_55, K34_56, K34_59, K34_62, K34_64, g1, g2, g3, g11, g12, g15, g16, g18, wr_id, td_e, tm_e, pu_n, pu_s, up_s, up_k, up_a, ↓reduceIte, Int.reduceLT, Int.reduceLE, Int.reduceEq, Int.reduceNeg, Int.reduceAdd, Int.reduceSub, Int.reduceMul, Int.reduceMod, Int.reduceDiv, Int.cast_ofNat_Int, not_true_eq_false, not_false_eq_true, Int.reduceTDiv, Int.reduceTMod, m_isThing, m_in, m_becomes, if_pos, if_neg]
          exact hK _ up_sH ScM.u47
        · rw [if_neg h6] at hK
          simp (disch := first | assumption | exact isL_i | exact isL_r | exact isL_n | exact i01a | exact i01b | omega) only [K34_0, K34_1, K34_2, K34_5, K34_8, K34_9, K34_10, K34_11, K34_14, K34_17, K34_18, K34_19, K34_20, K34_21, K34_23, K34_26, K34_29, K34_31, K34_32, K34_33, K34_36, K34_38, K34_39, K34_40, K34_41, K34_43, K34_46, K34_47, K34_49, K34_50, K34_51, K34_52, K34_53, K34_54, K34_55, K34_56, K34_59, K34_62, K34_64, g1, g2, g3, g11, g12, g15, g16, g18, wr_id, td_e, tm_e, pu_n, pu_s, up_s, up_k, up_a, ↓reduceIte, Int.reduceLT, Int.reduceLE, Int.reduceEq, Int.reduceNeg, Int.reduceAdd, Int.reduceSub, Int.reduceMul, Int.reduceMod, Int.reduceDiv, Int.cast_ofNat_Int, not_true_eq_false, not_false_eq_true, Int.reduceTDiv, Int.reduceTMod, m_isThing, m_in, m_becomes, if_pos, if_neg]
          exact hK _ rfl ScM.rf
      · rw [if_neg h9] at hK
        simp (disch := first | assumption | exact isL_i | exact isL_r | exact isL_n | exact i01a | exact i01b | omega) only [K34_0, K34_1, K34_2, K34_5, K34_8, K34_9, K34_10, K34_11, K34_14, K34_17, K34_18, K34_19, K34_20, K34_21, K34_23, K34_26, K34_29, K34_31, K34_32, K34_33, K34_36, K34_38, K34_39, K34_40, K34_41, K34_43, K34_46, K34_47, K34_49, K34_50, K34_51, K34_52, K34_53, K34_54, K34_55, K34_56, K34_59, K34_62, K34_64, g1, g2, g3, g11, g12, g15, g16, g18, wr_id, td_e, tm_e, pu_n, pu_s, up_s, up_k, up_a, ↓reduceIte, Int.reduceLT, Int.reduceLE, Int.reduceEq, Int.reduceNeg, Int.reduceAdd, Int.reduceSub, Int.reduceMul, Int.reduceMod, Int.reduceDiv, Int.cast_ofNat_Int, not_true_eq_false, not_false_eq_true, Int.reduceTDiv, Int.reduceTMod, m_isThing, m_in, m_becomes, if_pos, if_neg]
        exact hK _ rfl ScM.rf
    · rw [if_neg (fun h => hk h.2)] at hK
      simp (disch := first | assumption | exact isL_i | exact isL_r | exact isL_n | exact i01a | exact i01b | omega) only [K34_0, K34_1, K34_2, K34_5, K34_8, K34_9, K34_10, K34_11, K34_14, K34_17, K34_18, K34_19, K34_20, K34_21, K34_23, K34_26, K34_29, K34_31, K34_32, K34_33, K34_36, K34_38, K34_39, K34_40, K34_41, K34_43, K34_46, K34_47, K34_49, K34_50, K34_51, K34_52, K34_53, K34_54, K34_55, K34_56, K34_59, K34_62, K34_64, g1, g2, g3, g11, g12, g15, g16, g18, wr_id, td_e, tm_e, pu_n, pu_s, up_s, up_k, up_a, ↓reduceIte, Int.reduceLT, Int.reduceLE, Int.reduceEq, Int.reduceNeg, Int.reduceAdd, Int.reduceSub, Int.reduceMul, Int.reduceMod, Int.reduceDiv, Int.cast_ofNat_Int, not_true_eq_false, not_false_eq_true, Int.reduceTDiv, Int.reduceTMod, m_isThing, m_in, m_becomes, if_pos, if_neg]
      exact hK _ rfl ScM.rf
  · rw [if_neg (fun h => hp h.1)] at hK
    simp (disch := first | assumption | exact isL_i | exact isL_r | exact isL_n | exact i01a | exact i01b | omega) only [K34_0, K34_1, K34_2, K34_5, K34_8, K34_9, K34_10, K34_11, K34_14, K34_17, K34_18, K34_19, K34_20, K34_21, K34_23, K34_26, K34_29, K34_31, K34_32, K34_33, K34_36, K34_38, K34_39, K34_40, K34_41, K34_43, K34_46, K34_47, K34_49, K34_50, K34_51, K34_52, K34_53, K34_54, K34_55, K34_56, K34_59, K34_62, K34_64, g1, g2, g3, g11, g12, g15, g16, g18, wr_id, td_e, tm_e, pu_n, pu_s, up_s, up_k, up_a, ↓reduceIte, Int.reduceLT, Int.reduceLE, Int.reduceEq, Int.reduceNeg, Int.reduceAdd, Int.reduceSub, Int.reduceMul, Int.reduceMod, Int.reduceDiv, Int.cast_ofNat_Int, not_true_eq_false, not_false_eq_true, Int.reduceTDiv, Int.reduceTMod, m_isThing, m_in, m_becomes, if_pos, if_neg]
    exact hK _ rfl ScM.rf
theorem m_of (hG : ShM G) (hn : 0 ≤ mi 47 11) (hn' : mi 47 11 ≤ 6) (hK : ∀ mi', mi' 47 = (oOf (mi 47) p k).2 → ScM mi mi' → K (some (pI (oOf (mi 47) p k).1)) G mi') : OkC (d + 3) 31 [pR (some 46), pI p, pI k] G mi K := by
  obtain ⟨⟨k46, k47, l47, k48, l48, k49, l49, k50, l50, k51, l51⟩, ⟨k52, l52, k53, l53, k54, l54⟩, ⟨g1, g2, g3, g11, g12, g15, g16, g18⟩⟩ := id hG
  have hK := hK mi rfl ScM.rf
  rw [E31]
  unfold oOf at hK
  by_cases hp : isT (mi 47) p
  · rw [if_pos hp] at hK
    simp (disch := first | assumption | exact isL_i | exact isL_r | exact isL_n | exact i01a | exact i01b | omega) only [K31_0, K31_1, K31_2, K31_5, K31_8, K31_9, K31_10, K31_11, K31_40, K31_41, K31_44, K31_46, K31_47, K31_48, K31_49, K31_50, K31_51, K31_54, K31_56, K31_57, K31_58, K31_59, K31_60, K31_61, K31_64, K31_66, K31_67, K31_68, K31_69, K31_70, K31_71, K31_74, K31_75, K31_76, K31_77, K31_78, K31_79, K31_80, g1, g2, g3, g11, g12, g15, g16, g18, wr_id, td_e, tm_e, pu_n, pu_s, up_s, up_k, up_a, ↓reduceIte, Int.reduceLT, Int.reduceLE, Int.reduceEq, Int.reduceNeg, Int.reduceAdd, Int.reduceSub, Int.reduceMul, Int.reduceMod, Int.reduceDiv, Int.cast_ofNat_Int, not_true_eq_false, not_false_eq_true, Int.reduceTDiv, Int.reduceTMod, m_isThing, if_pos, if_neg]
    revert hK
    repeat' split
    all_goals first | exact id | (intro _; exfalso; omega)
  · rw [if_neg hp] at hK
    simp (disch := first | assumption | exact isL_i | exact isL_r | exact isL_n | exact i01a | exact i01b | omega) only [K31_0, K31_1, K31_2, K31_5, K31_8, K31_9, K31_10, K31_11, K31_40, K31_41, K31_44, K31_46, K31_47, K31_48, K31_49, K31_50, K31_51, K31_54, K31_56, K31_57, K31_58, K31_59, K31_60, K31_61, K31_64, K31_66, K31_67, K31_68, K31_69, K31_70, K31_71, K31_74, K31_75, K31_76, K31_77, K31_78, K31_79, K31_80, g1, g2, g3, g11, g12, g15, g16, g18, wr_id, td_e, tm_e, pu_n, pu_s, up_s, up_k, up_a, ↓reduceIte, Int.reduceLT, Int.reduceLE, Int.reduceEq, Int.reduceNeg, Int.reduceAdd, Int.reduceSub, Int.reduceMul, Int.reduceMod, Int.reduceDiv, Int.cast_ofNat_Int, not_true_eq_false, not_false_eq_true, Int.reduceTDiv, Int.reduceTMod, m_isThing, if_pos, if_neg]
    exact hK
end MO
