/-! ===== pay, told, as, count, soon ===== -/
def oTold (s : Int → Int) (k : Int) : Int := if k = 0 then s 0 else if k = 1 then coinF s else if k = 2 then telF s 204 0 else if k = 3 then telF s 209 0 else if k = 4 then s 1 else if k = 5 then s 8 else if k = 6 then s 9 else if k = 7 then s 10 else if k = 8 then hadB s else if k = 9 then lostF s else -1
abbrev undP (a k : Int) : Prop := k = 0 ∨ k = a ∨ 0 < k ∧ k < 4 ∧ a = k + 3
def oAs (s : Int → Int) (p k : Int) : Int := if isT s p ∧ (0 ≤ k ∧ k ≤ 6) then (if undP (s (18 + p)) k then s (24 + p) else -6) else -1
theorem WfV_tel {s : Int → Int} (hV : WfV s) : (0 ≤ telF s 199 8 ∧ telF s 199 8 ≤ 99) ∧ (0 ≤ telF s 204 0 ∧ telF s 204 0 ≤ 99) ∧ (0 ≤ telF s 209 0 ∧ telF s 209 0 ≤ 99) := by
  unfold telF
  by_cases h : s 17 = -1
  · rw [if_pos h, if_pos h, if_pos h]; decide
  · rw [if_neg h, if_neg h, if_neg h]; exact hV.2.2 h
theorem coinF_bd {s : Int → Int} (hV : WfV s) : 1 ≤ coinF s ∧ coinF s ≤ 99 := by
  have := (WfV_tel hV).1
  unfold coinF
  split <;> omega
section MO
variable {d : Nat} {G : Gh} {mi : Mi} {K : Option PV → Gh → Mi → Prop} {p t v w a b c k n g : Int}
theorem m_tel (hG : ShM G) (h1 : -1 ≤ mi 47 17) (h4 : mi 47 17 ≤ 4) (hw : 0 ≤ w) (hww : w ≤ 900) : OkC d 24 [pR (some 46), pI w, pI v] G mi K = K (some (pI (telF (mi 47) w v))) G mi := m_tellsOf hG h1 h4 hw hww
theorem m_coin' (hG : ShM G) (h1 : -1 ≤ mi 47 17) (h4 : mi 47 17 ≤ 4) : OkC (d + 1) 25 [pR (some 46)] G mi K = K (some (pI (coinF (mi 47)))) G mi := m_coin hG h1 h4
theorem m_lost (hG : ShM G) (hV : WfV (mi 47)) (h1 : -1 ≤ mi 47 17) (h4 : mi 47 17 ≤ 4) (h8 : 0 ≤ mi 47 8) (h8' : mi 47 8 ≤ 99) : OkC (d + 2) 39 [pR (some 46)] G mi K = K (some (pI (lostF (mi 47)))) G mi := by
  obtain ⟨⟨k46, k47, l47, k48, l48, k49, l49, k50, l50, k51, l51⟩, ⟨k52, l52, k53, l53, k54, l54⟩, ⟨g1, g2, g3, g11, g12, g15, g16, g18⟩⟩ := id hG
  have hc := coinF_bd hV
  have ha := (WfV_tel hV).2.1
  rw [E39]
  unfold lostF
  by_cases c1 : telF (mi 47) 204 0 = 0
  · simp (disch := first | assumption | exact isL_i | exact isL_r | exact isL_n | exact i01a | exact i01b | omega) only [K39_0, K39_1, K39_4, K39_5, K39_8, K39_10, K39_11, K39_12, K39_14, K39_15, K39_16, K39_17, K39_20, K39_21, K39_24, K39_27, K39_28, K39_31, K39_33, K39_34, K39_37, K39_38, K39_41, K39_42, K39_45, K39_46, g1, g2, g3, g11, g12, g15, g16, g18, wr_id, td_e, tm_e, pu_n, pu_s, up_s, up_k, up_a, ↓reduceIte, Int.reduceLT, Int.reduceLE, Int.reduceEq, Int.reduceNeg, Int.reduceAdd, Int.reduceSub, Int.reduceMul, Int.reduceMod, Int.reduceDiv, Int.cast_ofNat_Int, not_true_eq_false, not_false_eq_true, Int.reduceTDiv, Int.reduceTMod, m_coin', m_tel, if_pos, if_neg]
  · by_cases c2 : coinF (mi 47) + mi 47 8 - 99 < 0
    all_goals simp (disch := first | assumption | exact isL_i | exact isL_r | exact isL_n | exact i01a | exact i01b | omega) only [K39_0, K39_1, K39_4, K39_5, K39_8, K39_10, K39_11, K39_12, K39_14, K39_15, K39_16, K39_17, K39_20, K39_21, K39_24, K39_27, K39_28, K39_31, K39_33, K39_34, K39_37, K39_38, K39_41, K39_42, K39_45, K39_46, g1, g2, g3, g11, g12, g15, g16, g18, wr_id, td_e, tm_e, pu_n, pu_s, up_s, up_k, up_a, ↓reduceIte, Int.reduceLT, Int.reduceLE, Int.reduceEq, Int.reduceNeg, Int.reduceAdd, Int.reduceSub, Int.reduceMul, Int.reduceMod, Int.reduceDiv, Int.cast_ofNat_Int, not_true_eq_false, not_false_eq_true, Int.reduceTDiv, Int.reduceTMod, m_coin', m_tel, if_pos, if_neg]
theorem m_told (hG : ShM G) (hV : WfV (mi 47)) (h1 : -1 ≤ mi 47 17) (h4 : mi 47 17 ≤ 4) (h8 : 0 ≤ mi 47 8) (h8' : mi 47 8 ≤ 99) (hn0 : 0 ≤ mi 47 11) (hn : mi 47 11 ≤ 6) (hh : ∀ p : Int, 0 ≤ p → p < 6 → (0 ≤ mi 47 (2 + p) ∧ mi 47 (2 + p) ≤ 1)) (hz : ∀ p : Int, mi 47 11 ≤ p → p < 6 → mi 47 (2 + p) = 0) : OkC (d + 3) 40 [pR (some 46), pI k] G mi K = K (some (pI (oTold (mi 47) k))) G mi := by
  obtain ⟨⟨k46, k47, l47, k48, l48, k49, l49, k50, l50, k51, l51⟩, ⟨k52, l52, k53, l53, k54, l54⟩, ⟨g1, g2, g3, g11, g12, g15, g16, g18⟩⟩ := id hG
  rw [E40]
  unfold oTold
  simp (disch := first | assumption | exact isL_i | exact isL_r | exact isL_n | exact i01a | exact i01b | omega) only [K40_0, K40_1, K40_56, K40_57, K40_60, K40_61, K40_62, K40_63, K40_64, K40_67, K40_68, K40_69, K40_72, K40_73, K40_76, K40_77, K40_78, K40_81, K40_82, K40_85, K40_86, K40_87, K40_90, K40_91, K40_92, K40_93, K40_94, K40_97, K40_99, K40_100, K40_101, K40_102, K40_105, K40_107, K40_108, K40_109, K40_110, K40_113, K40_115, K40_116, K40_117, K40_118, K40_121, K40_122, K40_123, K40_126, K40_127, K40_128, g1, g2, g3, g11, g12, g15, g16, g18, wr_id, td_e, tm_e, pu_n, pu_s, up_s, up_k, up_a, ↓reduceIte, Int.reduceLT, Int.reduceLE, Int.reduceEq, Int.reduceNeg, Int.reduceAdd, Int.reduceSub, Int.reduceMul, Int.reduceMod, Int.reduceDiv, Int.cast_ofNat_Int, not_true_eq_false, not_false_eq_true, Int.reduceTDiv, Int.reduceTMod, m_coin', m_tel, m_lost, m_hadOnes]
  repeat' split
  all_goals first | rfl | (exfalso; omega)
theorem m_isUnder : OkC d 66 [pI a, pI k] G mi K = K (some (pI (if undP a k then 1 else 0))) G mi := by
  rw [E66]
  by_cases h : undP a k
  · rw [if_pos h]
    by_cases c1 : k = 0
    · simp (disch := first | assumption | exact isL_i | exact isL_r | exact isL_n | exact i01a | exact i01b | omega) only [K66_0, K66_1, K66_4, K66_5, K66_6, K66_9, K66_10, K66_13, K66_14, K66_15, K66_18, K66_19, K66_20, K66_21, K66_22, K66_25, K66_26, K66_29, K66_30, wr_id, td_e, tm_e, pu_n, pu_s, up_s, up_k, up_a, ↓reduceIte, Int.reduceLT, Int.reduceLE, Int.reduceEq, Int.reduceNeg, Int.reduceAdd, Int.reduceSub, Int.reduceMul, Int.reduceMod, Int.reduceDiv, Int.cast_ofNat_Int, not_true_eq_false, not_false_eq_true, Int.reduceTDiv, Int.reduceTMod, if_pos, if_neg]
    · by_cases c2 : k = a
      · simp (disch := first | assumption | exact isL_i | exact isL_r | exact isL_n | exact i01a | exact i01b | omega) only [K66_0, K66_1, K66_4, K66_5, K66_6, K66_9, K66_10, K66_13, K66_14, K66_15, K66_18, K66_19, K66_20, K66_21, K66_22, K66_25, K66_26, K66_29, K66_30, wr_id, td_e, tm_e, pu_n, pu_s, up_s, up_k, up_a, ↓reduceIte, Int.reduceLT, Int.reduceLE, Int.reduceEq, Int.reduceNeg, Int.reduceAdd, Int.reduceSub, Int.reduceMul, Int.reduceMod, Int.reduceDiv, Int.cast_ofNat_Int, not_true_eq_false, not_false_eq_true, Int.reduceTDiv, Int.reduceTMod, if_pos, if_neg]
      · have : 0 < k ∧ k < 4 ∧ a = k + 3 := by rcases h with h | h | h <;> first | omega | exact h
        simp (disch := first | assumption | exact isL_i | exact isL_r | exact isL_n | exact i01a | exact i01b | omega) only [K66_0, K66_1, K66_4, K66_5, K66_6, K66_9, K66_10, K66_13, K66_14, K66_15, K66_18, K66_19, K66_20, K66_21, K66_22, K66_25, K66_26, K66_29, K66_30, wr_id, td_e, tm_e, pu_n, pu_s, up_s, up_k, up_a, ↓reduceIte, Int.reduceLT, Int.reduceLE, Int.reduceEq, Int.reduceNeg, Int.reduceAdd, Int.reduceSub, Int.reduceMul, Int.reduceMod, Int.reduceDiv, Int.cast_ofNat_Int, not_true_eq_false, not_false_eq_true, Int.reduceTDiv, Int.reduceTMod, if_pos, if_neg]
  · rw [if_neg h]
    have c1 : ¬ k = 0 := fun e => h (Or.inl e)
    have c2 : ¬ k = a := fun e => h (Or.inr (Or.inl e))
    have c3 : ¬ (0 < k ∧ k < 4 ∧ a = k + 3) := fun e => h (Or.inr (Or.inr e))
    by_cases c4 : 0 < k
    · by_cases c5 : k < 4
      all_goals simp (disch := first | assumption | exact isL_i | exact isL_r | exact isL_n | exact i01a | exact i01b | omega) only [K66_0, K66_1, K66_4, K66_5, K66_6, K66_9, K66_10, K66_13, K66_14, K66_15, K66_18, K66_19, K66_20, K66_21, K66_22, K66_25, K66_26, K66_29, K66_30, wr_id, td_e, tm_e, pu_n, pu_s, up_s, up_k, up_a, ↓reduceIte, Int.reduceLT, Int.reduceLE, Int.reduceEq, Int.reduceNeg, Int.reduceAdd, Int.reduceSub, Int.reduceMul, Int.reduceMod, Int.reduceDiv, Int.cast_ofNat_Int, not_true_eq_false, not_false_eq_true, Int.reduceTDiv, Int.reduceTMod, if_pos, if_neg]
    · simp (disch := first | assumption | exact isL_i | exact isL_r | exact isL_n | exact i01a | exact i01b | omega) only [K66_0, K66_1, K66_4, K66_5, K66_6, K66_9, K66_10, K66_13, K66_14, K66_15, K66_18, K66_19, K66_20, K66_21, K66_22, K66_25, K66_26, K66_29, K66_30, wr_id, td_e, tm_e, pu_n, pu_s, up_s, up_k, up_a, ↓reduceIte, Int.reduceLT, Int.reduceLE, Int.reduceEq, Int.reduceNeg, Int.reduceAdd, Int.reduceSub, Int.reduceMul, Int.reduceMod, Int.reduceDiv, Int.cast_ofNat_Int, not_true_eq_false, not_false_eq_true, Int.reduceTDiv, Int.reduceTMod, if_pos, if_neg]
theorem m_as (hG : ShM G) (hn : 0 ≤ mi 47 11) (hn' : mi 47 11 ≤ 6) : OkC (d + 3) 75 [pR (some 46), pI p, pI k] G mi K = K (some (pI (oAs (mi 47) p k))) G mi := by
  obtain ⟨⟨k46, k47, l47, k48, l48, k49, l49, k50, l50, k51, l51⟩, ⟨k52, l52, k53, l53, k54, l54⟩, ⟨g1, g2, g3, g11, g12, g15, g16, g18⟩⟩ := id hG
  rw [E75]
  unfold oAs
  by_cases hp : isT (mi 47) p
  · by_cases hk : 0 ≤ k ∧ k ≤ 6
    · rw [if_pos ⟨hp, hk⟩]
      by_cases hu : undP (mi 47 (18 + p)) k
      · rw [if_pos hu]
        simp (disch := first | assumption | exact isL_i | exact isL_r | exact isL_n | exact i01a | exact i01b | omega) only [K75_0, K75_1, K75_2, K75_5, K75_8, K75_9, K75_10, K75_12, K75_15, K75_18, K75_19, K75_20, K75_21, K75_24, K75_26, K75_27, K75_28, K75_29, K75_30, K75_33, K75_36, K75_37, K75_40, K75_42, K75_43, K75_44, K75_45, K75_48, K75_50, g1, g2, g3, g11, g12, g15, g16, g18, wr_id, td_e, tm_e, pu_n, pu_s, up_s, up_k, up_a, ↓reduceIte, Int.reduceLT, Int.reduceLE, Int.reduceEq, Int.reduceNeg, Int.reduceAdd, Int.reduceSub, Int.reduceMul, Int.reduceMod, Int.reduceDiv, Int.cast_ofNat_Int, not_true_eq_false, not_false_eq_true, Int.reduceTDiv, Int.reduceTMod, m_isThing, m_in, m_isUnder, if_pos, if_neg, if_pos hu]
      · rw [if_neg hu]
        simp (disch := first | assumption | exact isL_i | exact isL_r | exact isL_n | exact i01a | exact i01b | omega) only [K75_0, K75_1, K75_2, K75_5, K75_8, K75_9, K75_10, K75_12, K75_15, K75_18, K75_19, K75_20, K75_21, K75_24, K75_26, K75_27, K75_28, K75_29, K75_30, K75_33, K75_36, K75_37, K75_40, K75_42, K75_43, K75_44, K75_45, K75_48, K75_50, g1, g2, g3, g11, g12, g15, g16, g18, wr_id, td_e, tm_e, pu_n, pu_s, up_s, up_k, up_a, ↓reduceIte, Int.reduceLT, Int.reduceLE, Int.reduceEq, Int.reduceNeg, Int.reduceAdd, Int.reduceSub, Int.reduceMul, Int.reduceMod, Int.reduceDiv, Int.cast_ofNat_Int, not_true_eq_false, not_false_eq_true, Int.reduceTDiv, Int.reduceTMod, m_isThing, m_in, m_isUnder, if_pos, if_neg, if_neg hu]
    · rw [if_neg (fun h => hk h.2)]
      simp (disch := first | assumption | exact isL_i | exact isL_r | exact isL_n | exact i01a | exact i01b | omega) only [K75_0, K75_1, K75_2, K75_5, K75_8, K75_9, K75_10, K75_12, K75_15, K75_18, K75_19, K75_20, K75_21, K75_24, K75_26, K75_27, K75_28, K75_29, K75_30, K75_33, K75_36, K75_37, K75_40, K75_42, K75_43, K75_44, K75_45, K75_48, K75_50, g1, g2, g3, g11, g12, g15, g16, g18, wr_id, td_e, tm_e, pu_n, pu_s, up_s, up_k, up_a, ↓reduceIte, Int.reduceLT, Int.reduceLE, Int.reduceEq, Int.reduceNeg, Int.reduceAdd, Int.reduceSub, Int.reduceMul, Int.reduceMod, Int.reduceDiv, Int.cast_ofNat_Int, not_true_eq_false, not_false_eq_true, Int.reduceTDiv, Int.reduceTMod, m_isThing, m_in, m_isUnder, if_pos, if_neg]
  · rw [if_neg (fun h => hp h.1)]
    simp (disch := first | assumption | exact isL_i | exact isL_r | exact isL_n | exact i01a | exact i01b | omega) only [K75_0, K75_1, K75_2, K75_5, K75_8, K75_9, K75_10, K75_12, K75_15, K75_18, K75_19, K75_20, K75_21, K75_24, K75_26, K75_27, K75_28, K75_29, K75_30, K75_33, K75_36, K75_37, K75_40, K75_42, K75_43, K75_44, K75_45, K75_48, K75_50, g1, g2, g3, g11, g12, g15, g16, g18, wr_id, td_e, tm_e, pu_n, pu_s, up_s, up_k, up_a, ↓reduceIte, Int.reduceLT, Int.reduceLE, Int.reduceEq, Int.reduceNeg, Int.reduceAdd, Int.reduceSub, Int.reduceMul, Int.reduceMod, Int.reduceDiv, Int.cast_ofNat_Int, not_true_eq_false, not_false_eq_true, Int.reduceTDiv, Int.reduceTMod, m_isThing, m_in, m_isUnder, if_pos, if_neg]
end MO
