/-! ===== aim ===== -/
def aimL (s : Int → Int) (hz : Int) (n : Nat) : Nat → Int → Int × Int → Int × Int
  | 0, _, b => b
  | m + 1, c, b => aimL s hz n m (c + 1) (if b.2 < (bstL (sH s 1 c) hz n).2 then (c, (bstL (sH s 1 c) hz n).2) else b)
def oAim (s : Int → Int) (n k : Int) : Int :=
  if 0 ≤ k ∧ k ≤ 1 then (if 1 ≤ n ∧ n ≤ 3 then (if k = 0 then (aimL s (hazF s) n.toNat 24 0 (-1, -1)).1 else (aimL s (hazF s) n.toNat 24 0 (-1, -1)).2) else -2) else -1
theorem sH_G {s : Int → Int} {c : Int} (hS : WfG s) : WfG (sH s 1 c) := hS.st (fun j hj => sH_k (by omega))
section MO
variable {d : Nat} {G : Gh} {mi : Mi} {K : Option PV → Gh → Mi → Prop} {p t v w a b c k n g : Int}
theorem m_aim_lp (hG : ShM G) {s : Int → Int} {hz : Int} {n : Nat} (hS : WfG s) (ht : 0 ≤ s 0) (htt : s 0 ≤ 9999) (hn5 : n ≤ 5) : ∀ (m : Nat) (mi : Mi) (c b1 b2 v : Int), c + m = 24 → 0 ≤ c → mi 47 = sH s 1 v → mi 46 5 = hz →
    (∀ mi', mi' 47 = s → ScM mi mi' → K (some (pI (if k = 0 then (aimL s hz n m c (b1, b2)).1 else (aimL s hz n m c (b1, b2)).2))) G mi') →
    Ok (d + 5) 49 43 [some (pR (some 46)), some (pI n), some (pI k), some (pI (s 1)), some (pI b1), some (pI b2), some (pI c)] [] G mi K := by
  obtain ⟨⟨k46, k47, l47, k48, l48, k49, l49, k50, l50, k51, l51⟩, ⟨k52, l52, k53, l53, k54, l54⟩, ⟨g1, g2, g3, g11, g12, g15, g16, g18⟩⟩ := id hG
  intro m
  induction m with
  | zero =>
    intro mi c b1 b2 v hc h0 hs h5 hK
    have hK := hK (up mi 47 1 (s 1)) (by rw [up_sH, hs, sH_sH, sH_id]) ScM.u47
    simp only [aimL] at hK
    rw [K49_43]
    by_cases hk : k = 0
    · rw [if_pos hk] at hK
      simp (disch := first | assumption | exact isL_i | exact isL_r | exact isL_n | exact i01a | exact i01b | omega) only [K49_45, K49_47, K49_107, K49_108, K49_111, K49_112, K49_113, K49_114, K49_115, K49_118, K49_120, K49_123, K49_125, g1, g2, g3, g11, g12, g15, g16, g18, wr_id, td_e, tm_e, pu_n, pu_s, up_s, up_k, up_a, ↓reduceIte, Int.reduceLT, Int.reduceLE, Int.reduceEq, Int.reduceNeg, Int.reduceAdd, Int.reduceSub, Int.reduceMul, Int.reduceMod, Int.reduceDiv, Int.cast_ofNat_Int, not_true_eq_false, not_false_eq_true, Int.reduceTDiv, Int.reduceTMod, if_pos, if_neg]
      exact hK
    · rw [if_neg hk] at hK
      simp (disch := first | assumption | exact isL_i | exact isL_r | exact isL_n | exact i01a | exact i01b | omega) only [K49_45, K49_47, K49_107, K49_108, K49_111, K49_112, K49_113, K49_114, K49_115, K49_118, K49_120, K49_123, K49_125, g1, g2, g3, g11, g12, g15, g16, g18, wr_id, td_e, tm_e, pu_n, pu_s, up_s, up_k, up_a, ↓reduceIte, Int.reduceLT, Int.reduceLE, Int.reduceEq, Int.reduceNeg, Int.reduceAdd, Int.reduceSub, Int.reduceMul, Int.reduceMod, Int.reduceDiv, Int.cast_ofNat_Int, not_true_eq_false, not_false_eq_true, Int.reduceTDiv, Int.reduceTMod, if_pos, if_neg]
      exact hK
  | succ m ih =>
    intro mi c b1 b2 v hc h0 hs h5 hK
    simp only [aimL] at hK
    have e47 : up mi 47 1 c 47 = sH s 1 c := by rw [up_sH, hs, sH_sH]
    have hS' := sH_G (c := c) hS
    have e0 : sH s 1 c 0 = s 0 := sH_k (by omega)
    have e1 : sH s 1 c 1 = c := sH_s
    rw [K49_43]
    simp (disch := first | assumption | exact isL_i | exact isL_r | exact isL_n | exact i01a | exact i01b | omega) only [K49_45, K49_47, K49_50, K49_51, K49_54, K49_55, K49_57, K49_58, K49_59, g1, g2, g3, g11, g12, g15, g16, g18, wr_id, td_e, tm_e, pu_n, pu_s, up_s, up_k, up_a, ↓reduceIte, Int.reduceLT, Int.reduceLE, Int.reduceEq, Int.reduceNeg, Int.reduceAdd, Int.reduceSub, Int.reduceMul, Int.reduceMod, Int.reduceDiv, Int.cast_ofNat_Int, not_true_eq_false, not_false_eq_true, Int.reduceTDiv, Int.reduceTMod, if_pos, if_neg]
    rw [K49_60 k46]
    refine m_looksFor (n := n) hG (by rw [e47]; exact hS') (by rw [e47, e0]; exact ht) (by rw [e47, e0]; exact htt) (by rw [e47, e1]; exact h0) (by rw [e47, e1]; omega) hn5 fun m1 f1 f2 f3 f4 => ?_
    rw [e47, up_a (by decide), h5] at f1
    have f14 : m1 46 14 = (bstL (sH s 1 c) hz n).2 := by
      have := congrArg Prod.snd (f1.trans (bestL_b hS' (by rw [e1]; exact h0) (by rw [e1]; omega) n _ 0)); exact this
    rw [e47] at f2
    have hsc : ScM mi m1 := ScM.u47.tr ⟨f4.wk (by decide), f3 4 (by decide) (by decide), f3 19 (by decide) (by decide)⟩
    have h55 : m1 46 5 = hz := by rw [f3 5 (by decide) (by decide), up_a (by decide)]; exact h5
    by_cases hb : b2 < (bstL (sH s 1 c) hz n).2
    · rw [if_pos hb] at hK
      simp (disch := first | assumption | exact isL_i | exact isL_r | exact isL_n | exact i01a | exact i01b | omega) only [K49_63, K49_64, K49_67, K49_69, K49_72, K49_74, K49_77, K49_79, K49_81, K49_82, K49_85, K49_87, K49_90, K49_91, K49_94, K49_97, K49_99, K49_101, K49_104, g1, g2, g3, g11, g12, g15, g16, g18, wr_id, td_e, tm_e, pu_n, pu_s, up_s, up_k, up_a, ↓reduceIte, Int.reduceLT, Int.reduceLE, Int.reduceEq, Int.reduceNeg, Int.reduceAdd, Int.reduceSub, Int.reduceMul, Int.reduceMod, Int.reduceDiv, Int.cast_ofNat_Int, not_true_eq_false, not_false_eq_true, Int.reduceTDiv, Int.reduceTMod, if_pos, if_neg, f14]
      exact ih m1 (c + 1) _ _ c (by omega) (by omega) f2 h55 (fun mi' g1 g2 => hK mi' g1 (hsc.tr g2))
    · rw [if_neg hb] at hK
      simp (disch := first | assumption | exact isL_i | exact isL_r | exact isL_n | exact i01a | exact i01b | omega) only [K49_63, K49_64, K49_67, K49_69, K49_72, K49_74, K49_77, K49_79, K49_81, K49_82, K49_85, K49_87, K49_90, K49_91, K49_94, K49_97, K49_99, K49_101, K49_104, g1, g2, g3, g11, g12, g15, g16, g18, wr_id, td_e, tm_e, pu_n, pu_s, up_s, up_k, up_a, ↓reduceIte, Int.reduceLT, Int.reduceLE, Int.reduceEq, Int.reduceNeg, Int.reduceAdd, Int.reduceSub, Int.reduceMul, Int.reduceMod, Int.reduceDiv, Int.cast_ofNat_Int, not_true_eq_false, not_false_eq_true, Int.reduceTDiv, Int.reduceTMod, if_pos, if_neg, f14]
      exact ih m1 (c + 1) _ _ c (by omega) (by omega) f2 h55 (fun mi' g1 g2 => hK mi' g1 (hsc.tr g2))
theorem m_aim (hG : ShM G) (hS : WfG (mi 47)) (ht : 0 ≤ mi 47 0) (htt : mi 47 0 ≤ 9999) (hK : ∀ mi', mi' 47 = mi 47 → ScM mi mi' → K (some (pI (oAim (mi 47) n k))) G mi') : OkC (d + 5) 49 [pR (some 46), pI n, pI k] G mi K := by
  obtain ⟨⟨k46, k47, l47, k48, l48, k49, l49, k50, l50, k51, l51⟩, ⟨k52, l52, k53, l53, k54, l54⟩, ⟨g1, g2, g3, g11, g12, g15, g16, g18⟩⟩ := id hG
  obtain ⟨hT, hV, ⟨h1, h4⟩, ⟨hn, hn'⟩⟩ := id hS
  rw [E49]
  unfold oAim at hK
  by_cases hk : 0 ≤ k ∧ k ≤ 1
  · rw [if_pos hk] at hK
    by_cases h5 : 1 ≤ n ∧ n ≤ 3
    · rw [if_pos h5] at hK
      simp (disch := first | assumption | exact isL_i | exact isL_r | exact isL_n | exact i01a | exact i01b | omega) only [K49_0, K49_1, K49_2, K49_3, K49_6, K49_9, K49_10, K49_11, K49_12, K49_13, K49_14, K49_17, K49_20, K49_22, K49_23, K49_24, K49_27, K49_28, K49_31, K49_32, K49_33, K49_34, K49_35, K49_37, K49_38, K49_40, K49_41, g1, g2, g3, g11, g12, g15, g16, g18, wr_id, td_e, tm_e, pu_n, pu_s, up_s, up_k, up_a, ↓reduceIte, Int.reduceLT, Int.reduceLE, Int.reduceEq, Int.reduceNeg, Int.reduceAdd, Int.reduceSub, Int.reduceMul, Int.reduceMod, Int.reduceDiv, Int.cast_ofNat_Int, not_true_eq_false, not_false_eq_true, Int.reduceTDiv, Int.reduceTMod, m_in, m_asItIs', if_pos, if_neg]
      obtain ⟨m, rfl⟩ := Int.eq_ofNat_of_zero_le (by omega : 0 ≤ n)
      rw [Int.toNat_natCast] at hK
      exact m_aim_lp hG (s := mi 47) (hz := hazF (mi 47)) (n := m) hS ht htt (by omega) 24 _ 0 (-1) (-1) (mi 47 1) (by decide) (by decide) (by rw [up_a (by decide), sH_id]) (by rw [up_s]) (fun mi' g1 g2 => hK mi' g1 ((ScM.u46 (by decide) (by decide)).tr g2))
    · rw [if_neg h5] at hK
      simp (disch := first | assumption | exact isL_i | exact isL_r | exact isL_n | exact i01a | exact i01b | omega) only [K49_0, K49_1, K49_2, K49_3, K49_6, K49_9, K49_10, K49_11, K49_12, K49_13, K49_14, K49_17, K49_20, K49_22, K49_23, K49_24, K49_27, K49_28, K49_31, K49_32, K49_33, K49_34, K49_35, K49_37, K49_38, K49_40, K49_41, K49_43, K49_45, K49_47, K49_50, K49_51, K49_54, K49_55, K49_57, K49_58, K49_59, K49_60, K49_63, K49_64, K49_67, K49_69, K49_72, K49_74, K49_77, K49_79, K49_81, K49_82, K49_85, K49_87, K49_90, K49_91, K49_94, K49_97, K49_99, K49_101, K49_104, K49_107, K49_108, K49_111, K49_112, K49_113, K49_114, K49_115, K49_118, K49_120, K49_123, K49_125, g1, g2, g3, g11, g12, g15, g16, g18, wr_id, td_e, tm_e, pu_n, pu_s, up_s, up_k, up_a, ↓reduceIte, Int.reduceLT, Int.reduceLE, Int.reduceEq, Int.reduceNeg, Int.reduceAdd, Int.reduceSub, Int.reduceMul, Int.reduceMod, Int.reduceDiv, Int.cast_ofNat_Int, not_true_eq_false, not_false_eq_true, Int.reduceTDiv, Int.reduceTMod, m_in, if_pos, if_neg]
      exact hK _ rfl ScM.rf
  · rw [if_neg hk] at hK
    simp (disch := first | assumption | exact isL_i | exact isL_r | exact isL_n | exact i01a | exact i01b | omega) only [K49_0, K49_1, K49_2, K49_3, K49_6, K49_9, K49_10, K49_11, K49_12, K49_13, K49_14, K49_17, K49_20, K49_22, K49_23, K49_24, K49_27, K49_28, K49_31, K49_32, K49_33, K49_34, K49_35, K49_37, K49_38, K49_40, K49_41, K49_43, K49_45, K49_47, K49_50, K49_51, K49_54, K49_55, K49_57, K49_58, K49_59, K49_60, K49_63, K49_64, K49_67, K49_69, K49_72, K49_74, K49_77, K49_79, K49_81, K49_82, K49_85, K49_87, K49_90, K49_91, K49_94, K49_97, K49_99, K49_101, K49_104, K49_107, K49_108, K49_111, K49_112, K49_113, K49_114, K49_115, K49_118, K49_120, K49_123, K49_125, g1, g2, g3, g11, g12, g15, g16, g18, wr_id, td_e, tm_e, pu_n, pu_s, up_s, up_k, up_a, ↓reduceIte, Int.reduceLT, Int.reduceLE, Int.reduceEq, Int.reduceNeg, Int.reduceAdd, Int.reduceSub, Int.reduceMul, Int.reduceMod, Int.reduceDiv, Int.cast_ofNat_Int, not_true_eq_false, not_false_eq_true, Int.reduceTDiv, Int.reduceTMod, m_in, if_pos, if_neg]
    exact hK _ rfl ScM.rf
end MO
