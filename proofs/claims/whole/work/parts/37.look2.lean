/-! ===== look, count ===== -/
def bgF (s : Int → Int) (hz : Int) (n : Nat) : Int → Int := fun q => (simP s hz n q).2
theorem bestF_b : ∀ (g : Int → Int) (n : Nat) (r b c m : Int), (∃ q, r ≤ q ∧ q < r + n ∧ m < g q) → bestF g n r (b, m) = bestF g n r (c, m) := by
  intro g n
  induction n with
  | zero => intro r b c m ⟨q, h1, h2, h3⟩; omega
  | succ n ih =>
    intro r b c m ⟨q, h1, h2, h3⟩
    simp only [bestF]
    by_cases h : m < g r
    · rw [if_pos h, if_pos h]
    · rw [if_neg h, if_neg h]
      refine ih (r + 1) b c m ⟨q, ?_, by omega, h3⟩
      have : q ≠ r := fun e => h (e ▸ h3)
      omega
theorem bestL_b {s : Int → Int} {hz : Int} (hS : WfG s) (h0 : 0 ≤ s 1) (h1 : s 1 ≤ 23) (n : Nat) (b c : Int) : bestL s hz n b = bestL s hz n c := by
  refine bestF_b _ _ 0 b c (-1) ⟨0, Int.le_refl _, ?_, ?_⟩
  · have : 0 < 5 ^ n := Nat.pow_pos (by decide)
    omega
  · have := (simP_wf (hz := hz) hS h0 h1 n 0).2.2.2.1
    omega
theorem bestF_in : ∀ (g : Int → Int) (n : Nat) (r b m : Int), (0 ≤ b ∨ (0 < n ∧ m < g r)) → 0 ≤ r → 0 ≤ (bestF g n r (b, m)).1 := by
  intro g n
  induction n with
  | zero => intro r b m h hr; rcases h with h | h; exact h; omega
  | succ n ih =>
    intro r b m h hr
    simp only [bestF]
    by_cases hm : m < g r
    · rw [if_pos hm]; exact ih (r + 1) r (g r) (Or.inl hr) (by omega)
    · rw [if_neg hm]
      exact ih (r + 1) b m (Or.inl (h.elim id (fun h => absurd h.2 hm))) (by omega)
def bstL (s : Int → Int) (hz : Int) (n : Nat) : Int × Int := bestL s hz n 0
theorem bstL_in {s : Int → Int} {hz : Int} (n : Nat) : 0 ≤ (bstL s hz n).1 := bestF_in _ _ 0 0 (-1) (Or.inl (Int.le_refl _)) (Int.le_refl _)
def oLook (s : Int → Int) (n k : Int) : Int :=
  if -1 ≤ k ∧ k ≤ 4 then (if 0 ≤ n ∧ n ≤ 5 then (if k = -1 then (bstL s (hazF s) n.toNat).2 else if k < n then (bstL s (hazF s) n.toNat).1 / pw (n - 1 - k) % 5 else -5) else -2) else -1
section MO
variable {d : Nat} {G : Gh} {mi : Mi} {K : Option PV → Gh → Mi → Prop} {p t v w a b c k n g : Int}
theorem m_look (hG : ShM G) (hS : WfG (mi 47)) (ht : 0 ≤ mi 47 0) (htt : mi 47 0 ≤ 9999) (hc : 0 ≤ mi 47 1) (hc' : mi 47 1 ≤ 23) (hK : ∀ mi', mi' 47 = mi 47 → ScM mi mi' → K (some (pI (oLook (mi 47) n k))) G mi') : OkC (d + 5) 48 [pR (some 46), pI n, pI k] G mi K := by
  obtain ⟨⟨k46, k47, l47, k48, l48, k49, l49, k50, l50, k51, l51⟩, ⟨k52, l52, k53, l53, k54, l54⟩, ⟨g1, g2, g3, g11, g12, g15, g16, g18⟩⟩ := id hG
  obtain ⟨hT, hV, ⟨h1, h4⟩, ⟨hn, hn'⟩⟩ := id hS
  rw [E48]
  unfold oLook at hK
  by_cases hk : -1 ≤ k ∧ k ≤ 4
  · rw [if_pos hk] at hK
    by_cases h5 : 0 ≤ n ∧ n ≤ 5
    · rw [if_pos h5] at hK
      simp (disch := first | assumption | exact isL_i | exact isL_r | exact isL_n | exact i01a | exact i01b | omega) only [K48_0, K48_1, K48_2, K48_3, K48_6, K48_9, K48_10, K48_11, K48_12, K48_13, K48_14, K48_17, K48_20, K48_22, K48_23, K48_24, K48_27, K48_28, g1, g2, g3, g11, g12, g15, g16, g18, wr_id, td_e, tm_e, pu_n, pu_s, up_s, up_k, up_a, ↓reduceIte, Int.reduceLT, Int.reduceLE, Int.reduceEq, Int.reduceNeg, Int.reduceAdd, Int.reduceSub, Int.reduceMul, Int.reduceMod, Int.reduceDiv, Int.cast_ofNat_Int, not_true_eq_false, not_false_eq_true, Int.reduceTDiv, Int.reduceTMod, m_in, m_asItIs', if_pos, if_neg]
      rw [K48_29 k46]
      obtain ⟨m, rfl⟩ := Int.eq_ofNat_of_zero_le h5.1
      refine m_looksFor (n := m) hG (by rw [up_a (by decide)]; exact hS) ht htt hc hc' (by omega) fun m1 e1 e2 e3 e4 => ?_
      rw [up_a (by decide), up_s] at e1
      have e13 : m1 46 13 = (bstL (mi 47) (hazF (mi 47)) m).1 := by
        have := congrArg Prod.fst (e1.trans (bestL_b hS hc hc' m _ 0)); exact this
      have e14 : m1 46 14 = (bstL (mi 47) (hazF (mi 47)) m).2 := by
        have := congrArg Prod.snd (e1.trans (bestL_b hS hc hc' m _ 0)); exact this
      have hin := bstL_in (s := mi 47) (hz := hazF (mi 47)) m
      have hsc : ScM mi m1 := (ScM.u46 (mi := mi) (v := hazF (mi 47)) (k := 5) (by decide) (by decide)).tr ⟨e4.wk (by decide), e3 4 (by decide) (by decide), e3 19 (by decide) (by decide)⟩
      have hK := hK m1 e2 hsc
      rw [Int.toNat_natCast] at hK
      by_cases c1 : k = -1
      · rw [if_pos c1] at hK
        simp (disch := first | assumption | exact isL_i | exact isL_r | exact isL_n | exact i01a | exact i01b | omega) only [K48_32, K48_33, K48_34, K48_37, K48_38, K48_41, K48_44, K48_45, K48_46, K48_49, K48_50, K48_53, K48_54, K48_55, K48_56, K48_57, K48_58, K48_61, K48_62, K48_63, K48_64, K48_67, K48_69, g1, g2, g3, g11, g12, g15, g16, g18, wr_id, td_e, tm_e, pu_n, pu_s, up_s, up_k, up_a, ↓reduceIte, Int.reduceLT, Int.reduceLE, Int.reduceEq, Int.reduceNeg, Int.reduceAdd, Int.reduceSub, Int.reduceMul, Int.reduceMod, Int.reduceDiv, Int.cast_ofNat_Int, not_true_eq_false, not_false_eq_true, Int.reduceTDiv, Int.reduceTMod, if_pos, if_neg, e14]
        exact hK
      · rw [if_neg c1] at hK
        by_cases c2 : k < m
        · rw [if_pos c2] at hK
          have hpw := pw_v (n := (m : Int) - 1 - k) (by omega) (by omega)
          have hq : 0 ≤ (bstL (mi 47) (hazF (mi 47)) m).1 / pw ((m : Int) - 1 - k) := Int.ediv_nonneg hin (by omega)
          simp (disch := first | assumption | exact isL_i | exact isL_r | exact isL_n | exact i01a | exact i01b | omega) only [K48_32, K48_33, K48_34, K48_37, K48_38, K48_41, K48_44, K48_45, K48_46, K48_49, K48_50, K48_53, K48_54, K48_55, K48_56, K48_57, K48_58, K48_61, K48_62, K48_63, K48_64, K48_67, K48_69, g1, g2, g3, g11, g12, g15, g16, g18, wr_id, td_e, tm_e, pu_n, pu_s, up_s, up_k, up_a, ↓reduceIte, Int.reduceLT, Int.reduceLE, Int.reduceEq, Int.reduceNeg, Int.reduceAdd, Int.reduceSub, Int.reduceMul, Int.reduceMod, Int.reduceDiv, Int.cast_ofNat_Int, not_true_eq_false, not_false_eq_true, Int.reduceTDiv, Int.reduceTMod, m_power, if_pos, if_neg, e13]
          exact hK
        · rw [if_neg c2] at hK
          simp (disch := first | assumption | exact isL_i | exact isL_r | exact isL_n | exact i01a | exact i01b | omega) only [K48_32, K48_33, K48_34, K48_37, K48_38, K48_41, K48_44, K48_45, K48_46, K48_49, K48_50, K48_53, K48_54, K48_55, K48_56, K48_57, K48_58, K48_61, K48_62, K48_63, K48_64, K48_67, K48_69, g1, g2, g3, g11, g12, g15, g16, g18, wr_id, td_e, tm_e, pu_n, pu_s, up_s, up_k, up_a, ↓reduceIte, Int.reduceLT, Int.reduceLE, Int.reduceEq, Int.reduceNeg, Int.reduceAdd, Int.reduceSub, Int.reduceMul, Int.reduceMod, Int.reduceDiv, Int.cast_ofNat_Int, not_true_eq_false, not_false_eq_true, Int.reduceTDiv, Int.reduceTMod, if_pos, if_neg]
          exact hK
    · rw [if_neg h5] at hK
      simp (disch := first | assumption | exact isL_i | exact isL_r | exact isL_n | exact i01a | exact i01b | omega) only [K48_0, K48_1, K48_2, K48_3, K48_6, K48_9, K48_10, K48_11, K48_12, K48_13, K48_14, K48_17, K48_20, K48_22, K48_23, K48_24, K48_27, K48_28, K48_29, K48_32, K48_33, K48_34, K48_37, K48_38, K48_41, K48_44, K48_45, K48_46, K48_49, K48_50, K48_53, K48_54, K48_55, K48_56, K48_57, K48_58, K48_61, K48_62, K48_63, K48_64, K48_67, K48_69, g1, g2, g3, g11, g12, g15, g16, g18, wr_id, td_e, tm_e, pu_n, pu_s, up_s, up_k, up_a, ↓reduceIte, Int.reduceLT, Int.reduceLE, Int.reduceEq, Int.reduceNeg, Int.reduceAdd, Int.reduceSub, Int.reduceMul, Int.reduceMod, Int.reduceDiv, Int.cast_ofNat_Int, not_true_eq_false, not_false_eq_true, Int.reduceTDiv, Int.reduceTMod, m_in, if_pos, if_neg]
      exact hK _ rfl ScM.rf
  · rw [if_neg hk] at hK
    simp (disch := first | assumption | exact isL_i | exact isL_r | exact isL_n | exact i01a | exact i01b | omega) only [K48_0, K48_1, K48_2, K48_3, K48_6, K48_9, K48_10, K48_11, K48_12, K48_13, K48_14, K48_17, K48_20, K48_22, K48_23, K48_24, K48_27, K48_28, K48_29, K48_32, K48_33, K48_34, K48_37, K48_38, K48_41, K48_44, K48_45, K48_46, K48_49, K48_50, K48_53, K48_54, K48_55, K48_56, K48_57, K48_58, K48_61, K48_62, K48_63, K48_64, K48_67, K48_69, g1, g2, g3, g11, g12, g15, g16, g18, wr_id, td_e, tm_e, pu_n, pu_s, up_s, up_k, up_a, ↓reduceIte, Int.reduceLT, Int.reduceLE, Int.reduceEq, Int.reduceNeg, Int.reduceAdd, Int.reduceSub, Int.reduceMul, Int.reduceMod, Int.reduceDiv, Int.cast_ofNat_Int, not_true_eq_false, not_false_eq_true, Int.reduceTDiv, Int.reduceTMod, m_in, if_pos, if_neg]
    exact hK _ rfl ScM.rf
end MO
