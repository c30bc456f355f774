/-! ===== order, count ===== -/
def mskF (s : Int → Int) : Int := anN (p2 (s 11) - 1) (hadB s)
def ordB (s : Int → Int) (bo : Int → Int) : Int × (Int → Int) := orF s (hazF s) 7 0 (mskF s) (s 1) (s 0) bo (1000000000, bo)
def oOrder (s : Int → Int) (b : Int × (Int → Int)) (k : Int) : Int :=
  if -1 ≤ k ∧ k ≤ 5 then (if b.1 = 1000000000 then -5 else if k = -1 then b.1 else if k < pcn (mskF s) then b.2 k else -5) else -1
theorem shl_p2 {n : Int} (h0 : 0 ≤ n) (h6 : n ≤ 6) : iShl 1 n = p2 n ∧ 1 ≤ p2 n ∧ p2 n ≤ 64 := by
  have h : n = 0 ∨ n = 1 ∨ n = 2 ∨ n = 3 ∨ n = 4 ∨ n = 5 ∨ n = 6 := by omega
  rcases h with rfl | rfl | rfl | rfl | rfl | rfl | rfl <;> decide +kernel
theorem hadB_bd {s : Int → Int} (hh : ∀ p : Int, 0 ≤ p → p < 6 → (0 ≤ s (2 + p) ∧ s (2 + p) ≤ 1)) : 0 ≤ hadB s ∧ hadB s < 64 := by
  have h0 := hh 0 (by decide) (by decide)
  have h1 := hh 1 (by decide) (by decide)
  have h2 := hh 2 (by decide) (by decide)
  have h3 := hh 3 (by decide) (by decide)
  have h4 := hh 4 (by decide) (by decide)
  have h5 := hh 5 (by decide) (by decide)
  simp only [Int.reduceAdd] at h0 h1 h2 h3 h4 h5
  unfold hadB
  omega
theorem mskF_bd {s : Int → Int} (hn : 0 ≤ s 11) (hn' : s 11 ≤ 6) (hh : ∀ p : Int, 0 ≤ p → p < 6 → (0 ≤ s (2 + p) ∧ s (2 + p) ≤ 1)) : 0 ≤ mskF s ∧ mskF s < 64 := by
  have h := shl_p2 hn hn'
  have hb := hadB_bd hh
  have := b_anN (x := p2 (s 11) - 1) (y := hadB s) (by omega) (by omega) hb.1 hb.2
  exact ⟨this.1, this.2.1⟩
section MO
variable {d : Nat} {G : Gh} {mi : Mi} {K : Option PV → Gh → Mi → Prop} {p t v w a b c k n g : Int}
theorem m_order (hG : ShM G) (hT : WfT (mi 47)) (h1 : -1 ≤ mi 47 17) (h4 : mi 47 17 ≤ 4) (hn : 0 ≤ mi 47 11) (hn' : mi 47 11 ≤ 6) (ht : 0 ≤ mi 47 0) (htt : mi 47 0 ≤ 9999) (hc : 0 ≤ mi 47 1) (hc' : mi 47 1 ≤ 23) (hh : ∀ p : Int, 0 ≤ p → p < 6 → (0 ≤ mi 47 (2 + p) ∧ mi 47 (2 + p) ≤ 1)) (hz : ∀ p : Int, mi 47 11 ≤ p → p < 6 → mi 47 (2 + p) = 0)
    (hK : ∀ mi', mi' 47 = mi 47 → ScM mi mi' → K (some (pI (oOrder (mi 47) (ordB (mi 47) (mi 53)) k))) G mi') : OkC (d + 10) 53 [pR (some 46), pI k] G mi K := by
  obtain ⟨⟨k46, k47, l47, k48, l48, k49, l49, k50, l50, k51, l51⟩, ⟨k52, l52, k53, l53, k54, l54⟩, ⟨g1, g2, g3, g11, g12, g15, g16, g18⟩⟩ := id hG
  have hm := mskF_bd hn hn' hh
  have hs := shl_p2 hn hn'
  have hb := hadB_bd hh
  have q0 := b_get hm.1 hm.2 (p := 0) (by decide) (by decide)
  have q1 := b_get hm.1 hm.2 (p := 1) (by decide) (by decide)
  have q2 := b_get hm.1 hm.2 (p := 2) (by decide) (by decide)
  have q3 := b_get hm.1 hm.2 (p := 3) (by decide) (by decide)
  have q4 := b_get hm.1 hm.2 (p := 4) (by decide) (by decide)
  have q5 := b_get hm.1 hm.2 (p := 5) (by decide) (by decide)
  have t0 := (b_bt hm.1 hm.2 (p := 0) (by decide) (by decide))
  have t1 := (b_bt hm.1 hm.2 (p := 1) (by decide) (by decide)).1
  have t2 := (b_bt hm.1 hm.2 (p := 2) (by decide) (by decide)).1
  have t3 := (b_bt hm.1 hm.2 (p := 3) (by decide) (by decide)).1
  have t4 := (b_bt hm.1 hm.2 (p := 4) (by decide) (by decide)).1
  have t5 := (b_bt hm.1 hm.2 (p := 5) (by decide) (by decide)).1
  have ean : iAnd (p2 (mi 47 11) - 1) (iXor (hadB (mi 47)) (-1)) = mskF (mi 47) := rfl
  rw [E53]
  unfold oOrder at hK
  by_cases hk : -1 ≤ k ∧ k ≤ 5
  · rw [if_pos hk] at hK
    simp (disch := first | assumption | exact isL_i | exact isL_r | exact isL_n | exact i01a | exact i01b | omega | (simp (disch := decide) only [up_a, up_s, up_k]; first | assumption | omega)) only [K53_0, K53_1, K53_2, K53_3, K53_6, K53_9, K53_10, K53_11, K53_12, K53_15, K53_16, K53_17, K53_20, K53_22, K53_23, K53_24, K53_25, K53_26, K53_27, g1, g2, g3, g11, g12, g15, g16, g18, wr_id, td_e, tm_e, pu_n, pu_s, up_s, up_k, up_a, ↓reduceIte, Int.reduceLT, Int.reduceLE, Int.reduceEq, Int.reduceNeg, Int.reduceAdd, Int.reduceSub, Int.reduceMul, Int.reduceMod, Int.reduceDiv, Int.cast_ofNat_Int, not_true_eq_false, not_false_eq_true, Int.reduceTDiv, Int.reduceTMod, m_in, m_asItIs', if_pos, if_neg, hs.1]
    rw [m_hadOnes (mi := up mi 46 5 (hazF (mi 47))) hG hn hn' hh hz, up_a (by decide)]
    simp (disch := first | assumption | exact isL_i | exact isL_r | exact isL_n | exact i01a | exact i01b | omega | (simp (disch := decide) only [up_a, up_s, up_k]; first | assumption | omega)) only [K53_30, K53_31, K53_32, K53_33, K53_34, K53_35, K53_36, K53_37, K53_39, K53_41, K53_43, K53_46, K53_47, K53_48, K53_50, K53_51, K53_52, K53_53, K53_54, K53_55, K53_58, K53_61, K53_62, K53_64, K53_67, K53_68, K53_69, K53_70, K53_71, K53_74, K53_75, K53_76, K53_77, K53_80, K53_81, g1, g2, g3, g11, g12, g15, g16, g18, wr_id, td_e, tm_e, pu_n, pu_s, up_s, up_k, up_a, ↓reduceIte, Int.reduceLT, Int.reduceLE, Int.reduceEq, Int.reduceNeg, Int.reduceAdd, Int.reduceSub, Int.reduceMul, Int.reduceMod, Int.reduceDiv, Int.cast_ofNat_Int, not_true_eq_false, not_false_eq_true, Int.reduceTDiv, Int.reduceTMod, if_pos, if_neg, ean, q0, q1, q2, q3, q4, q5]
    rw [K53_82 k46]
    refine m_orders hG (s := mi 47) (hz := hazF (mi 47)) hT hn hn' ht htt 7 d _ 0 (mskF (mi 47)) (mi 47 1) (mi 47 0) (mi 53) (1000000000, mi 53) _ (by decide) (by decide) (by omega) hm.1 hm.2 hc hc' (Int.le_refl _) (by omega) (by rw [up_a (by decide), up_a (by decide)]) (by rw [up_k (by decide), up_s]) (by rw [up_s]) (by rw [up_a (by decide), up_a (by decide)]) (fun i a b => by omega) fun m2 a17 a53 a46 a52 as => ?_
    have a17' : m2 46 17 = (ordB (mi 47) (mi 53)).1 := a17
    have a53' : m2 53 k = (ordB (mi 47) (mi 53)).2 k := by rw [a53]; rfl
    have a47 : m2 47 = mi 47 := by rw [as 47 (by decide), up_a (by decide), up_a (by decide)]
    have hsc : ScM mi m2 := ⟨((Sc.rf.u (by decide)).u (by decide)).tr (as.wk (by decide)), by rw [a46 4 (by decide)]; simp (disch := decide) only [up_k], by rw [a46 19 (by decide)]; simp (disch := decide) only [up_k]⟩
    have hK := hK m2 a47 hsc
    by_cases c1 : (ordB (mi 47) (mi 53)).1 = 1000000000
    · rw [if_pos c1] at hK
      simp (disch := first | assumption | exact isL_i | exact isL_r | exact isL_n | exact i01a | exact i01b | omega) only [K53_85, K53_86, K53_89, K53_91, K53_94, K53_96, K53_97, K53_98, K53_99, K53_102, K53_103, K53_106, K53_109, K53_110, K53_111, K53_114, K53_115, K53_118, K53_119, K53_120, K53_123, K53_125, g1, g2, g3, g11, g12, g15, g16, g18, wr_id, td_e, tm_e, pu_n, pu_s, up_s, up_k, up_a, ↓reduceIte, Int.reduceLT, Int.reduceLE, Int.reduceEq, Int.reduceNeg, Int.reduceAdd, Int.reduceSub, Int.reduceMul, Int.reduceMod, Int.reduceDiv, Int.cast_ofNat_Int, not_true_eq_false, not_false_eq_true, Int.reduceTDiv, Int.reduceTMod, if_pos, if_neg, a17']
      exact hK
    · rw [if_neg c1] at hK
      by_cases c2 : k = -1
      · rw [if_pos c2] at hK
        simp (disch := first | assumption | exact isL_i | exact isL_r | exact isL_n | exact i01a | exact i01b | omega) only [K53_85, K53_86, K53_89, K53_91, K53_94, K53_96, K53_97, K53_98, K53_99, K53_102, K53_103, K53_106, K53_109, K53_110, K53_111, K53_114, K53_115, K53_118, K53_119, K53_120, K53_123, K53_125, g1, g2, g3, g11, g12, g15, g16, g18, wr_id, td_e, tm_e, pu_n, pu_s, up_s, up_k, up_a, ↓reduceIte, Int.reduceLT, Int.reduceLE, Int.reduceEq, Int.reduceNeg, Int.reduceAdd, Int.reduceSub, Int.reduceMul, Int.reduceMod, Int.reduceDiv, Int.cast_ofNat_Int, not_true_eq_false, not_false_eq_true, Int.reduceTDiv, Int.reduceTMod, if_pos, if_neg, a17']
        exact hK
      · rw [if_neg c2] at hK
        by_cases c3 : k < pcn (mskF (mi 47))
        · rw [if_pos c3] at hK
          unfold pcn at c3
          simp (disch := first | assumption | exact isL_i | exact isL_r | exact isL_n | exact i01a | exact i01b | omega) only [K53_85, K53_86, K53_89, K53_91, K53_94, K53_96, K53_97, K53_98, K53_99, K53_102, K53_103, K53_106, K53_109, K53_110, K53_111, K53_114, K53_115, K53_118, K53_119, K53_120, K53_123, K53_125, g1, g2, g3, g11, g12, g15, g16, g18, wr_id, td_e, tm_e, pu_n, pu_s, up_s, up_k, up_a, ↓reduceIte, Int.reduceLT, Int.reduceLE, Int.reduceEq, Int.reduceNeg, Int.reduceAdd, Int.reduceSub, Int.reduceMul, Int.reduceMod, Int.reduceDiv, Int.cast_ofNat_Int, not_true_eq_false, not_false_eq_true, Int.reduceTDiv, Int.reduceTMod, if_pos, if_neg, a17', a53']
          exact hK
        · rw [if_neg c3] at hK
          unfold pcn at c3
          simp (disch := first | assumption | exact isL_i | exact isL_r | exact isL_n | exact i01a | exact i01b | omega) only [K53_85, K53_86, K53_89, K53_91, K53_94, K53_96, K53_97, K53_98, K53_99, K53_102, K53_103, K53_106, K53_109, K53_110, K53_111, K53_114, K53_115, K53_118, K53_119, K53_120, K53_123, K53_125, g1, g2, g3, g11, g12, g15, g16, g18, wr_id, td_e, tm_e, pu_n, pu_s, up_s, up_k, up_a, ↓reduceIte, Int.reduceLT, Int.reduceLE, Int.reduceEq, Int.reduceNeg, Int.reduceAdd, Int.reduceSub, Int.reduceMul, Int.reduceMod, Int.reduceDiv, Int.cast_ofNat_Int, not_true_eq_false, not_false_eq_true, Int.reduceTDiv, Int.reduceTMod, if_pos, if_neg, a17']
          exact hK
  · rw [if_neg hk] at hK
    simp (disch := first | assumption | exact isL_i | exact isL_r | exact isL_n | exact i01a | exact i01b | omega) only [K53_0, K53_1, K53_2, K53_3, K53_6, K53_9, K53_10, K53_11, K53_12, K53_15, K53_16, K53_17, K53_20, K53_22, K53_23, K53_24, K53_25, K53_26, K53_27, K53_30, K53_31, K53_32, K53_33, K53_34, K53_35, K53_36, K53_37, K53_39, K53_41, K53_43, K53_46, K53_47, K53_48, K53_50, K53_51, K53_52, K53_53, K53_54, K53_55, K53_58, K53_61, K53_62, K53_64, K53_67, K53_68, K53_69, K53_70, K53_71, K53_74, K53_75, K53_76, K53_77, K53_80, K53_81, K53_82, K53_85, K53_86, K53_89, K53_91, K53_94, K53_96, K53_97, K53_98, K53_99, K53_102, K53_103, K53_106, K53_109, K53_110, K53_111, K53_114, K53_115, K53_118, K53_119, K53_120, K53_123, K53_125, g1, g2, g3, g11, g12, g15, g16, g18, wr_id, td_e, tm_e, pu_n, pu_s, up_s, up_k, up_a, ↓reduceIte, Int.reduceLT, Int.reduceLE, Int.reduceEq, Int.reduceNeg, Int.reduceAdd, Int.reduceSub, Int.reduceMul, Int.reduceMod, Int.reduceDiv, Int.cast_ofNat_Int, not_true_eq_false, not_false_eq_true, Int.reduceTDiv, Int.reduceTMod, m_in, if_pos, if_neg]
    exact hK _ rfl ScM.rf
end MO
