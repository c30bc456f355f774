/-! ===== looked, firm, from ===== -/
def lookF (s : Int → Int) : Nat → Int → Int
  | 0, _ => -5
  | n + 1, k => if atF s (s (83 + k)) (s 0) = s (91 + k) then lookF s n (k + 1) else k
def WfB (s : Int → Int) : Prop := (0 ≤ s 15 ∧ s 15 ≤ 8) ∧ ∀ k : Int, 0 ≤ k → k < s 15 → (0 ≤ s (83 + k) ∧ s (83 + k) < 6)
def oFrom (s : Int → Int) (p : Int) : Int := if isT s p then fromL s p 24 0 0 else -1
def oFirm (s : Int → Int) (p k : Int) : Int := if isT s p ∧ (0 ≤ k ∧ k ≤ 1) then (if k = 0 then (firmL s p 10 (0, -5)).1 else (firmL s p 10 (0, -5)).2) else -1
section MO
variable {d : Nat} {G : Gh} {mi : Mi} {K : Option PV → Gh → Mi → Prop} {p t v w a b c k n g : Int}
theorem m_looked_lp (hG : ShM G) (hT : WfT (mi 47)) (hB : WfB (mi 47)) (ht : 0 ≤ mi 47 0) (htt : mi 47 0 ≤ 9999) : ∀ (c : Nat) (k : Int), k + c = mi 47 15 → 0 ≤ k →
    Ok (d + 1) 64 2 [some (pR (some 46)), some (pI k)] [] G mi K = K (some (pI (lookF (mi 47) c k))) G mi := by
  obtain ⟨⟨k46, k47, l47, k48, l48, k49, l49, k50, l50, k51, l51⟩, ⟨k52, l52, k53, l53, k54, l54⟩, ⟨g1, g2, g3, g11, g12, g15, g16, g18⟩⟩ := id hG
  have hB1 := hB.1
  intro c
  induction c with
  | zero =>
    intro k hk h0
    rw [K64_2]
    simp (disch := first | assumption | exact isL_i | exact isL_r | exact isL_n | exact i01a | exact i01b | omega) only [K64_3, K64_4, K64_7, K64_9, K64_10, K64_13, K64_14, K64_15, K64_18, K64_20, K64_21, K64_22, K64_23, K64_24, K64_27, K64_28, K64_29, K64_32, K64_33, K64_36, K64_38, K64_39, K64_40, K64_41, K64_44, K64_45, K64_46, K64_49, K64_52, K64_54, g1, g2, g3, g11, g12, g15, g16, g18, wr_id, td_e, tm_e, pu_n, pu_s, up_s, up_k, up_a, ↓reduceIte, Int.reduceLT, Int.reduceLE, Int.reduceEq, Int.reduceNeg, Int.reduceAdd, Int.reduceSub, Int.reduceMul, Int.reduceMod, Int.reduceDiv, Int.cast_ofNat_Int, not_true_eq_false, not_false_eq_true, Int.reduceTDiv, Int.reduceTMod, if_pos, if_neg]
    rfl
  | succ c ih =>
    intro k hk h0
    obtain ⟨b1, b2⟩ := hB.2 k h0 (by omega)
    simp only [lookF]
    rw [K64_2]
    by_cases h : atF (mi 47) (mi 47 (83 + k)) (mi 47 0) = mi 47 (91 + k)
    · rw [if_pos h]
      simp (disch := first | assumption | exact isL_i | exact isL_r | exact isL_n | exact i01a | exact i01b | omega) only [K64_3, K64_4, K64_7, K64_9, K64_10, K64_13, K64_14, K64_15, K64_18, K64_20, K64_21, K64_22, K64_23, K64_24, K64_27, K64_28, K64_29, K64_32, K64_33, K64_36, K64_38, K64_39, K64_40, K64_41, K64_44, K64_45, K64_46, K64_49, K64_52, K64_54, g1, g2, g3, g11, g12, g15, g16, g18, wr_id, td_e, tm_e, pu_n, pu_s, up_s, up_k, up_a, ↓reduceIte, Int.reduceLT, Int.reduceLE, Int.reduceEq, Int.reduceNeg, Int.reduceAdd, Int.reduceSub, Int.reduceMul, Int.reduceMod, Int.reduceDiv, Int.cast_ofNat_Int, not_true_eq_false, not_false_eq_true, Int.reduceTDiv, Int.reduceTMod, m_isAt, if_pos, if_neg, ih (k + 1) (by omega) (by omega)]
    · rw [if_neg h]
      simp (disch := first | assumption | exact isL_i | exact isL_r | exact isL_n | exact i01a | exact i01b | omega) only [K64_3, K64_4, K64_7, K64_9, K64_10, K64_13, K64_14, K64_15, K64_18, K64_20, K64_21, K64_22, K64_23, K64_24, K64_27, K64_28, K64_29, K64_32, K64_33, K64_36, K64_38, K64_39, K64_40, K64_41, K64_44, K64_45, K64_46, K64_49, K64_52, K64_54, g1, g2, g3, g11, g12, g15, g16, g18, wr_id, td_e, tm_e, pu_n, pu_s, up_s, up_k, up_a, ↓reduceIte, Int.reduceLT, Int.reduceLE, Int.reduceEq, Int.reduceNeg, Int.reduceAdd, Int.reduceSub, Int.reduceMul, Int.reduceMod, Int.reduceDiv, Int.cast_ofNat_Int, not_true_eq_false, not_false_eq_true, Int.reduceTDiv, Int.reduceTMod, m_isAt, if_pos, if_neg]
theorem m_looked (hG : ShM G) (hT : WfT (mi 47)) (hB : WfB (mi 47)) (ht : 0 ≤ mi 47 0) (htt : mi 47 0 ≤ 9999) : OkC (d + 1) 64 [pR (some 46)] G mi K = K (some (pI (lookF (mi 47) (mi 47 15).toNat 0))) G mi := by
  have hB1 := hB.1
  rw [E64]
  simp (disch := first | assumption | exact isL_i | exact isL_r | exact isL_n | exact i01a | exact i01b | omega) only [K64_0, K64_1, wr_id, td_e, tm_e, pu_n, pu_s, up_s, up_k, up_a, ↓reduceIte, Int.reduceLT, Int.reduceLE, Int.reduceEq, Int.reduceNeg, Int.reduceAdd, Int.reduceSub, Int.reduceMul, Int.reduceMod, Int.reduceDiv, Int.cast_ofNat_Int, not_true_eq_false, not_false_eq_true, Int.reduceTDiv, Int.reduceTMod]
  exact m_looked_lp hG hT hB ht htt _ 0 (by omega) (by omega)
theorem m_from (hG : ShM G) (hT : WfT (mi 47)) (hD : WfD (mi 47)) (hn : 0 ≤ mi 47 11) (hn' : mi 47 11 ≤ 6) (ht : 0 ≤ mi 47 0) (htt : mi 47 0 ≤ 9999) (hK : ∀ mi', mi' 47 = mi 47 → ScM mi mi' → K (some (pI (oFrom (mi 47) p))) G mi') : OkC (d + 3) 56 [pR (some 46), pI p] G mi K := by
  obtain ⟨⟨k46, k47, l47, k48, l48, k49, l49, k50, l50, k51, l51⟩, ⟨k52, l52, k53, l53, k54, l54⟩, ⟨g1, g2, g3, g11, g12, g15, g16, g18⟩⟩ := id hG
  rw [E56]
  unfold oFrom at hK
  by_cases hp : isT (mi 47) p
  · rw [if_pos hp] at hK
    simp (disch := first | assumption | exact isL_i | exact isL_r | exact isL_n | exact i01a | exact i01b | omega) only [K56_0, K56_1, K56_2, K56_5, K56_8, K56_9, K56_10, K56_11, K56_14, K56_16, K56_17, K56_18, K56_19, K56_20, K56_21, K56_22, K56_23, g1, g2, g3, g11, g12, g15, g16, g18, wr_id, td_e, tm_e, pu_n, pu_s, up_s, up_k, up_a, ↓reduceIte, Int.reduceLT, Int.reduceLE, Int.reduceEq, Int.reduceNeg, Int.reduceAdd, Int.reduceSub, Int.reduceMul, Int.reduceMod, Int.reduceDiv, Int.cast_ofNat_Int, not_true_eq_false, not_false_eq_true, Int.reduceTDiv, Int.reduceTMod, m_isThing, if_pos, if_neg]
    exact m_from_lp (d := d + 1) hG (s := mi 47) hT hD hp.1 (by omega) ht htt 24 0 mi 0 (mi 47 (30 + p)) (by omega) sH_id.symm (by decide) (by decide) (fun m2 h2 hs2 => hK m2 h2 (ScM.sc (hs2.wk (by decide))))
  · rw [if_neg hp] at hK
    simp (disch := first | assumption | exact isL_i | exact isL_r | exact isL_n | exact i01a | exact i01b | omega) only [K56_0, K56_1, K56_2, K56_5, K56_8, K56_9, K56_10, K56_11, K56_14, K56_16, K56_17, K56_18, K56_19, K56_20, K56_21, K56_22, K56_23, g1, g2, g3, g11, g12, g15, g16, g18, wr_id, td_e, tm_e, pu_n, pu_s, up_s, up_k, up_a, ↓reduceIte, Int.reduceLT, Int.reduceLE, Int.reduceEq, Int.reduceNeg, Int.reduceAdd, Int.reduceSub, Int.reduceMul, Int.reduceMod, Int.reduceDiv, Int.cast_ofNat_Int, not_true_eq_false, not_false_eq_true, Int.reduceTDiv, Int.reduceTMod, m_isThing, if_pos, if_neg]
    exact hK _ rfl ScM.rf
theorem m_firm (hG : ShM G) (hT : WfT (mi 47)) (hD : WfD (mi 47)) (hn : 0 ≤ mi 47 11) (hn' : mi 47 11 ≤ 6) (ht : 0 ≤ mi 47 0) (htt : mi 47 0 ≤ 9999) (hK : ∀ mi', mi' 47 = mi 47 → ScM mi mi' → K (some (pI (oFirm (mi 47) p k))) G mi') : OkC (d + 3) 57 [pR (some 46), pI p, pI k] G mi K := by
  obtain ⟨⟨k46, k47, l47, k48, l48, k49, l49, k50, l50, k51, l51⟩, ⟨k52, l52, k53, l53, k54, l54⟩, ⟨g1, g2, g3, g11, g12, g15, g16, g18⟩⟩ := id hG
  rw [E57]
  unfold oFirm at hK
  by_cases hp : isT (mi 47) p
  · by_cases hk : 0 ≤ k ∧ k ≤ 1
    · rw [if_pos ⟨hp, hk⟩] at hK
      simp (disch := first | assumption | exact isL_i | exact isL_r | exact isL_n | exact i01a | exact i01b | omega) only [K57_0, K57_1, K57_2, K57_5, K57_8, K57_9, K57_10, K57_11, K57_14, K57_17, K57_18, K57_19, K57_20, K57_23, K57_25, K57_26, K57_27, K57_28, K57_29, K57_30, K57_32, K57_34, K57_36, K57_38, g1, g2, g3, g11, g12, g15, g16, g18, wr_id, td_e, tm_e, pu_n, pu_s, up_s, up_k, up_a, ↓reduceIte, Int.reduceLT, Int.reduceLE, Int.reduceEq, Int.reduceNeg, Int.reduceAdd, Int.reduceSub, Int.reduceMul, Int.reduceMod, Int.reduceDiv, Int.cast_ofNat_Int, not_true_eq_false, not_false_eq_true, Int.reduceTDiv, Int.reduceTMod, m_isThing, m_in, if_pos, if_neg]
      exact m_firm_lp (d := d + 1) hG (s := mi 47) hT hD hp.1 (by omega) ht htt 10 mi 0 (-5) (mi 47 (24 + p)) none (by decide) isL_n sH_id.symm (by decide) (by decide) (fun m2 h2 hs2 => hK m2 h2 (ScM.sc (hs2.wk (by decide))))
    · rw [if_neg (fun h => hk h.2)] at hK
      simp (disch := first | assumption | exact isL_i | exact isL_r | exact isL_n | exact i01a | exact i01b | omega) only [K57_0, K57_1, K57_2, K57_5, K57_8, K57_9, K57_10, K57_11, K57_14, K57_17, K57_18, K57_19, K57_20, K57_23, K57_25, K57_26, K57_27, K57_28, K57_29, K57_30, K57_32, K57_34, K57_36, K57_38, g1, g2, g3, g11, g12, g15, g16, g18, wr_id, td_e, tm_e, pu_n, pu_s, up_s, up_k, up_a, ↓reduceIte, Int.reduceLT, Int.reduceLE, Int.reduceEq, Int.reduceNeg, Int.reduceAdd, Int.reduceSub, Int.reduceMul, Int.reduceMod, Int.reduceDiv, Int.cast_ofNat_Int, not_true_eq_false, not_false_eq_true, Int.reduceTDiv, Int.reduceTMod, m_isThing, m_in, if_pos, if_neg]
      exact hK _ rfl ScM.rf
  · rw [if_neg (fun h => hp h.1)] at hK
    simp (disch := first | assumption | exact isL_i | exact isL_r | exact isL_n | exact i01a | exact i01b | omega) only [K57_0, K57_1, K57_2, K57_5, K57_8, K57_9, K57_10, K57_11, K57_14, K57_17, K57_18, K57_19, K57_20, K57_23, K57_25, K57_26, K57_27, K57_28, K57_29, K57_30, K57_32, K57_34, K57_36, K57_38, g1, g2, g3, g11, g12, g15, g16, g18, wr_id, td_e, tm_e, pu_n, pu_s, up_s, up_k, up_a, ↓reduceIte, Int.reduceLT, Int.reduceLE, Int.reduceEq, Int.reduceNeg, Int.reduceAdd, Int.reduceSub, Int.reduceMul, Int.reduceMod, Int.reduceDiv, Int.cast_ofNat_Int, not_true_eq_false, not_false_eq_true, Int.reduceTDiv, Int.reduceTMod, m_isThing, m_in, if_pos, if_neg]
    exact hK _ rfl ScM.rf
end MO
