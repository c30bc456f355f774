/-! ===== how soon, in which order, as told ===== -/
def farF (a b : Int) : Int := (a / 6 - b / 6).natAbs + (a % 6 - b % 6).natAbs
def soonF (s : Int → Int) (hz p cell tick : Int) : Nat → Int → Int
  | 0, _ => 1000000000
  | k + 1, n => if ¬ dimP s hz p (tick + n) ∧ farF cell (atF s p (tick + n)) ≤ n then n else soonF s hz p cell tick k (n + 1)
theorem soonF_bd {s : Int → Int} {hz p cell tick : Int} : ∀ (k : Nat) (n : Int), soonF s hz p cell tick k n = 1000000000 ∨ n ≤ soonF s hz p cell tick k n ∧ soonF s hz p cell tick k n < n + k := by
  intro k
  induction k with
  | zero => intro n; left; rfl
  | succ k ih =>
    intro n
    simp only [soonF]
    split
    · right; omega
    · rcases ih (n + 1) with h | h
      · left; exact h
      · right; omega
section MO
variable {d : Nat} {G : Gh} {mi : Mi} {K : Option PV → Gh → Mi → Prop} {p t v w a b : Int}
theorem m_ticksTo_lp (hG : ShM G) (hT : WfT (mi 47)) (h0 : 0 ≤ p) (h6 : p < 6) (ht : 0 ≤ t) (htt : t ≤ 19900) (hc : 0 ≤ v) (hc' : v ≤ 23) : ∀ (k : Nat) (n : Int), n + k = 41 → 1 ≤ n →
    Ok (d + 2) 50 3 [some (pR (some 46)), some (pI p), some (pI v), some (pI t), some (pI n)] [] G mi K = K (some (pI (soonF (mi 47) (mi 46 5) p v t k n))) G mi := by
  obtain ⟨⟨k46, k47, l47, k48, l48, k49, l49, k50, l50, k51, l51⟩, ⟨k52, l52, k53, l53, k54, l54⟩, ⟨g1, g2, g3, g11, g12, g15, g16, g18⟩⟩ := id hG
  intro k
  induction k with
  | zero =>
    intro n hn h1
    rw [K50_3]
    simp (disch := first | assumption | exact isL_i | exact isL_r | exact isL_n | exact i01a | exact i01b | omega) only [K50_5, K50_7, K50_10, K50_49, K50_51, wr_id, td_e, tm_e, pu_n, pu_s, up_s, up_k, up_a, ↓reduceIte, Int.reduceLT, Int.reduceLE, Int.reduceEq, Int.reduceNeg, Int.reduceAdd, Int.reduceSub, Int.reduceMul, Int.reduceMod, Int.reduceDiv, Int.cast_ofNat_Int, not_true_eq_false, not_false_eq_true, Int.reduceTDiv, Int.reduceTMod, if_pos, if_neg]
    rfl
  | succ k ih =>
    intro n hn h1
    obtain ⟨ha, ha'⟩ := atF_wf hT h0 h6 (t := t + n)
    rw [K50_3]
    by_cases hd : dimP (mi 47) (mi 46 5) p (t + n)
    · simp (disch := first | assumption | exact isL_i | exact isL_r | exact isL_n | exact i01a | exact i01b | omega) only [K50_5, K50_7, K50_10, K50_11, K50_12, K50_13, K50_15, K50_16, K50_19, K50_22, K50_23, K50_24, K50_25, K50_26, K50_28, K50_29, K50_32, K50_35, K50_37, K50_40, K50_42, K50_43, K50_46, wr_id, td_e, tm_e, pu_n, pu_s, up_s, up_k, up_a, ↓reduceIte, Int.reduceLT, Int.reduceLE, Int.reduceEq, Int.reduceNeg, Int.reduceAdd, Int.reduceSub, Int.reduceMul, Int.reduceMod, Int.reduceDiv, Int.cast_ofNat_Int, not_true_eq_false, not_false_eq_true, Int.reduceTDiv, Int.reduceTMod, if_pos, if_neg, m_isDim, ih (n + 1) (by omega) (by omega)]
      simp only [soonF]
      rw [if_neg (fun h => h.1 hd)]
    · by_cases hf : farF v (atF (mi 47) p (t + n)) ≤ n
      · unfold farF at hf
        simp (disch := first | assumption | exact isL_i | exact isL_r | exact isL_n | exact i01a | exact i01b | omega) only [K50_5, K50_7, K50_10, K50_11, K50_12, K50_13, K50_15, K50_16, K50_19, K50_22, K50_23, K50_24, K50_25, K50_26, K50_28, K50_29, K50_32, K50_35, K50_37, K50_40, K50_42, K50_43, K50_46, wr_id, td_e, tm_e, pu_n, pu_s, up_s, up_k, up_a, ↓reduceIte, Int.reduceLT, Int.reduceLE, Int.reduceEq, Int.reduceNeg, Int.reduceAdd, Int.reduceSub, Int.reduceMul, Int.reduceMod, Int.reduceDiv, Int.cast_ofNat_Int, not_true_eq_false, not_false_eq_true, Int.reduceTDiv, Int.reduceTMod, if_pos, if_neg, m_isDim, m_isAt, m_far]
        simp only [soonF]
        rw [if_pos ⟨hd, hf⟩]
      · have hf' := hf
        unfold farF at hf'
        simp (disch := first | assumption | exact isL_i | exact isL_r | exact isL_n | exact i01a | exact i01b | omega) only [K50_5, K50_7, K50_10, K50_11, K50_12, K50_13, K50_15, K50_16, K50_19, K50_22, K50_23, K50_24, K50_25, K50_26, K50_28, K50_29, K50_32, K50_35, K50_37, K50_40, K50_42, K50_43, K50_46, wr_id, td_e, tm_e, pu_n, pu_s, up_s, up_k, up_a, ↓reduceIte, Int.reduceLT, Int.reduceLE, Int.reduceEq, Int.reduceNeg, Int.reduceAdd, Int.reduceSub, Int.reduceMul, Int.reduceMod, Int.reduceDiv, Int.cast_ofNat_Int, not_true_eq_false, not_false_eq_true, Int.reduceTDiv, Int.reduceTMod, if_pos, if_neg, m_isDim, m_isAt, m_far, ih (n + 1) (by omega) (by omega)]
        simp only [soonF]
        rw [if_neg (fun h => hf h.2)]
theorem m_ticksTo (hG : ShM G) (hT : WfT (mi 47)) (h0 : 0 ≤ p) (h6 : p < 6) (ht : 0 ≤ t) (htt : t ≤ 19900) (hc : 0 ≤ v) (hc' : v ≤ 23) :
    OkC (d + 2) 50 [pR (some 46), pI p, pI v, pI t] G mi K = K (some (pI (soonF (mi 47) (mi 46 5) p v t 40 1))) G mi := by
  rw [E50]
  simp (disch := first | assumption | exact isL_i | exact isL_r | exact isL_n | exact i01a | exact i01b | omega) only [K50_0, K50_1, wr_id, td_e, tm_e, pu_n, pu_s, up_s, up_k, up_a, ↓reduceIte, Int.reduceLT, Int.reduceLE, Int.reduceEq, Int.reduceNeg, Int.reduceAdd, Int.reduceSub, Int.reduceMul, Int.reduceMod, Int.reduceDiv, Int.cast_ofNat_Int, not_true_eq_false, not_false_eq_true, Int.reduceTDiv, Int.reduceTMod]
  exact m_ticksTo_lp hG hT h0 h6 ht htt hc hc' 40 1 (by omega) (by omega)
end MO
/-- whether all of STOOD that is of p is so -/
def toldF (s : Int → Int) (p : Int) : Nat → Int → Int → Int
  | 0, _, a => a
  | n + 1, k, a => toldF s p n (k + 1) (if a = 0 then 0 else if s (60 + k) = p ∧ ¬ atF s p (s 0 + s (65 + k)) = s (70 + k) then 0 else 1)
theorem toldF_01 {s : Int → Int} {p : Int} : ∀ (n : Nat) (k a : Int), 0 ≤ a → a ≤ 1 → 0 ≤ toldF s p n k a ∧ toldF s p n k a ≤ 1 := by
  intro n
  induction n with
  | zero => intro k a h0 h1; exact ⟨h0, h1⟩
  | succ n ih =>
    intro k a h0 h1
    simp only [toldF]
    apply ih
    all_goals (repeat' split) 
    all_goals omega
def WfD (s : Int → Int) : Prop := (0 ≤ s 13 ∧ s 13 ≤ 5) ∧ ∀ k : Int, 0 ≤ k → k < s 13 → (0 ≤ s (65 + k) ∧ s (65 + k) ≤ 40)
section MO
variable {d : Nat} {G : Gh} {mi : Mi} {K : Option PV → Gh → Mi → Prop} {p t v w a b : Int}
theorem m_told_lp (hG : ShM G) (hT : WfT (mi 47)) (hD : WfD (mi 47)) (h0 : 0 ≤ p) (h6 : p < 6) (ht : 0 ≤ mi 47 0) (htt : mi 47 0 ≤ 9999) : ∀ (k : Nat) (n a : Int), n + k = mi 47 13 → 0 ≤ n → 0 ≤ a → a ≤ 1 →
    Ok (d + 1) 55 4 [some (pR (some 46)), some (pI p), some (pI a), some (pI n)] [] G mi K = K (some (pI (toldF (mi 47) p k n a))) G mi := by
  obtain ⟨⟨k46, k47, l47, k48, l48, k49, l49, k50, l50, k51, l51⟩, ⟨k52, l52, k53, l53, k54, l54⟩, ⟨g1, g2, g3, g11, g12, g15, g16, g18⟩⟩ := id hG
  intro k
  induction k with
  | zero =>
    intro n a hn h1 ha ha'
    rw [K55_4]
    have := hD.1
    simp (disch := first | assumption | exact isL_i | exact isL_r | exact isL_n | exact i01a | exact i01b | omega) only [K55_5, K55_6, K55_9, K55_11, K55_12, K55_77, K55_78, g1, g2, g3, g11, g12, g15, g16, g18, wr_id, td_e, tm_e, pu_n, pu_s, up_s, up_k, up_a, ↓reduceIte, Int.reduceLT, Int.reduceLE, Int.reduceEq, Int.reduceNeg, Int.reduceAdd, Int.reduceSub, Int.reduceMul, Int.reduceMod, Int.reduceDiv, Int.cast_ofNat_Int, not_true_eq_false, not_false_eq_true, Int.reduceTDiv, Int.reduceTMod, if_pos, if_neg]
    rfl
  | succ k ih =>
    intro n a hn h1 ha ha'
    have hD1 := hD.1
    have hD2 := hD.2 n h1 (by omega)
    simp only [toldF]
    rw [K55_4]
    by_cases hz : a = 0
    · rw [if_pos hz]
      simp (disch := first | assumption | exact isL_i | exact isL_r | exact isL_n | exact i01a | exact i01b | omega) only [K55_5, K55_6, K55_9, K55_11, K55_12, K55_15, K55_16, K55_19, K55_20, K55_23, K55_25, K55_26, K55_27, K55_28, K55_29, K55_32, K55_33, K55_34, K55_35, K55_38, K55_39, K55_40, K55_41, K55_44, K55_46, K55_47, K55_48, K55_49, K55_50, K55_53, K55_54, K55_57, K55_59, K55_60, K55_61, K55_62, K55_65, K55_66, K55_69, K55_70, K55_71, K55_74, g1, g2, g3, g11, g12, g15, g16, g18, wr_id, td_e, tm_e, pu_n, pu_s, up_s, up_k, up_a, ↓reduceIte, Int.reduceLT, Int.reduceLE, Int.reduceEq, Int.reduceNeg, Int.reduceAdd, Int.reduceSub, Int.reduceMul, Int.reduceMod, Int.reduceDiv, Int.cast_ofNat_Int, not_true_eq_false, not_false_eq_true, Int.reduceTDiv, Int.reduceTMod, if_pos, if_neg, ih (n + 1) _ (by omega) (by omega)]
    · rw [if_neg hz]
      by_cases c1 : mi 47 (60 + n) = p
      · by_cases c2 : atF (mi 47) p (mi 47 0 + mi 47 (65 + n)) = mi 47 (70 + n)
        · rw [if_neg (fun h => h.2 c2)]
          simp (disch := first | assumption | exact isL_i | exact isL_r | exact isL_n | exact i01a | exact i01b | omega) only [K55_5, K55_6, K55_9, K55_11, K55_12, K55_15, K55_16, K55_19, K55_20, K55_23, K55_25, K55_26, K55_27, K55_28, K55_29, K55_32, K55_33, K55_34, K55_35, K55_38, K55_39, K55_40, K55_41, K55_44, K55_46, K55_47, K55_48, K55_49, K55_50, K55_53, K55_54, K55_57, K55_59, K55_60, K55_61, K55_62, K55_65, K55_66, K55_69, K55_70, K55_71, K55_74, g1, g2, g3, g11, g12, g15, g16, g18, wr_id, td_e, tm_e, pu_n, pu_s, up_s, up_k, up_a, ↓reduceIte, Int.reduceLT, Int.reduceLE, Int.reduceEq, Int.reduceNeg, Int.reduceAdd, Int.reduceSub, Int.reduceMul, Int.reduceMod, Int.reduceDiv, Int.cast_ofNat_Int, not_true_eq_false, not_false_eq_true, Int.reduceTDiv, Int.reduceTMod, if_pos, if_neg, m_isAt, ih (n + 1) _ (by omega) (by omega)]
        · rw [if_pos ⟨c1, c2⟩]
          simp (disch := first | assumption | exact isL_i | exact isL_r | exact isL_n | exact i01a | exact i01b | omega) only [K55_5, K55_6, K55_9, K55_11, K55_12, K55_15, K55_16, K55_19, K55_20, K55_23, K55_25, K55_26, K55_27, K55_28, K55_29, K55_32, K55_33, K55_34, K55_35, K55_38, K55_39, K55_40, K55_41, K55_44, K55_46, K55_47, K55_48, K55_49, K55_50, K55_53, K55_54, K55_57, K55_59, K55_60, K55_61, K55_62, K55_65, K55_66, K55_69, K55_70, K55_71, K55_74, g1, g2, g3, g11, g12, g15, g16, g18, wr_id, td_e, tm_e, pu_n, pu_s, up_s, up_k, up_a, ↓reduceIte, Int.reduceLT, Int.reduceLE, Int.reduceEq, Int.reduceNeg, Int.reduceAdd, Int.reduceSub, Int.reduceMul, Int.reduceMod, Int.reduceDiv, Int.cast_ofNat_Int, not_true_eq_false, not_false_eq_true, Int.reduceTDiv, Int.reduceTMod, if_pos, if_neg, m_isAt, ih (n + 1) _ (by omega) (by omega)]
      · rw [if_neg (fun h => c1 h.1)]
        simp (disch := first | assumption | exact isL_i | exact isL_r | exact isL_n | exact i01a | exact i01b | omega) only [K55_5, K55_6, K55_9, K55_11, K55_12, K55_15, K55_16, K55_19, K55_20, K55_23, K55_25, K55_26, K55_27, K55_28, K55_29, K55_32, K55_33, K55_34, K55_35, K55_38, K55_39, K55_40, K55_41, K55_44, K55_46, K55_47, K55_48, K55_49, K55_50, K55_53, K55_54, K55_57, K55_59, K55_60, K55_61, K55_62, K55_65, K55_66, K55_69, K55_70, K55_71, K55_74, g1, g2, g3, g11, g12, g15, g16, g18, wr_id, td_e, tm_e, pu_n, pu_s, up_s, up_k, up_a, ↓reduceIte, Int.reduceLT, Int.reduceLE, Int.reduceEq, Int.reduceNeg, Int.reduceAdd, Int.reduceSub, Int.reduceMul, Int.reduceMod, Int.reduceDiv, Int.cast_ofNat_Int, not_true_eq_false, not_false_eq_true, Int.reduceTDiv, Int.reduceTMod, if_pos, if_neg, ih (n + 1) _ (by omega) (by omega)]
theorem m_areAsTold (hG : ShM G) (hT : WfT (mi 47)) (hD : WfD (mi 47)) (h0 : 0 ≤ p) (h6 : p < 6) (ht : 0 ≤ mi 47 0) (htt : mi 47 0 ≤ 9999) :
    OkC (d + 1) 55 [pR (some 46), pI p] G mi K = K (some (pI (toldF (mi 47) p (mi 47 13).toNat 0 1))) G mi := by
  have hD1 := hD.1
  rw [E55]
  simp (disch := first | assumption | exact isL_i | exact isL_r | exact isL_n | exact i01a | exact i01b | omega) only [K55_0, K55_1, K55_2, K55_3, wr_id, td_e, tm_e, pu_n, pu_s, up_s, up_k, up_a, ↓reduceIte, Int.reduceLT, Int.reduceLE, Int.reduceEq, Int.reduceNeg, Int.reduceAdd, Int.reduceSub, Int.reduceMul, Int.reduceMod, Int.reduceDiv, Int.cast_ofNat_Int, not_true_eq_false, not_false_eq_true, Int.reduceTDiv, Int.reduceTMod]
  exact m_told_lp hG hT hD h0 h6 ht htt _ 0 1 (by omega) (by omega) (by omega) (by omega)
end MO
