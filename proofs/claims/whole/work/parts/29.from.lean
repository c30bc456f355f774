/-! ===== where from, how firm ===== -/
def sH (s : Int → Int) (j v : Int) : Int → Int := fun i => if i = j then v else s i
theorem sH_s {s : Int → Int} {j v : Int} : sH s j v j = v := if_pos rfl
theorem sH_k {s : Int → Int} {j v i : Int} (h : ¬ i = j) : sH s j v i = s i := if_neg h
theorem up_sH {mi : Mi} {o : Nat} {k v : Int} : up mi o k v o = sH (mi o) k v := up_f
theorem sH_sH {s : Int → Int} {j v w : Int} : sH (sH s j v) j w = sH s j w := by
  funext i; unfold sH; split <;> rfl
theorem sH_id {s : Int → Int} {j : Int} : sH s j (s j) = s := by
  funext i; unfold sH; split
  · rename_i h; rw [h]
  · rfl
def fromL (s : Int → Int) (p : Int) : Nat → Nat → Int → Int
  | 0, _, a => a
  | n + 1, c, a => fromL s p n (c + 1) (if toldF (sH s (30 + p) c) p (s 13).toNat 0 1 = 1 then a + 2 ^ c else a)
def firmL (s : Int → Int) (p : Int) : Nat → Int × Int → Int × Int
  | 0, b => b
  | n + 1, b => firmL s p n (if toldF (sH s (24 + p) n) p (s 13).toNat 0 1 = 1 then (b.1 + 1, (n : Int)) else b)
theorem sH_T30 {s : Int → Int} {p c : Int} (hT : WfT s) (h0 : 0 ≤ p) (h6 : p < 6) (hc : 0 ≤ c) (hc' : c ≤ 23) : WfT (sH s (30 + p) c) := by
  refine ⟨fun q q0 q6 => ?_, fun k k1 k2 => ?_⟩
  · have := hT.1 q q0 q6
    rw [sH_k (by omega), sH_k (by omega)]
    by_cases hq : q = p
    · rw [hq, sH_s]; rw [hq] at this; exact ⟨this.1, this.2.1, hc, hc'⟩
    · rw [sH_k (by omega)]; exact this
  · rw [sH_k (by omega)]; exact hT.2 k k1 k2
theorem sH_T24 {s : Int → Int} {p c : Int} (hT : WfT s) (h0 : 0 ≤ p) (h6 : p < 6) (hc : 0 ≤ c) (hc' : c ≤ 9) : WfT (sH s (24 + p) c) := by
  refine ⟨fun q q0 q6 => ?_, fun k k1 k2 => ?_⟩
  · have := hT.1 q q0 q6
    rw [sH_k (by omega : ¬ 18 + q = 24 + p), sH_k (by omega : ¬ 30 + q = 24 + p)]
    by_cases hq : q = p
    · rw [hq, sH_s]; rw [hq] at this; exact ⟨this.1, ⟨hc, hc'⟩, this.2.2⟩
    · rw [sH_k (by omega)]; exact this
  · rw [sH_k (by omega)]; exact hT.2 k k1 k2
theorem sH_D {s : Int → Int} {j c : Int} (hD : WfD s) (h0 : 18 ≤ j) (h6 : j < 36) : WfD (sH s j c) := by
  refine ⟨?_, fun k k0 k1 => ?_⟩
  · rw [sH_k (by omega)]; exact hD.1
  · rw [sH_k (by omega)] at k1 ⊢; exact hD.2 k k0 k1
theorem ior0 {a : Int} (h0 : 0 ≤ a) (h1 : a < 16777216) : iOr a 0 = a := by
  show (BitVec.ofInt 32 a ||| BitVec.ofInt 32 0).toInt = a
  have e : BitVec.ofInt 32 0 = 0#32 := rfl
  rw [e, BitVec.or_zero, BitVec.toInt_ofInt]
  exact wr_id (by omega) (by omega)
section MO
variable {d : Nat} {G : Gh} {mi : Mi} {K : Option PV → Gh → Mi → Prop} {p t v w a b : Int}
theorem m_from_lp (hG : ShM G) {s : Int → Int} (hT : WfT s) (hD : WfD s) (h0 : 0 ≤ p) (h6 : p < 6) (ht : 0 ≤ s 0) (htt : s 0 ≤ 9999) : ∀ (k c : Nat) (mi : Mi) (a v : Int), c + k = 24 → mi 47 = sH s (30 + p) v → 0 ≤ a → a < 2 ^ c →
    (∀ m2, m2 47 = s → Sc [47] mi m2 → K (some (pI (fromL s p k c a))) G m2) →
    Ok (d + 2) 56 25 [some (pR (some 46)), some (pI p), some (pI (s (30 + p))), some (pI a), some (pI c)] [] G mi K := by
  obtain ⟨⟨k46, k47, l47, k48, l48, k49, l49, k50, l50, k51, l51⟩, ⟨k52, l52, k53, l53, k54, l54⟩, ⟨g1, g2, g3, g11, g12, g15, g16, g18⟩⟩ := id hG
  intro k
  induction k with
  | zero =>
    intro c mi a v hc hs ha ha' hK
    rw [K56_25]
    simp (disch := first | assumption | exact isL_i | exact isL_r | exact isL_n | exact i01a | exact i01b | omega) only [K56_27, K56_29, K56_68, K56_69, K56_72, K56_74, K56_75, K56_76, K56_77, K56_78, K56_79, g1, g2, g3, g11, g12, g15, g16, g18, wr_id, td_e, tm_e, pu_n, pu_s, up_s, up_k, up_a, ↓reduceIte, Int.reduceLT, Int.reduceLE, Int.reduceEq, Int.reduceNeg, Int.reduceAdd, Int.reduceSub, Int.reduceMul, Int.reduceMod, Int.reduceDiv, Int.cast_ofNat_Int, not_true_eq_false, not_false_eq_true, Int.reduceTDiv, Int.reduceTMod, if_pos, if_neg]
    exact hK _ (by rw [up_sH, hs, sH_sH, sH_id]) (sc_up (by decide))
  | succ k ih =>
    intro c mi a v hc hs ha ha' hK
    simp only [fromL] at hK
    have e47 : up mi 47 (30 + p) c 47 = sH s (30 + p) c := by rw [up_sH, hs, sH_sH]
    have hT' := sH_T30 hT h0 h6 (by omega : 0 ≤ (c : Int)) (by omega)
    have hD' := sH_D (c := c) hD (by omega : 18 ≤ 30 + p) (by omega)
    have e0 : sH s (30 + p) c 0 = s 0 := sH_k (by omega)
    have e13 : sH s (30 + p) c 13 = s 13 := sH_k (by omega)
    have h01 := toldF_01 (s := sH s (30 + p) c) (p := p) (s 13).toNat 0 1 (by decide) (by decide)
    have hi := i1s (by omega : c < 24) ha ha'
    have hp2 : (0 : Int) < 2 ^ c := by omega
    have hps : (2 : Int) ^ (c + 1) = 2 ^ c * 2 := Int.pow_succ 2 c
    rw [K56_25]
    simp (disch := first | assumption | exact isL_i | exact isL_r | exact isL_n | exact i01a | exact i01b | omega) only [K56_27, K56_29, K56_32, K56_33, K56_36, K56_38, K56_39, K56_40, K56_42, K56_43, K56_44, K56_45, g1, g2, g3, g11, g12, g15, g16, g18, wr_id, td_e, tm_e, pu_n, pu_s, up_s, up_k, up_a, ↓reduceIte, Int.reduceLT, Int.reduceLE, Int.reduceEq, Int.reduceNeg, Int.reduceAdd, Int.reduceSub, Int.reduceMul, Int.reduceMod, Int.reduceDiv, Int.cast_ofNat_Int, not_true_eq_false, not_false_eq_true, Int.reduceTDiv, Int.reduceTMod, if_pos, if_neg]
    rw [K56_46 k46, m_areAsTold hG (by rw [e47]; exact hT') (by rw [e47]; exact hD') h0 h6 (by rw [e47, e0]; exact ht) (by rw [e47, e0]; exact htt), e47, e13]
    have fin : ∀ a', a' = (if toldF (sH s (30 + p) c) p (s 13).toNat 0 1 = 1 then a + 2 ^ c else a) → Ok (d + 2) 56 25 [some (pR (some 46)), some (pI p), some (pI (s (30 + p))), some (pI a'), some (pI (c + 1))] [] G (up mi 47 (30 + p) c) K := by
      intro a' ha1
      have := ih (c + 1) (up mi 47 (30 + p) c) a' c (by omega) e47 (by rw [ha1]; split <;> omega) (by rw [ha1]; split <;> omega) (fun m2 h2 hs2 => ha1 ▸ hK m2 h2 ((sc_up (by decide)).tr hs2))
      exact this
    by_cases hto : toldF (sH s (30 + p) c) p (s 13).toNat 0 1 = 1
    · simp (disch := first | assumption | exact isL_i | exact isL_r | exact isL_n | exact i01a | exact i01b | omega) only [K56_49, K56_52, K56_53, K56_55, K56_56, K56_59, K56_60, K56_61, K56_62, K56_65, g1, g2, g3, g11, g12, g15, g16, g18, wr_id, td_e, tm_e, pu_n, pu_s, up_s, up_k, up_a, ↓reduceIte, Int.reduceLT, Int.reduceLE, Int.reduceEq, Int.reduceNeg, Int.reduceAdd, Int.reduceSub, Int.reduceMul, Int.reduceMod, Int.reduceDiv, Int.cast_ofNat_Int, not_true_eq_false, not_false_eq_true, Int.reduceTDiv, Int.reduceTMod, if_pos, if_neg, hto, hi]
      exact fin _ (by rw [if_pos hto])
    · have hto0 : toldF (sH s (30 + p) c) p (s 13).toNat 0 1 = 0 := by omega
      have hp : (2 : Int) ^ c ≤ 8388608 := by
        have : ∀ c : Fin 24, (2 : Int) ^ c.1 ≤ 8388608 := by decide +kernel
        exact this ⟨c, by omega⟩
      have hor : iOr a 0 = a := ior0 ha (by omega)
      simp (disch := first | assumption | exact isL_i | exact isL_r | exact isL_n | exact i01a | exact i01b | omega) only [K56_49, K56_52, K56_53, K56_55, K56_56, K56_59, K56_60, K56_61, K56_62, K56_65, g1, g2, g3, g11, g12, g15, g16, g18, wr_id, td_e, tm_e, pu_n, pu_s, up_s, up_k, up_a, ↓reduceIte, Int.reduceLT, Int.reduceLE, Int.reduceEq, Int.reduceNeg, Int.reduceAdd, Int.reduceSub, Int.reduceMul, Int.reduceMod, Int.reduceDiv, Int.cast_ofNat_Int, not_true_eq_false, not_false_eq_true, Int.reduceTDiv, Int.reduceTMod, if_pos, if_neg, hto0, hor]
      exact fin _ (by rw [if_neg hto])
theorem m_firm_lp (hG : ShM G) {s : Int → Int} (hT : WfT s) (hD : WfD s) (h0 : 0 ≤ p) (h6 : p < 6) (ht : 0 ≤ s 0) (htt : s 0 ≤ 9999) : ∀ (n : Nat) (mi : Mi) (a b v : Int) (x7 : Option PV), n ≤ 10 → isL x7 = false → mi 47 = sH s (24 + p) v → 0 ≤ a → a + n ≤ 100 →
    (∀ m2, m2 47 = s → Sc [47] mi m2 → K (some (pI (if w = 0 then (firmL s p n (a, b)).1 else (firmL s p n (a, b)).2))) G m2) →
    Ok (d + 2) 57 40 [some (pR (some 46)), some (pI p), some (pI w), some (pI (s (24 + p))), some (pI a), some (pI b), some (pI (n - 1)), x7] [] G mi K := by
  obtain ⟨⟨k46, k47, l47, k48, l48, k49, l49, k50, l50, k51, l51⟩, ⟨k52, l52, k53, l53, k54, l54⟩, ⟨g1, g2, g3, g11, g12, g15, g16, g18⟩⟩ := id hG
  intro n
  induction n with
  | zero =>
    intro mi a b v x7 hn q7 hs ha ha' hK
    have hK' := hK (up mi 47 (24 + p) (s (24 + p))) (by rw [up_sH, hs, sH_sH, sH_id]) (sc_up (by decide))
    simp only [firmL] at hK'
    rw [K57_40]
    by_cases hw : w = 0
    · rw [if_pos hw] at hK'
      simp (disch := first | assumption | exact isL_i | exact isL_r | exact isL_n | exact i01a | exact i01b | omega) only [K57_42, K57_98, K57_99, K57_102, K57_104, K57_105, K57_106, K57_107, K57_108, K57_109, K57_112, K57_114, K57_117, K57_119, g1, g2, g3, g11, g12, g15, g16, g18, wr_id, td_e, tm_e, pu_n, pu_s, up_s, up_k, up_a, ↓reduceIte, Int.reduceLT, Int.reduceLE, Int.reduceEq, Int.reduceNeg, Int.reduceAdd, Int.reduceSub, Int.reduceMul, Int.reduceMod, Int.reduceDiv, Int.cast_ofNat_Int, not_true_eq_false, not_false_eq_true, Int.reduceTDiv, Int.reduceTMod, if_pos, if_neg]
      exact hK'
    · rw [if_neg hw] at hK'
      simp (disch := first | assumption | exact isL_i | exact isL_r | exact isL_n | exact i01a | exact i01b | omega) only [K57_42, K57_98, K57_99, K57_102, K57_104, K57_105, K57_106, K57_107, K57_108, K57_109, K57_112, K57_114, K57_117, K57_119, g1, g2, g3, g11, g12, g15, g16, g18, wr_id, td_e, tm_e, pu_n, pu_s, up_s, up_k, up_a, ↓reduceIte, Int.reduceLT, Int.reduceLE, Int.reduceEq, Int.reduceNeg, Int.reduceAdd, Int.reduceSub, Int.reduceMul, Int.reduceMod, Int.reduceDiv, Int.cast_ofNat_Int, not_true_eq_false, not_false_eq_true, Int.reduceTDiv, Int.reduceTMod, if_pos, if_neg]
      exact hK'
  | succ n ih =>
    intro mi a b v x7 hn q7 hs ha ha' hK
    simp only [firmL] at hK
    have en : ((n + 1 : Nat) : Int) - 1 = n := by omega
    have e47 : up mi 47 (24 + p) n 47 = sH s (24 + p) n := by rw [up_sH, hs, sH_sH]
    have hT' := sH_T24 hT h0 h6 (by omega : 0 ≤ (n : Int)) (by omega)
    have hD' := sH_D (c := n) hD (by omega : 18 ≤ 24 + p) (by omega)
    have e0 : sH s (24 + p) n 0 = s 0 := sH_k (by omega)
    have e13 : sH s (24 + p) n 13 = s 13 := sH_k (by omega)
    have h01 := toldF_01 (s := sH s (24 + p) n) (p := p) (s 13).toNat 0 1 (by decide) (by decide)
    rw [K57_40, en]
    simp (disch := first | assumption | exact isL_i | exact isL_r | exact isL_n | exact i01a | exact i01b | omega) only [K57_42, K57_45, K57_46, K57_49, K57_51, K57_52, K57_53, K57_55, K57_56, K57_57, g1, g2, g3, g11, g12, g15, g16, g18, wr_id, td_e, tm_e, pu_n, pu_s, up_s, up_k, up_a, ↓reduceIte, Int.reduceLT, Int.reduceLE, Int.reduceEq, Int.reduceNeg, Int.reduceAdd, Int.reduceSub, Int.reduceMul, Int.reduceMod, Int.reduceDiv, Int.cast_ofNat_Int, not_true_eq_false, not_false_eq_true, Int.reduceTDiv, Int.reduceTMod, if_pos, if_neg]
    rw [K57_58 k46, m_areAsTold hG (by rw [e47]; exact hT') (by rw [e47]; exact hD') h0 h6 (by rw [e47, e0]; exact ht) (by rw [e47, e0]; exact htt), e47, e13]
    have fin : ∀ a' b' y7, isL y7 = false → (a', b') = (if toldF (sH s (24 + p) n) p (s 13).toNat 0 1 = 1 then (a + 1, (n : Int)) else (a, b)) → 0 ≤ a' → a' + n ≤ 100 → Ok (d + 2) 57 40 [some (pR (some 46)), some (pI p), some (pI w), some (pI (s (24 + p))), some (pI a'), some (pI b'), some (pI (n - 1)), y7] [] G (up mi 47 (24 + p) n) K := by
      intro a' b' y7 r7 hab h1 h2
      exact ih (up mi 47 (24 + p) n) a' b' n y7 (by omega) r7 e47 h1 h2 (fun m2 h2 hs2 => hab ▸ hK m2 h2 ((sc_up (by decide)).tr hs2))
    by_cases hto : toldF (sH s (24 + p) n) p (s 13).toNat 0 1 = 1
    · simp (disch := first | assumption | exact isL_i | exact isL_r | exact isL_n | exact i01a | exact i01b | omega) only [K57_61, K57_63, K57_65, K57_67, K57_70, K57_71, K57_74, K57_75, K57_76, K57_78, K57_80, K57_83, K57_85, K57_88, K57_90, K57_92, K57_95, g1, g2, g3, g11, g12, g15, g16, g18, wr_id, td_e, tm_e, pu_n, pu_s, up_s, up_k, up_a, ↓reduceIte, Int.reduceLT, Int.reduceLE, Int.reduceEq, Int.reduceNeg, Int.reduceAdd, Int.reduceSub, Int.reduceMul, Int.reduceMod, Int.reduceDiv, Int.cast_ofNat_Int, not_true_eq_false, not_false_eq_true, Int.reduceTDiv, Int.reduceTMod, if_pos, if_neg, hto]
      exact fin _ _ _ isL_i (by rw [if_pos hto]) (by omega) (by omega)
    · have hto0 : toldF (sH s (24 + p) n) p (s 13).toNat 0 1 = 0 := by omega
      simp (disch := first | assumption | exact isL_i | exact isL_r | exact isL_n | exact i01a | exact i01b | omega) only [K57_61, K57_63, K57_65, K57_67, K57_70, K57_71, K57_74, K57_75, K57_76, K57_78, K57_80, K57_83, K57_85, K57_88, K57_90, K57_92, K57_95, g1, g2, g3, g11, g12, g15, g16, g18, wr_id, td_e, tm_e, pu_n, pu_s, up_s, up_k, up_a, ↓reduceIte, Int.reduceLT, Int.reduceLE, Int.reduceEq, Int.reduceNeg, Int.reduceAdd, Int.reduceSub, Int.reduceMul, Int.reduceMod, Int.reduceDiv, Int.cast_ofNat_Int, not_true_eq_false, not_false_eq_true, Int.reduceTDiv, Int.reduceTMod, if_pos, if_neg, hto0, Int.add_zero]
      exact fin _ _ _ isL_i (by rw [if_neg hto]) (by omega) (by omega)
end MO
