/-! ===== sets of those had, fractions, where from, how firm ===== -/
def hadL (s : Int → Int) : Nat → Int → Int → Int
  | 0, _, a => a
  | n + 1, p, a => hadL s n (p + 1) (a + p2 p * s (2 + p))
def hadB (s : Int → Int) : Int := s 2 + 2 * s 3 + 4 * s 4 + 8 * s 5 + 16 * s 6 + 32 * s 7
theorem hadL_all {s : Int → Int} {n : Int} (h0 : 0 ≤ n) (h6 : n ≤ 6) (hz : ∀ p : Int, n ≤ p → p < 6 → s (2 + p) = 0) : hadL s n.toNat 0 0 = hadB s := by
  have h : n = 0 ∨ n = 1 ∨ n = 2 ∨ n = 3 ∨ n = 4 ∨ n = 5 ∨ n = 6 := by omega
  have z0 := hz 0
  have z1 := hz 1
  have z2 := hz 2
  have z3 := hz 3
  have z4 := hz 4
  have z5 := hz 5
  simp only [Int.reduceAdd] at z0 z1 z2 z3 z4 z5
  unfold hadB
  rcases h with rfl | rfl | rfl | rfl | rfl | rfl | rfl
  all_goals simp [hadL, p2]
  all_goals omega
theorem p2_v {p : Int} (h0 : 0 ≤ p) (h6 : p < 6) : 0 < p2 p ∧ p2 p ≤ 32 ∧ p2 (p + 1) = 2 * p2 p := by
  have h : p = 0 ∨ p = 1 ∨ p = 2 ∨ p = 3 ∨ p = 4 ∨ p = 5 := by omega
  rcases h with rfl | rfl | rfl | rfl | rfl | rfl <;> decide
def euF : Nat → Int → Int → Int
  | 0, x, _ => x
  | f + 1, x, y => if y = 0 then x else euF f y (x % y)
section MO
variable {d : Nat} {G : Gh} {mi : Mi} {K : Option PV → Gh → Mi → Prop} {p t v w a b : Int}
theorem m_had_lp (hG : ShM G) (hn : mi 47 11 ≤ 6) (hh : ∀ p : Int, 0 ≤ p → p < 6 → (0 ≤ mi 47 (2 + p) ∧ mi 47 (2 + p) ≤ 1)) : ∀ (c : Nat) (p a : Int), p + c = mi 47 11 → 0 ≤ p → 0 ≤ a → a < p2 p →
    Ok d 38 4 [some (pR (some 46)), some (pI a), some (pI p)] [] G mi K = K (some (pI (hadL (mi 47) c p a))) G mi := by
  obtain ⟨⟨k46, k47, l47, k48, l48, k49, l49, k50, l50, k51, l51⟩, ⟨k52, l52, k53, l53, k54, l54⟩, ⟨g1, g2, g3, g11, g12, g15, g16, g18⟩⟩ := id hG
  intro c
  induction c with
  | zero =>
    intro p a hp h0 ha ha'
    rw [K38_4]
    simp (disch := first | assumption | exact isL_i | exact isL_r | exact isL_n | exact i01a | exact i01b | omega) only [K38_5, K38_6, K38_9, K38_11, K38_12, K38_43, K38_44, g1, g2, g3, g11, g12, g15, g16, g18, wr_id, td_e, tm_e, pu_n, pu_s, up_s, up_k, up_a, ↓reduceIte, Int.reduceLT, Int.reduceLE, Int.reduceEq, Int.reduceNeg, Int.reduceAdd, Int.reduceSub, Int.reduceMul, Int.reduceMod, Int.reduceDiv, Int.cast_ofNat_Int, not_true_eq_false, not_false_eq_true, Int.reduceTDiv, Int.reduceTMod, if_pos, if_neg]
    rfl
  | succ c ih =>
    intro p a hp h0 ha ha'
    obtain ⟨u1, u2, u3⟩ := p2_v h0 (by omega : p < 6)
    obtain ⟨b1, b2⟩ := b_set ha (by omega) h0 (by omega : p < 6)
    have hbt : bt a p = 0 := by unfold bt; rw [Int.ediv_eq_zero_of_lt ha ha']; rfl
    rw [if_neg (by omega)] at b1
    obtain ⟨y0, y1⟩ := hh p h0 (by omega)
    simp only [hadL]
    rw [K38_4]
    by_cases hy : mi 47 (2 + p) = 1
    · rw [hy, Int.mul_one]
      simp (disch := first | assumption | exact isL_i | exact isL_r | exact isL_n | exact i01a | exact i01b | omega) only [K38_5, K38_6, K38_9, K38_11, K38_12, K38_15, K38_16, K38_17, K38_20, K38_21, K38_22, K38_23, K38_24, K38_25, K38_28, K38_29, K38_30, K38_31, K38_34, K38_35, K38_36, K38_37, K38_40, g1, g2, g3, g11, g12, g15, g16, g18, wr_id, td_e, tm_e, pu_n, pu_s, up_s, up_k, up_a, ↓reduceIte, Int.reduceLT, Int.reduceLE, Int.reduceEq, Int.reduceNeg, Int.reduceAdd, Int.reduceSub, Int.reduceMul, Int.reduceMod, Int.reduceDiv, Int.cast_ofNat_Int, not_true_eq_false, not_false_eq_true, Int.reduceTDiv, Int.reduceTMod, if_pos, if_neg, b1]
      rw [ih (p + 1) _ (by omega) (by omega) (by omega) (by omega)]
    · rw [show mi 47 (2 + p) = 0 by omega, Int.mul_zero, Int.add_zero]
      simp (disch := first | assumption | exact isL_i | exact isL_r | exact isL_n | exact i01a | exact i01b | omega) only [K38_5, K38_6, K38_9, K38_11, K38_12, K38_15, K38_16, K38_17, K38_20, K38_21, K38_22, K38_23, K38_24, K38_25, K38_28, K38_29, K38_30, K38_31, K38_34, K38_35, K38_36, K38_37, K38_40, g1, g2, g3, g11, g12, g15, g16, g18, wr_id, td_e, tm_e, pu_n, pu_s, up_s, up_k, up_a, ↓reduceIte, Int.reduceLT, Int.reduceLE, Int.reduceEq, Int.reduceNeg, Int.reduceAdd, Int.reduceSub, Int.reduceMul, Int.reduceMod, Int.reduceDiv, Int.cast_ofNat_Int, not_true_eq_false, not_false_eq_true, Int.reduceTDiv, Int.reduceTMod, if_pos, if_neg, b2]
      rw [ih (p + 1) _ (by omega) (by omega) (by omega) (by omega)]
theorem m_hadOnes (hG : ShM G) (hn0 : 0 ≤ mi 47 11) (hn : mi 47 11 ≤ 6) (hh : ∀ p : Int, 0 ≤ p → p < 6 → (0 ≤ mi 47 (2 + p) ∧ mi 47 (2 + p) ≤ 1)) (hz : ∀ p : Int, mi 47 11 ≤ p → p < 6 → mi 47 (2 + p) = 0) :
    OkC d 38 [pR (some 46)] G mi K = K (some (pI (hadB (mi 47)))) G mi := by
  rw [E38]
  simp (disch := first | assumption | exact isL_i | exact isL_r | exact isL_n | exact i01a | exact i01b | omega) only [K38_0, K38_1, K38_2, K38_3, wr_id, td_e, tm_e, pu_n, pu_s, up_s, up_k, up_a, ↓reduceIte, Int.reduceLT, Int.reduceLE, Int.reduceEq, Int.reduceNeg, Int.reduceAdd, Int.reduceSub, Int.reduceMul, Int.reduceMod, Int.reduceDiv, Int.cast_ofNat_Int, not_true_eq_false, not_false_eq_true, Int.reduceTDiv, Int.reduceTMod]
  rw [m_had_lp hG hn hh (mi 47 11).toNat 0 0 (by omega) (by omega) (by omega) (by decide), hadL_all hn0 hn hz]
theorem euF_pos : ∀ (f : Nat) (x y : Int), 0 ≤ x → 0 ≤ y → (0 < x ∨ 0 < y) → y ≤ f → 0 < euF f x y := by
  intro f
  induction f with
  | zero => intro x y h0 h1 h2 h3; simp only [euF]; omega
  | succ f ih =>
    intro x y h0 h1 h2 h3
    simp only [euF]
    split
    · omega
    · have hy : 0 < y := by omega
      have e1 := Int.emod_nonneg x (show y ≠ 0 by omega)
      have e2 := Int.emod_lt_of_pos x hy
      exact ih y (x % y) h1 e1 (Or.inl hy) (by omega)
theorem m_low_lp {u l q : Int} : ∀ (f : Nat) (x y : Int) (x9 x10 : Option PV), 0 ≤ x → 0 ≤ y → (0 < x ∨ 0 < y) → y ≤ f →
    Ok d 58 17 [some (pL u), none, some (pL l), none, some (pI q), some (pL x), none, some (pL y), none, x9, x10] [] G mi K = K (some (pL ((if q = 0 then u else l).tdiv (euF f x y)))) G mi := by
  intro f
  induction f with
  | zero =>
    intro x y x9 x10 h0 h1 h2 h3
    have hy : y = 0 := by omega
    have hx : 0 < x := by omega
    rw [K58_17, hy]
    by_cases hq : q = 0
    all_goals simp (disch := first | assumption | exact isL_i | exact isL_r | exact isL_n | exact i01a | exact i01b | omega) only [K58_19, K58_20, K58_21, K58_42, K58_44, K58_47, K58_48, K58_51, K58_52, K58_54, K58_55, wr_id, td_e, tm_e, pu_n, pu_s, up_s, up_k, up_a, ↓reduceIte, Int.reduceLT, Int.reduceLE, Int.reduceEq, Int.reduceNeg, Int.reduceAdd, Int.reduceSub, Int.reduceMul, Int.reduceMod, Int.reduceDiv, Int.cast_ofNat_Int, not_true_eq_false, not_false_eq_true, Int.reduceTDiv, Int.reduceTMod, if_pos, if_neg, cmpL, euF]
  | succ f ih =>
    intro x y x9 x10 h0 h1 h2 h3
    have hp := euF_pos (f + 1) x y h0 h1 h2 h3
    rw [K58_17]
    by_cases hy : y = 0
    · have hx : 0 < x := by omega
      rw [hy]
      by_cases hq : q = 0
      all_goals simp (disch := first | assumption | exact isL_i | exact isL_r | exact isL_n | exact i01a | exact i01b | omega) only [K58_19, K58_20, K58_21, K58_42, K58_44, K58_47, K58_48, K58_51, K58_52, K58_54, K58_55, wr_id, td_e, tm_e, pu_n, pu_s, up_s, up_k, up_a, ↓reduceIte, Int.reduceLT, Int.reduceLE, Int.reduceEq, Int.reduceNeg, Int.reduceAdd, Int.reduceSub, Int.reduceMul, Int.reduceMod, Int.reduceDiv, Int.cast_ofNat_Int, not_true_eq_false, not_false_eq_true, Int.reduceTDiv, Int.reduceTMod, if_pos, if_neg, cmpL, euF]
    · have hy : 0 < y := by omega
      have e1 := Int.emod_nonneg x (show y ≠ 0 by omega)
      have e2 := Int.emod_lt_of_pos x hy
      have hcm : ¬ cmpL y 0 = 0 := by unfold cmpL; rw [if_neg (by omega), if_neg (by omega)]; decide
      simp (disch := first | assumption | exact isL_i | exact isL_r | exact isL_n | exact i01a | exact i01b | omega) only [K58_19, K58_20, K58_21, K58_24, K58_26, K58_28, K58_29, K58_31, K58_33, K58_35, K58_37, K58_39, wr_id, td_e, tm_e, pu_n, pu_s, up_s, up_k, up_a, ↓reduceIte, Int.reduceLT, Int.reduceLE, Int.reduceEq, Int.reduceNeg, Int.reduceAdd, Int.reduceSub, Int.reduceMul, Int.reduceMod, Int.reduceDiv, Int.cast_ofNat_Int, not_true_eq_false, not_false_eq_true, Int.reduceTDiv, Int.reduceTMod, if_pos, if_neg]
      rw [ih y (x % y) _ _ h1 e1 (Or.inl hy) (by omega)]
      have e3 : euF (f + 1) x y = euF f y (x % y) := by simp only [euF]; rw [if_neg (by omega)]
      rw [e3]
theorem m_lowest {u l q : Int} (hu : 0 ≤ u) (hl : 0 < l) (hl' : l ≤ 6) : OkC d 58 [pL u, pL l, pI q] G mi K = K (some (pL ((if q = 0 then u else l) / (euF 6 u l)))) G mi := by
  have hc : 0 ≤ cmpL u 0 := by unfold cmpL; rw [if_neg (by omega)]; split <;> decide
  rw [E58]
  simp (disch := first | assumption | exact isL_i | exact isL_r | exact isL_n | exact i01a | exact i01b | omega) only [K58_0, K58_1, K58_2, K58_3, K58_6, K58_7, K58_8, K58_11, K58_12, K58_14, K58_15, wr_id, td_e, tm_e, pu_n, pu_s, up_s, up_k, up_a, ↓reduceIte, Int.reduceLT, Int.reduceLE, Int.reduceEq, Int.reduceNeg, Int.reduceAdd, Int.reduceSub, Int.reduceMul, Int.reduceMod, Int.reduceDiv, Int.cast_ofNat_Int, not_true_eq_false, not_false_eq_true, Int.reduceTDiv, Int.reduceTMod, if_pos, if_neg]
  exact (m_low_lp 6 u l none none hu (by omega) (Or.inr hl) (by omega)).trans (by rw [td_e (by split <;> omega)])
end MO
theorem i1s {c : Nat} (h : c < 24) {a : Int} (h0 : 0 ≤ a) (h1 : a < 2 ^ c) : iOr a (iShl 1 c) = a + 2 ^ c := by
  have hs : iShl 1 (c : Int) = 2 ^ c := by
    have : ∀ c : Fin 24, iShl 1 ((c.1 : Nat) : Int) = 2 ^ c.1 := by decide +kernel
    exact this ⟨c, h⟩
  have hp : (2 : Int) ^ c ≤ 8388608 := by
    have : ∀ c : Fin 24, (2 : Int) ^ c.1 ≤ 8388608 := by decide +kernel
    exact this ⟨c, h⟩
  rw [hs]
  obtain ⟨n, rfl⟩ := Int.eq_ofNat_of_zero_le h0
  have h1' : n < 2 ^ c := by
    have : ((n : Nat) : Int) < ((2 ^ c : Nat) : Int) := by rw [Int.natCast_pow]; exact h1
    omega
  have hp' : 2 ^ c ≤ 8388608 := by
    have : ((2 ^ c : Nat) : Int) ≤ 8388608 := by rw [Int.natCast_pow]; exact hp
    omega
  have hor : n ||| 2 ^ c = n + 2 ^ c := by
    have := Nat.two_pow_add_eq_or_of_lt h1' 1
    rw [Nat.mul_one] at this
    rw [Nat.or_comm, ← this, Nat.add_comm]
  have hN : (BitVec.ofInt 32 (n : Int) ||| BitVec.ofInt 32 (2 ^ c)).toNat = n + 2 ^ c := by
    have e2 : (2 : Int) ^ c = ((2 ^ c : Nat) : Int) := by rw [Int.natCast_pow]; rfl
    rw [e2, BitVec.ofInt_natCast, BitVec.ofInt_natCast, BitVec.toNat_or, BitVec.toNat_ofNat, BitVec.toNat_ofNat, Nat.mod_eq_of_lt (by omega), Nat.mod_eq_of_lt (by omega), hor]
  show (BitVec.ofInt 32 (n : Int) ||| BitVec.ofInt 32 (2 ^ c)).toInt = _
  rw [BitVec.toInt_eq_toNat_of_lt (by rw [hN]; omega), hN, Int.natCast_add, Int.natCast_pow]
  rfl
