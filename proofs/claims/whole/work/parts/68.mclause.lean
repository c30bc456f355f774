/-! ===== the reference reads a clause ===== -/
def mkC (w : Nat) (n : Int) : Int := if w = 3 then -10 - n else -200 - n
/-- what a clause makes of the numbers -/
def apC (a : Int) (c : Nat × Int × List Int) (s : Int → Int) : Int → Int :=
  if c.1 = 0 then sH s (199 + a) c.2.1 else if c.1 = 1 then sH s (204 + a) c.2.1 else if c.1 = 2 then sH s (209 + a) c.2.1 else emL a (c.2.2 ++ [mkC c.1 c.2.1]) s
def OutV (a : Int) (s s' : Int → Int) : Prop := ∀ k : Int, ¬ k = 199 + a → ¬ k = 204 + a → ¬ k = 209 + a → ¬ k = 214 + a → ¬ (219 + 140 * a ≤ k ∧ k < 359 + 140 * a) → s' k = s k
theorem OutV.rf {a : Int} {s : Int → Int} : OutV a s s := fun _ _ _ _ _ _ => rfl
theorem OutV.tr {a : Int} {s s' s'' : Int → Int} (h : OutV a s s') (h' : OutV a s' s'') : OutV a s s'' := fun k a b c d e => (h' k a b c d e).trans (h k a b c d e)
theorem OutE.v {a : Int} {s s' : Int → Int} (h : OutE a s s') : OutV a s s' := fun k _ _ _ d e => h k d e
/-- after a clause -/
def PoK (a j : Int) (o : Option (Nat × Int × List Int)) (mi mi' : Mi) : Prop :=
  Sc [46, 47] mi mi' ∧ (∀ k : Int, ¬ k = 7 → ¬ k = 9 → ¬ k = 10 → mi' 46 k = mi 46 k) ∧ mi' 46 7 = j ∧
  (match o with
    | none => mi' 46 9 = 1 ∧ OutV a (mi 47) (mi' 47)
    | some c => mi' 46 9 = 0 ∧ mi' 46 10 = 0 ∧ mi' 47 = apC a c (mi 47))
def spS (mi : Mi) (x : Int × Bool) : Mi := if x.2 = true then up mi 46 7 x.1 else up (up mi 46 7 x.1) 46 9 1
section MO
variable {d : Nat} {G : Gh} {mi mi' mi'' : Mi} {K : Option PV → Gh → Mi → Prop} {p v a b c k n g q e i j op x : Int} {h : Int → Int} {L : List Int} {o : Option (List Int)}
theorem StM.mv (hs : StM h a e op i mi) (hj : i ≤ j) : StM h a e op j (up mi 46 7 j) := by
  obtain ⟨⟨h6, h7, h8, h9, h10⟩, hh, hm, hm'⟩ := hs
  refine ⟨⟨by rw [up_k (by decide)]; exact h6, up_s, by rw [up_k (by decide)]; exact h8, by rw [up_k (by decide)]; exact h9, by rw [up_k (by decide)]; exact h10⟩, by rw [up_a (by decide)]; exact hh, by rw [up_a (by decide)]; exact hm, by rw [up_a (by decide)]; omega⟩
theorem m_must' (hG : ShM G) (hs : StM h a e op i mi) (h0 : 0 ≤ i) (hi : i ≤ e) (he : e ≤ 100) : OkC (d + 1) 11 [pR (some 46), pI c] G mi K = if h i = c then K none G (up mi 46 7 (i + 1)) else K none G (up mi 46 9 1) := by
  obtain ⟨⟨h6, h7, h8, h9, h10⟩, hh, hm, hm'⟩ := hs
  rw [m_must hG h7 h8 h9 h0 (by omega) he, hh]
theorem m_spells1 (hG : ShM G) {t : Nat} (ht : t < 8) (h9 : mi 46 9 = 1) (h7 : 0 ≤ mi 46 7) (h7' : mi 46 7 ≤ 100) : ∀ (m k : Nat), k + m = (sBytes t).length →
    Ok (d + 5) 12 2 [some (pR (some 46)), some (pE (2 * t + 1)), some (pI k)] [] G mi K = K none G mi := by
  obtain ⟨⟨k46, k47, l47, k48, l48, k49, l49, k50, l50, k51, l51⟩, ⟨k52, l52, k53, l53, k54, l54⟩, ⟨g1, g2, g3, g11, g12, g15, g16, g18⟩⟩ := id hG
  have hr := x_rcv (G := G) ht
  have hl := sBy_l ht
  intro m
  induction m with
  | zero =>
    intro k hk
    rw [K12_2]
    simp (disch := first | assumption | exact isL_i | exact isL_r | exact isL_n | exact i01a | exact i01b | omega) only [K12_3, wr_id, td_e, tm_e, pu_n, pu_s, up_s, up_k, up_a, ↓reduceIte, Int.reduceLT, Int.reduceLE, Int.reduceEq, Int.reduceNeg, Int.reduceAdd, Int.reduceSub, Int.reduceMul, Int.reduceMod, Int.reduceDiv, Int.cast_ofNat_Int, not_true_eq_false, not_false_eq_true, Int.reduceTDiv, Int.reduceTMod]
    rw [K12_4 hr, x_len (d := d + 3) ht]
    simp (disch := first | assumption | exact isL_i | exact isL_r | exact isL_n | exact i01a | exact i01b | omega) only [K12_7, K12_25, wr_id, td_e, tm_e, pu_n, pu_s, up_s, up_k, up_a, ↓reduceIte, Int.reduceLT, Int.reduceLE, Int.reduceEq, Int.reduceNeg, Int.reduceAdd, Int.reduceSub, Int.reduceMul, Int.reduceMod, Int.reduceDiv, Int.cast_ofNat_Int, not_true_eq_false, not_false_eq_true, Int.reduceTDiv, Int.reduceTMod, if_pos, if_neg]
  | succ m ih =>
    intro k hk
    rw [← ih (k + 1) (by omega), K12_2]
    simp (disch := first | assumption | exact isL_i | exact isL_r | exact isL_n | exact i01a | exact i01b | omega) only [K12_3, wr_id, td_e, tm_e, pu_n, pu_s, up_s, up_k, up_a, ↓reduceIte, Int.reduceLT, Int.reduceLE, Int.reduceEq, Int.reduceNeg, Int.reduceAdd, Int.reduceSub, Int.reduceMul, Int.reduceMod, Int.reduceDiv, Int.cast_ofNat_Int, not_true_eq_false, not_false_eq_true, Int.reduceTDiv, Int.reduceTMod]
    rw [K12_4 hr, x_len (d := d + 3) ht]
    simp (disch := first | assumption | exact isL_i | exact isL_r | exact isL_n | exact i01a | exact i01b | omega) only [K12_7, K12_10, K12_11, K12_12, wr_id, td_e, tm_e, pu_n, pu_s, up_s, up_k, up_a, ↓reduceIte, Int.reduceLT, Int.reduceLE, Int.reduceEq, Int.reduceNeg, Int.reduceAdd, Int.reduceSub, Int.reduceMul, Int.reduceMod, Int.reduceDiv, Int.cast_ofNat_Int, not_true_eq_false, not_false_eq_true, Int.reduceTDiv, Int.reduceTMod, if_pos, if_neg]
    rw [K12_13 hr, x_charAt ht (by omega)]
    simp only [pu_s]
    rw [K12_16 k46, m_must1 hG h9 h7 h7']
    simp (disch := first | assumption | exact isL_i | exact isL_r | exact isL_n | exact i01a | exact i01b | omega) only [K12_19, K12_22, wr_id, td_e, tm_e, pu_n, pu_s, up_s, up_k, up_a, ↓reduceIte, Int.reduceLT, Int.reduceLE, Int.reduceEq, Int.reduceNeg, Int.reduceAdd, Int.reduceSub, Int.reduceMul, Int.reduceMod, Int.reduceDiv, Int.cast_ofNat_Int, not_true_eq_false, not_false_eq_true, Int.reduceTDiv, Int.reduceTMod]
    rfl
theorem m_spells_lp (hG : ShM G) (hS : SgF h e) (he : e ≤ 100) {t : Nat} (ht : t < 8) : ∀ (W : List Int) (k : Nat) (i : Int) (mi : Mi), k + W.length = (sBytes t).length → (∀ q : Nat, q < W.length → (sBytes t).getD (k + q) 0 = W.getD q 0) → (∀ q : Nat, q < W.length → 0 ≤ W.getD q 0) → StM h a e op i mi → 0 ≤ i → i ≤ e →
    Ok (d + 5) 12 2 [some (pR (some 46)), some (pE (2 * t + 1)), some (pI k)] [] G mi K = K none G (spS mi (sqF h W i)) := by
  obtain ⟨⟨k46, k47, l47, k48, l48, k49, l49, k50, l50, k51, l51⟩, ⟨k52, l52, k53, l53, k54, l54⟩, ⟨g1, g2, g3, g11, g12, g15, g16, g18⟩⟩ := id hG
  have hr := x_rcv (G := G) ht
  have hl := sBy_l ht
  intro W
  induction W with
  | nil =>
    intro k i mi hk hW hW0 hs h0 hi
    have h7 := hs.1.2.1
    simp only [List.length_nil, Nat.add_zero] at hk
    rw [K12_2]
    simp (disch := first | assumption | exact isL_i | exact isL_r | exact isL_n | exact i01a | exact i01b | omega) only [K12_3, wr_id, td_e, tm_e, pu_n, pu_s, up_s, up_k, up_a, ↓reduceIte, Int.reduceLT, Int.reduceLE, Int.reduceEq, Int.reduceNeg, Int.reduceAdd, Int.reduceSub, Int.reduceMul, Int.reduceMod, Int.reduceDiv, Int.cast_ofNat_Int, not_true_eq_false, not_false_eq_true, Int.reduceTDiv, Int.reduceTMod]
    rw [K12_4 hr, x_len (d := d + 3) ht]
    simp (disch := first | assumption | exact isL_i | exact isL_r | exact isL_n | exact i01a | exact i01b | omega) only [K12_7, K12_25, wr_id, td_e, tm_e, pu_n, pu_s, up_s, up_k, up_a, ↓reduceIte, Int.reduceLT, Int.reduceLE, Int.reduceEq, Int.reduceNeg, Int.reduceAdd, Int.reduceSub, Int.reduceMul, Int.reduceMod, Int.reduceDiv, Int.cast_ofNat_Int, not_true_eq_false, not_false_eq_true, Int.reduceTDiv, Int.reduceTMod, if_pos, if_neg]
    show _ = K none G (up mi 46 7 i)
    rw [up_same h7]
  | cons c W ih =>
    intro k i mi hk hW hW0 hs h0 hi
    simp only [List.length_cons] at hk
    have e1 : (sBytes t).getD k 0 = c := hW 0 (by simp)
    have hc0 : 0 ≤ c := hW0 0 (by simp)
    rw [K12_2]
    simp (disch := first | assumption | exact isL_i | exact isL_r | exact isL_n | exact i01a | exact i01b | omega) only [K12_3, wr_id, td_e, tm_e, pu_n, pu_s, up_s, up_k, up_a, ↓reduceIte, Int.reduceLT, Int.reduceLE, Int.reduceEq, Int.reduceNeg, Int.reduceAdd, Int.reduceSub, Int.reduceMul, Int.reduceMod, Int.reduceDiv, Int.cast_ofNat_Int, not_true_eq_false, not_false_eq_true, Int.reduceTDiv, Int.reduceTMod]
    rw [K12_4 hr, x_len (d := d + 3) ht]
    simp (disch := first | assumption | exact isL_i | exact isL_r | exact isL_n | exact i01a | exact i01b | omega) only [K12_7, K12_10, K12_11, K12_12, wr_id, td_e, tm_e, pu_n, pu_s, up_s, up_k, up_a, ↓reduceIte, Int.reduceLT, Int.reduceLE, Int.reduceEq, Int.reduceNeg, Int.reduceAdd, Int.reduceSub, Int.reduceMul, Int.reduceMod, Int.reduceDiv, Int.cast_ofNat_Int, not_true_eq_false, not_false_eq_true, Int.reduceTDiv, Int.reduceTMod, if_pos, if_neg]
    rw [K12_13 hr, x_charAt ht (by omega)]
    simp only [pu_s]
    rw [K12_16 k46, m_must' hG hs h0 hi he, e1]
    simp only [sqF]
    by_cases cc : h i = c
    · rw [if_pos cc, if_pos cc]
      have hie := sg_lt (i := i) hS (by omega)
      simp (disch := first | assumption | exact isL_i | exact isL_r | exact isL_n | exact i01a | exact i01b | omega) only [K12_19, K12_22, wr_id, td_e, tm_e, pu_n, pu_s, up_s, up_k, up_a, ↓reduceIte, Int.reduceLT, Int.reduceLE, Int.reduceEq, Int.reduceNeg, Int.reduceAdd, Int.reduceSub, Int.reduceMul, Int.reduceMod, Int.reduceDiv, Int.cast_ofNat_Int, not_true_eq_false, not_false_eq_true, Int.reduceTDiv, Int.reduceTMod]
      have J := ih (k + 1) (i + 1) (up mi 46 7 (i + 1)) (by omega) (fun q hq => by
        have := hW (q + 1) (by simp only [List.length_cons]; omega)
        rw [show k + (q + 1) = k + 1 + q by omega] at this
        exact this) (fun q hq => by
        have := hW0 (q + 1) (by simp only [List.length_cons]; omega)
        exact this) hs.pp (by omega) (by omega)
      have e2 : spS (up mi 46 7 (i + 1)) (sqF h W (i + 1)) = spS mi (sqF h W (i + 1)) := by unfold spS; rw [up_up]
      rw [e2] at J
      exact J
    · rw [if_neg cc, if_neg cc]
      have h7 := hs.1.2.1
      have e7 : up mi 46 9 1 46 7 = i := by rw [up_k (by decide)]; exact h7
      simp (disch := first | assumption | exact isL_i | exact isL_r | exact isL_n | exact i01a | exact i01b | omega) only [K12_19, K12_22, wr_id, td_e, tm_e, pu_n, pu_s, up_s, up_k, up_a, ↓reduceIte, Int.reduceLT, Int.reduceLE, Int.reduceEq, Int.reduceNeg, Int.reduceAdd, Int.reduceSub, Int.reduceMul, Int.reduceMod, Int.reduceDiv, Int.cast_ofNat_Int, not_true_eq_false, not_false_eq_true, Int.reduceTDiv, Int.reduceTMod]
      have J := m_spells1 (d := d) (K := K) (mi := up mi 46 9 1) hG ht up_s (by rw [e7]; exact h0) (by rw [e7]; omega) W.length (k + 1) (by omega)
      have e2 : spS mi (i, false) = up mi 46 9 1 := by
        show up (up mi 46 7 i) 46 9 1 = _
        rw [up_same h7]
      rw [e2]
      exact J
theorem m_spells (hG : ShM G) (hS : SgF h e) (he : e ≤ 100) {t : Nat} (ht : t < 8) {W : List Int} (hW : sBytes t = W) (hW0 : ∀ q : Nat, q < W.length → 0 ≤ W.getD q 0) (hs : StM h a e op i mi) (h0 : 0 ≤ i) (hi : i ≤ e) :
    OkC (d + 5) 12 [pR (some 46), pE (2 * t + 1)] G mi K = K none G (spS mi (sqF h W i)) := by
  rw [E12]
  simp (disch := first | assumption | exact isL_i | exact isL_r | exact isL_n | exact i01a | exact i01b | omega) only [K12_0, K12_1, wr_id, td_e, tm_e, pu_n, pu_s, up_s, up_k, up_a, ↓reduceIte, Int.reduceLT, Int.reduceLE, Int.reduceEq, Int.reduceNeg, Int.reduceAdd, Int.reduceSub, Int.reduceMul, Int.reduceMod, Int.reduceDiv, Int.cast_ofNat_Int, not_true_eq_false, not_false_eq_true, Int.reduceTDiv, Int.reduceTMod]
  exact m_spells_lp hG hS he ht W 0 i mi (by rw [hW]; omega) (fun q hq => by rw [hW, Nat.zero_add]) hW0 hs h0 hi
theorem sqF_p (hS : SgF h e) : ∀ (W : List Int) (i : Int), (∀ q : Nat, q < W.length → 0 ≤ W.getD q 0) → 0 ≤ i → i ≤ e → i ≤ (sqF h W i).1 ∧ (sqF h W i).1 ≤ e ∧ ((sqF h W i).2 = true → (sqF h W i).1 = i + W.length) := by
  intro W
  induction W with
  | nil => intro i _ h0 hi; exact ⟨Int.le_refl _, hi, fun _ => by simp [sqF]⟩
  | cons c W ih =>
    intro i hW h0 hi
    simp only [sqF]
    have hc0 : 0 ≤ c := hW 0 (by simp)
    by_cases cc : h i = c
    · rw [if_pos cc]
      have hie := sg_lt (i := i) hS (by omega)
      obtain ⟨a1, a2, a3⟩ := ih (i + 1) (fun q hq => hW (q + 1) (by simp only [List.length_cons]; omega)) (by omega) (by omega)
      refine ⟨by omega, a2, fun hb => ?_⟩
      rw [a3 hb, List.length_cons]
      omega
    · rw [if_neg cc]
      exact ⟨Int.le_refl _, hi, fun hb => by cases hb⟩
end MO
