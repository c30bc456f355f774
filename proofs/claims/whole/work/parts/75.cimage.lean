/-! ===== the class's image ===== -/
/-- the tables' widths and limits -/
def WTb (o : Nat) (mi : Mi) : Prop := (mi (o + 1) 0 = 1 ∧ mi (o + 1) 1 = 100) ∧ (mi (o + 11) 0 = 3 ∧ mi (o + 11) 1 = 5) ∧ (mi (o + 13) 0 = 1 ∧ mi (o + 13) 1 = 8) ∧ (mi (o + 15) 0 = 2 ∧ mi (o + 15) 1 = 8)
theorem RS.wt {o : Nat} {s : Int → Int} {G : Gh} {mi : Mi} (h : RS o s G mi) : WTb o mi := by
  obtain ⟨⟨-, -, ⟨⟨t0, t1, -⟩, -⟩, ⟨⟨u0, u1, -⟩, -⟩, ⟨⟨p0, p1, -⟩, -⟩, ⟨⟨b0, b1, -⟩, -⟩⟩, -, -⟩ := h
  exact ⟨⟨t0, t1⟩, ⟨u0, u1⟩, ⟨p0, p1⟩, ⟨b0, b1⟩⟩
abbrev bcL (b : Nat) : List Nat := [b, b + 1, b + 2, b + 9, b + 10, b + 11, b + 12, b + 13, b + 14, b + 15, b + 16]
def abP (a b : Nat) : Prop := a = 1 ∧ b = 19 ∨ a = 19 ∧ b = 1
def BcG (G G' : Gh) (a b : Nat) : Prop := (gN G' = gN G ∧ gS G' = gS G ∧ gL G' = gL G ∧ gX G' = gX G) ∧ (∀ x : Nat, gK G' x = gK G x) ∧ (∀ (x : Nat) (j : Int), ¬ x = b + 8 → ¬ (x = b ∧ j = 1) → gR G' x j = gR G x j) ∧ gR G' b 1 = gR G a 1 ∧ (∀ p : Int, gR G' (b + 8) p = if 0 ≤ p ∧ p < 6 then gR G (a + 8) p else gR G (b + 8) p)
def BcM (mi mi' : Mi) (a b : Nat) : Prop := Sc (bcL b) mi mi' ∧
  (mi' b 2 = mi a 2 ∧ mi' b 3 = mi a 3 ∧ mi' b 7 = mi a 7 ∧ mi' b 8 = mi a 8 ∧ mi' b 9 = mi a 9 ∧ mi' b 10 = mi a 10 ∧ mi' b 11 = mi a 11 ∧ mi' b 12 = mi a 12) ∧
  ((∀ j : Int, 0 ≤ j → j < 6 → mi' (b + 9) j = mi (a + 9) j) ∧ (∀ j : Int, 0 ≤ j → j < 24 → mi' (b + 10) j = mi (a + 10) j)) ∧
  ((mi' (b + 1) 3 = mi (a + 1) 3 ∧ ∀ j : Int, ¬ j = 3 → mi' (b + 1) j = mi (b + 1) j) ∧ ∀ j : Int, 0 ≤ j → j < 100 → mi' (b + 2) j = mi (a + 2) j) ∧
  ((mi' (b + 11) 3 = mi (a + 11) 3 ∧ ∀ j : Int, ¬ j = 3 → mi' (b + 11) j = mi (b + 11) j) ∧ ∀ j : Int, 0 ≤ j → j < 15 → mi' (b + 12) j = mi (a + 12) j) ∧
  ((mi' (b + 13) 3 = mi (a + 13) 3 ∧ ∀ j : Int, ¬ j = 3 → mi' (b + 13) j = mi (b + 13) j) ∧ ∀ j : Int, 0 ≤ j → j < 8 → mi' (b + 14) j = mi (a + 14) j) ∧
  ((mi' (b + 15) 3 = mi (a + 15) 3 ∧ ∀ j : Int, ¬ j = 3 → mi' (b + 15) j = mi (b + 15) j) ∧ ∀ j : Int, 0 ≤ j → j < 16 → mi' (b + 16) j = mi (a + 16) j)
def BLp (G1 G : Gh) (a b : Nat) (i : Int) : Prop := (gN G = gN G1 ∧ gS G = gS G1 ∧ gL G = gL G1 ∧ gX G = gX G1) ∧ (∀ x : Nat, gK G x = gK G1 x) ∧ (∀ (x : Nat) (j : Int), ¬ x = b + 8 → gR G x j = gR G1 x j) ∧ (∀ p : Int, gR G (b + 8) p = if 0 ≤ p ∧ p < i then gR G1 (a + 8) p else gR G1 (b + 8) p)
section CL
variable {d : Nat} {G : Gh} {mi mi' mi'' : Mi} {K : Option PV → Gh → Mi → Prop} {a b o o' p p' : Nat} {s z : Int → Int} {v w i : Int}
theorem t_bec {N : Nat} (hk : (gK G o).1 = 8) (hk' : (gK G o').1 = 8) (hr : gR G o 2 = some p) (hr' : gR G o' 2 = some p') (hp : (gK G p).1 = 20) (hp' : (gK G p').1 = 20) (hpp : p' ≠ p) (lp : (gK G p).2 = N) (lp' : (gK G p').2 = N) :
    OkC (d + 2) 86 [pR (some o), pR (some o')] G mi K = K none G (cpy (up mi o 3 (mi o' 3)) p' 0 p 0 N) := by
  rw [E86]
  simp (disch := first | assumption | exact isL_i | exact isL_r | exact isL_n | exact i01a | exact i01b | omega) only [K86_0, K86_1, K86_2, K86_5, K86_8, K86_9, K86_12, K86_13, wr_id, td_e, tm_e, pu_n, pu_s, up_s, up_k, up_a, ↓reduceIte, Int.reduceLT, Int.reduceLE, Int.reduceEq, Int.reduceNeg, Int.reduceAdd, Int.reduceSub, Int.reduceMul, Int.reduceMod, Int.reduceDiv, Int.cast_ofNat_Int, not_true_eq_false, not_false_eq_true, Int.reduceTDiv, Int.reduceTMod, hr, hr']
  rw [K86_16, c_copy (d := d) hp' hp hpp lp' lp]
  simp (disch := first | assumption | exact isL_i | exact isL_r | exact isL_n | exact i01a | exact i01b | omega) only [K86_19, wr_id, td_e, tm_e, pu_n, pu_s, up_s, up_k, up_a, ↓reduceIte, Int.reduceLT, Int.reduceLE, Int.reduceEq, Int.reduceNeg, Int.reduceAdd, Int.reduceSub, Int.reduceMul, Int.reduceMod, Int.reduceDiv, Int.cast_ofNat_Int, not_true_eq_false, not_false_eq_true, Int.reduceTDiv, Int.reduceTMod]
theorem c_bec_lp {G1 : Gh} (hab : abP a b) (ka : (gK G1 a).1 = 7) (kb : (gK G1 b).1 = 7) (ka8 : (gK G1 (a + 8)).1 = 22) (la8 : (gK G1 (a + 8)).2 = 6) (kb8 : (gK G1 (b + 8)).1 = 22) (lb8 : (gK G1 (b + 8)).2 = 6) (ra : gR G1 a 4 = some (a + 8)) (rb : gR G1 b 4 = some (b + 8)) (hT : ∀ p : Int, thgO G1 (gR G1 (a + 8) p) = true)
    (hK : ∀ G', BLp G1 G' a b 6 → Ok (d + 3) 146 73 [some (pR (some b)), some (pR (some a)), some (pI 6)] [] G' mi K) : ∀ (m : Nat) (G : Gh) (i : Int), i + m = 6 → 0 ≤ i → BLp G1 G a b i →
    Ok (d + 3) 146 37 [some (pR (some b)), some (pR (some a)), some (pI i)] [] G mi K := by
  unfold abP at hab
  intro m
  induction m with
  | zero =>
    intro G i hm h0 hb
    have hi : i = 6 := by omega
    subst hi
    obtain ⟨-, g2, g3, -⟩ := id hb
    have e1 : (gK G b).1 = 7 := by rw [g2]; exact kb
    have e2 : 20 ≤ (gK G (b + 8)).1 := by rw [g2, kb8]; decide
    have e3 : ((gK G (b + 8)).2 : Int) = 6 := by rw [g2, lb8]; rfl
    have e4 : gR G b 4 = some (b + 8) := by rw [g3 b 4 (by omega)]; exact rb
    rw [K146_37]
    simp (disch := first | assumption | exact isL_i | exact isL_r | exact isL_n | exact i01a | exact i01b | omega) only [K146_38, K146_39, K146_42, K146_43, wr_id, td_e, tm_e, pu_n, pu_s, up_s, up_k, up_a, ↓reduceIte, Int.reduceLT, Int.reduceLE, Int.reduceEq, Int.reduceNeg, Int.reduceAdd, Int.reduceSub, Int.reduceMul, Int.reduceMod, Int.reduceDiv, Int.cast_ofNat_Int, not_true_eq_false, not_false_eq_true, Int.reduceTDiv, Int.reduceTMod, e3, e4, if_pos, if_neg, Int.le_refl]
    exact hK G hb
  | succ m ih =>
    intro G i hm h0 hb
    obtain ⟨g1, g2, g3, g4⟩ := id hb
    have e1 : (gK G b).1 = 7 := by rw [g2]; exact kb
    have e1' : (gK G a).1 = 7 := by rw [g2]; exact ka
    have e2 : (gK G (b + 8)).1 = 22 := by rw [g2, kb8]
    have e2' : (gK G (a + 8)).1 = 22 := by rw [g2, ka8]
    have e20 : 20 ≤ (gK G (b + 8)).1 := by omega
    have e20' : 20 ≤ (gK G (a + 8)).1 := by omega
    have e3 : ((gK G (b + 8)).2 : Int) = 6 := by rw [g2, lb8]; rfl
    have e3' : ((gK G (a + 8)).2 : Int) = 6 := by rw [g2, la8]; rfl
    have e4 : gR G b 4 = some (b + 8) := by rw [g3 b 4 (by omega)]; exact rb
    have e4' : gR G a 4 = some (a + 8) := by rw [g3 a 4 (by omega)]; exact ra
    have e5 : gR G (a + 8) i = gR G1 (a + 8) i := g3 _ _ (by omega)
    have e6 : thgO G (gR G1 (a + 8) i) = true := by
      have := hT i
      revert this
      cases gR G1 (a + 8) i with
      | none => exact id
      | some T => show thg (gK G1 T).1 = true → thg (gK G T).1 = true; rw [g2]; exact id
    rw [K146_37]
    simp (disch := first | assumption | exact isL_i | exact isL_r | exact isL_n | exact i01a | exact i01b | omega) only [K146_38, K146_39, K146_42, K146_43, K146_46, K146_47, K146_48, K146_51, K146_52, K146_55, K146_56, K146_59, K146_60, K146_61, K146_64, K146_65, K146_66, K146_67, K146_70, wr_id, td_e, tm_e, pu_n, pu_s, up_s, up_k, up_a, ↓reduceIte, Int.reduceLT, Int.reduceLE, Int.reduceEq, Int.reduceNeg, Int.reduceAdd, Int.reduceSub, Int.reduceMul, Int.reduceMod, Int.reduceDiv, Int.cast_ofNat_Int, not_true_eq_false, not_false_eq_true, Int.reduceTDiv, Int.reduceTMod, e3, e3', e4, e4', e5, if_pos, if_neg]
    refine ih _ (i + 1) (by omega) (by omega) ⟨g1, g2, fun x j hx => by rw [sr_ra hx]; exact g3 x j hx, fun q => ?_⟩
    by_cases e : q = i
    · subst e
      rw [sr_s, if_pos ⟨h0, by omega⟩]
    · rw [sr_ri e, g4]
      by_cases c : 0 ≤ q ∧ q < i
      · rw [if_pos c, if_pos (by omega)]
      · rw [if_neg c, if_neg (by omega)]
theorem c_become (hab : abP a b) (hA : ShS a G) (hBs : ShS b G) (hT : ∀ p : Int, thgO G (gR G (a + 8) p) = true) (hK : ∀ G' mi', BcG G G' a b → BcM mi mi' a b → K none G' mi') : OkC (d + 3) 146 [pR (some b), pR (some a)] G mi K := by
  have hab' := hab
  unfold abP at hab
  obtain ⟨⟨A0, A1, A2, A2l, A8, A8l, A9, A9l, A10, A10l⟩, ⟨A11, A12, A12l, A13, A14, A14l, A15, A16, A16l, A17, A17l⟩, ⟨AR0, AR4, AR5, AR6, AR13, AR14, AR15, AR16, AR1, AR11, AR13', AR15'⟩⟩ := id hA
  obtain ⟨⟨B0, B1, B2, B2l, B8, B8l, B9, B9l, B10, B10l⟩, ⟨B11, B12, B12l, B13, B14, B14l, B15, B16, B16l, B17, B17l⟩, ⟨BR0, BR4, BR5, BR6, BR13, BR14, BR15, BR16, BR1, BR11, BR13', BR15'⟩⟩ := id hBs
  rw [E146]
  simp (disch := first | assumption | exact isL_i | exact isL_r | exact isL_n | exact i01a | exact i01b | omega) only [K146_0, K146_1, K146_4, K146_5, wr_id, td_e, tm_e, pu_n, pu_s, up_s, up_k, up_a, ↓reduceIte, Int.reduceLT, Int.reduceLE, Int.reduceEq, Int.reduceNeg, Int.reduceAdd, Int.reduceSub, Int.reduceMul, Int.reduceMod, Int.reduceDiv, Int.cast_ofNat_Int, not_true_eq_false, not_false_eq_true, Int.reduceTDiv, Int.reduceTMod, AR0, BR0]
  rw [K146_8 B1, t_bec (d := d) (N := 100) B1 A1 BR1 AR1 B2 A2 (by omega) B2l A2l]
  have C0 : (gK (setR G b 1 (gR G a 1)) a).1 = 7 := A0
  have D0 : (gK (setR G b 1 (gR G a 1)) b).1 = 7 := B0
  simp (disch := first | assumption | exact isL_i | exact isL_r | exact isL_n | exact i01a | exact i01b | omega) only [K146_11, K146_12, K146_13, K146_16, K146_19, K146_20, K146_21, K146_24, K146_27, K146_28, K146_29, K146_32, K146_35, K146_36, wr_id, td_e, tm_e, pu_n, pu_s, up_s, up_k, up_a, ↓reduceIte, Int.reduceLT, Int.reduceLE, Int.reduceEq, Int.reduceNeg, Int.reduceAdd, Int.reduceSub, Int.reduceMul, Int.reduceMod, Int.reduceDiv, Int.cast_ofNat_Int, not_true_eq_false, not_false_eq_true, Int.reduceTDiv, Int.reduceTMod, pu_n]
  have na : ∀ (x : Nat) (j : Int), ¬ (x = b ∧ j = 1) → gR (setR G b 1 (gR G a 1)) x j = gR G x j := fun x j h => sr_r h
  refine c_bec_lp (d := d) (G1 := setR G b 1 (gR G a 1)) hab' C0 D0 A8 A8l B8 B8l (by rw [na _ _ (by omega)]; exact AR4) (by rw [na _ _ (by omega)]; exact BR4) (fun p => by rw [na _ _ (by omega)]; exact hT p) (fun G2 hL => ?_) 6 _ 0 (by decide) (Int.le_refl _) ⟨⟨rfl, rfl, rfl, rfl⟩, fun _ => rfl, fun _ _ _ => rfl, fun q => by rw [if_neg (by omega)]⟩
  obtain ⟨⟨n1, n2, n3, n4⟩, hk, hr1, hr2⟩ := hL
  have hk : ∀ x : Nat, gK G2 x = gK G x := hk
  have hr : ∀ (x : Nat) (j : Int), ¬ x = b + 8 → ¬ (x = b ∧ j = 1) → gR G2 x j = gR G x j := fun x j h h' => (hr1 x j h).trans (na x j h')
  have A2k : ∀ (x q : Nat), (gK G x).1 = q → (gK G2 x).1 = q := fun x q h => by rw [hk]; exact h
  have A2l' : ∀ (x q : Nat), (gK G x).2 = q → (gK G2 x).2 = q := fun x q h => by rw [hk]; exact h
  have Z0 := A2k _ _ A0
  have Z1 := A2k _ _ B0
  have Z2 : gR G2 a 5 = some (a + 9) := by rw [hr _ _ (by omega) (by omega)]; exact AR5
  have Z3 : gR G2 b 5 = some (b + 9) := by rw [hr _ _ (by omega) (by omega)]; exact BR5
  have Z4 : gR G2 a 6 = some (a + 10) := by rw [hr _ _ (by omega) (by omega)]; exact AR6
  have Z5 : gR G2 b 6 = some (b + 10) := by rw [hr _ _ (by omega) (by omega)]; exact BR6
  have Z6 : gR G2 a 13 = some (a + 11) := by rw [hr _ _ (by omega) (by omega)]; exact AR13
  have Z7 : gR G2 b 13 = some (b + 11) := by rw [hr _ _ (by omega) (by omega)]; exact BR13
  have Z8 : gR G2 a 14 = some (a + 13) := by rw [hr _ _ (by omega) (by omega)]; exact AR14
  have Z9 : gR G2 b 14 = some (b + 13) := by rw [hr _ _ (by omega) (by omega)]; exact BR14
  have Z10 : gR G2 a 15 = some (a + 15) := by rw [hr _ _ (by omega) (by omega)]; exact AR15
  have Z11 : gR G2 b 15 = some (b + 15) := by rw [hr _ _ (by omega) (by omega)]; exact BR15
  have Z12 : gR G2 (a + 11) 2 = some (a + 12) := by rw [hr _ _ (by omega) (by omega)]; exact AR11
  have Z13 : gR G2 (b + 11) 2 = some (b + 12) := by rw [hr _ _ (by omega) (by omega)]; exact BR11
  have Z14 : gR G2 (a + 13) 2 = some (a + 14) := by rw [hr _ _ (by omega) (by omega)]; exact AR13'
  have Z15 : gR G2 (b + 13) 2 = some (b + 14) := by rw [hr _ _ (by omega) (by omega)]; exact BR13'
  have Z16 : gR G2 (a + 15) 2 = some (a + 16) := by rw [hr _ _ (by omega) (by omega)]; exact AR15'
  have Z17 : gR G2 (b + 15) 2 = some (b + 16) := by rw [hr _ _ (by omega) (by omega)]; exact BR15'
  simp (disch := first | assumption | exact isL_i | exact isL_r | exact isL_n | exact i01a | exact i01b | omega) only [K146_73, K146_74, K146_77, K146_78, wr_id, td_e, tm_e, pu_n, pu_s, up_s, up_k, up_a, ↓reduceIte, Int.reduceLT, Int.reduceLE, Int.reduceEq, Int.reduceNeg, Int.reduceAdd, Int.reduceSub, Int.reduceMul, Int.reduceMod, Int.reduceDiv, Int.cast_ofNat_Int, not_true_eq_false, not_false_eq_true, Int.reduceTDiv, Int.reduceTMod, Z2, Z3]
  rw [K146_81, c_copy (d := d + 1) (N := 6) (A2k _ _ A9) (A2k _ _ B9) (by omega) (A2l' _ _ A9l) (A2l' _ _ B9l)]
  simp (disch := first | assumption | exact isL_i | exact isL_r | exact isL_n | exact i01a | exact i01b | omega) only [K146_84, K146_85, K146_88, K146_89, wr_id, td_e, tm_e, pu_n, pu_s, up_s, up_k, up_a, ↓reduceIte, Int.reduceLT, Int.reduceLE, Int.reduceEq, Int.reduceNeg, Int.reduceAdd, Int.reduceSub, Int.reduceMul, Int.reduceMod, Int.reduceDiv, Int.cast_ofNat_Int, not_true_eq_false, not_false_eq_true, Int.reduceTDiv, Int.reduceTMod, pu_n, Z4, Z5]
  rw [K146_92, c_copy (d := d + 1) (N := 24) (A2k _ _ A10) (A2k _ _ B10) (by omega) (A2l' _ _ A10l) (A2l' _ _ B10l)]
  simp (disch := first | assumption | exact isL_i | exact isL_r | exact isL_n | exact i01a | exact i01b | omega) only [K146_95, K146_96, K146_97, K146_100, K146_103, K146_104, K146_105, K146_108, K146_111, K146_112, K146_113, K146_116, K146_119, K146_120, K146_121, K146_124, K146_127, K146_128, K146_129, K146_132, K146_135, K146_136, K146_137, K146_140, K146_143, K146_144, K146_147, K146_148, wr_id, td_e, tm_e, pu_n, pu_s, up_s, up_k, up_a, ↓reduceIte, Int.reduceLT, Int.reduceLE, Int.reduceEq, Int.reduceNeg, Int.reduceAdd, Int.reduceSub, Int.reduceMul, Int.reduceMod, Int.reduceDiv, Int.cast_ofNat_Int, not_true_eq_false, not_false_eq_true, Int.reduceTDiv, Int.reduceTMod, pu_n, Z6, Z7]
  rw [K146_151 (A2k _ _ B11), t_bec (d := d) (N := 15) (A2k _ _ B11) (A2k _ _ A11) Z13 Z12 (A2k _ _ B12) (A2k _ _ A12) (by omega) (A2l' _ _ B12l) (A2l' _ _ A12l)]
  simp (disch := first | assumption | exact isL_i | exact isL_r | exact isL_n | exact i01a | exact i01b | omega) only [K146_154, K146_155, K146_158, K146_159, wr_id, td_e, tm_e, pu_n, pu_s, up_s, up_k, up_a, ↓reduceIte, Int.reduceLT, Int.reduceLE, Int.reduceEq, Int.reduceNeg, Int.reduceAdd, Int.reduceSub, Int.reduceMul, Int.reduceMod, Int.reduceDiv, Int.cast_ofNat_Int, not_true_eq_false, not_false_eq_true, Int.reduceTDiv, Int.reduceTMod, pu_n, Z8, Z9]
  rw [K146_162 (A2k _ _ B13), t_bec (d := d) (N := 8) (A2k _ _ B13) (A2k _ _ A13) Z15 Z14 (A2k _ _ B14) (A2k _ _ A14) (by omega) (A2l' _ _ B14l) (A2l' _ _ A14l)]
  simp (disch := first | assumption | exact isL_i | exact isL_r | exact isL_n | exact i01a | exact i01b | omega) only [K146_165, K146_166, K146_169, K146_170, wr_id, td_e, tm_e, pu_n, pu_s, up_s, up_k, up_a, ↓reduceIte, Int.reduceLT, Int.reduceLE, Int.reduceEq, Int.reduceNeg, Int.reduceAdd, Int.reduceSub, Int.reduceMul, Int.reduceMod, Int.reduceDiv, Int.cast_ofNat_Int, not_true_eq_false, not_false_eq_true, Int.reduceTDiv, Int.reduceTMod, pu_n, Z10, Z11]
  rw [K146_173 (A2k _ _ B15), t_bec (d := d) (N := 16) (A2k _ _ B15) (A2k _ _ A15) Z17 Z16 (A2k _ _ B16) (A2k _ _ A16) (by omega) (A2l' _ _ B16l) (A2l' _ _ A16l)]
  simp (disch := first | assumption | exact isL_i | exact isL_r | exact isL_n | exact i01a | exact i01b | omega) only [K146_176, wr_id, td_e, tm_e, pu_n, pu_s, up_s, up_k, up_a, ↓reduceIte, Int.reduceLT, Int.reduceLE, Int.reduceEq, Int.reduceNeg, Int.reduceAdd, Int.reduceSub, Int.reduceMul, Int.reduceMod, Int.reduceDiv, Int.cast_ofNat_Int, not_true_eq_false, not_false_eq_true, Int.reduceTDiv, Int.reduceTMod, pu_n]
  refine hK _ _ ⟨⟨n1, n2, n3, n4⟩, hk, hr, ?_, fun q => ?_⟩ ?_
  · rw [hr1 b 1 (by omega)]; exact sr_s
  · rw [hr2 q]
    by_cases c : 0 ≤ q ∧ q < 6
    · rw [if_pos c, if_pos c, na _ _ (by omega)]
    · rw [if_neg c, if_neg c, na _ _ (by omega)]
  · refine ⟨?_, ⟨?_, ?_, ?_, ?_, ?_, ?_, ?_, ?_⟩, ⟨fun j j0 j1 => ?_, fun j j0 j1 => ?_⟩, ⟨⟨?_, fun j hj => ?_⟩, fun j j0 j1 => ?_⟩, ⟨⟨?_, fun j hj => ?_⟩, fun j j0 j1 => ?_⟩, ⟨⟨?_, fun j hj => ?_⟩, fun j j0 j1 => ?_⟩, ⟨⟨?_, fun j hj => ?_⟩, fun j j0 j1 => ?_⟩⟩
    · intro x hx
      simp only [List.mem_cons, List.not_mem_nil, or_false, not_or] at hx
      obtain ⟨x0, x1, x2, x3, x4, x5, x6, x7, x8, x9, x10⟩ := hx
      simp (disch := omega) only [up_a, cpy_o]
    all_goals simp (disch := omega) only [up_a, up_s, up_k, cpy_o, cpy_i]
theorem RS.bec {G' : Gh} (hab : abP a b) (hR : RS a s G mi) (hW : WfA s) (hw : WTb b mi) (hg : BcG G G' a b) (hm : BcM mi mi' a b) : RS b s G' mi' := by
  unfold abP at hab
  obtain ⟨⟨⟨z0, z1, z8, z9, z10, z11, z12, z13, z14, z15, z16⟩, hh01, hT, hz17⟩, hWV, hWD, hWB, hWP, hWT, hWZ, hWF, hWK⟩ := id hW
  obtain ⟨⟨⟨n2, n3, n7, n8, n9, n10, n11, n12⟩, ⟨hm1, hm2⟩, ⟨⟨t0, t1, t3⟩, ht4⟩, ⟨⟨u0, u1, u3⟩, hu4⟩, ⟨⟨p0, p1, p3⟩, hp4⟩, ⟨⟨b0, b1, b3⟩, hb4⟩⟩, hRT, hRV⟩ := hR
  obtain ⟨⟨w1, w2⟩, ⟨w3, w4⟩, ⟨w5, w6⟩, ⟨w7, w8⟩⟩ := hw
  obtain ⟨-, gk, gr, gv, gt⟩ := hg
  obtain ⟨ms, ⟨m2, m3, m7, m8, m9, m10, m11, m12⟩, ⟨h1, h2⟩, ⟨⟨e3, e3'⟩, e4⟩, ⟨⟨f3, f3'⟩, f4⟩, ⟨⟨q3, q3'⟩, q4⟩, ⟨⟨r3, r3'⟩, r4⟩⟩ := hm
  have hnm : ∀ (T : Nat) (c : Nat), T = 4 ∨ T = 22 ∨ 55 ≤ T → c < 4 → mi' (T + c) = mi (T + c) := fun T c hT hc => ms _ (by simp only [List.mem_cons, List.not_mem_nil, or_false, not_or]; omega)
  refine ⟨⟨⟨by rw [m2]; exact n2, by rw [m3]; exact n3, by rw [m7]; exact n7, by rw [m8]; exact n8, by rw [m9]; exact n9, by rw [m10]; exact n10, by rw [m11]; exact n11, by rw [m12]; exact n12⟩, ⟨fun p x0 x1 => ?_, fun j j0 j1 => ?_⟩, ⟨⟨?_, ?_, ?_⟩, fun j j0 j1 => ?_⟩, ⟨⟨?_, ?_, ?_⟩, fun j j0 j1 => ?_⟩, ⟨⟨?_, ?_, ?_⟩, fun j j0 j1 => ?_⟩, ⟨⟨?_, ?_, ?_⟩, fun j j0 j1 => ?_⟩⟩, fun p x0 x1 => ?_, ?_⟩
  · rw [h1 p x0 (by omega)]; exact hm1 p x0 x1
  · rw [h2 j j0 j1]; exact hm2 j j0 j1
  · rw [e3' 0 (by decide)]; exact w1
  · rw [e3' 1 (by decide)]; exact w2
  · rw [e3]; exact t3
  · rw [e4 j j0 (by omega)]; exact ht4 j j0 j1
  · rw [f3' 0 (by decide)]; exact w3
  · rw [f3' 1 (by decide)]; exact w4
  · rw [f3]; exact u3
  · rw [f4 _ (by omega) (by omega), f4 _ (by omega) (by omega), f4 _ (by omega) (by omega)]; exact hu4 j j0 j1
  · rw [q3' 0 (by decide)]; exact w5
  · rw [q3' 1 (by decide)]; exact w6
  · rw [q3]; exact p3
  · rw [q4 j j0 (by omega)]; exact hp4 j j0 j1
  · rw [r3' 0 (by decide)]; exact w7
  · rw [r3' 1 (by decide)]; exact w8
  · rw [r3]; exact b3
  · rw [r4 _ (by omega) (by omega), r4 _ (by omega) (by omega)]; exact hb4 j j0 j1
  · obtain ⟨T, g1, g2, c1, c2, c3, c4, c5⟩ := hRT p x0 x1
    have eT : mi' T = mi T := hnm T 0 (Or.inr (Or.inr g2)) (by decide)
    refine ⟨T, by rw [gt, if_pos ⟨x0, by omega⟩]; exact g1, g2, by rw [gk]; exact c1, by rw [eT]; exact c2, by rw [eT]; exact c3, by rw [eT]; exact c4, ?_⟩
    rw [gr _ _ (by omega) (by omega)]; exact c5
  · obtain ⟨V, g1, v1, ⟨v2, ⟨v3, v4⟩, ⟨v5, v6⟩, ⟨v7, v8⟩, v9, v10, v11⟩, ⟨v12, v13, v14⟩, L, y1, y2, y3, y4⟩ := hRV
    have eV : mi' V = mi V := hnm V 0 v1 (by decide)
    have eV1 : mi' (V + 1) = mi (V + 1) := hnm V 1 v1 (by decide)
    have eV2 : mi' (V + 2) = mi (V + 2) := hnm V 2 v1 (by decide)
    have eV3 : mi' (V + 3) = mi (V + 3) := hnm V 3 v1 (by decide)
    refine ⟨V, by rw [gv]; exact g1, v1, ⟨by rw [gk]; exact v2, ⟨by rw [gk]; exact v3, by rw [gk]; exact v4⟩, ⟨by rw [gk]; exact v5, by rw [gk]; exact v6⟩, ⟨by rw [gk]; exact v7, by rw [gk]; exact v8⟩, ?_, ?_, ?_⟩, ⟨by rw [eV]; exact v12, by rw [eV]; exact v13, by rw [eV]; exact v14⟩, L, y1, by rw [eV]; exact y2, by rw [eV]; exact y3, by rw [eV1, eV2, eV3]; exact y4⟩
    · rw [gr _ _ (by omega) (by omega)]; exact v9
    · rw [gr _ _ (by omega) (by omega)]; exact v10
    · rw [gr _ _ (by omega) (by omega)]; exact v11
/-- a state stays, where its cells, what it names and its things stay -/
theorem RS.keep {o : Nat} {G' : Gh} (ho : o = 1 ∨ o = 19) (hR : RS o s G mi) (hB : GB o G) (hN : 55 ≤ gN G) (hm : ∀ c : Nat, c < 18 → mi' (o + c) = mi (o + c)) (hm2 : ∀ T : Nat, T < gN G → T = 4 ∨ T = 22 ∨ 55 ≤ T → ∀ c : Nat, c < 4 → T + c < gN G → mi' (T + c) = mi (T + c))
    (hk : ∀ x : Nat, x < gN G → gK G' x = gK G x) (hr : ∀ (x : Nat) (j : Int), x < gN G → x = 4 ∨ x = 22 ∨ 55 ≤ x → gR G' x j = gR G x j) (hr8 : ∀ p : Int, gR G' (o + 8) p = gR G (o + 8) p) (hr1 : gR G' o 1 = gR G o 1) : RS o s G' mi' := by
  obtain ⟨⟨h1, h2, h3, h4, h5, h6⟩, hT, hV⟩ := hR
  have e0 : mi' o = mi o := hm 0 (by decide)
  refine ⟨⟨?_, ?_, ?_, ?_, ?_, ?_⟩, fun p x0 x1 => ?_, ?_⟩
  · unfold RNn; rw [e0]; exact h1
  · unfold RNh; rw [hm 9 (by decide), hm 10 (by decide)]; exact h2
  · unfold RNt; rw [hm 1 (by decide), hm 2 (by decide)]; exact h3
  · unfold RNs; rw [hm 11 (by decide), hm 12 (by decide)]; exact h4
  · unfold RNp; rw [hm 13 (by decide), hm 14 (by decide)]; exact h5
  · unfold RNb; rw [hm 15 (by decide), hm 16 (by decide)]; exact h6
  · obtain ⟨T, g1, g2, c1, c2, c3, c4, c5⟩ := hT p x0 x1
    have hTl := (hB.1 p T g1).1
    have eT : mi' T = mi T := hm2 T hTl (Or.inr (Or.inr g2)) 0 (by decide) hTl
    exact ⟨T, by rw [hr8]; exact g1, g2, by rw [hk T hTl]; exact c1, by rw [eT]; exact c2, by rw [eT]; exact c3, by rw [eT]; exact c4, by rw [hr T 3 hTl (Or.inr (Or.inr g2))]; exact c5⟩
  · obtain ⟨V, g1, v1, ⟨v2, ⟨v3, v4⟩, ⟨v5, v6⟩, ⟨v7, v8⟩, v9, v10, v11⟩, ⟨v12, v13, v14⟩, L, y1, y2, y3, y4⟩ := hV
    have hVl := hB.2 V g1
    have eV : mi' V = mi V := hm2 V (by omega) v1 0 (by decide) (by omega)
    have eV1 : mi' (V + 1) = mi (V + 1) := hm2 V (by omega) v1 1 (by decide) (by omega)
    have eV2 : mi' (V + 2) = mi (V + 2) := hm2 V (by omega) v1 2 (by decide) (by omega)
    have eV3 : mi' (V + 3) = mi (V + 3) := hm2 V (by omega) v1 3 (by decide) (by omega)
    refine ⟨V, by rw [hr1]; exact g1, v1, ⟨by rw [hk _ (by omega)]; exact v2, ⟨by rw [hk _ (by omega)]; exact v3, by rw [hk _ (by omega)]; exact v4⟩, ⟨by rw [hk _ (by omega)]; exact v5, by rw [hk _ (by omega)]; exact v6⟩, ⟨by rw [hk _ (by omega)]; exact v7, by rw [hk _ (by omega)]; exact v8⟩, ?_, ?_, ?_⟩, ⟨by rw [eV]; exact v12, by rw [eV]; exact v13, by rw [eV]; exact v14⟩, L, y1, by rw [eV]; exact y2, by rw [eV]; exact y3, by rw [eV1, eV2, eV3]; exact y4⟩
    · rw [hr _ _ (by omega) v1]; exact v9
    · rw [hr _ _ (by omega) v1]; exact v10
    · rw [hr _ _ (by omega) v1]; exact v11
theorem GB.thgO {o : Nat} (h : GB o G) (p : Int) : thgO G (gR G (o + 8) p) = true := by
  cases e : gR G (o + 8) p with
  | none => rfl
  | some T => exact (h.1 p T e).2
theorem BcG.x {G' : Gh} (hab : abP a b) (h : BcG G G' a b) : GX G G' := by
  unfold abP at hab
  obtain ⟨⟨n1, n2, n3, n4⟩, hk, hr, -, -⟩ := h
  exact ⟨⟨by omega, n3, n4⟩, fun x _ => hk x, fun x j _ hp => hr x j (fun e => hp (by unfold PX; omega)) (fun e => hp (by unfold PX; omega))⟩
theorem BcG.gb {G' : Gh} (hab : abP a b) (h : BcG G G' a b) (hA : GB a G) (hBb : GB b G) : GB a G' ∧ GB b G' := by
  unfold abP at hab
  obtain ⟨⟨n1, n2, n3, n4⟩, hk, hr, hv, ht⟩ := h
  refine ⟨⟨fun p T hp => ?_, fun V hV => ?_⟩, ⟨fun p T hp => ?_, fun V hV => ?_⟩⟩
  · rw [hr _ _ (by omega) (by omega)] at hp
    rw [n1, hk]; exact hA.1 p T hp
  · rw [hr _ _ (by omega) (by omega)] at hV
    rw [n1]; exact hA.2 V hV
  · rw [ht] at hp
    rw [n1, hk]
    by_cases c : 0 ≤ p ∧ p < 6
    · rw [if_pos c] at hp; exact hA.1 p T hp
    · rw [if_neg c] at hp; exact hBb.1 p T hp
  · rw [hv] at hV
    rw [n1]; exact hA.2 V hV
theorem BcM.wt (hab : abP a b) (h : BcM mi mi' a b) (hw : WTb b mi) : WTb b mi' := by
  obtain ⟨-, -, -, ⟨⟨-, e3'⟩, -⟩, ⟨⟨-, f3'⟩, -⟩, ⟨⟨-, q3'⟩, -⟩, ⟨⟨-, r3'⟩, -⟩⟩ := h
  obtain ⟨⟨w1, w2⟩, ⟨w3, w4⟩, ⟨w5, w6⟩, ⟨w7, w8⟩⟩ := hw
  exact ⟨⟨by rw [e3' 0 (by decide)]; exact w1, by rw [e3' 1 (by decide)]; exact w2⟩, ⟨by rw [f3' 0 (by decide)]; exact w3, by rw [f3' 1 (by decide)]; exact w4⟩, ⟨by rw [q3' 0 (by decide)]; exact w5, by rw [q3' 1 (by decide)]; exact w6⟩, ⟨by rw [r3' 0 (by decide)]; exact w7, by rw [r3' 1 (by decide)]; exact w8⟩⟩
/-- the other state, where one became as it is -/
theorem RS.oth {G' : Gh} (hab : abP a b) (hR : RS a s G mi) (hB : GB a G) (hN : 55 ≤ gN G) (hg : BcG G G' a b) (hm : BcM mi mi' a b) : RS a s G' mi' := by
  have hX := BcG.x hab hg
  unfold abP at hab
  obtain ⟨-, gk, gr, gv, gt⟩ := hg
  have ms := hm.1
  refine hR.keep (by omega) hB hN (fun c hc => ms _ ?_) (fun T _ hT c hc _ => ms _ ?_) (fun x _ => gk x) (fun x j _ hx => gr x j (by omega) (by omega)) (fun p => gr _ _ (by omega) (by omega)) (gr _ _ (by omega) (by omega))
  · simp only [List.mem_cons, List.not_mem_nil, or_false, not_or]; omega
  · simp only [List.mem_cons, List.not_mem_nil, or_false, not_or]; omega
/-- what image and undo leave -/
def IMg (G G' : Gh) : Prop := GX G G' ∧ gN G' = gN G ∧ gS G' = gS G ∧ GB 1 G' ∧ GB 19 G'
theorem c_image (hC : ShC G) (hN : 55 ≤ gN G) (hB : GB 1 G) (hB' : GB 19 G) (hR : RS 1 s G mi) (hW : WfA s) (hw : WTb 19 mi)
    (hK : ∀ G' mi', IMg G G' → RS 1 s G' mi' → RS 19 s G' mi' → mi' 0 = (fun j => if j = 4 then 1 else mi 0 j) → Sc (0 :: bcL 19) mi mi' → K (some (pI (s 11))) G' mi') : OkC (d + 5) 188 [pR (some 0)] G mi K := by
  obtain ⟨⟨⟨k1, k2, k3, l3, k9, l9, k10, l10, k11, l11⟩, ⟨k12, k13, l13, k14, k15, l15, k16, k17, l17, k18, l18⟩, ⟨r10, r14, r15, r16, r113, r114, r115, r116, r22, r122, r142, r162⟩⟩, -, ⟨⟨k0, r00, r01, r02, r03⟩, ⟨k37, r372, k38, l38⟩, ⟨k39, r390, r391, r392, r393, r394, r396, r397⟩, ⟨k40, l40, k41, l41, k42, l42, k43, l43, k44, l44, k45, l45⟩⟩⟩ := id hC
  have hab : abP 1 19 := Or.inl ⟨rfl, rfl⟩
  rw [E188]
  have k19 : (gK G 19).1 = 7 := hC.2.1.1.1
  simp (disch := first | assumption | exact isL_i | exact isL_r | exact isL_n | exact i01a | exact i01b | omega) only [K188_0, K188_1, K188_4, K188_5, r10, r14, r15, r16, r113, r114, r115, r116, r22, r122, r142, r162, r00, r01, r02, r03, r372, r390, r391, r392, r393, r394, r396, r397, wr_id, td_e, tm_e, pu_n, pu_s, up_s, up_k, up_a, ↓reduceIte, Int.reduceLT, Int.reduceLE, Int.reduceEq, Int.reduceNeg, Int.reduceAdd, Int.reduceSub, Int.reduceMul, Int.reduceMod, Int.reduceDiv, Int.cast_ofNat_Int, not_true_eq_false, not_false_eq_true, Int.reduceTDiv, Int.reduceTMod]
  rw [K188_8 k19]
  refine c_become (d := d + 1) hab (shS1 hC.1) hC.2.1 (fun p => hB.thgO p) fun G2 m2 hg hm => ?_
  have hX := BcG.x hab hg
  obtain ⟨gb1, gb2⟩ := BcG.gb hab hg hB hB'
  have hR1 : RS 1 s G2 m2 := RS.oth hab hR hB hN hg hm
  have hR2 : RS 19 s G2 m2 := RS.bec hab hR hW hw hg hm
  have k0' : (gK G2 0).1 = 12 := by rw [hg.2.1]; exact k0
  have k1' : (gK G2 1).1 = 7 := by rw [hg.2.1]; exact k1
  have r00' : gR G2 0 0 = some 1 := by rw [hg.2.2.1 _ _ (by decide) (by decide)]; exact r00
  have n3 : m2 1 3 = s 11 := hR1.o.1.2.1
  have hup : ∀ c : Nat, ¬ c = 0 → up m2 0 4 1 c = m2 c := fun c hc => up_a hc
  simp (disch := first | assumption | exact isL_i | exact isL_r | exact isL_n | exact i01a | exact i01b | omega) only [K188_11, K188_12, K188_13, K188_16, K188_17, K188_20, K188_23, wr_id, td_e, tm_e, pu_n, pu_s, up_s, up_k, up_a, ↓reduceIte, Int.reduceLT, Int.reduceLE, Int.reduceEq, Int.reduceNeg, Int.reduceAdd, Int.reduceSub, Int.reduceMul, Int.reduceMod, Int.reduceDiv, Int.cast_ofNat_Int, not_true_eq_false, not_false_eq_true, Int.reduceTDiv, Int.reduceTMod, pu_n, r00', n3]
  refine hK _ _ ⟨hX, hg.1.1, hg.1.2.1, gb1, gb2⟩ (hR1.keep (Or.inl rfl) gb1 (by rw [hg.1.1]; exact hN) (fun c _ => hup _ (by omega)) (fun T _ hT c _ _ => hup _ (by omega)) (fun _ _ => rfl) (fun _ _ _ _ => rfl) (fun _ => rfl) rfl) (hR2.keep (Or.inr rfl) gb2 (by rw [hg.1.1]; exact hN) (fun c _ => hup _ (by omega)) (fun T _ hT c _ _ => hup _ (by omega)) (fun _ _ => rfl) (fun _ _ _ _ => rfl) (fun _ => rfl) rfl) ?_ ?_
  · rw [up_f, hm.1 0 (by decide)]
  · exact (hm.1.wk (by decide)).u (by decide)
theorem c_undo (hC : ShC G) (hN : 55 ≤ gN G) (hB : GB 1 G) (hB' : GB 19 G) (hw : WTb 1 mi) (h4 : mi 0 4 = 0 ∨ mi 0 4 = 1)
    (hK0 : mi 0 4 = 0 → K (some (pI (-3))) G mi)
    (hK : mi 0 4 = 1 → ∀ G' mi', IMg G G' → (∀ z, WfA z → RS 19 z G mi → RS 1 z G' mi' ∧ RS 19 z G' mi') → mi' 1 3 = mi 19 3 → Sc (bcL 1) mi mi' → K (some (pI (mi 19 3))) G' mi') : OkC (d + 5) 189 [pR (some 0)] G mi K := by
  obtain ⟨⟨⟨k1, k2, k3, l3, k9, l9, k10, l10, k11, l11⟩, ⟨k12, k13, l13, k14, k15, l15, k16, k17, l17, k18, l18⟩, ⟨r10, r14, r15, r16, r113, r114, r115, r116, r22, r122, r142, r162⟩⟩, -, ⟨⟨k0, r00, r01, r02, r03⟩, ⟨k37, r372, k38, l38⟩, ⟨k39, r390, r391, r392, r393, r394, r396, r397⟩, ⟨k40, l40, k41, l41, k42, l42, k43, l43, k44, l44, k45, l45⟩⟩⟩ := id hC
  have hab : abP 19 1 := Or.inr ⟨rfl, rfl⟩
  rw [E189]
  rcases h4 with h4 | h4
  · simp (disch := first | assumption | exact isL_i | exact isL_r | exact isL_n | exact i01a | exact i01b | omega) only [K189_0, K189_1, K189_4, K189_7, K189_9, r10, r14, r15, r16, r113, r114, r115, r116, r22, r122, r142, r162, r00, r01, r02, r03, r372, r390, r391, r392, r393, r394, r396, r397, wr_id, td_e, tm_e, pu_n, pu_s, up_s, up_k, up_a, ↓reduceIte, Int.reduceLT, Int.reduceLE, Int.reduceEq, Int.reduceNeg, Int.reduceAdd, Int.reduceSub, Int.reduceMul, Int.reduceMod, Int.reduceDiv, Int.cast_ofNat_Int, not_true_eq_false, not_false_eq_true, Int.reduceTDiv, Int.reduceTMod, h4, if_pos, if_neg]
    exact hK0 h4
  · simp (disch := first | assumption | exact isL_i | exact isL_r | exact isL_n | exact i01a | exact i01b | omega) only [K189_0, K189_1, K189_4, K189_10, K189_11, K189_14, K189_15, r10, r14, r15, r16, r113, r114, r115, r116, r22, r122, r142, r162, r00, r01, r02, r03, r372, r390, r391, r392, r393, r394, r396, r397, wr_id, td_e, tm_e, pu_n, pu_s, up_s, up_k, up_a, ↓reduceIte, Int.reduceLT, Int.reduceLE, Int.reduceEq, Int.reduceNeg, Int.reduceAdd, Int.reduceSub, Int.reduceMul, Int.reduceMod, Int.reduceDiv, Int.cast_ofNat_Int, not_true_eq_false, not_false_eq_true, Int.reduceTDiv, Int.reduceTMod, h4, if_pos, if_neg]
    rw [K189_18 k1]
    refine c_become (d := d + 1) hab hC.2.1 (shS1 hC.1) (fun p => hB'.thgO p) fun G2 m2 hg hm => ?_
    have hX := BcG.x hab hg
    obtain ⟨gb1, gb2⟩ := BcG.gb hab hg hB' hB
    have k0' : (gK G2 0).1 = 12 := by rw [hg.2.1]; exact k0
    have k1' : (gK G2 1).1 = 7 := by rw [hg.2.1]; exact k1
    have r00' : gR G2 0 0 = some 1 := by rw [hg.2.2.1 _ _ (by decide) (by decide)]; exact r00
    have n3 : m2 1 3 = mi 19 3 := hm.2.1.2.1
    simp (disch := first | assumption | exact isL_i | exact isL_r | exact isL_n | exact i01a | exact i01b | omega) only [K189_21, K189_22, K189_25, K189_28, wr_id, td_e, tm_e, pu_n, pu_s, up_s, up_k, up_a, ↓reduceIte, Int.reduceLT, Int.reduceLE, Int.reduceEq, Int.reduceNeg, Int.reduceAdd, Int.reduceSub, Int.reduceMul, Int.reduceMod, Int.reduceDiv, Int.cast_ofNat_Int, not_true_eq_false, not_false_eq_true, Int.reduceTDiv, Int.reduceTMod, pu_n, r00', n3]
    exact hK h4 _ _ ⟨hX, hg.1.1, hg.1.2.1, gb2, gb1⟩ (fun z hz hRz => ⟨RS.bec hab hRz hz hw hg hm, RS.oth hab hRz hB' hN hg hm⟩) n3 hm.1
end CL
