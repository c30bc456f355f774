/-! ===== what a view's code tells ===== -/
theorem finN {N : Nat} {P : Int → Prop} (h : ∀ p : Fin N, P (p.1 : Nat)) {p : Int} (h2 : 0 ≤ p) (h3 : p < N) : P p := by
  have := h ⟨p.toNat, by omega⟩
  rw [Int.toNat_of_nonneg h2] at this
  exact this
theorem finM {A B : Nat} {P : Int → Prop} (h : ∀ a : Fin A, ∀ b : Fin B, P ((B : Nat) * (a.1 : Nat) + (b.1 : Nat))) (hB : 0 < B) {p : Int} (h2 : 0 ≤ p) (h3 : p < A * B) : P p := by
  have e0 : p.toNat < A * B := by
    have : ((p.toNat : Nat) : Int) < ((A * B : Nat) : Int) := by rw [Int.natCast_mul]; omega
    omega
  have e1 : p.toNat / B < A := Nat.div_lt_of_lt_mul (by rw [Nat.mul_comm]; exact e0)
  have := h ⟨p.toNat / B, e1⟩ ⟨p.toNat % B, Nat.mod_lt _ hB⟩
  dsimp only at this
  rw [← Int.natCast_mul, ← Int.natCast_add, Nat.div_add_mod, Int.toNat_of_nonneg h2] at this
  exact this
theorem b_stk {n : Int} (h0 : 0 ≤ n) (h1 : n < 8192) : iXor n 1 = n / 2 * 2 + (1 - n % 2) ∧ iAnd (iUshr n 1) (iOr n (-2)) = n / 4 * 2 + (if n % 4 = 3 then 1 else 0) ∧ iOr (iUshr n 1) (iAnd n 1) = n / 4 * 2 + (if n % 4 = 0 then 0 else 1) ∧ iAnd n 1 = n % 2 :=
  finM (A := 128) (B := 64) (P := fun n => iXor n 1 = n / 2 * 2 + (1 - n % 2) ∧ iAnd (iUshr n 1) (iOr n (-2)) = n / 4 * 2 + (if n % 4 = 3 then 1 else 0) ∧ iOr (iUshr n 1) (iAnd n 1) = n / 4 * 2 + (if n % 4 = 0 then 0 else 1) ∧ iAnd n 1 = n % 2) (by decide +kernel) (by decide) h0 h1
theorem b_psh {n : Int} (h0 : 0 ≤ n) (h1 : n < 4096) : iOr (iShl n 1) 0 = 2 * n ∧ iOr (iShl n 1) 1 = 2 * n + 1 :=
  finM (A := 64) (B := 64) (P := fun n => iOr (iShl n 1) 0 = 2 * n ∧ iOr (iShl n 1) 1 = 2 * n + 1) (by decide +kernel) (by decide) h0 h1
def stkN : List Bool → Int
  | [] => 0
  | b :: q => 2 * stkN q + bi b
theorem stkN_bd : ∀ (st : List Bool), 0 ≤ stkN st ∧ stkN st < 2 ^ st.length := by
  intro st
  induction st with
  | nil => simp [stkN]
  | cons b q ih =>
    have := bi_01 b
    simp only [stkN, List.length_cons, Int.pow_succ]
    omega
theorem stkN_13 {st : List Bool} (h : st.length ≤ 13) : 0 ≤ stkN st ∧ stkN st < 8192 := by
  have h1 : 0 ≤ stkN st ∧ stkN st < ((2 : Nat) : Int) ^ st.length := stkN_bd st
  have h2 : ((2 ^ st.length : Nat) : Int) ≤ ((2 ^ 13 : Nat) : Int) := by
    have := Nat.pow_le_pow_right (n := 2) (by decide) h
    omega
  rw [Int.natCast_pow, Int.natCast_pow] at h2
  have h3 : ((2 : Nat) : Int) ^ 13 = 8192 := by decide
  omega
theorem stkN_12 {st : List Bool} (h : st.length ≤ 12) : 0 ≤ stkN st ∧ stkN st < 4096 := by
  have h1 : 0 ≤ stkN st ∧ stkN st < ((2 : Nat) : Int) ^ st.length := stkN_bd st
  have h2 : ((2 ^ st.length : Nat) : Int) ≤ ((2 ^ 12 : Nat) : Int) := by
    have := Nat.pow_le_pow_right (n := 2) (by decide) h
    omega
  rw [Int.natCast_pow, Int.natCast_pow] at h2
  have h3 : ((2 : Nat) : Int) ^ 12 = 4096 := by decide
  omega
def flC : List (List Int × Int) → List Int
  | [] => []
  | c :: r => c.1 ++ c.2 :: flC r
def cvS (x : Int) : Int := if x < 0 then x else x % 8 * 300 + x / 8 % 4 * 100 + x / 32
def wfO : List Int → Nat → Prop
  | [], k => k = 1
  | x :: r, k => (0 ≤ x ∧ x < 3200 ∧ x % 8 < 6 ∧ x / 8 % 4 < 3 ∧ k < 13 ∧ wfO r (k + 1)) ∨ (x = -1 ∧ 1 ≤ k ∧ wfO r k) ∨ ((x = -2 ∨ x = -3) ∧ 2 ≤ k ∧ wfO r (k - 1))
def evO (fb : Int → Int) : List Int → List Bool → List Bool
  | [], st => st
  | x :: r, st => evO fb r (stp fb x st)
def topB : List Bool → Bool
  | b :: _ => b
  | [] => false
def CCr (cd am en : Int → Int) : List (List Int × Int) → Int → Int → Prop
  | [], _, _ => True
  | c :: r, i, st => (∀ j : Nat, j < c.1.length → cd (st + j) = cvS (c.1.getD j 0)) ∧ en i = st + c.1.length ∧ am i = amt c.2 ∧ wfO c.1 0 ∧ (c.2 ≤ -10 ∧ -99 ≤ amt c.2 ∧ amt c.2 ≤ 99) ∧ st + c.1.length ≤ 100 ∧ CCr cd am en r (i + 1) (st + c.1.length)
theorem evS_op {fb : Int → Int} {m : Int} {r : List Int} (hm : m ≤ -10) : ∀ (os : List Int) (st : List Bool) (a : Int), wfO os st.length → evS fb (os ++ m :: r) st a = evS fb r [] (a + if topB (evO fb os st) = true then amt m else 0) := by
  intro os
  induction os with
  | nil =>
    intro st a hw
    have hl : st.length = 1 := hw
    match st, hl with
    | [b], _ =>
      have e1 : stp fb m [b] = [] := by simp only [stp]; rw [if_neg (by omega), if_neg (by omega), if_neg (by omega)]
      show evS fb r (stp fb m [b]) (a + adF m [b]) = _
      rw [e1]
      unfold adF
      cases b
      · rw [if_neg (by simp)]
        rfl
      · rw [if_pos ⟨hm, rfl⟩]
        rfl
  | cons x os ih =>
    intro st a hw
    have hx : adF x st = 0 := by
      unfold adF
      rw [if_neg]
      rintro ⟨h, -⟩
      simp only [wfO] at hw
      omega
    have hl : wfO os (stp fb x st).length := by
      simp only [wfO] at hw
      rcases hw with ⟨h1, -, -, -, -, h2⟩ | ⟨h1, h3, h2⟩ | ⟨h1, h3, h2⟩
      · simp only [stp, if_pos h1, List.length_cons]; exact h2
      · match st, h3, h2 with
        | b :: q, _, h2 =>
          simp only [stp]
          rw [if_neg (by omega), if_pos h1]
          exact h2
      · match st, h3, h2 with
        | b :: c :: q, _, h2 =>
          simp only [stp]
          rw [if_neg (by omega), if_neg (by omega), if_pos (by omega)]
          exact h2
    show evS fb (os ++ m :: r) (stp fb x st) (a + adF x st) = _
    rw [hx, Int.add_zero, ih _ _ hl]
    rfl
/-- a view's cells -/
def VwS (G : Gh) (V : Nat) : Prop := (gK G V).1 = 11 ∧ ((gK G (V + 1)).1 = 20 ∧ (gK G (V + 1)).2 = 100) ∧ ((gK G (V + 2)).1 = 20 ∧ (gK G (V + 2)).2 = 10) ∧ ((gK G (V + 3)).1 = 20 ∧ (gK G (V + 3)).2 = 10) ∧ gR G V 3 = some (V + 1) ∧ gR G V 5 = some (V + 2) ∧ gR G V 6 = some (V + 3)
section CL
variable {d : Nat} {G : Gh} {mi : Mi} {K : Option PV → Gh → Mi → Prop} {T V : Nat} {p t v w a b c k n g q x : Int} {fb : Int → Int}
theorem c_testHolds (h18 : (gK G 18).1 = 20) (l18 : (gK G 18).2 = 6) (hf : ∀ k : Int, 0 ≤ k → k < 6 → mi 18 k = fb k) (h0 : 0 ≤ x) (h1 : x < 3200) (h2 : x % 8 < 6) (h3 : x / 8 % 4 < 3) : OkC d 133 [pI (cvS x), pR (some 18)] G mi K = K (some (pI (bi (tst fb x)))) G mi := by
  have e1 : cvS x = x % 8 * 300 + x / 8 % 4 * 100 + x / 32 := by unfold cvS; rw [if_neg (by omega)]
  have e2 : cvS x / 300 = x % 8 := by rw [e1]; omega
  have e3 : cvS x % 100 = x / 32 := by rw [e1]; omega
  have e7 : cvS x % 300 = x / 8 % 4 * 100 + x / 32 := by rw [e1]; omega
  have e4 : cvS x % 300 / 100 = x / 8 % 4 := by rw [e7]; omega
  have e0 : 0 ≤ cvS x := by rw [e1]; omega
  have e5 : mi 18 (x % 8) = fb (x % 8) := hf _ (by omega) h2
  have hk : 20 ≤ (gK G 18).1 := by omega
  have e6 : 0 ≤ cvS x % 300 := by omega
  rw [E133]
  simp (disch := first | assumption | exact isL_i | exact isL_r | exact isL_n | exact i01a | exact i01b | omega) only [K133_0, K133_1, K133_4, K133_5, K133_6, K133_7, K133_10, K133_11, K133_12, K133_13, K133_16, K133_17, K133_18, K133_19, K133_20, K133_21, K133_22, K133_23, K133_25, K133_26, K133_28, K133_29, K133_32, K133_33, K133_35, K133_36, K133_64, K133_65, K133_67, K133_70, K133_71, K133_74, K133_75, K133_76, K133_77, K133_79, K133_82, K133_83, K133_86, K133_87, K133_88, K133_89, K133_91, K133_94, K133_95, K133_98, K133_99, wr_id, td_e, tm_e, pu_n, pu_s, up_s, up_k, up_a, ↓reduceIte, Int.reduceLT, Int.reduceLE, Int.reduceEq, Int.reduceNeg, Int.reduceAdd, Int.reduceSub, Int.reduceMul, Int.reduceMod, Int.reduceDiv, Int.cast_ofNat_Int, not_true_eq_false, not_false_eq_true, Int.reduceTDiv, Int.reduceTMod, e2, e3, e4, e5, if_neg]
  unfold tst bi
  repeat' split
  all_goals first | rfl | (exfalso; omega) | (exfalso; simp_all; done) | (exfalso; simp_all; omega)
theorem c_holds_lp {e s0 : Int} (hV : VwS G V) (h18 : (gK G 18).1 = 20) (l18 : (gK G 18).2 = 6) (hf : ∀ k : Int, 0 ≤ k → k < 6 → mi 18 k = fb k) (he : e ≤ 100) : ∀ (os : List Int) (st : List Bool) (i : Int) (x6 : Option PV), isL x6 = false → (∀ j : Nat, j < os.length → mi (V + 1) (i + j) = cvS (os.getD j 0)) → wfO os st.length → st.length ≤ 13 → i + os.length = e → 0 ≤ i →
    Ok (d + 1) 132 10 [some (pR (some V)), some (pI s0), some (pI e), some (pR (some 18)), some (pI (stkN st)), some (pI i), x6] [] G mi K = K (some (pI (bi (topB (evO fb os st))))) G mi := by
  obtain ⟨kV, ⟨kA, lA⟩, ⟨kB, lB⟩, ⟨kE, lE⟩, v3, v5, v6⟩ := id hV
  have kA' : 20 ≤ (gK G (V + 1)).1 := by omega
  intro os
  induction os with
  | nil =>
    intro st i x6 q6 hcd hw hl hi h0
    simp only [List.length_nil] at hi
    have hl1 : st.length = 1 := hw
    match st, hl1 with
    | [b], _ =>
      have hb := bi_01 b
      have e1 : stkN [b] = bi b := by simp only [stkN]; omega
      obtain ⟨-, -, -, e2⟩ := b_stk (n := bi b) (by omega) (by omega)
      rw [K132_10, e1]
      cases b
      · simp only [bi, Bool.false_eq_true, ↓reduceIte] at e2
        simp (disch := first | assumption | exact isL_i | exact isL_r | exact isL_n | exact i01a | exact i01b | omega) only [K132_12, K132_13, K132_124, K132_126, K132_127, K132_128, K132_129, K132_132, K132_133, K132_136, K132_137, wr_id, td_e, tm_e, pu_n, pu_s, up_s, up_k, up_a, ↓reduceIte, Int.reduceLT, Int.reduceLE, Int.reduceEq, Int.reduceNeg, Int.reduceAdd, Int.reduceSub, Int.reduceMul, Int.reduceMod, Int.reduceDiv, Int.cast_ofNat_Int, not_true_eq_false, not_false_eq_true, Int.reduceTDiv, Int.reduceTMod, if_pos, if_neg, bi, e2, Bool.false_eq_true]
        rfl
      · simp only [bi, ↓reduceIte] at e2
        simp (disch := first | assumption | exact isL_i | exact isL_r | exact isL_n | exact i01a | exact i01b | omega) only [K132_12, K132_13, K132_124, K132_126, K132_127, K132_128, K132_129, K132_132, K132_133, K132_136, K132_137, wr_id, td_e, tm_e, pu_n, pu_s, up_s, up_k, up_a, ↓reduceIte, Int.reduceLT, Int.reduceLE, Int.reduceEq, Int.reduceNeg, Int.reduceAdd, Int.reduceSub, Int.reduceMul, Int.reduceMod, Int.reduceDiv, Int.cast_ofNat_Int, not_true_eq_false, not_false_eq_true, Int.reduceTDiv, Int.reduceTMod, if_pos, if_neg, bi, e2]
        rfl
  | cons x os ih =>
    intro st i x6 q6 hcd hw hl hi h0
    simp only [List.length_cons] at hi hcd
    have e0 : mi (V + 1) i = cvS x := by
      have := hcd 0 (by omega)
      rw [show i + ((0 : Nat) : Int) = i by omega] at this
      exact this
    have hcd' : ∀ j : Nat, j < os.length → mi (V + 1) (i + 1 + j) = cvS (os.getD j 0) := by
      intro j hj
      have := hcd (j + 1) (by omega)
      rw [show i + ((j + 1 : Nat) : Int) = i + 1 + j by omega] at this
      exact this
    obtain ⟨s1, s2⟩ := stkN_13 hl
    obtain ⟨b1, b2, b3, -⟩ := b_stk s1 s2
    simp only [wfO] at hw
    rw [K132_10]
    rcases hw with ⟨h1, h2, h3, h4, h5, hw⟩ | ⟨h1, h2, hw⟩ | ⟨h1, h2, hw⟩
    · obtain ⟨s3, s4⟩ := stkN_12 (st := st) (by omega)
      obtain ⟨p1, p2⟩ := b_psh s3 s4
      have e5 : 0 ≤ cvS x := by unfold cvS; rw [if_neg (by omega)]; omega
      have e6 : stp fb x st = tst fb x :: st := by simp only [stp, if_pos h1]
      have hx := bi_01 (tst fb x)
      simp (disch := first | assumption | exact isL_i | exact isL_r | exact isL_n | exact i01a | exact i01b | omega) only [K132_12, K132_13, K132_16, K132_18, K132_19, K132_22, K132_23, K132_26, K132_27, K132_30, K132_32, K132_33, K132_35, K132_37, K132_64, K132_66, K132_67, K132_68, K132_70, K132_73, K132_75, K132_76, K132_77, K132_79, K132_81, K132_82, K132_83, K132_85, K132_88, K132_90, K132_91, K132_92, K132_94, K132_95, K132_96, K132_97, K132_99, K132_102, K132_104, K132_105, K132_106, K132_108, wr_id, td_e, tm_e, pu_n, pu_s, up_s, up_k, up_a, ↓reduceIte, Int.reduceLT, Int.reduceLE, Int.reduceEq, Int.reduceNeg, Int.reduceAdd, Int.reduceSub, Int.reduceMul, Int.reduceMod, Int.reduceDiv, Int.cast_ofNat_Int, not_true_eq_false, not_false_eq_true, Int.reduceTDiv, Int.reduceTMod, v3, lA, e0, if_pos, if_neg]
      rw [K132_109, c_testHolds h18 l18 hf h1 h2 h3 h4]
      simp (disch := first | assumption | exact isL_i | exact isL_r | exact isL_n | exact i01a | exact i01b | omega) only [K132_112, K132_115, K132_116, K132_118, K132_121, wr_id, td_e, tm_e, pu_n, pu_s, up_s, up_k, up_a, ↓reduceIte, Int.reduceLT, Int.reduceLE, Int.reduceEq, Int.reduceNeg, Int.reduceAdd, Int.reduceSub, Int.reduceMul, Int.reduceMod, Int.reduceDiv, Int.cast_ofNat_Int, not_true_eq_false, not_false_eq_true, Int.reduceTDiv, Int.reduceTMod, c_bit]
      show _ = K (some (pI (bi (topB (evO fb os (stp fb x st)))))) G mi
      rw [e6, ← ih (tst fb x :: st) (i + 1) (some (pI (cvS x))) isL_i hcd' (by rw [List.length_cons]; exact hw) (by rw [List.length_cons]; omega) (by omega) (by omega)]
      simp only [stkN]
      cases tst fb x
      · simp only [bi, Bool.false_eq_true, ↓reduceIte, p1, Int.add_zero]
      · simp only [bi, ↓reduceIte, p2]
    · match st, h2, hw with
      | b :: q, _, hw =>
        have e5 : cvS x = -1 := by unfold cvS; rw [if_pos (by omega), h1]
        have e6 : stp fb x (b :: q) = (!b) :: q := by simp only [stp]; rw [if_neg (by omega), if_pos h1]
        have e7 : iXor (stkN (b :: q)) 1 = stkN ((!b) :: q) := by
          rw [b1]
          simp only [stkN]
          cases b <;> simp only [bi, Bool.not_true, Bool.not_false, Bool.false_eq_true, ↓reduceIte] <;> omega
        simp (disch := first | assumption | exact isL_i | exact isL_r | exact isL_n | exact i01a | exact i01b | omega) only [K132_12, K132_13, K132_16, K132_18, K132_19, K132_22, K132_23, K132_26, K132_27, K132_30, K132_32, K132_33, K132_35, K132_37, K132_64, K132_66, K132_67, K132_68, K132_70, K132_73, K132_75, K132_76, K132_77, K132_79, K132_81, K132_82, K132_83, K132_85, K132_88, K132_90, K132_91, K132_92, K132_94, K132_95, K132_96, K132_97, K132_99, K132_102, K132_104, K132_105, K132_106, K132_108, K132_109, K132_112, K132_115, K132_116, K132_118, K132_121, wr_id, td_e, tm_e, pu_n, pu_s, up_s, up_k, up_a, ↓reduceIte, Int.reduceLT, Int.reduceLE, Int.reduceEq, Int.reduceNeg, Int.reduceAdd, Int.reduceSub, Int.reduceMul, Int.reduceMod, Int.reduceDiv, Int.cast_ofNat_Int, not_true_eq_false, not_false_eq_true, Int.reduceTDiv, Int.reduceTMod, v3, lA, e0, e5, e7, if_pos, if_neg]
        show _ = K (some (pI (bi (topB (evO fb os (stp fb x (b :: q))))))) G mi
        rw [e6]
        exact ih ((!b) :: q) (i + 1) _ isL_i hcd' hw hl (by omega) (by omega)
    · match st, h2, hw with
      | [], h2, _ => exact absurd h2 (by simp)
      | [_], h2, _ => exact absurd h2 (by simp)
      | b :: c :: q, _, hw =>
        have e6 : stp fb x (b :: c :: q) = (if x = -2 then c && b else c || b) :: q := by simp only [stp]; rw [if_neg (by omega), if_neg (by omega), if_pos (by omega)]
        simp only [List.length_cons] at hl
        rcases h1 with h1 | h1
        · have e5 : cvS x = -2 := by unfold cvS; rw [if_pos (by omega), h1]
          have e7 : iAnd (iUshr (stkN (b :: c :: q)) 1) (iOr (stkN (b :: c :: q)) (-2)) = stkN ((c && b) :: q) := by
            rw [b2]
            simp only [stkN]
            cases b <;> cases c <;> simp only [bi, Bool.and_true, Bool.and_false, Bool.false_eq_true, ↓reduceIte] <;> split <;> omega
          simp (disch := first | assumption | exact isL_i | exact isL_r | exact isL_n | exact i01a | exact i01b | omega) only [K132_12, K132_13, K132_16, K132_18, K132_19, K132_22, K132_23, K132_26, K132_27, K132_30, K132_32, K132_33, K132_35, K132_37, K132_64, K132_66, K132_67, K132_68, K132_70, K132_73, K132_75, K132_76, K132_77, K132_79, K132_81, K132_82, K132_83, K132_85, K132_88, K132_90, K132_91, K132_92, K132_94, K132_95, K132_96, K132_97, K132_99, K132_102, K132_104, K132_105, K132_106, K132_108, K132_109, K132_112, K132_115, K132_116, K132_118, K132_121, wr_id, td_e, tm_e, pu_n, pu_s, up_s, up_k, up_a, ↓reduceIte, Int.reduceLT, Int.reduceLE, Int.reduceEq, Int.reduceNeg, Int.reduceAdd, Int.reduceSub, Int.reduceMul, Int.reduceMod, Int.reduceDiv, Int.cast_ofNat_Int, not_true_eq_false, not_false_eq_true, Int.reduceTDiv, Int.reduceTMod, v3, lA, e0, e5, e7, if_pos, if_neg]
          show _ = K (some (pI (bi (topB (evO fb os (stp fb x (b :: c :: q))))))) G mi
          rw [e6, if_pos h1]
          exact ih ((c && b) :: q) (i + 1) _ isL_i hcd' hw (by rw [List.length_cons]; omega) (by omega) (by omega)
        · have e5 : cvS x = -3 := by unfold cvS; rw [if_pos (by omega), h1]
          have e7 : iOr (iUshr (stkN (b :: c :: q)) 1) (iAnd (stkN (b :: c :: q)) 1) = stkN ((c || b) :: q) := by
            rw [b3]
            simp only [stkN]
            cases b <;> cases c <;> simp only [bi, Bool.or_true, Bool.or_false, Bool.false_eq_true, ↓reduceIte] <;> split <;> omega
          simp (disch := first | assumption | exact isL_i | exact isL_r | exact isL_n | exact i01a | exact i01b | omega) only [K132_12, K132_13, K132_16, K132_18, K132_19, K132_22, K132_23, K132_26, K132_27, K132_30, K132_32, K132_33, K132_35, K132_37, K132_64, K132_66, K132_67, K132_68, K132_70, K132_73, K132_75, K132_76, K132_77, K132_79, K132_81, K132_82, K132_83, K132_85, K132_88, K132_90, K132_91, K132_92, K132_94, K132_95, K132_96, K132_97, K132_99, K132_102, K132_104, K132_105, K132_106, K132_108, K132_109, K132_112, K132_115, K132_116, K132_118, K132_121, wr_id, td_e, tm_e, pu_n, pu_s, up_s, up_k, up_a, ↓reduceIte, Int.reduceLT, Int.reduceLE, Int.reduceEq, Int.reduceNeg, Int.reduceAdd, Int.reduceSub, Int.reduceMul, Int.reduceMod, Int.reduceDiv, Int.cast_ofNat_Int, not_true_eq_false, not_false_eq_true, Int.reduceTDiv, Int.reduceTMod, v3, lA, e0, e5, e7, if_pos, if_neg]
          show _ = K (some (pI (bi (topB (evO fb os (stp fb x (b :: c :: q))))))) G mi
          rw [e6, if_neg (by omega)]
          exact ih ((c || b) :: q) (i + 1) _ isL_i hcd' hw (by rw [List.length_cons]; omega) (by omega) (by omega)
theorem c_holds {e s0 : Int} {os : List Int} (hV : VwS G V) (h18 : (gK G 18).1 = 20) (l18 : (gK G 18).2 = 6) (hf : ∀ k : Int, 0 ≤ k → k < 6 → mi 18 k = fb k) (he : e ≤ 100) (hcd : ∀ j : Nat, j < os.length → mi (V + 1) (s0 + j) = cvS (os.getD j 0)) (hw : wfO os 0) (hi : s0 + os.length = e) (h0 : 0 ≤ s0) :
    OkC (d + 1) 132 [pR (some V), pI s0, pI e, pR (some 18)] G mi K = K (some (pI (bi (topB (evO fb os []))))) G mi := by
  rw [E132]
  by_cases c0 : s0 = 0
  · subst c0
    simp (disch := first | assumption | exact isL_i | exact isL_r | exact isL_n | exact i01a | exact i01b | omega) only [K132_0, K132_1, K132_3, K132_4, K132_5, K132_8, wr_id, td_e, tm_e, pu_n, pu_s, up_s, up_k, up_a, ↓reduceIte, Int.reduceLT, Int.reduceLE, Int.reduceEq, Int.reduceNeg, Int.reduceAdd, Int.reduceSub, Int.reduceMul, Int.reduceMod, Int.reduceDiv, Int.cast_ofNat_Int, not_true_eq_false, not_false_eq_true, Int.reduceTDiv, Int.reduceTMod, if_pos, if_neg]
    exact c_holds_lp hV h18 l18 hf he os [] 0 none isL_n hcd hw (by decide) hi (by decide)
  · simp (disch := first | assumption | exact isL_i | exact isL_r | exact isL_n | exact i01a | exact i01b | omega) only [K132_0, K132_1, K132_3, K132_4, K132_5, K132_8, wr_id, td_e, tm_e, pu_n, pu_s, up_s, up_k, up_a, ↓reduceIte, Int.reduceLT, Int.reduceLE, Int.reduceEq, Int.reduceNeg, Int.reduceAdd, Int.reduceSub, Int.reduceMul, Int.reduceMod, Int.reduceDiv, Int.cast_ofNat_Int, not_true_eq_false, not_false_eq_true, Int.reduceTDiv, Int.reduceTMod, if_pos, if_neg]
    exact c_holds_lp hV h18 l18 hf he os [] s0 none isL_n hcd hw (by decide) hi h0
theorem c_base_lp (hV : VwS G V) (h18 : (gK G 18).1 = 20) (l18 : (gK G 18).2 = 6) (hf : ∀ k : Int, 0 ≤ k → k < 6 → mi 18 k = fb k) : ∀ (L : List (List Int × Int)) (i a s0 : Int), i + L.length = mi V 7 → mi V 7 ≤ 10 → 0 ≤ i → 0 ≤ s0 → CCr (mi (V + 1)) (mi (V + 2)) (mi (V + 3)) L i s0 → 100 * L.length - 1000 ≤ a → a ≤ 1000 - 100 * L.length →
    Ok (d + 2) 131 7 [some (pR (some V)), some (pR (some 18)), some (pI a), some (pI s0), some (pI i)] [] G mi K = K (some (pI (evS fb (flC L) [] a))) G mi := by
  obtain ⟨kV, ⟨kA, lA⟩, ⟨kB, lB⟩, ⟨kE, lE⟩, v3, v5, v6⟩ := id hV
  have kB' : 20 ≤ (gK G (V + 2)).1 := by omega
  have kE' : 20 ≤ (gK G (V + 3)).1 := by omega
  intro L
  induction L with
  | nil =>
    intro i a s0 hi h10 h0 hs0 hC ha ha'
    simp only [List.length_nil] at hi
    rw [K131_7]
    simp (disch := first | assumption | exact isL_i | exact isL_r | exact isL_n | exact i01a | exact i01b | omega) only [K131_9, K131_10, K131_13, K131_76, K131_77, wr_id, td_e, tm_e, pu_n, pu_s, up_s, up_k, up_a, ↓reduceIte, Int.reduceLT, Int.reduceLE, Int.reduceEq, Int.reduceNeg, Int.reduceAdd, Int.reduceSub, Int.reduceMul, Int.reduceMod, Int.reduceDiv, Int.cast_ofNat_Int, not_true_eq_false, not_false_eq_true, Int.reduceTDiv, Int.reduceTMod, if_pos, if_neg]
    rfl
  | cons c L ih =>
    intro i a s0 hi h10 h0 hs0 hC ha ha'
    simp only [List.length_cons] at hi ha ha'
    obtain ⟨c1, c2, c3, c4, c5, c6, c7⟩ := hC
    have e1 : evS fb (flC (c :: L)) [] a = evS fb (flC L) [] (a + if topB (evO fb c.1 []) = true then amt c.2 else 0) := evS_op c5.1 c.1 [] a c4
    rw [e1, K131_7]
    simp (disch := first | assumption | exact isL_i | exact isL_r | exact isL_n | exact i01a | exact i01b | omega) only [K131_9, K131_10, K131_13, K131_16, K131_18, K131_19, K131_22, K131_23, K131_26, K131_28, K131_29, K131_32, K131_33, K131_36, K131_37, K131_38, K131_39, K131_42, K131_44, K131_45, wr_id, td_e, tm_e, pu_n, pu_s, up_s, up_k, up_a, ↓reduceIte, Int.reduceLT, Int.reduceLE, Int.reduceEq, Int.reduceNeg, Int.reduceAdd, Int.reduceSub, Int.reduceMul, Int.reduceMod, Int.reduceDiv, Int.cast_ofNat_Int, not_true_eq_false, not_false_eq_true, Int.reduceTDiv, Int.reduceTMod, v5, v6, lB, lE, c2, if_pos, if_neg]
    rw [K131_46 kV, c_holds hV h18 l18 hf c6 c1 c4 rfl hs0]
    have hb := bi_01 (topB (evO fb c.1 []))
    cases hT : topB (evO fb c.1 [])
    · simp only [bi, Bool.false_eq_true, ↓reduceIte, Int.add_zero]
      simp (disch := first | assumption | exact isL_i | exact isL_r | exact isL_n | exact i01a | exact i01b | omega) only [K131_49, K131_52, K131_53, K131_54, K131_57, K131_59, K131_60, K131_61, K131_62, K131_63, K131_66, K131_68, K131_69, K131_70, K131_73, wr_id, td_e, tm_e, pu_n, pu_s, up_s, up_k, up_a, ↓reduceIte, Int.reduceLT, Int.reduceLE, Int.reduceEq, Int.reduceNeg, Int.reduceAdd, Int.reduceSub, Int.reduceMul, Int.reduceMod, Int.reduceDiv, Int.cast_ofNat_Int, not_true_eq_false, not_false_eq_true, Int.reduceTDiv, Int.reduceTMod, v5, v6, lB, lE, c2, if_pos, if_neg]
      exact ih (i + 1) a (s0 + c.1.length) (by omega) h10 (by omega) (by omega) c7 (by omega) (by omega)
    · simp only [bi, ↓reduceIte]
      simp (disch := first | assumption | exact isL_i | exact isL_r | exact isL_n | exact i01a | exact i01b | omega) only [K131_49, K131_52, K131_53, K131_54, K131_57, K131_59, K131_60, K131_61, K131_62, K131_63, K131_66, K131_68, K131_69, K131_70, K131_73, wr_id, td_e, tm_e, pu_n, pu_s, up_s, up_k, up_a, ↓reduceIte, Int.reduceLT, Int.reduceLE, Int.reduceEq, Int.reduceNeg, Int.reduceAdd, Int.reduceSub, Int.reduceMul, Int.reduceMod, Int.reduceDiv, Int.cast_ofNat_Int, not_true_eq_false, not_false_eq_true, Int.reduceTDiv, Int.reduceTMod, v5, v6, lB, lE, c2, c3, if_pos, if_neg]
      exact ih (i + 1) (a + amt c.2) (s0 + c.1.length) (by omega) h10 (by omega) (by omega) c7 (by omega) (by omega)
theorem c_baseBy {L : List (List Int × Int)} (hV : VwS G V) (h18 : (gK G 18).1 = 20) (l18 : (gK G 18).2 = 6) (hf : ∀ k : Int, 0 ≤ k → k < 6 → mi 18 k = fb k) (hL : mi V 7 = L.length) (h10 : mi V 7 ≤ 10) (hC : CCr (mi (V + 1)) (mi (V + 2)) (mi (V + 3)) L 0 0) :
    OkC (d + 2) 131 [pR (some V), pR (some 18)] G mi K = K (some (pI (evS fb (flC L) [] 0))) G mi := by
  rw [E131]
  simp (disch := first | assumption | exact isL_i | exact isL_r | exact isL_n | exact i01a | exact i01b | omega) only [K131_0, K131_1, K131_2, K131_3, K131_4, K131_5, wr_id, td_e, tm_e, pu_n, pu_s, up_s, up_k, up_a, ↓reduceIte, Int.reduceLT, Int.reduceLE, Int.reduceEq, Int.reduceNeg, Int.reduceAdd, Int.reduceSub, Int.reduceMul, Int.reduceMod, Int.reduceDiv, Int.cast_ofNat_Int, not_true_eq_false, not_false_eq_true, Int.reduceTDiv, Int.reduceTMod]
  exact c_base_lp hV h18 l18 hf L 0 0 0 (by omega) h10 (by decide) (by decide) hC (by omega) (by omega)
end CL
