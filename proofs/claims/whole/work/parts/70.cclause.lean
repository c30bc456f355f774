/-! ===== the class reads a clause ===== -/
def cmx (x : Int) : Int := if x = 0 then 1 else x
def lastN (w : Nat) : Int → List (Nat × Int × List Int) → Int
  | d, [] => d
  | d, c :: r => lastN w (if c.1 = w then c.2.1 else d) r
def condL : List (Nat × Int × List Int) → List (List Int × Int)
  | [] => []
  | c :: r => if c.1 < 3 then condL r else (c.2.2, mkC c.1 c.2.1) :: condL r
def totL : List (List Int × Int) → Int
  | [] => 0
  | c :: r => c.1.length + totL r
theorem totL_0 : ∀ (L : List (List Int × Int)), 0 ≤ totL L := by
  intro L
  induction L with
  | nil => exact Int.le_refl _
  | cons c L ih => simp only [totL]; omega
theorem totL_app : ∀ (L M : List (List Int × Int)), totL (L ++ M) = totL L + totL M := by
  intro L
  induction L with
  | nil => intro M; simp [totL]
  | cons c L ih => intro M; simp only [List.cons_append, totL]; rw [ih]; omega
theorem condL_app : ∀ (L M : List (Nat × Int × List Int)), condL (L ++ M) = condL L ++ condL M := by
  intro L
  induction L with
  | nil => intro M; rfl
  | cons c L ih =>
    intro M
    simp only [List.cons_append, condL]
    split
    · exact ih M
    · rw [ih]; rfl
theorem lastN_app {w : Nat} : ∀ (L M : List (Nat × Int × List Int)) (d : Int), lastN w d (L ++ M) = lastN w (lastN w d L) M := by
  intro L
  induction L with
  | nil => intro M d; rfl
  | cons c L ih => intro M d; simp only [List.cons_append, lastN]; exact ih M _
theorem condL_len : ∀ (L : List (Nat × Int × List Int)), (condL L).length ≤ L.length := by
  intro L
  induction L with
  | nil => exact Nat.le_refl _
  | cons c L ih =>
    simp only [condL, List.length_cons]
    split
    · omega
    · simp only [List.length_cons]; omega
theorem CCr_c {cd am en cd' am' en' : Int → Int} : ∀ (L : List (List Int × Int)) (i st : Int), CCr cd am en L i st → (∀ t : Int, st ≤ t → t < st + totL L → cd' t = cd t) → (∀ q : Int, i ≤ q → q < i + L.length → am' q = am q ∧ en' q = en q) → CCr cd' am' en' L i st := by
  intro L
  induction L with
  | nil => intro i st _ _ _; trivial
  | cons c L ih =>
    intro i st h hc ha
    simp only [totL] at hc
    have ht := totL_0 L
    obtain ⟨h1, h2, h3, h4, h5, h6, h7⟩ := h
    simp only [List.length_cons] at ha
    refine ⟨fun j hj => ?_, ?_, ?_, h4, h5, h6, ih (i + 1) _ h7 (fun t t0 t1 => hc t (by omega) (by omega)) (fun q q0 q1 => ha q (by omega) (by omega))⟩
    · rw [hc _ (by omega) (by omega)]; exact h1 j hj
    · rw [(ha i (Int.le_refl _) (by omega)).2]; exact h2
    · rw [(ha i (Int.le_refl _) (by omega)).1]; exact h3
theorem CCr_snoc {cd am en : Int → Int} {c : List Int × Int} : ∀ (L : List (List Int × Int)) (i st : Int), CCr cd am en L i st → CCr cd am en [c] (i + L.length) (st + totL L) → CCr cd am en (L ++ [c]) i st := by
  intro L
  induction L with
  | nil =>
    intro i st _ h
    simp only [List.length_nil, Int.natCast_zero, Int.add_zero, totL] at h
    exact h
  | cons b L ih =>
    intro i st h hc
    obtain ⟨h1, h2, h3, h4, h5, h6, h7⟩ := h
    refine ⟨h1, h2, h3, h4, h5, h6, ih (i + 1) _ h7 ?_⟩
    simp only [totL, List.length_cons] at hc
    rw [show i + 1 + (L.length : Int) = i + ((L.length + 1 : Nat) : Int) by omega, show st + (b.1.length : Int) + totL L = st + ((b.1.length : Int) + totL L) by omega]
    exact hc
/-- what the class has after some clauses -/
def CI (V : Nat) (cs : List (Nat × Int × List Int)) (mi : Mi) : Prop := (mi V 0 = cmx (lastN 0 8 cs) ∧ mi V 1 = lastN 1 0 cs ∧ mi V 2 = lastN 2 0 cs ∧ mi V 7 = (condL cs).length ∧ mi V 4 = totL (condL cs)) ∧ CCr (mi (V + 1)) (mi (V + 2)) (mi (V + 3)) (condL cs) 0 0
section CL
variable {d : Nat} {G : Gh} {mi mi' mi'' : Mi} {K : Option PV → Gh → Mi → Prop} {V Sg : Nat} {p t v a b c k n g q e i j op x r : Int} {h : Int → Int} {L : List Int} {u w : Nat} {cs : List (Nat × Int × List Int)}
theorem c_same_lp (hV : ShV G V Sg e) (hS : SgF h e) (hs : StC h V Sg e i mi) (h0 : 0 ≤ i) (hi : i ≤ 1000) (hu : u < 5) : ∀ (W : List Int) (s : Nat), s + W.length = 4 → (∀ q : Nat, q < W.length → (sBytes 0).getD (4 * u + s + q) 0 = W.getD q 0 ∧ 0 ≤ W.getD q 0) →
    Ok (d + 5) 121 2 [some (pR (some V)), some (pI (4 * u)), some (pI s)] [] G mi K = K (some (pI (s + smN h W (i + s)))) G mi := by
  obtain ⟨⟨kV, ⟨kA, lA⟩, ⟨kB, lB⟩, ⟨kE, lE⟩, v3, v5, v6⟩, v8, kSg, lSg, ⟨nS0, nS1, nS2, nS3⟩⟩ := id hV
  obtain ⟨h9, hh, h4, h4'⟩ := hs
  have hr := x_rcv (G := G) (t := 0) (by decide)
  have k20 : 20 ≤ (gK G Sg).1 := by omega
  have hl20 : (sBytes 0).length = 20 := by decide
  intro W
  induction W with
  | nil =>
    intro s hsW hW
    simp only [List.length_nil, Nat.add_zero] at hsW
    rw [K121_2]
    simp (disch := first | assumption | exact isL_i | exact isL_r | exact isL_n | exact i01a | exact i01b | omega) only [K121_3, K121_4, K121_60, K121_61, wr_id, td_e, tm_e, pu_n, pu_s, up_s, up_k, up_a, ↓reduceIte, Int.reduceLT, Int.reduceLE, Int.reduceEq, Int.reduceNeg, Int.reduceAdd, Int.reduceSub, Int.reduceMul, Int.reduceMod, Int.reduceDiv, Int.cast_ofNat_Int, not_true_eq_false, not_false_eq_true, Int.reduceTDiv, Int.reduceTMod, if_pos, if_neg, smN]
    rfl
  | cons c W ih =>
    intro s hsW hW
    simp only [List.length_cons] at hsW
    obtain ⟨w1, w2⟩ := hW 0 (by simp)
    have w1 : (sBytes 0).getD (4 * u + s) 0 = c := w1
    have w2 : 0 ≤ c := w2
    have eL : ∀ K', OkC (d + 4) 205 [pE 1] G mi K' = K' (some (pI 20)) G mi := fun K' => by
      have := x_len (d := d + 3) (K := K') (G := G) (mi := mi) (t := 0) (by decide)
      rw [hl20] at this
      exact this
    have eC : ∀ K', OkC (d + 4) 206 [pE 1, pI (4 * u + s)] G mi K' = K' (some (pI c)) G mi := fun K' => by
      have := x_charAt (d := d) (K := K') (G := G) (mi := mi) (t := 0) (i := 4 * u + s) (by decide) (by rw [hl20]; omega)
      rw [w1] at this
      rw [show ((4 * u + s : Nat) : Int) = 4 * (u : Int) + s by omega] at this
      exact this
    have hr : rcv G (pE 1) = 500 := hr
    simp only [smN]
    rw [K121_2]
    by_cases ce : i + s < e
    · have e1 := hh (i + s) (by omega) ce
      by_cases cc : h (i + s) = c
      · rw [if_pos cc]
        have J := ih (s + 1) (by omega) (fun q hq => by
          have := hW (q + 1) (by simp only [List.length_cons]; omega)
          rw [show 4 * u + s + (q + 1) = 4 * u + (s + 1) + q by omega] at this
          exact this)
        rw [show i + ((s + 1 : Nat) : Int) = i + s + 1 by omega] at J
        rw [show ((s : Int) + ((smN h W (i + s + 1) + 1 : Nat) : Int)) = ((s + 1 : Nat) : Int) + smN h W (i + s + 1) by omega, ← J]
        simp (disch := first | assumption | exact isL_i | exact isL_r | exact isL_n | exact i01a | exact i01b | omega) only [K121_3, K121_4, K121_7, K121_8, K121_9, K121_10, K121_12, K121_15, K121_18, K121_19, K121_22, K121_23, K121_24, K121_25, K121_28, K121_29, K121_32, K121_33, K121_36, K121_37, K121_40, K121_41, K121_42, K121_43, K121_45, K121_46, K121_47, K121_48, K121_51, K121_54, K121_57, wr_id, td_e, tm_e, pu_n, pu_s, up_s, up_k, up_a, ↓reduceIte, Int.reduceLT, Int.reduceLE, Int.reduceEq, Int.reduceNeg, Int.reduceAdd, Int.reduceSub, Int.reduceMul, Int.reduceMod, Int.reduceDiv, Int.cast_ofNat_Int, not_true_eq_false, not_false_eq_true, Int.reduceTDiv, Int.reduceTMod, h9, v8, lSg, e1, cc, eL, eC, if_pos, if_neg]
        rfl
      · rw [if_neg cc]
        simp (disch := first | assumption | exact isL_i | exact isL_r | exact isL_n | exact i01a | exact i01b | omega) only [K121_3, K121_4, K121_7, K121_8, K121_9, K121_10, K121_12, K121_15, K121_18, K121_19, K121_22, K121_23, K121_24, K121_25, K121_28, K121_29, K121_32, K121_33, K121_36, K121_37, K121_40, K121_41, K121_42, K121_43, K121_45, K121_46, K121_47, K121_48, K121_51, K121_60, K121_61, wr_id, td_e, tm_e, pu_n, pu_s, up_s, up_k, up_a, ↓reduceIte, Int.reduceLT, Int.reduceLE, Int.reduceEq, Int.reduceNeg, Int.reduceAdd, Int.reduceSub, Int.reduceMul, Int.reduceMod, Int.reduceDiv, Int.cast_ofNat_Int, not_true_eq_false, not_false_eq_true, Int.reduceTDiv, Int.reduceTMod, h9, v8, lSg, e1, eL, eC, if_pos, if_neg]
        simp
    · have cc : ¬ h (i + s) = c := by rw [hS.2 (i + s) (by omega)]; omega
      rw [if_neg cc]
      simp (disch := first | assumption | exact isL_i | exact isL_r | exact isL_n | exact i01a | exact i01b | omega) only [K121_3, K121_4, K121_7, K121_8, K121_9, K121_10, K121_12, K121_15, K121_18, K121_19, K121_22, K121_23, K121_24, K121_25, K121_28, K121_29, K121_60, K121_61, wr_id, td_e, tm_e, pu_n, pu_s, up_s, up_k, up_a, ↓reduceIte, Int.reduceLT, Int.reduceLE, Int.reduceEq, Int.reduceNeg, Int.reduceAdd, Int.reduceSub, Int.reduceMul, Int.reduceMod, Int.reduceDiv, Int.cast_ofNat_Int, not_true_eq_false, not_false_eq_true, Int.reduceTDiv, Int.reduceTMod, h9, v8, lSg, eL, if_pos, if_neg]
      simp
theorem wdL_ok (hu : u < 5) : (wdL u).length = 4 ∧ ∀ q : Nat, q < (wdL u).length → (sBytes 0).getD (4 * u + 0 + q) 0 = (wdL u).getD q 0 ∧ 0 ≤ (wdL u).getD q 0 := by
  have h : ∀ u : Fin 5, (wdL u.1).length = 4 ∧ ∀ q : Fin 4, (sBytes 0).getD (4 * u.1 + 0 + q.1) 0 = (wdL u.1).getD q.1 0 ∧ 0 ≤ (wdL u.1).getD q.1 0 := by decide
  obtain ⟨h1, h2⟩ := h ⟨u, hu⟩
  exact ⟨h1, fun q hq => h2 ⟨q, by rw [h1] at hq; exact hq⟩⟩
theorem c_same (hV : ShV G V Sg e) (hS : SgF h e) (hs : StC h V Sg e i mi) (h0 : 0 ≤ i) (hi : i ≤ 1000) (hu : u < 5) : OkC (d + 5) 121 [pR (some V), pI (4 * u)] G mi K = K (some (pI (smN h (wdL u) i))) G mi := by
  obtain ⟨w1, w2⟩ := wdL_ok hu
  rw [E121]
  simp (disch := first | assumption | exact isL_i | exact isL_r | exact isL_n | exact i01a | exact i01b | omega) only [K121_0, K121_1, wr_id, td_e, tm_e, pu_n, pu_s, up_s, up_k, up_a, ↓reduceIte, Int.reduceLT, Int.reduceLE, Int.reduceEq, Int.reduceNeg, Int.reduceAdd, Int.reduceSub, Int.reduceMul, Int.reduceMod, Int.reduceDiv, Int.cast_ofNat_Int, not_true_eq_false, not_false_eq_true, Int.reduceTDiv, Int.reduceTMod]
  refine (c_same_lp (d := d) hV hS hs h0 hi hu (wdL u) 0 (by omega) w2).trans ?_
  rw [show ((0 : Nat) : Int) + (smN h (wdL u) (i + ((0 : Nat) : Int)) : Int) = (smN h (wdL u) i : Int) by rw [show i + ((0 : Nat) : Int) = i by omega]; omega]
theorem c_word_lp (hV : ShV G V Sg e) (hS : SgF h e) (hs : StC h V Sg e i mi) (h0 : 0 ≤ i) (hi : i ≤ 1000) : ∀ (m u l : Nat) (x3 : Option PV), isL x3 = false → u + m = 5 → l ≤ 4 →
    Ok (d + 6) 120 4 [some (pR (some V)), some (pI l), some (pI u), x3] [] G mi K = K (some (pI (match (wdC h i m u l).2 with
      | none => -1
      | some w => (w : Int)))) G (up mi V 9 (wdC h i m u l).1) := by
  obtain ⟨⟨kV, ⟨kA, lA⟩, ⟨kB, lB⟩, ⟨kE, lE⟩, v3, v5, v6⟩, v8, kSg, lSg, ⟨nS0, nS1, nS2, nS3⟩⟩ := id hV
  have h9 := hs.1
  intro m
  induction m with
  | zero =>
    intro u l x3 r3 hu hl
    rw [K120_4]
    simp (disch := first | assumption | exact isL_i | exact isL_r | exact isL_n | exact i01a | exact i01b | omega) only [K120_5, K120_6, K120_46, K120_47, K120_47i, K120_48, K120_51, K120_52, K120_53, K120_56, K120_57, wr_id, td_e, tm_e, pu_n, pu_s, up_s, up_k, up_a, ↓reduceIte, Int.reduceLT, Int.reduceLE, Int.reduceEq, Int.reduceNeg, Int.reduceAdd, Int.reduceSub, Int.reduceMul, Int.reduceMod, Int.reduceDiv, Int.cast_ofNat_Int, not_true_eq_false, not_false_eq_true, Int.reduceTDiv, Int.reduceTMod, h9, if_pos, if_neg, wdC]
  | succ m ih =>
    intro u l x3 r3 hu hl
    have h4 := smN_le (h := h) (wdL u) i
    rw [(wdL_ok (u := u) (by omega)).1] at h4
    simp only [wdC]
    rw [K120_4]
    have e4u : (u : Int) * 4 = 4 * u := Int.mul_comm _ _
    simp (disch := first | assumption | exact isL_i | exact isL_r | exact isL_n | exact i01a | exact i01b | omega) only [K120_5, K120_6, K120_9, K120_10, K120_11, K120_12, wr_id, td_e, tm_e, pu_n, pu_s, up_s, up_k, up_a, ↓reduceIte, Int.reduceLT, Int.reduceLE, Int.reduceEq, Int.reduceNeg, Int.reduceAdd, Int.reduceSub, Int.reduceMul, Int.reduceMod, Int.reduceDiv, Int.cast_ofNat_Int, not_true_eq_false, not_false_eq_true, Int.reduceTDiv, Int.reduceTMod, e4u, if_pos, if_neg]
    rw [K120_13 kV, c_same (d := d) hV hS hs h0 hi (by omega)]
    by_cases c4 : smN h (wdL u) i = 4
    · rw [if_pos c4]
      simp (disch := first | assumption | exact isL_i | exact isL_r | exact isL_n | exact i01a | exact i01b | omega) only [K120_16, K120_17, K120_18, K120_19, K120_22, K120_23, K120_23i, K120_24, K120_27, K120_28, K120_29, K120_32, K120_33, wr_id, td_e, tm_e, pu_n, pu_s, up_s, up_k, up_a, ↓reduceIte, Int.reduceLT, Int.reduceLE, Int.reduceEq, Int.reduceNeg, Int.reduceAdd, Int.reduceSub, Int.reduceMul, Int.reduceMod, Int.reduceDiv, Int.cast_ofNat_Int, not_true_eq_false, not_false_eq_true, Int.reduceTDiv, Int.reduceTMod, h9, c4, if_pos, if_neg]
    · rw [if_neg c4]
      have J := fun l' (hl' : l' = mxN l (smN h (wdL u) i)) => ih (u + 1) l' (some (pI (smN h (wdL u) i : Int))) isL_i (by omega) (by rw [hl']; unfold mxN; split <;> omega)
      by_cases c5 : l < smN h (wdL u) i
      · have em : mxN l (smN h (wdL u) i) = smN h (wdL u) i := by unfold mxN; rw [if_pos c5]
        rw [em]
        have J := J _ em.symm
        simp (disch := first | assumption | exact isL_i | exact isL_r | exact isL_n | exact i01a | exact i01b | omega) only [K120_16, K120_17, K120_18, K120_19, K120_34, K120_35, K120_36, K120_39, K120_40, K120_43, wr_id, td_e, tm_e, pu_n, pu_s, up_s, up_k, up_a, ↓reduceIte, Int.reduceLT, Int.reduceLE, Int.reduceEq, Int.reduceNeg, Int.reduceAdd, Int.reduceSub, Int.reduceMul, Int.reduceMod, Int.reduceDiv, Int.cast_ofNat_Int, not_true_eq_false, not_false_eq_true, Int.reduceTDiv, Int.reduceTMod, if_pos, if_neg]
        exact J
      · have em : mxN l (smN h (wdL u) i) = l := by unfold mxN; rw [if_neg c5]
        rw [em]
        have J := J _ em.symm
        by_cases c6 : (l : Int) = smN h (wdL u) i
        · simp (disch := first | assumption | exact isL_i | exact isL_r | exact isL_n | exact i01a | exact i01b | omega) only [K120_16, K120_17, K120_18, K120_19, K120_34, K120_35, K120_36, K120_39, K120_40, K120_43, wr_id, td_e, tm_e, pu_n, pu_s, up_s, up_k, up_a, ↓reduceIte, Int.reduceLT, Int.reduceLE, Int.reduceEq, Int.reduceNeg, Int.reduceAdd, Int.reduceSub, Int.reduceMul, Int.reduceMod, Int.reduceDiv, Int.cast_ofNat_Int, not_true_eq_false, not_false_eq_true, Int.reduceTDiv, Int.reduceTMod, if_pos, if_neg]
          first | exact J | (rw [← c6]; exact J) | (rw [← c6] at J ⊢; exact J)
        · simp (disch := first | assumption | exact isL_i | exact isL_r | exact isL_n | exact i01a | exact i01b | omega) only [K120_16, K120_17, K120_18, K120_19, K120_34, K120_35, K120_36, K120_39, K120_40, K120_43, wr_id, td_e, tm_e, pu_n, pu_s, up_s, up_k, up_a, ↓reduceIte, Int.reduceLT, Int.reduceLE, Int.reduceEq, Int.reduceNeg, Int.reduceAdd, Int.reduceSub, Int.reduceMul, Int.reduceMod, Int.reduceDiv, Int.cast_ofNat_Int, not_true_eq_false, not_false_eq_true, Int.reduceTDiv, Int.reduceTMod, if_pos, if_neg]
          exact J
theorem c_word (hV : ShV G V Sg e) (hS : SgF h e) (hs : StC h V Sg e i mi) (h0 : 0 ≤ i) (hi : i ≤ 1000) : OkC (d + 6) 120 [pR (some V)] G mi K = K (some (pI (match (wdC h i 5 0 0).2 with
      | none => -1
      | some w => (w : Int)))) G (up mi V 9 (wdC h i 5 0 0).1) := by
  rw [E120]
  simp (disch := first | assumption | exact isL_i | exact isL_r | exact isL_n | exact i01a | exact i01b | omega) only [K120_0, K120_1, K120_2, K120_3, wr_id, td_e, tm_e, pu_n, pu_s, up_s, up_k, up_a, ↓reduceIte, Int.reduceLT, Int.reduceLE, Int.reduceEq, Int.reduceNeg, Int.reduceAdd, Int.reduceSub, Int.reduceMul, Int.reduceMod, Int.reduceDiv, Int.cast_ofNat_Int, not_true_eq_false, not_false_eq_true, Int.reduceTDiv, Int.reduceTMod]
  exact c_word_lp hV hS hs h0 hi 5 0 0 none isL_n (by decide) (by decide)
end CL
