/-! ===== the class reads a clause, on ===== -/
theorem smN_e {h : Int → Int} {e : Int} (hS : SgF h e) : ∀ (W : List Int) (i : Int), (∀ q : Nat, q < W.length → 0 ≤ W.getD q 0) → i ≤ e → i + smN h W i ≤ e := by
  intro W
  induction W with
  | nil => intro i _ hi; simp only [smN]; omega
  | cons c W ih =>
    intro i hW hi
    have hc0 : 0 ≤ c := hW 0 (by simp)
    simp only [smN]
    by_cases cc : h i = c
    · rw [if_pos cc]
      have hie := sg_lt (i := i) hS (by omega)
      have := ih (i + 1) (fun q hq => hW (q + 1) (by simp only [List.length_cons]; omega)) (by omega)
      omega
    · rw [if_neg cc]; omega
theorem wdC_p {h : Int → Int} {e i : Int} (hS : SgF h e) (hi : i ≤ e) : ∀ (m u l : Nat), u + m = 5 → i + l ≤ e → (i ≤ (wdC h i m u l).1 ∧ (wdC h i m u l).1 ≤ e) ∧ ∀ w, (wdC h i m u l).2 = some w → w < 5 ∧ (wdC h i m u l).1 = i + 4 := by
  intro m
  induction m with
  | zero => intro u l _ hl; exact ⟨⟨by simp only [wdC]; omega, hl⟩, fun w hw => by cases hw⟩
  | succ m ih =>
    intro u l hu hl
    simp only [wdC]
    have h1 := smN_e hS (wdL u) i (fun q hq => ((wdL_ok (u := u) (by omega)).2 q hq).2) hi
    by_cases c4 : smN h (wdL u) i = 4
    · rw [if_pos c4]
      refine ⟨⟨by dsimp only; omega, by dsimp only; omega⟩, fun w hw => ?_⟩
      have := Option.some.inj hw
      subst this
      exact ⟨by omega, rfl⟩
    · rw [if_neg c4]
      exact ih (u + 1) _ (by omega) (by unfold mxN; split <;> omega)
def okK (o : Option (Nat × Int × List Int)) : Int := match o with
  | none => 0
  | some _ => 1
theorem amt_mk {w : Nat} {n : Int} (h0 : 0 ≤ n) (h1 : n ≤ 99) (hw : w = 3 ∨ w = 4) : amt (mkC w n) = (if w = 3 then n else -n) ∧ mkC w n ≤ -10 ∧ -99 ≤ amt (mkC w n) ∧ amt (mkC w n) ≤ 99 ∧ (-109 ≤ mkC w n ∨ -299 ≤ mkC w n ∧ mkC w n ≤ -200) := by
  unfold mkC amt
  rcases hw with rfl | rfl
  · rw [if_pos rfl, if_pos rfl, if_pos (by omega)]; omega
  · rw [if_neg (show ¬ (4 : Nat) = 3 by decide), if_neg (show ¬ (4 : Nat) = 3 by decide)]
    by_cases c : n = 0
    · subst c; decide
    · rw [if_neg (by omega)]; omega
section CL
variable {d : Nat} {G : Gh} {mi mi' mi'' : Mi} {K : Option PV → Gh → Mi → Prop} {V Sg : Nat} {p t v a b c k n g q e i j op x r : Int} {h : Int → Int} {L : List Int} {u w : Nat} {cs : List (Nat × Int × List Int)}
theorem CI.mv (hCI : CI V cs mi) : CI V cs (up mi V 9 j) := by
  obtain ⟨⟨h1, h2, h3, h4, h5⟩, h6⟩ := hCI
  refine ⟨⟨by rw [up_k (by decide)]; exact h1, by rw [up_k (by decide)]; exact h2, by rw [up_k (by decide)]; exact h3, by rw [up_k (by decide)]; exact h4, by rw [up_k (by decide)]; exact h5⟩, ?_⟩
  rw [up_a (by omega), up_a (by omega), up_a (by omega)]
  exact h6
theorem CI.num (hCI : CI V cs mi) (hw : w = 0 ∧ x = cmx n ∨ w = 1 ∧ x = n ∨ w = 2 ∧ x = n) : CI V (cs ++ [(w, n, [])]) (up mi V w x) := by
  obtain ⟨⟨h1, h2, h3, h4, h5⟩, h6⟩ := hCI
  have hw3 : w < 3 := by omega
  have ec : condL (cs ++ [(w, n, [])]) = condL cs := by
    rw [condL_app]
    show condL cs ++ (if w < 3 then [] else _) = _
    rw [if_pos hw3, List.append_nil]
  have el : ∀ (w' : Nat) (d : Int), lastN w' d (cs ++ [(w, n, [])]) = if w = w' then n else lastN w' d cs := by
    intro w' d
    rw [lastN_app]
    rfl
  unfold CI
  rw [ec, el, el, el]
  refine ⟨?_, by rw [up_a (by omega), up_a (by omega), up_a (by omega)]; exact h6⟩
  rcases hw with ⟨rfl, rfl⟩ | ⟨rfl, rfl⟩ | ⟨rfl, rfl⟩
  · refine ⟨by rw [if_pos rfl]; exact up_s, ?_, ?_, ?_, ?_⟩
    · rw [if_neg (by decide), up_k (by decide)]; exact h2
    · rw [if_neg (by decide), up_k (by decide)]; exact h3
    · rw [up_k (by decide)]; exact h4
    · rw [up_k (by decide)]; exact h5
  · refine ⟨?_, by rw [if_pos rfl]; exact up_s, ?_, ?_, ?_⟩
    · rw [if_neg (by decide), up_k (by decide)]; exact h1
    · rw [if_neg (by decide), up_k (by decide)]; exact h3
    · rw [up_k (by decide)]; exact h4
    · rw [up_k (by decide)]; exact h5
  · refine ⟨?_, ?_, by rw [if_pos rfl]; exact up_s, ?_, ?_⟩
    · rw [if_neg (by decide), up_k (by decide)]; exact h1
    · rw [if_neg (by decide), up_k (by decide)]; exact h2
    · rw [up_k (by decide)]; exact h4
    · rw [up_k (by decide)]; exact h5
theorem CI.cond {mi2 : Mi} (hCI : CI V cs mi) (h4i : mi V 4 ≤ 100 - L.length) (hp : PoC V k (some L) mi mi') (hw : w = 3 ∨ w = 4) (hn0 : 0 ≤ n) (hn1 : n ≤ 99) (hx : x = if w = 3 then n else -n) (hL : wfO L 0)
    (hm : mi2 = up (up (up mi' (V + 2) (mi V 7) x) (V + 3) (mi V 7) (mi' V 4)) V 7 (mi V 7 + 1)) : CI V (cs ++ [(w, n, L)]) mi2 := by
  obtain ⟨⟨h1, h2, h3, h4, h5⟩, h6⟩ := hCI
  obtain ⟨p1, p2, p3, p4⟩ := hp
  obtain ⟨p5, p6, p7⟩ := p4 L rfl
  obtain ⟨q1, q2, q3, q4, -⟩ := amt_mk hn0 hn1 hw
  have hw3 : ¬ w < 3 := by omega
  have ec : condL (cs ++ [(w, n, L)]) = condL cs ++ [(L, mkC w n)] := by
    rw [condL_app]
    show condL cs ++ (if w < 3 then [] else (L, mkC w n) :: []) = _
    rw [if_neg hw3]
  have el : ∀ (w' : Nat) (d : Int), w' < 3 → lastN w' d (cs ++ [(w, n, L)]) = lastN w' d cs := by
    intro w' d hw'
    rw [lastN_app]
    show (if w = w' then n else _) = _
    rw [if_neg (by omega)]
  have eA : mi2 (V + 1) = mi' (V + 1) := by rw [hm, up_a (by omega), up_a (by omega), up_a (by omega)]
  have eB : mi2 (V + 2) = up mi' (V + 2) (mi V 7) x (V + 2) := by rw [hm, up_a (by omega), up_a (by omega)]
  have eE : mi2 (V + 3) = up (up mi' (V + 2) (mi V 7) x) (V + 3) (mi V 7) (mi' V 4) (V + 3) := by rw [hm, up_a (by omega)]
  have eV : ∀ q : Int, ¬ q = 7 → mi2 V q = mi' V q := fun q hq => by rw [hm, up_k hq, up_a (by omega), up_a (by omega)]
  have hb2 : mi' (V + 2) = mi (V + 2) := p1 _ (by simp)
  have hb3 : mi' (V + 3) = mi (V + 3) := p1 _ (by simp)
  have ht0 := totL_0 (condL cs)
  unfold CI
  rw [ec, el 0 8 (by decide), el 1 0 (by decide), el 2 0 (by decide)]
  refine ⟨⟨?_, ?_, ?_, ?_, ?_⟩, ?_⟩
  · rw [eV 0 (by decide), p2 0 (by decide) (by decide)]; exact h1
  · rw [eV 1 (by decide), p2 1 (by decide) (by decide)]; exact h2
  · rw [eV 2 (by decide), p2 2 (by decide) (by decide)]; exact h3
  · rw [hm, up_s, h4, List.length_append, List.length_singleton]; omega
  · rw [eV 4 (by decide), p5, h5, totL_app]
    simp only [totL]
    omega
  · refine CCr_snoc (condL cs) 0 0 (CCr_c (condL cs) 0 0 h6 (fun t t0 t1 => ?_) (fun q q0 q1 => ⟨?_, ?_⟩)) ?_
    · rw [eA]; exact p7 t t0 (by omega)
    · rw [eB, up_k (by omega), hb2]
    · rw [eE, up_k (by omega), up_a (by omega), hb3]
    · refine ⟨fun j hj => ?_, ?_, ?_, hL, ⟨q2, q3, q4⟩, ?_, trivial⟩
      · rw [eA]
        have := p6 j hj
        rw [h5, show totL (condL cs) + (j : Int) = 0 + totL (condL cs) + j by omega] at this
        exact this
      · rw [eE, show (0 : Int) + ((condL cs).length : Int) = mi V 7 by omega, up_s, p5]
        dsimp only
        omega
      · rw [eB, show (0 : Int) + ((condL cs).length : Int) = mi V 7 by omega, up_s, hx, q1]
      · dsimp only; omega
theorem c_clause (hV : ShV G V Sg e) (hS : SgF h e) (he : e ≤ 100) (hs : StC h V Sg e i mi) (hCI : CI V cs mi) (hcs : cs.length < 10) (h0 : 0 ≤ i) (hi : i ≤ e)
    (hK : ∀ mi', Sc [V, V + 1, V + 2, V + 3] mi mi' → mi' V 9 = (clF h i).1 → (∀ c, (clF h i).2 = some c → CI V (cs ++ [c]) mi' ∧ StC h V Sg e (clF h i).1 mi') → K (some (pI (okK (clF h i).2))) G mi') : OkC (d + 413) 119 [pR (some V)] G mi K := by
  obtain ⟨⟨kV, ⟨kA, lA⟩, ⟨kB, lB⟩, ⟨kE, lE⟩, v3, v5, v6⟩, v8, kSg, lSg, ⟨nS0, nS1, nS2, nS3⟩⟩ := id hV
  have kB' : 20 ≤ (gK G (V + 2)).1 := by omega
  have kE' : 20 ≤ (gK G (V + 3)).1 := by omega
  obtain ⟨⟨w1, w2⟩, w3⟩ := wdC_p hS hi 5 0 0 (by decide) (by omega)
  rw [← cl_eq] at hK
  rw [E119]
  simp (disch := first | assumption | exact isL_i | exact isL_r | exact isL_n | exact i01a | exact i01b | omega) only [K119_0, wr_id, td_e, tm_e, pu_n, pu_s, up_s, up_k, up_a, ↓reduceIte, Int.reduceLT, Int.reduceLE, Int.reduceEq, Int.reduceNeg, Int.reduceAdd, Int.reduceSub, Int.reduceMul, Int.reduceMod, Int.reduceDiv, Int.cast_ofNat_Int, not_true_eq_false, not_false_eq_true, Int.reduceTDiv, Int.reduceTMod]
  rw [K119_1 kV, c_word (d := d + 406) hV hS hs h0 (by omega)]
  unfold clC at hK
  rcases hwd : wdC h i 5 0 0 with ⟨j, _ | w⟩
  · rw [hwd] at hK w1 w2
    dsimp only at hK w1 w2 ⊢
    simp (disch := first | assumption | exact isL_i | exact isL_r | exact isL_n | exact i01a | exact i01b | omega) only [K119_4, K119_5, K119_6, K119_9, K119_10, K119_12, K119_15, K119_18, K119_19, wr_id, td_e, tm_e, pu_n, pu_s, up_s, up_k, up_a, ↓reduceIte, Int.reduceLT, Int.reduceLE, Int.reduceEq, Int.reduceNeg, Int.reduceAdd, Int.reduceSub, Int.reduceMul, Int.reduceMod, Int.reduceDiv, Int.cast_ofNat_Int, not_true_eq_false, not_false_eq_true, Int.reduceTDiv, Int.reduceTMod, pu_s, if_pos, if_neg]
    exact hK _ (sc_up (by simp)) up_s (fun c hc => by cases hc)
  · rw [hwd] at hK w1 w2 w3
    obtain ⟨w4, w5⟩ := w3 w rfl
    dsimp only at hK w1 w2 w5 ⊢
    have hs1 : StC h V Sg e j (up mi V 9 j) := hs.pp hV (by omega)
    have hCI1 : CI V cs (up mi V 9 j) := hCI.mv
    simp (disch := first | assumption | exact isL_i | exact isL_r | exact isL_n | exact i01a | exact i01b | omega) only [K119_4, K119_5, K119_6, K119_9, K119_10, wr_id, td_e, tm_e, pu_n, pu_s, up_s, up_k, up_a, ↓reduceIte, Int.reduceLT, Int.reduceLE, Int.reduceEq, Int.reduceNeg, Int.reduceAdd, Int.reduceSub, Int.reduceMul, Int.reduceMod, Int.reduceDiv, Int.cast_ofNat_Int, not_true_eq_false, not_false_eq_true, Int.reduceTDiv, Int.reduceTMod, pu_s, if_pos, if_neg]
    rw [K119_12 kV, c_take (d := d + 411) hV hS hs1 (by omega) (by omega)]
    by_cases c32 : h j = 32
    · rw [if_pos c32] at hK ⊢
      have hie := sg_lt (i := j) hS (by omega)
      rw [up_up]
      have hs2 : StC h V Sg e (j + 1) (up mi V 9 (j + 1)) := hs.pp hV (by omega)
      simp (disch := first | assumption | exact isL_i | exact isL_r | exact isL_n | exact i01a | exact i01b | omega) only [K119_15, K119_18, K119_19, K119_20, wr_id, td_e, tm_e, pu_n, pu_s, up_s, up_k, up_a, ↓reduceIte, Int.reduceLT, Int.reduceLE, Int.reduceEq, Int.reduceNeg, Int.reduceAdd, Int.reduceSub, Int.reduceMul, Int.reduceMod, Int.reduceDiv, Int.cast_ofNat_Int, not_true_eq_false, not_false_eq_true, Int.reduceTDiv, Int.reduceTMod, pu_s, if_pos, if_neg]
      rw [K119_21 kV, c_number (d := d + 411) hV hS hs2 (by omega) (by omega)]
      unfold nuF at hK
      have hp := nmF_p hS (show 0 ≤ j + 1 by omega) (show j + 1 ≤ e by omega)
      rcases hnm : nmF h (j + 1) with ⟨jn, _ | nn⟩
      · rw [hnm] at hK
        have ej := nm_none hnm
        dsimp only at hK ⊢
        simp (disch := first | assumption | exact isL_i | exact isL_r | exact isL_n | exact i01a | exact i01b | omega) only [K119_24, K119_25, K119_26, K119_29, K119_30, wr_id, td_e, tm_e, pu_n, pu_s, up_s, up_k, up_a, ↓reduceIte, Int.reduceLT, Int.reduceLE, Int.reduceEq, Int.reduceNeg, Int.reduceAdd, Int.reduceSub, Int.reduceMul, Int.reduceMod, Int.reduceDiv, Int.cast_ofNat_Int, not_true_eq_false, not_false_eq_true, Int.reduceTDiv, Int.reduceTMod, pu_s, if_pos, if_neg]
        exact hK _ (sc_up (by simp)) (by rw [up_s, ej]) (fun c hc => by cases hc)
      · rw [hnm] at hK hp
        obtain ⟨n1, n2, n3⟩ := hp.2 nn rfl
        dsimp only at hK hp n1 ⊢
        rw [up_up]
        have hs3 : StC h V Sg e jn (up mi V 9 jn) := hs.pp hV (by omega)
        have hCI3 : CI V cs (up mi V 9 jn) := hCI.mv
        have hst : ∀ (w : Nat) (x : Int), w < 3 → StC h V Sg e jn (up (up mi V 9 jn) V w x) := by
          intro w x hw
          obtain ⟨a1, a2, a3, a4⟩ := hs3
          exact ⟨by rw [up_k (by omega)]; exact a1, fun q q0 q1 => by rw [up_a nS0]; exact a2 q q0 q1, by rw [up_k (by omega)]; exact a3, by rw [up_k (by omega)]; exact a4⟩
        have hw5 : w = 0 ∨ w = 1 ∨ w = 2 ∨ w = 3 ∨ w = 4 := by omega
        by_cases hw3 : w < 3
        · rw [if_pos hw3] at hK
          rcases hw5 with rfl | rfl | rfl | hw | hw
          · have hx : (if (1 : Int) < nn then nn else 1) = cmx nn := by unfold cmx; split <;> split <;> omega
            by_cases c1 : 1 < nn
            · rw [if_pos c1] at hx
              simp (disch := first | assumption | exact isL_i | exact isL_r | exact isL_n | exact i01a | exact i01b | omega) only [K119_24, K119_25, K119_26, K119_29, K119_30, K119_31, K119_32, K119_60, K119_61, K119_62, K119_63, K119_66, K119_69, K119_70, wr_id, td_e, tm_e, pu_n, pu_s, up_s, up_k, up_a, ↓reduceIte, Int.reduceLT, Int.reduceLE, Int.reduceEq, Int.reduceNeg, Int.reduceAdd, Int.reduceSub, Int.reduceMul, Int.reduceMod, Int.reduceDiv, Int.cast_ofNat_Int, not_true_eq_false, not_false_eq_true, Int.reduceTDiv, Int.reduceTMod, pu_s, if_pos, if_neg, Int.natCast_zero]
              exact hK _ ((sc_up (by simp)).u (by simp)) (by rw [up_k (by decide), up_s]) (fun c hc => by
                have := Option.some.inj hc
                subst this
                exact ⟨hCI3.num (Or.inl ⟨rfl, hx⟩), hst 0 _ (by decide)⟩)
            · rw [if_neg c1] at hx
              by_cases c2 : nn = 1
              · subst c2
                simp (disch := first | assumption | exact isL_i | exact isL_r | exact isL_n | exact i01a | exact i01b | omega) only [K119_24, K119_25, K119_26, K119_29, K119_30, K119_31, K119_32, K119_60, K119_61, K119_62, K119_63, K119_66, K119_69, K119_70, wr_id, td_e, tm_e, pu_n, pu_s, up_s, up_k, up_a, ↓reduceIte, Int.reduceLT, Int.reduceLE, Int.reduceEq, Int.reduceNeg, Int.reduceAdd, Int.reduceSub, Int.reduceMul, Int.reduceMod, Int.reduceDiv, Int.cast_ofNat_Int, not_true_eq_false, not_false_eq_true, Int.reduceTDiv, Int.reduceTMod, pu_s, if_pos, if_neg, Int.natCast_zero]
                exact hK _ ((sc_up (by simp)).u (by simp)) (by rw [up_k (by decide), up_s]) (fun c hc => by
                  have := Option.some.inj hc
                  subst this
                  exact ⟨hCI3.num (Or.inl ⟨rfl, hx⟩), hst 0 _ (by decide)⟩)
              · simp (disch := first | assumption | exact isL_i | exact isL_r | exact isL_n | exact i01a | exact i01b | omega) only [K119_24, K119_25, K119_26, K119_29, K119_30, K119_31, K119_32, K119_60, K119_61, K119_62, K119_63, K119_66, K119_69, K119_70, wr_id, td_e, tm_e, pu_n, pu_s, up_s, up_k, up_a, ↓reduceIte, Int.reduceLT, Int.reduceLE, Int.reduceEq, Int.reduceNeg, Int.reduceAdd, Int.reduceSub, Int.reduceMul, Int.reduceMod, Int.reduceDiv, Int.cast_ofNat_Int, not_true_eq_false, not_false_eq_true, Int.reduceTDiv, Int.reduceTMod, pu_s, if_pos, if_neg, Int.natCast_zero]
                exact hK _ ((sc_up (by simp)).u (by simp)) (by rw [up_k (by decide), up_s]) (fun c hc => by
                  have := Option.some.inj hc
                  subst this
                  exact ⟨hCI3.num (Or.inl ⟨rfl, hx⟩), hst 0 _ (by decide)⟩)
          · simp (disch := first | assumption | exact isL_i | exact isL_r | exact isL_n | exact i01a | exact i01b | omega) only [K119_24, K119_25, K119_26, K119_29, K119_30, K119_31, K119_32, K119_71, K119_72, K119_73, K119_76, K119_77, wr_id, td_e, tm_e, pu_n, pu_s, up_s, up_k, up_a, ↓reduceIte, Int.reduceLT, Int.reduceLE, Int.reduceEq, Int.reduceNeg, Int.reduceAdd, Int.reduceSub, Int.reduceMul, Int.reduceMod, Int.reduceDiv, Int.cast_ofNat_Int, not_true_eq_false, not_false_eq_true, Int.reduceTDiv, Int.reduceTMod, pu_s, if_pos, if_neg]
            exact hK _ ((sc_up (by simp)).u (by simp)) (by rw [up_k (by decide), up_s]) (fun c hc => by
              have := Option.some.inj hc
              subst this
              exact ⟨hCI3.num (Or.inr (Or.inl ⟨rfl, rfl⟩)), hst 1 _ (by decide)⟩)
          · simp (disch := first | assumption | exact isL_i | exact isL_r | exact isL_n | exact i01a | exact i01b | omega) only [K119_24, K119_25, K119_26, K119_29, K119_30, K119_31, K119_32, K119_78, K119_79, K119_80, K119_83, K119_84, wr_id, td_e, tm_e, pu_n, pu_s, up_s, up_k, up_a, ↓reduceIte, Int.reduceLT, Int.reduceLE, Int.reduceEq, Int.reduceNeg, Int.reduceAdd, Int.reduceSub, Int.reduceMul, Int.reduceMod, Int.reduceDiv, Int.cast_ofNat_Int, not_true_eq_false, not_false_eq_true, Int.reduceTDiv, Int.reduceTMod, pu_s, if_pos, if_neg]
            exact hK _ ((sc_up (by simp)).u (by simp)) (by rw [up_k (by decide), up_s]) (fun c hc => by
              have := Option.some.inj hc
              subst this
              exact ⟨hCI3.num (Or.inr (Or.inr ⟨rfl, rfl⟩)), hst 2 _ (by decide)⟩)
          · omega
          · omega
        · rw [if_neg hw3] at hK
          have hw34 : w = 3 ∨ w = 4 := by omega
          have hwne : ¬ (w : Int) = 0 ∧ ¬ (w : Int) = 1 ∧ ¬ (w : Int) = 2 := by omega
          obtain ⟨y0, y1, y2⟩ := hwne
          simp (disch := first | assumption | exact isL_i | exact isL_r | exact isL_n | exact i01a | exact i01b | omega) only [K119_24, K119_25, K119_26, K119_29, K119_30, K119_31, K119_32, K119_85, K119_86, wr_id, td_e, tm_e, pu_n, pu_s, up_s, up_k, up_a, ↓reduceIte, Int.reduceLT, Int.reduceLE, Int.reduceEq, Int.reduceNeg, Int.reduceAdd, Int.reduceSub, Int.reduceMul, Int.reduceMod, Int.reduceDiv, Int.cast_ofNat_Int, not_true_eq_false, not_false_eq_true, Int.reduceTDiv, Int.reduceTMod, pu_s, if_pos, if_neg]
          rw [K119_88 kV, c_take (d := d + 411) hV hS hs3 (by omega) (by omega)]
          by_cases c33 : h jn = 32
          · rw [if_pos c33] at hK ⊢
            have hie2 := sg_lt (i := jn) hS (by omega)
            rw [up_up]
            have hs4 : StC h V Sg e (jn + 1) (up mi V 9 (jn + 1)) := hs.pp hV (by omega)
            have hCI4 : CI V cs (up mi V 9 (jn + 1)) := hCI.mv
            simp (disch := first | assumption | exact isL_i | exact isL_r | exact isL_n | exact i01a | exact i01b | omega) only [K119_91, K119_94, K119_95, K119_97, wr_id, td_e, tm_e, pu_n, pu_s, up_s, up_k, up_a, ↓reduceIte, Int.reduceLT, Int.reduceLE, Int.reduceEq, Int.reduceNeg, Int.reduceAdd, Int.reduceSub, Int.reduceMul, Int.reduceMod, Int.reduceDiv, Int.cast_ofNat_Int, not_true_eq_false, not_false_eq_true, Int.reduceTDiv, Int.reduceTMod, pu_s, if_pos, if_neg]
            rw [K119_98 kV]
            refine c_rd hV hS he 404 2 d 0 (jn + 1) 0 _ _ (by decide) (by omega) (by omega) (by decide) (by decide) (by simp only [fuM]; omega) (fun h3 => absurd h3 (by decide)) hs4 fun k o m5 hr hp5 => ?_
            obtain ⟨j', o', q1, q2, q3⟩ := rd_p hS 404 2 0 (jn + 1) (by decide) (by omega) (by omega) (by decide) (by decide) (by simp only [fuM]; omega)
            rw [hr] at q1
            obtain ⟨rfl, rfl⟩ := Prod.mk.inj (Option.some.inj q1)
            rw [hr] at hK
            cases o with
            | none =>
              dsimp only at hK
              simp (disch := first | assumption | exact isL_i | exact isL_r | exact isL_n | exact i01a | exact i01b | omega) only [K119_101, K119_104, K119_105, wr_id, td_e, tm_e, pu_n, pu_s, up_s, up_k, up_a, ↓reduceIte, Int.reduceLT, Int.reduceLE, Int.reduceEq, Int.reduceNeg, Int.reduceAdd, Int.reduceSub, Int.reduceMul, Int.reduceMod, Int.reduceDiv, Int.cast_ofNat_Int, not_true_eq_false, not_false_eq_true, Int.reduceTDiv, Int.reduceTMod, pu_s, okI, if_pos, if_neg]
              exact hK m5 ((sc_up (by simp)).tr (hp5.1.wk (by simp))) hp5.2.2.1 (fun c hc => by cases hc)
            | some L =>
              dsimp only at hK
              obtain ⟨l1, l2, l3⟩ := q3 L rfl
              have l2 := l2 (by decide)
              have hwO : wfO L 0 := by
                have := (l3 0).1 (by decide) (by decide) [] rfl
                rw [List.append_nil] at this
                exact this
              obtain ⟨p1, p2, p3, p4⟩ := id hp5
              obtain ⟨p5, p6, p7⟩ := p4 L rfl
              have e47 : m5 V 7 = mi V 7 := by rw [p2 7 (by decide) (by decide), up_k (by decide)]
              have hcl : mi V 7 = (condL cs).length := hCI.1.2.2.2.1
              have hcl2 := condL_len cs
              have h44 := hs.2.2
              rw [up_k (by decide)] at p5
              have hfin : ∀ x, x = (if w = 3 then nn else -nn) → CI V (cs ++ [(w, nn, L)]) (up (up (up m5 (V + 2) (mi V 7) x) (V + 3) (mi V 7) (m5 V 4)) V 7 (mi V 7 + 1)) := by
                intro x hx
                refine CI.cond (mi := up mi V 9 (jn + 1)) (mi' := m5) (k := k) hCI4 ?_ hp5 hw34 n2 n3 hx hwO ?_
                · rw [up_k (by decide)]; omega
                · rw [up_k (by decide)]
              have hstf : ∀ x, StC h V Sg e k (up (up (up m5 (V + 2) (mi V 7) x) (V + 3) (mi V 7) (m5 V 4)) V 7 (mi V 7 + 1)) := by
                intro x
                refine ⟨by rw [up_k (by decide), up_a (by omega), up_a (by omega)]; exact p3, fun q q0 q1 => ?_, by rw [up_k (by decide), up_a (by omega), up_a (by omega)]; omega, by rw [up_k (by decide), up_a (by omega), up_a (by omega)]; omega⟩
                rw [up_a nS0, up_a nS3, up_a nS2, p1 Sg (by simp only [List.mem_cons, List.not_mem_nil, or_false, not_or]; exact ⟨nS0, nS1⟩), up_a nS0]
                exact hs.2.1 q q0 q1
              have hscf : ∀ x, Sc [V, V + 1, V + 2, V + 3] mi (up (up (up m5 (V + 2) (mi V 7) x) (V + 3) (mi V 7) (m5 V 4)) V 7 (mi V 7 + 1)) := fun x => ((((sc_up (by simp)).tr (p1.wk (by simp))).u (by simp)).u (by simp)).u (by simp)
              have hatf : ∀ x, up (up (up m5 (V + 2) (mi V 7) x) (V + 3) (mi V 7) (m5 V 4)) V 7 (mi V 7 + 1) V 9 = k := fun x => (hstf x).1
              have hkc : ∀ (x : Int) (K' : Option PV → Gh → Mi → Prop), OkC (d + 412) 130 [pR (some V), pI x] G m5 K' = K' none G (up (up (up m5 (V + 2) (mi V 7) x) (V + 3) (mi V 7) (m5 V 4)) V 7 (mi V 7 + 1)) := by
                intro x K'
                rw [E130]
                simp (disch := first | assumption | exact isL_i | exact isL_r | exact isL_n | exact i01a | exact i01b | omega | (simp (disch := decide) only [up_a, up_s, up_k]; first | assumption | omega)) only [K130_0, K130_1, K130_4, K130_5, K130_8, K130_11, K130_14, K130_15, K130_18, K130_19, K130_22, K130_25, K130_28, K130_29, K130_32, K130_33, K130_36, K130_37, K130_38, K130_39, K130_42, K130_43, K130_46, K130_47, K130_50, K130_51, K130_52, K130_52i, K130_53, K130_56, K130_57, K130_58, K130_61, wr_id, td_e, tm_e, pu_n, pu_s, up_s, up_k, up_a, ↓reduceIte, Int.reduceLT, Int.reduceLE, Int.reduceEq, Int.reduceNeg, Int.reduceAdd, Int.reduceSub, Int.reduceMul, Int.reduceMod, Int.reduceDiv, Int.cast_ofNat_Int, not_true_eq_false, not_false_eq_true, Int.reduceTDiv, Int.reduceTMod, v5, v6, c_isIn, lB, lE, e47, if_pos, if_neg]
              have hKf : ∀ x, x = (if w = 3 then nn else -nn) → K (some (pI 1)) G (up (up (up m5 (V + 2) (mi V 7) x) (V + 3) (mi V 7) (m5 V 4)) V 7 (mi V 7 + 1)) := fun x hx => hK _ (hscf x) (hatf x) (fun c hc => by
                have := Option.some.inj hc
                subst this
                exact ⟨hfin x hx, hstf x⟩)
              rcases hw34 with rfl | rfl
              · have hKf := hKf nn (by rw [if_pos rfl])
                have e3 : ((3 : Nat) : Int) = 3 := rfl
                simp (disch := first | assumption | exact isL_i | exact isL_r | exact isL_n | exact i01a | exact i01b | omega) only [K119_101, K119_104, K119_105, K119_106, K119_107, K119_108, K119_109, K119_112, K119_113, wr_id, td_e, tm_e, pu_n, pu_s, up_s, up_k, up_a, ↓reduceIte, Int.reduceLT, Int.reduceLE, Int.reduceEq, Int.reduceNeg, Int.reduceAdd, Int.reduceSub, Int.reduceMul, Int.reduceMod, Int.reduceDiv, Int.cast_ofNat_Int, not_true_eq_false, not_false_eq_true, Int.reduceTDiv, Int.reduceTMod, pu_s, okI, e3, if_pos, if_neg]
                rw [K119_118 kV, hkc]
                simp (disch := first | assumption | exact isL_i | exact isL_r | exact isL_n | exact i01a | exact i01b | omega) only [K119_121, K119_122, wr_id, td_e, tm_e, pu_n, pu_s, up_s, up_k, up_a, ↓reduceIte, Int.reduceLT, Int.reduceLE, Int.reduceEq, Int.reduceNeg, Int.reduceAdd, Int.reduceSub, Int.reduceMul, Int.reduceMod, Int.reduceDiv, Int.cast_ofNat_Int, not_true_eq_false, not_false_eq_true, Int.reduceTDiv, Int.reduceTMod, pu_n]
                exact hKf
              · have hKf := hKf (-nn) (by rw [if_neg (by decide)])
                have e4 : ((4 : Nat) : Int) = 4 := rfl
                simp (disch := first | assumption | exact isL_i | exact isL_r | exact isL_n | exact i01a | exact i01b | omega) only [K119_101, K119_104, K119_105, K119_106, K119_107, K119_108, K119_109, K119_116, K119_117, wr_id, td_e, tm_e, pu_n, pu_s, up_s, up_k, up_a, ↓reduceIte, Int.reduceLT, Int.reduceLE, Int.reduceEq, Int.reduceNeg, Int.reduceAdd, Int.reduceSub, Int.reduceMul, Int.reduceMod, Int.reduceDiv, Int.cast_ofNat_Int, not_true_eq_false, not_false_eq_true, Int.reduceTDiv, Int.reduceTMod, pu_s, okI, e4, if_pos, if_neg]
                rw [K119_118 kV, hkc]
                simp (disch := first | assumption | exact isL_i | exact isL_r | exact isL_n | exact i01a | exact i01b | omega) only [K119_121, K119_122, wr_id, td_e, tm_e, pu_n, pu_s, up_s, up_k, up_a, ↓reduceIte, Int.reduceLT, Int.reduceLE, Int.reduceEq, Int.reduceNeg, Int.reduceAdd, Int.reduceSub, Int.reduceMul, Int.reduceMod, Int.reduceDiv, Int.cast_ofNat_Int, not_true_eq_false, not_false_eq_true, Int.reduceTDiv, Int.reduceTMod, pu_n]
                exact hKf
          · rw [if_neg c33] at hK ⊢
            simp (disch := first | assumption | exact isL_i | exact isL_r | exact isL_n | exact i01a | exact i01b | omega) only [K119_91, K119_104, K119_105, wr_id, td_e, tm_e, pu_n, pu_s, up_s, up_k, up_a, ↓reduceIte, Int.reduceLT, Int.reduceLE, Int.reduceEq, Int.reduceNeg, Int.reduceAdd, Int.reduceSub, Int.reduceMul, Int.reduceMod, Int.reduceDiv, Int.cast_ofNat_Int, not_true_eq_false, not_false_eq_true, Int.reduceTDiv, Int.reduceTMod, pu_s, if_pos, if_neg]
            exact hK _ (sc_up (by simp)) up_s (fun c hc => by cases hc)
    · rw [if_neg c32] at hK ⊢
      simp (disch := first | assumption | exact isL_i | exact isL_r | exact isL_n | exact i01a | exact i01b | omega) only [K119_15, K119_18, K119_19, wr_id, td_e, tm_e, pu_n, pu_s, up_s, up_k, up_a, ↓reduceIte, Int.reduceLT, Int.reduceLE, Int.reduceEq, Int.reduceNeg, Int.reduceAdd, Int.reduceSub, Int.reduceMul, Int.reduceMod, Int.reduceDiv, Int.cast_ofNat_Int, not_true_eq_false, not_false_eq_true, Int.reduceTDiv, Int.reduceTMod, pu_s, if_pos, if_neg]
      exact hK _ (sc_up (by simp)) up_s (fun c hc => by cases hc)
end CL
