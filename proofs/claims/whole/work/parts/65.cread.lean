/-! ===== the class reads a condition ===== -/
def ShV (G : Gh) (V Sg : Nat) (e : Int) : Prop := VwS G V ∧ gR G V 8 = some Sg ∧ (gK G Sg).1 = 20 ∧ (gK G Sg).2 = e ∧ (¬ Sg = V ∧ ¬ Sg = V + 1 ∧ ¬ Sg = V + 2 ∧ ¬ Sg = V + 3)
-- #def VG obtain ⟨⟨kV, ⟨kA, lA⟩, ⟨kB, lB⟩, ⟨kE, lE⟩, v3, v5, v6⟩, v8, kSg, lSg, ⟨nS0, nS1, nS2, nS3⟩⟩ := id hV
-- #def VF (by omega : 20 ≤ (gK G (V + 1)).1)
def StC (h : Int → Int) (V Sg : Nat) (e i : Int) (mi : Mi) : Prop := mi V 9 = i ∧ (∀ j : Int, 0 ≤ j → j < e → mi Sg j = h j) ∧ 0 ≤ mi V 4 ∧ mi V 4 ≤ i
def PoC (V : Nat) (j : Int) (o : Option (List Int)) (mi mi' : Mi) : Prop :=
  Sc [V, V + 1] mi mi' ∧ (∀ k : Int, ¬ k = 4 → ¬ k = 9 → mi' V k = mi V k) ∧ mi' V 9 = j ∧
  ∀ L, o = some L → mi' V 4 = mi V 4 + L.length ∧ (∀ t : Nat, t < L.length → mi' (V + 1) (mi V 4 + t) = cvS (L.getD t 0)) ∧ (∀ t : Int, 0 ≤ t → t < mi V 4 → mi' (V + 1) t = mi (V + 1) t)
def okI (o : Option (List Int)) : Int := match o with
  | none => 0
  | some _ => 1
section CL
variable {d : Nat} {G : Gh} {mi mi' mi'' : Mi} {K : Option PV → Gh → Mi → Prop} {V Sg : Nat} {p t v w a b c k n g q e i j op x r : Int} {h : Int → Int} {L : List Int} {o : Option (List Int)}
theorem gD_a {L M : List Int} {t : Nat} : (L ++ M).getD t 0 = if t < L.length then L.getD t 0 else M.getD (t - L.length) 0 := by
  rw [List.getD_eq_getElem?_getD]
  by_cases h : t < L.length
  · rw [if_pos h, List.getElem?_append_left h, List.getD_eq_getElem?_getD]
  · rw [if_neg h, List.getElem?_append_right (by omega), List.getD_eq_getElem?_getD]
theorem StC.nx (hV : ShV G V Sg e) (hs : StC h V Sg e i mi) (hp : PoC V j (some L) mi mi') (hL : i + L.length ≤ j) : StC h V Sg e j mi' := by
  obtain ⟨⟨kV, ⟨kA, lA⟩, ⟨kB, lB⟩, ⟨kE, lE⟩, v3, v5, v6⟩, v8, kSg, lSg, ⟨nS0, nS1, nS2, nS3⟩⟩ := id hV
  obtain ⟨h9, hh, h4, h4'⟩ := hs
  obtain ⟨p1, p2, p3, p4⟩ := hp
  obtain ⟨p5, p6, p7⟩ := p4 L rfl
  refine ⟨p3, fun q q0 q1 => ?_, by omega, by omega⟩
  rw [p1 Sg (by simp only [List.mem_cons, List.not_mem_nil, or_false, not_or]; exact ⟨nS0, nS1⟩)]
  exact hh q q0 q1
theorem PoC.trN (hp : PoC V j o mi mi') (hq : PoC V k none mi' mi'') : PoC V k none mi mi'' := by
  obtain ⟨p1, p2, p3, p4⟩ := hp
  obtain ⟨q1, q2, q3, q4⟩ := hq
  exact ⟨p1.tr q1, fun x a b => (q2 x a b).trans (p2 x a b), q3, fun L hL => by cases hL⟩
theorem PoC.trS {M : List Int} (h4 : 0 ≤ mi V 4) (hp : PoC V j (some L) mi mi') (hq : PoC V k (some M) mi' mi'') : PoC V k (some (L ++ M)) mi mi'' := by
  obtain ⟨p1, p2, p3, p4⟩ := hp
  obtain ⟨q1, q2, q3, q4⟩ := hq
  obtain ⟨p5, p6, p7⟩ := p4 L rfl
  obtain ⟨q5, q6, q7⟩ := q4 M rfl
  refine ⟨p1.tr q1, fun x a b => (q2 x a b).trans (p2 x a b), q3, fun L' hL' => ?_⟩
  have := Option.some.inj hL'
  subst this
  refine ⟨by rw [q5, p5, List.length_append]; omega, fun t ht => ?_, fun t t0 t1 => ?_⟩
  · rw [List.length_append] at ht
    rw [gD_a]
    by_cases c : t < L.length
    · rw [if_pos c, q7 _ (by omega) (by omega)]
      exact p6 t c
    · rw [if_neg c]
      have := q6 (t - L.length) (by omega)
      rw [p5, show mi V 4 + (L.length : Int) + ((t - L.length : Nat) : Int) = mi V 4 + t by omega] at this
      exact this
  · rw [q7 t t0 (by omega)]
    exact p7 t t0 t1
theorem PoC.rf (hs : StC h V Sg e i mi) : PoC V i (some []) mi mi := ⟨Sc.rf, fun _ _ _ => rfl, hs.1, fun L hL => by
  have := Option.some.inj hL
  subst this
  exact ⟨by simp, fun t ht => absurd ht (Nat.not_lt_zero t), fun _ _ _ => rfl⟩⟩
theorem PoC.bad (hs : StC h V Sg e i mi) : PoC V i none mi mi := ⟨Sc.rf, fun _ _ _ => rfl, hs.1, fun L hL => by cases hL⟩
theorem StC.pp (hV : ShV G V Sg e) (hs : StC h V Sg e i mi) (hj : i ≤ j) : StC h V Sg e j (up mi V 9 j) := by
  obtain ⟨⟨kV, ⟨kA, lA⟩, ⟨kB, lB⟩, ⟨kE, lE⟩, v3, v5, v6⟩, v8, kSg, lSg, ⟨nS0, nS1, nS2, nS3⟩⟩ := id hV
  obtain ⟨h9, hh, h4, h4'⟩ := hs
  exact ⟨up_s, fun q q0 q1 => by rw [up_a nS0]; exact hh q q0 q1, by rw [up_k (by decide)]; exact h4, by rw [up_k (by decide)]; omega⟩
theorem PoC.pp (hp : PoC V k o (up mi V 9 j) mi') : PoC V k o mi mi' := by
  obtain ⟨p1, p2, p3, p4⟩ := hp
  refine ⟨(sc_up (by simp)).tr p1, fun q a b => by rw [p2 q a b, up_k b], p3, fun L hL => ?_⟩
  obtain ⟨p5, p6, p7⟩ := p4 L hL
  rw [up_k (by decide)] at p5 p6 p7
  refine ⟨p5, p6, fun t t0 t1 => ?_⟩
  rw [p7 t t0 t1, up_a (by omega)]
theorem PoC.mv (hp : PoC V k (some L) mi mi') : PoC V j (some L) mi (up mi' V 9 j) := by
  obtain ⟨p1, p2, p3, p4⟩ := hp
  refine ⟨p1.u (by simp), fun q a b => by rw [up_k b]; exact p2 q a b, up_s, fun L' hL => ?_⟩
  obtain ⟨p5, p6, p7⟩ := p4 L' hL
  refine ⟨by rw [up_k (by decide)]; exact p5, fun t ht => by rw [up_a (by omega)]; exact p6 t ht, fun t t0 t1 => by rw [up_a (by omega)]; exact p7 t t0 t1⟩
theorem c_next (hV : ShV G V Sg e) (hS : SgF h e) (hs : StC h V Sg e i mi) (h0 : 0 ≤ i) : OkC d 128 [pR (some V)] G mi K = K (some (pI (h i))) G mi := by
  obtain ⟨⟨kV, ⟨kA, lA⟩, ⟨kB, lB⟩, ⟨kE, lE⟩, v3, v5, v6⟩, v8, kSg, lSg, ⟨nS0, nS1, nS2, nS3⟩⟩ := id hV
  obtain ⟨h9, hh, h4, h4'⟩ := hs
  have k20 : 20 ≤ (gK G Sg).1 := by omega
  rw [E128]
  by_cases c : i < e
  · have e1 := hh i h0 c
    simp (disch := first | assumption | exact isL_i | exact isL_r | exact isL_n | exact i01a | exact i01b | omega) only [K128_0, K128_1, K128_4, K128_7, K128_8, K128_11, K128_12, K128_15, K128_16, K128_19, K128_20, K128_23, K128_24, K128_27, K128_28, K128_31, K128_32, wr_id, td_e, tm_e, pu_n, pu_s, up_s, up_k, up_a, ↓reduceIte, Int.reduceLT, Int.reduceLE, Int.reduceEq, Int.reduceNeg, Int.reduceAdd, Int.reduceSub, Int.reduceMul, Int.reduceMod, Int.reduceDiv, Int.cast_ofNat_Int, not_true_eq_false, not_false_eq_true, Int.reduceTDiv, Int.reduceTMod, h9, v8, lSg, e1, if_pos, if_neg]
  · rw [hS.2 i (by omega)]
    simp (disch := first | assumption | exact isL_i | exact isL_r | exact isL_n | exact i01a | exact i01b | omega) only [K128_0, K128_1, K128_4, K128_7, K128_8, K128_11, K128_12, K128_15, K128_16, K128_19, K128_20, K128_23, K128_24, K128_27, K128_28, K128_31, K128_32, wr_id, td_e, tm_e, pu_n, pu_s, up_s, up_k, up_a, ↓reduceIte, Int.reduceLT, Int.reduceLE, Int.reduceEq, Int.reduceNeg, Int.reduceAdd, Int.reduceSub, Int.reduceMul, Int.reduceMod, Int.reduceDiv, Int.cast_ofNat_Int, not_true_eq_false, not_false_eq_true, Int.reduceTDiv, Int.reduceTMod, h9, v8, lSg, if_pos, if_neg]
theorem c_take (hV : ShV G V Sg e) (hS : SgF h e) (hs : StC h V Sg e i mi) (h0 : 0 ≤ i) (hi : i ≤ 1000) : OkC (d + 1) 127 [pR (some V), pI c] G mi K = if h i = c then K (some (pI 1)) G (up mi V 9 (i + 1)) else K (some (pI 0)) G mi := by
  obtain ⟨⟨kV, ⟨kA, lA⟩, ⟨kB, lB⟩, ⟨kE, lE⟩, v3, v5, v6⟩, v8, kSg, lSg, ⟨nS0, nS1, nS2, nS3⟩⟩ := id hV
  have h9 := hs.1
  rw [E127]
  by_cases cc : h i = c
  · rw [if_pos cc]
    simp (disch := first | assumption | exact isL_i | exact isL_r | exact isL_n | exact i01a | exact i01b | omega) only [K127_0, wr_id, td_e, tm_e, pu_n, pu_s, up_s, up_k, up_a, ↓reduceIte, Int.reduceLT, Int.reduceLE, Int.reduceEq, Int.reduceNeg, Int.reduceAdd, Int.reduceSub, Int.reduceMul, Int.reduceMod, Int.reduceDiv, Int.cast_ofNat_Int, not_true_eq_false, not_false_eq_true, Int.reduceTDiv, Int.reduceTMod]
    rw [K127_1 kV, c_next hV hS hs h0]
    simp (disch := first | assumption | exact isL_i | exact isL_r | exact isL_n | exact i01a | exact i01b | omega) only [K127_4, K127_5, K127_8, K127_9, K127_12, K127_13, K127_14, K127_15, K127_18, K127_19, K127_19i, K127_20, K127_23, K127_24, K127_25, K127_28, K127_29, wr_id, td_e, tm_e, pu_n, pu_s, up_s, up_k, up_a, ↓reduceIte, Int.reduceLT, Int.reduceLE, Int.reduceEq, Int.reduceNeg, Int.reduceAdd, Int.reduceSub, Int.reduceMul, Int.reduceMod, Int.reduceDiv, Int.cast_ofNat_Int, not_true_eq_false, not_false_eq_true, Int.reduceTDiv, Int.reduceTMod, h9, if_pos, if_neg]
  · rw [if_neg cc]
    simp (disch := first | assumption | exact isL_i | exact isL_r | exact isL_n | exact i01a | exact i01b | omega) only [K127_0, wr_id, td_e, tm_e, pu_n, pu_s, up_s, up_k, up_a, ↓reduceIte, Int.reduceLT, Int.reduceLE, Int.reduceEq, Int.reduceNeg, Int.reduceAdd, Int.reduceSub, Int.reduceMul, Int.reduceMod, Int.reduceDiv, Int.cast_ofNat_Int, not_true_eq_false, not_false_eq_true, Int.reduceTDiv, Int.reduceTMod]
    rw [K127_1 kV, c_next hV hS hs h0]
    simp (disch := first | assumption | exact isL_i | exact isL_r | exact isL_n | exact i01a | exact i01b | omega) only [K127_4, K127_5, K127_8, K127_9, K127_12, K127_13, K127_14, K127_15, K127_18, K127_19, K127_19i, K127_20, K127_23, K127_24, K127_25, K127_28, K127_29, wr_id, td_e, tm_e, pu_n, pu_s, up_s, up_k, up_a, ↓reduceIte, Int.reduceLT, Int.reduceLE, Int.reduceEq, Int.reduceNeg, Int.reduceAdd, Int.reduceSub, Int.reduceMul, Int.reduceMod, Int.reduceDiv, Int.cast_ofNat_Int, not_true_eq_false, not_false_eq_true, Int.reduceTDiv, Int.reduceTMod, h9, if_pos, if_neg]
theorem c_number (hV : ShV G V Sg e) (hS : SgF h e) (hs : StC h V Sg e i mi) (h0 : 0 ≤ i) (hi : i ≤ 1000) : OkC (d + 1) 122 [pR (some V)] G mi K = match (nmF h i).2 with
    | none => K (some (pI (-1))) G mi
    | some n => K (some (pI n)) G (up mi V 9 (nmF h i).1) := by
  obtain ⟨⟨kV, ⟨kA, lA⟩, ⟨kB, lB⟩, ⟨kE, lE⟩, v3, v5, v6⟩, v8, kSg, lSg, ⟨nS0, nS1, nS2, nS3⟩⟩ := id hV
  have h9 := hs.1
  have hb : ∀ k, 0 ≤ k → -1 ≤ h k ∧ h k ≤ 127 := fun k k0 => by
    by_cases c : k < e
    · have := hS.1 k k0 c; omega
    · have := hS.2 k (by omega); omega
  have hb1 := hb i h0
  have hb2 := hb (i + 1) (by omega)
  have hs1 : StC h V Sg e (i + 1) (up mi V 9 (i + 1)) := hs.pp hV (by omega)
  rw [E122]
  unfold nmF
  by_cases cc : 48 ≤ h i ∧ h i ≤ 57
  · rw [if_pos cc]
    simp (disch := first | assumption | exact isL_i | exact isL_r | exact isL_n | exact i01a | exact i01b | omega) only [K122_0, wr_id, td_e, tm_e, pu_n, pu_s, up_s, up_k, up_a, ↓reduceIte, Int.reduceLT, Int.reduceLE, Int.reduceEq, Int.reduceNeg, Int.reduceAdd, Int.reduceSub, Int.reduceMul, Int.reduceMod, Int.reduceDiv, Int.cast_ofNat_Int, not_true_eq_false, not_false_eq_true, Int.reduceTDiv, Int.reduceTMod]
    rw [K122_1 kV, c_next hV hS hs h0]
    simp (disch := first | assumption | exact isL_i | exact isL_r | exact isL_n | exact i01a | exact i01b | omega) only [K122_4, K122_6, K122_7, K122_8, K122_9, K122_12, K122_13, K122_15, K122_18, K122_19, K122_20, K122_21, K122_21i, K122_22, K122_25, K122_26, K122_27, K122_30, wr_id, td_e, tm_e, pu_n, pu_s, up_s, up_k, up_a, ↓reduceIte, Int.reduceLT, Int.reduceLE, Int.reduceEq, Int.reduceNeg, Int.reduceAdd, Int.reduceSub, Int.reduceMul, Int.reduceMod, Int.reduceDiv, Int.cast_ofNat_Int, not_true_eq_false, not_false_eq_true, Int.reduceTDiv, Int.reduceTMod, h9, if_pos, if_neg]
    rw [K122_31 kV, c_next hV hS hs1 (by omega)]
    by_cases c2 : ¬ h i = 48 ∧ (48 ≤ h (i + 1) ∧ h (i + 1) ≤ 57)
    · rw [if_pos c2]
      obtain ⟨c3, c4⟩ := c2
      have en : (h i - 48) * 10 + (h (i + 1) - 48) = 10 * (h i - 48) + (h (i + 1) - 48) := by omega
      simp (disch := first | assumption | exact isL_i | exact isL_r | exact isL_n | exact i01a | exact i01b | omega) only [K122_34, K122_36, K122_37, K122_38, K122_39, K122_42, K122_43, K122_46, K122_47, K122_49, K122_52, K122_53, K122_54, K122_55, K122_55i, K122_56, K122_59, K122_60, K122_61, K122_64, K122_65, K122_67, K122_68, K122_69, K122_70, wr_id, td_e, tm_e, pu_n, pu_s, up_s, up_k, up_a, ↓reduceIte, Int.reduceLT, Int.reduceLE, Int.reduceEq, Int.reduceNeg, Int.reduceAdd, Int.reduceSub, Int.reduceMul, Int.reduceMod, Int.reduceDiv, Int.cast_ofNat_Int, not_true_eq_false, not_false_eq_true, Int.reduceTDiv, Int.reduceTMod, up_up, Int.add_assoc, en, if_pos, if_neg]
    · rw [if_neg c2]
      by_cases c3 : h i = 48
      · simp (disch := first | assumption | exact isL_i | exact isL_r | exact isL_n | exact i01a | exact i01b | omega) only [K122_34, K122_36, K122_37, K122_38, K122_39, K122_42, K122_43, K122_46, K122_47, K122_49, K122_52, K122_53, K122_54, K122_55, K122_55i, K122_56, K122_59, K122_60, K122_61, K122_64, K122_65, K122_67, K122_68, K122_69, K122_70, wr_id, td_e, tm_e, pu_n, pu_s, up_s, up_k, up_a, ↓reduceIte, Int.reduceLT, Int.reduceLE, Int.reduceEq, Int.reduceNeg, Int.reduceAdd, Int.reduceSub, Int.reduceMul, Int.reduceMod, Int.reduceDiv, Int.cast_ofNat_Int, not_true_eq_false, not_false_eq_true, Int.reduceTDiv, Int.reduceTMod, c3, if_pos, if_neg]
      · by_cases c4 : 48 ≤ h (i + 1)
        · have c5 : ¬ h (i + 1) ≤ 57 := fun c => c2 ⟨c3, c4, c⟩
          simp (disch := first | assumption | exact isL_i | exact isL_r | exact isL_n | exact i01a | exact i01b | omega) only [K122_34, K122_36, K122_37, K122_38, K122_39, K122_42, K122_43, K122_46, K122_47, K122_49, K122_52, K122_53, K122_54, K122_55, K122_55i, K122_56, K122_59, K122_60, K122_61, K122_64, K122_65, K122_67, K122_68, K122_69, K122_70, wr_id, td_e, tm_e, pu_n, pu_s, up_s, up_k, up_a, ↓reduceIte, Int.reduceLT, Int.reduceLE, Int.reduceEq, Int.reduceNeg, Int.reduceAdd, Int.reduceSub, Int.reduceMul, Int.reduceMod, Int.reduceDiv, Int.cast_ofNat_Int, not_true_eq_false, not_false_eq_true, Int.reduceTDiv, Int.reduceTMod, if_pos, if_neg]
        · simp (disch := first | assumption | exact isL_i | exact isL_r | exact isL_n | exact i01a | exact i01b | omega) only [K122_34, K122_36, K122_37, K122_38, K122_39, K122_42, K122_43, K122_46, K122_47, K122_49, K122_52, K122_53, K122_54, K122_55, K122_55i, K122_56, K122_59, K122_60, K122_61, K122_64, K122_65, K122_67, K122_68, K122_69, K122_70, wr_id, td_e, tm_e, pu_n, pu_s, up_s, up_k, up_a, ↓reduceIte, Int.reduceLT, Int.reduceLE, Int.reduceEq, Int.reduceNeg, Int.reduceAdd, Int.reduceSub, Int.reduceMul, Int.reduceMod, Int.reduceDiv, Int.cast_ofNat_Int, not_true_eq_false, not_false_eq_true, Int.reduceTDiv, Int.reduceTMod, if_pos, if_neg]
  · rw [if_neg cc]
    simp (disch := first | assumption | exact isL_i | exact isL_r | exact isL_n | exact i01a | exact i01b | omega) only [K122_0, wr_id, td_e, tm_e, pu_n, pu_s, up_s, up_k, up_a, ↓reduceIte, Int.reduceLT, Int.reduceLE, Int.reduceEq, Int.reduceNeg, Int.reduceAdd, Int.reduceSub, Int.reduceMul, Int.reduceMod, Int.reduceDiv, Int.cast_ofNat_Int, not_true_eq_false, not_false_eq_true, Int.reduceTDiv, Int.reduceTMod]
    rw [K122_1 kV, c_next hV hS hs h0]
    by_cases c4 : 48 ≤ h i
    · simp (disch := first | assumption | exact isL_i | exact isL_r | exact isL_n | exact i01a | exact i01b | omega) only [K122_4, K122_6, K122_7, K122_8, K122_9, K122_12, K122_13, K122_15, K122_18, K122_19, wr_id, td_e, tm_e, pu_n, pu_s, up_s, up_k, up_a, ↓reduceIte, Int.reduceLT, Int.reduceLE, Int.reduceEq, Int.reduceNeg, Int.reduceAdd, Int.reduceSub, Int.reduceMul, Int.reduceMod, Int.reduceDiv, Int.cast_ofNat_Int, not_true_eq_false, not_false_eq_true, Int.reduceTDiv, Int.reduceTMod, if_pos, if_neg]
    · simp (disch := first | assumption | exact isL_i | exact isL_r | exact isL_n | exact i01a | exact i01b | omega) only [K122_4, K122_6, K122_7, K122_8, K122_9, K122_12, K122_13, K122_15, K122_18, K122_19, wr_id, td_e, tm_e, pu_n, pu_s, up_s, up_k, up_a, ↓reduceIte, Int.reduceLT, Int.reduceLE, Int.reduceEq, Int.reduceNeg, Int.reduceAdd, Int.reduceSub, Int.reduceMul, Int.reduceMod, Int.reduceDiv, Int.cast_ofNat_Int, not_true_eq_false, not_false_eq_true, Int.reduceTDiv, Int.reduceTMod, if_pos, if_neg]
theorem c_place (hV : ShV G V Sg e) (hS : SgF h e) (hs : StC h V Sg e i mi) (h0 : 0 ≤ i) (hi : i ≤ 1000) {u : Nat} (hu : u < 8) : OkC (d + 5) 126 [pR (some V), pE (2 * u + 1)] G mi K = if h i = -1 ∨ idxF (sBytes u) (h i) (sBytes u).length 0 < 0 then K (some (pI (if h i = -1 then -1 else idxF (sBytes u) (h i) (sBytes u).length 0))) G mi else K (some (pI (idxF (sBytes u) (h i) (sBytes u).length 0))) G (up mi V 9 (i + 1)) := by
  obtain ⟨⟨kV, ⟨kA, lA⟩, ⟨kB, lB⟩, ⟨kE, lE⟩, v3, v5, v6⟩, v8, kSg, lSg, ⟨nS0, nS1, nS2, nS3⟩⟩ := id hV
  have h9 := hs.1
  have hr := x_rcv (G := G) hu
  rw [E126]
  simp (disch := first | assumption | exact isL_i | exact isL_r | exact isL_n | exact i01a | exact i01b | omega) only [K126_0, wr_id, td_e, tm_e, pu_n, pu_s, up_s, up_k, up_a, ↓reduceIte, Int.reduceLT, Int.reduceLE, Int.reduceEq, Int.reduceNeg, Int.reduceAdd, Int.reduceSub, Int.reduceMul, Int.reduceMod, Int.reduceDiv, Int.cast_ofNat_Int, not_true_eq_false, not_false_eq_true, Int.reduceTDiv, Int.reduceTMod]
  rw [K126_1 kV, c_next hV hS hs h0]
  by_cases c : h i = -1
  · rw [if_pos (Or.inl c), if_pos c]
    simp (disch := first | assumption | exact isL_i | exact isL_r | exact isL_n | exact i01a | exact i01b | omega) only [K126_4, K126_5, K126_6, K126_7, K126_10, K126_11, K126_20, K126_21, K126_22, K126_25, K126_26, K126_26i, K126_27, K126_30, K126_31, K126_32, K126_35, K126_36, wr_id, td_e, tm_e, pu_n, pu_s, up_s, up_k, up_a, ↓reduceIte, Int.reduceLT, Int.reduceLE, Int.reduceEq, Int.reduceNeg, Int.reduceAdd, Int.reduceSub, Int.reduceMul, Int.reduceMod, Int.reduceDiv, Int.cast_ofNat_Int, not_true_eq_false, not_false_eq_true, Int.reduceTDiv, Int.reduceTMod, c, if_pos, if_neg]
  · have hb : 0 ≤ h i ∧ h i ≤ 127 := by
      by_cases c2 : i < e
      · exact hS.1 i h0 c2
      · exact absurd (hS.2 i (by omega)) c
    simp (disch := first | assumption | exact isL_i | exact isL_r | exact isL_n | exact i01a | exact i01b | omega) only [K126_4, K126_5, K126_6, K126_7, K126_10, K126_11, K126_14, K126_15, K126_16, wr_id, td_e, tm_e, pu_n, pu_s, up_s, up_k, up_a, ↓reduceIte, Int.reduceLT, Int.reduceLE, Int.reduceEq, Int.reduceNeg, Int.reduceAdd, Int.reduceSub, Int.reduceMul, Int.reduceMod, Int.reduceDiv, Int.cast_ofNat_Int, not_true_eq_false, not_false_eq_true, Int.reduceTDiv, Int.reduceTMod, if_pos, if_neg]
    rw [K126_17 hr, x_indexOf hu hb.1 hb.2]
    by_cases c3 : idxF (sBytes u) (h i) (sBytes u).length 0 < 0
    · rw [if_pos (Or.inr c3)]; (try rw [if_neg c])
      simp (disch := first | assumption | exact isL_i | exact isL_r | exact isL_n | exact i01a | exact i01b | omega) only [K126_20, K126_21, K126_22, K126_25, K126_26, K126_26i, K126_27, K126_30, K126_31, K126_32, K126_35, K126_36, wr_id, td_e, tm_e, pu_n, pu_s, up_s, up_k, up_a, ↓reduceIte, Int.reduceLT, Int.reduceLE, Int.reduceEq, Int.reduceNeg, Int.reduceAdd, Int.reduceSub, Int.reduceMul, Int.reduceMod, Int.reduceDiv, Int.cast_ofNat_Int, not_true_eq_false, not_false_eq_true, Int.reduceTDiv, Int.reduceTMod, if_pos, if_neg]
    · rw [if_neg (fun e => e.elim c c3)]
      simp (disch := first | assumption | exact isL_i | exact isL_r | exact isL_n | exact i01a | exact i01b | omega) only [K126_20, K126_21, K126_22, K126_25, K126_26, K126_26i, K126_27, K126_30, K126_31, K126_32, K126_35, K126_36, wr_id, td_e, tm_e, pu_n, pu_s, up_s, up_k, up_a, ↓reduceIte, Int.reduceLT, Int.reduceLE, Int.reduceEq, Int.reduceNeg, Int.reduceAdd, Int.reduceSub, Int.reduceMul, Int.reduceMod, Int.reduceDiv, Int.cast_ofNat_Int, not_true_eq_false, not_false_eq_true, Int.reduceTDiv, Int.reduceTMod, h9, if_pos, if_neg]
theorem c_emit (hV : ShV G V Sg e) (hs : StC h V Sg e i mi) (hi : mi V 4 < 100) (hK : ∀ mi', PoC V i (some [x]) mi mi' → K none G mi') {y : Int} (hy : y = cvS x) : OkC (d + 1) 129 [pR (some V), pI y] G mi K := by
  obtain ⟨⟨kV, ⟨kA, lA⟩, ⟨kB, lB⟩, ⟨kE, lE⟩, v3, v5, v6⟩, v8, kSg, lSg, ⟨nS0, nS1, nS2, nS3⟩⟩ := id hV
  obtain ⟨h9, hh, h4, h4'⟩ := hs
  have k20 : 20 ≤ (gK G (V + 1)).1 := by omega
  rw [E129]
  simp (disch := first | assumption | exact isL_i | exact isL_r | exact isL_n | exact i01a | exact i01b | omega | (simp (disch := decide) only [up_a, up_s, up_k]; first | assumption | omega)) only [K129_0, K129_1, K129_4, K129_5, K129_8, K129_11, K129_14, K129_15, K129_18, K129_19, K129_22, K129_23, K129_24, K129_25, K129_25i, K129_26, K129_29, K129_30, K129_31, K129_34, wr_id, td_e, tm_e, pu_n, pu_s, up_s, up_k, up_a, ↓reduceIte, Int.reduceLT, Int.reduceLE, Int.reduceEq, Int.reduceNeg, Int.reduceAdd, Int.reduceSub, Int.reduceMul, Int.reduceMod, Int.reduceDiv, Int.cast_ofNat_Int, not_true_eq_false, not_false_eq_true, Int.reduceTDiv, Int.reduceTMod, v3, c_isIn, lA, if_pos, if_neg]
  refine hK _ ⟨(Sc.rf.u (by simp)).u (by simp), fun k a b => by rw [up_k a, up_a (by omega)], by rw [up_k (by decide), up_a (by omega)]; exact h9, fun L hL => ?_⟩
  have := Option.some.inj hL
  subst this
  refine ⟨by rw [up_s]; rfl, fun t ht => ?_, fun t t0 t1 => by rw [up_a (by omega), up_k (by omega)]⟩
  have : t = 0 := by simp only [List.length_singleton] at ht; omega
  subst this
  rw [up_a (by omega), show mi V 4 + ((0 : Nat) : Int) = mi V 4 by omega, up_s]
  exact hy
end CL
