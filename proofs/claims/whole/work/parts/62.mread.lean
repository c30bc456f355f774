/-! ===== the reference reads ===== -/
def hM (s : Int → Int) (e : Int) : Int → Int := fun i => if i < e then s (99 + i) else -1
theorem up_same {mi : Mi} {o : Nat} {k v : Int} (h : mi o k = v) : up mi o k v = mi := by
  funext a j
  unfold up
  by_cases c : a = o ∧ j = k
  · rw [if_pos c, c.1, c.2, h]
  · rw [if_neg c]
theorem up_up {mi : Mi} {o : Nat} {k v w : Int} : up (up mi o k v) o k w = up mi o k w := by
  funext a j
  unfold up
  by_cases c : a = o ∧ j = k
  · rw [if_pos c, if_pos c]
  · rw [if_neg c, if_neg c, if_neg c]
def emS (a x : Int) (s : Int → Int) : Int → Int := sH (sH s (219 + 140 * a + s (214 + a)) x) (214 + a) (s (214 + a) + 1)
def emL (a : Int) : List Int → (Int → Int) → (Int → Int)
  | [], s => s
  | x :: r, s => emL a r (emS a x s)
def OutE (a : Int) (s s' : Int → Int) : Prop := ∀ k : Int, ¬ k = 214 + a → ¬ (219 + 140 * a ≤ k ∧ k < 359 + 140 * a) → s' k = s k
theorem OutE.rf {a : Int} {s : Int → Int} : OutE a s s := fun _ _ _ => rfl
theorem OutE.tr {a : Int} {s s' s'' : Int → Int} (h : OutE a s s') (h' : OutE a s' s'') : OutE a s s'' := fun k h1 h2 => (h' k h1 h2).trans (h k h1 h2)
theorem emL_app {a : Int} : ∀ (L M : List Int) (s : Int → Int), emL a (L ++ M) s = emL a M (emL a L s) := by
  intro L
  induction L with
  | nil => intro M s; rfl
  | cons x L ih => intro M s; exact ih M (emS a x s)
theorem emS_n {a x : Int} {s : Int → Int} : emS a x s (214 + a) = s (214 + a) + 1 := sH_s
theorem emL_n {a : Int} : ∀ (L : List Int) (s : Int → Int), emL a L s (214 + a) = s (214 + a) + L.length := by
  intro L
  induction L with
  | nil => intro s; simp [emL]
  | cons x L ih =>
    intro s
    show emL a L (emS a x s) (214 + a) = _
    rw [ih, emS_n, List.length_cons]
    omega
theorem emS_out {a x : Int} {s : Int → Int} (h0 : 0 ≤ s (214 + a)) (h1 : s (214 + a) < 140) : OutE a s (emS a x s) := by
  intro k k1 k2
  unfold emS
  rw [sH_k k1, sH_k (by omega)]
theorem emL_out {a : Int} : ∀ (L : List Int) (s : Int → Int), 0 ≤ s (214 + a) → s (214 + a) + L.length ≤ 140 → OutE a s (emL a L s) := by
  intro L
  induction L with
  | nil => intro s _ _; exact OutE.rf
  | cons x L ih =>
    intro s h0 h1
    rw [List.length_cons] at h1
    exact (emS_out h0 (by omega)).tr (ih (emS a x s) (by rw [emS_n]; omega) (by rw [emS_n]; omega))
theorem hM_out {a e : Int} {s s' : Int → Int} (ha : 0 ≤ a) (he : e ≤ 100) (h : OutE a s s') : hM s' e = hM s e := by
  funext i
  unfold hM
  by_cases c : i < e
  · rw [if_pos c, if_pos c]; exact h _ (by omega) (by omega)
  · rw [if_neg c, if_neg c]
def PoM (a op j : Int) (o : Option (List Int)) (mi mi' : Mi) : Prop :=
  Sc [46, 47] mi mi' ∧ (∀ k : Int, ¬ k = 7 → ¬ k = 9 → ¬ k = 10 → mi' 46 k = mi 46 k) ∧ mi' 46 7 = j ∧
  (match o with
    | none => mi' 46 9 = 1 ∧ OutE a (mi 47) (mi' 47)
    | some L => mi' 46 9 = 0 ∧ mi' 46 10 = op ∧ mi' 47 = emL a L (mi 47))
/-- where the reference's reading stands -/
def StM (h : Int → Int) (a e op i : Int) (mi : Mi) : Prop := (mi 46 6 = a ∧ mi 46 7 = i ∧ mi 46 8 = e ∧ mi 46 9 = 0 ∧ mi 46 10 = op) ∧ hM (mi 47) e = h ∧ 0 ≤ mi 47 (214 + a) ∧ mi 47 (214 + a) ≤ i
theorem lt_idx {v : Int} : idxF (sBytes 1) v (sBytes 1).length 0 = ltF v := by
  unfold ltF
  show idxF [112, 107, 118, 99, 116, 108] v 6 0 = _
  simp only [idxF, List.getD_cons_zero, List.getD_cons_succ, eq_comm (b := v)]
  rfl
theorem cp_idx {v : Int} : idxF (sBytes 2) v (sBytes 2).length 0 = cpF v := by
  unfold cpF
  show idxF [60, 61, 62] v 3 0 = _
  simp only [idxF, List.getD_cons_zero, List.getD_cons_succ, eq_comm (b := v)]
  rfl
section MO
variable {d : Nat} {G : Gh} {mi : Mi} {K : Option PV → Gh → Mi → Prop} {p t v w a b c k n g q e i op x : Int} {h : Int → Int}
theorem m_here (hG : ShM G) (h7 : mi 46 7 = i) (h8 : mi 46 8 = e) (h0 : 0 ≤ i) (he : e ≤ 100) : OkC d 10 [pR (some 46)] G mi K = K (some (pI (hM (mi 47) e i))) G mi := by
  obtain ⟨⟨k46, k47, l47, k48, l48, k49, l49, k50, l50, k51, l51⟩, ⟨k52, l52, k53, l53, k54, l54⟩, ⟨g1, g2, g3, g11, g12, g15, g16, g18⟩⟩ := id hG
  rw [E10]
  unfold hM
  by_cases c : i < e
  · rw [if_pos c]
    simp (disch := first | assumption | exact isL_i | exact isL_r | exact isL_n | exact i01a | exact i01b | omega) only [K10_0, K10_1, K10_4, K10_5, K10_8, K10_11, K10_12, K10_15, K10_17, K10_18, K10_21, K10_22, K10_23, K10_26, K10_27, g1, g2, g3, g11, g12, g15, g16, g18, wr_id, td_e, tm_e, pu_n, pu_s, up_s, up_k, up_a, ↓reduceIte, Int.reduceLT, Int.reduceLE, Int.reduceEq, Int.reduceNeg, Int.reduceAdd, Int.reduceSub, Int.reduceMul, Int.reduceMod, Int.reduceDiv, Int.cast_ofNat_Int, not_true_eq_false, not_false_eq_true, Int.reduceTDiv, Int.reduceTMod, h7, h8, if_pos, if_neg]
  · rw [if_neg c]
    simp (disch := first | assumption | exact isL_i | exact isL_r | exact isL_n | exact i01a | exact i01b | omega) only [K10_0, K10_1, K10_4, K10_5, K10_8, K10_11, K10_12, K10_15, K10_17, K10_18, K10_21, K10_22, K10_23, K10_26, K10_27, g1, g2, g3, g11, g12, g15, g16, g18, wr_id, td_e, tm_e, pu_n, pu_s, up_s, up_k, up_a, ↓reduceIte, Int.reduceLT, Int.reduceLE, Int.reduceEq, Int.reduceNeg, Int.reduceAdd, Int.reduceSub, Int.reduceMul, Int.reduceMod, Int.reduceDiv, Int.cast_ofNat_Int, not_true_eq_false, not_false_eq_true, Int.reduceTDiv, Int.reduceTMod, h7, h8, if_pos, if_neg]
theorem m_must (hG : ShM G) (h7 : mi 46 7 = i) (h8 : mi 46 8 = e) (h9 : mi 46 9 = 0) (h0 : 0 ≤ i) (hi : i ≤ 100) (he : e ≤ 100) : OkC (d + 1) 11 [pR (some 46), pI c] G mi K = if hM (mi 47) e i = c then K none G (up mi 46 7 (i + 1)) else K none G (up mi 46 9 1) := by
  obtain ⟨⟨k46, k47, l47, k48, l48, k49, l49, k50, l50, k51, l51⟩, ⟨k52, l52, k53, l53, k54, l54⟩, ⟨g1, g2, g3, g11, g12, g15, g16, g18⟩⟩ := id hG
  rw [E11]
  by_cases cc : hM (mi 47) e i = c
  · rw [if_pos cc]
    simp (disch := first | assumption | exact isL_i | exact isL_r | exact isL_n | exact i01a | exact i01b | omega | (simp (disch := decide) only [up_a, up_s, up_k]; first | assumption | omega)) only [K11_0, K11_1, K11_2, K11_5, K11_8, K11_9, K11_12, K11_13, K11_16, K11_17, K11_20, K11_21, K11_24, K11_25, K11_25i, K11_26, K11_29, K11_30, K11_33, K11_36, K11_37, K11_40, K11_41, K11_42, K11_45, g1, g2, g3, g11, g12, g15, g16, g18, wr_id, td_e, tm_e, pu_n, pu_s, up_s, up_k, up_a, ↓reduceIte, Int.reduceLT, Int.reduceLE, Int.reduceEq, Int.reduceNeg, Int.reduceAdd, Int.reduceSub, Int.reduceMul, Int.reduceMod, Int.reduceDiv, Int.cast_ofNat_Int, not_true_eq_false, not_false_eq_true, Int.reduceTDiv, Int.reduceTMod, m_here hG h7 h8, h7, h9, up_same, if_pos, if_neg]
  · rw [if_neg cc]
    have e1 : up (up mi 46 9 1) 46 7 i = up mi 46 9 1 := up_same (by rw [up_k (by decide)]; exact h7)
    simp (disch := first | assumption | exact isL_i | exact isL_r | exact isL_n | exact i01a | exact i01b | omega | (simp (disch := decide) only [up_a, up_s, up_k]; first | assumption | omega)) only [K11_0, K11_1, K11_2, K11_5, K11_8, K11_9, K11_12, K11_13, K11_16, K11_17, K11_20, K11_21, K11_24, K11_25, K11_25i, K11_26, K11_29, K11_30, K11_33, K11_36, K11_37, K11_40, K11_41, K11_42, K11_45, g1, g2, g3, g11, g12, g15, g16, g18, wr_id, td_e, tm_e, pu_n, pu_s, up_s, up_k, up_a, ↓reduceIte, Int.reduceLT, Int.reduceLE, Int.reduceEq, Int.reduceNeg, Int.reduceAdd, Int.reduceSub, Int.reduceMul, Int.reduceMod, Int.reduceDiv, Int.cast_ofNat_Int, not_true_eq_false, not_false_eq_true, Int.reduceTDiv, Int.reduceTMod, m_here hG h7 h8, h7, h9, e1, Int.add_zero, if_pos, if_neg]
theorem m_must1 (hG : ShM G) (h9 : mi 46 9 = 1) (h7 : 0 ≤ mi 46 7) (h7' : mi 46 7 ≤ 100) : OkC (d + 1) 11 [pR (some 46), pI c] G mi K = K none G mi := by
  obtain ⟨⟨k46, k47, l47, k48, l48, k49, l49, k50, l50, k51, l51⟩, ⟨k52, l52, k53, l53, k54, l54⟩, ⟨g1, g2, g3, g11, g12, g15, g16, g18⟩⟩ := id hG
  have e1 : up mi 46 9 1 = mi := up_same h9
  have e2 : up mi 46 7 (mi 46 7) = mi := up_same rfl
  rw [E11]
  simp (disch := first | assumption | exact isL_i | exact isL_r | exact isL_n | exact i01a | exact i01b | omega) only [K11_0, K11_1, K11_2, K11_5, K11_8, K11_9, K11_12, K11_13, K11_16, K11_17, K11_20, K11_21, K11_24, K11_25, K11_25i, K11_26, K11_29, K11_30, K11_33, K11_36, K11_37, K11_40, K11_41, K11_42, K11_45, g1, g2, g3, g11, g12, g15, g16, g18, wr_id, td_e, tm_e, pu_n, pu_s, up_s, up_k, up_a, ↓reduceIte, Int.reduceLT, Int.reduceLE, Int.reduceEq, Int.reduceNeg, Int.reduceAdd, Int.reduceSub, Int.reduceMul, Int.reduceMod, Int.reduceDiv, Int.cast_ofNat_Int, not_true_eq_false, not_false_eq_true, Int.reduceTDiv, Int.reduceTMod, h9, e1, e2, Int.add_zero, if_pos, if_neg]
theorem m_figs_n (hG : ShM G) (h7 : mi 46 7 = i) (h8 : mi 46 8 = e) (h9 : mi 46 9 = 0) (h0 : 0 ≤ i) (he : e ≤ 100) (hn : (nmF (hM (mi 47) e) i).2 = none) : (nmF (hM (mi 47) e) i).1 = i ∧ OkC (d + 1) 13 [pR (some 46)] G mi K = K (some (pI 0)) G (up mi 46 9 1) := by
  obtain ⟨⟨k46, k47, l47, k48, l48, k49, l49, k50, l50, k51, l51⟩, ⟨k52, l52, k53, l53, k54, l54⟩, ⟨g1, g2, g3, g11, g12, g15, g16, g18⟩⟩ := id hG
  have cc : ¬ (48 ≤ hM (mi 47) e i ∧ hM (mi 47) e i ≤ 57) := by
    intro c
    unfold nmF at hn
    rw [if_pos c] at hn
    split at hn <;> cases hn
  refine ⟨by unfold nmF; rw [if_neg cc], ?_⟩
  rw [E13]
  simp (disch := first | assumption | exact isL_i | exact isL_r | exact isL_n | exact i01a | exact i01b | omega | (simp (disch := decide) only [up_a, up_s, up_k]; first | assumption | omega)) only [K13_0, K13_1, K13_2, K13_5, K13_8, K13_9, K13_12, K13_14, K13_16, K13_19, K13_22, K13_23, K13_26, K13_27, K13_30, K13_31, K13_32, K13_33, K13_34, K13_35, K13_36, K13_39, K13_40, K13_43, K13_46, K13_47, K13_50, K13_52, K13_54, K13_57, K13_60, K13_61, K13_64, K13_65, K13_68, K13_70, K13_71, K13_72, K13_73, K13_76, K13_77, K13_79, K13_80, K13_81, K13_82, K13_82i, K13_83, K13_86, K13_87, K13_88, K13_91, K13_94, K13_97, K13_98, g1, g2, g3, g11, g12, g15, g16, g18, wr_id, td_e, tm_e, pu_n, pu_s, up_s, up_k, up_a, ↓reduceIte, Int.reduceLT, Int.reduceLE, Int.reduceEq, Int.reduceNeg, Int.reduceAdd, Int.reduceSub, Int.reduceMul, Int.reduceMod, Int.reduceDiv, Int.cast_ofNat_Int, not_true_eq_false, not_false_eq_true, Int.reduceTDiv, Int.reduceTMod, m_here hG h7 h8, m_in, h9, if_pos, if_neg, if_neg cc]
theorem m_figs_s (hG : ShM G) (h7 : mi 46 7 = i) (h8 : mi 46 8 = e) (h9 : mi 46 9 = 0) (h0 : 0 ≤ i) (hi : i ≤ 100) (he : e ≤ 100) (hn : (nmF (hM (mi 47) e) i).2 = some n) : OkC (d + 1) 13 [pR (some 46)] G mi K = K (some (pI n)) G (up mi 46 7 (nmF (hM (mi 47) e) i).1) := by
  obtain ⟨⟨k46, k47, l47, k48, l48, k49, l49, k50, l50, k51, l51⟩, ⟨k52, l52, k53, l53, k54, l54⟩, ⟨g1, g2, g3, g11, g12, g15, g16, g18⟩⟩ := id hG
  have cc : 48 ≤ hM (mi 47) e i ∧ hM (mi 47) e i ≤ 57 := by
    apply Classical.byContradiction
    intro c
    unfold nmF at hn
    rw [if_neg c] at hn
    cases hn
  have H1 : ∀ d' K', OkC d' 10 [pR (some 46)] G (up mi 46 7 (i + 1)) K' = K' (some (pI (hM (mi 47) e (i + 1)))) G (up mi 46 7 (i + 1)) := fun d' K' => by
    have := m_here (d := d') (K := K') (mi := up mi 46 7 (i + 1)) (i := i + 1) (e := e) hG up_s (by rw [up_k (by decide)]; exact h8) (by omega) he
    rw [up_a (by decide)] at this
    exact this
  have e7 : up mi 46 7 (i + 1) 46 7 = i + 1 := up_s
  have e9 : up mi 46 7 (i + 1) 46 9 = 0 := by rw [up_k (by decide)]; exact h9
  rw [E13]
  unfold nmF at hn ⊢
  rw [if_pos cc] at hn ⊢
  by_cases c2 : ¬ hM (mi 47) e i = 48 ∧ (48 ≤ hM (mi 47) e (i + 1) ∧ hM (mi 47) e (i + 1) ≤ 57)
  · rw [if_pos c2] at hn ⊢
    have hn := Option.some.inj hn
    obtain ⟨c3, c4⟩ := c2
    have en : 10 * (hM (mi 47) e i - 48) + hM (mi 47) e (i + 1) - 48 = n := by omega
    simp (disch := first | assumption | exact isL_i | exact isL_r | exact isL_n | exact i01a | exact i01b | omega | (simp (disch := decide) only [up_a, up_s, up_k]; first | assumption | omega)) only [K13_0, K13_1, K13_2, K13_5, K13_8, K13_9, K13_12, K13_14, K13_16, K13_19, K13_22, K13_23, K13_26, K13_27, K13_30, K13_31, K13_32, K13_33, K13_34, K13_35, K13_36, K13_39, K13_40, K13_43, K13_46, K13_47, K13_50, K13_52, K13_54, K13_57, K13_60, K13_61, K13_64, K13_65, K13_68, K13_70, K13_71, K13_72, K13_73, K13_76, K13_77, K13_79, K13_80, K13_81, K13_82, K13_82i, K13_83, K13_86, K13_87, K13_88, K13_91, K13_94, K13_97, K13_98, g1, g2, g3, g11, g12, g15, g16, g18, wr_id, td_e, tm_e, pu_n, pu_s, up_s, up_k, up_a, ↓reduceIte, Int.reduceLT, Int.reduceLE, Int.reduceEq, Int.reduceNeg, Int.reduceAdd, Int.reduceSub, Int.reduceMul, Int.reduceMod, Int.reduceDiv, Int.cast_ofNat_Int, not_true_eq_false, not_false_eq_true, Int.reduceTDiv, Int.reduceTMod, m_here hG h7 h8, m_in, h7, h9, up_same, H1, up_up, Int.zero_add, Int.add_assoc, if_pos, if_neg, if_pos cc, if_pos c4]
    first | exact congrArg (fun v => K (some (pI v)) G (up mi 46 7 (i + 2))) en | skip
  · rw [if_neg c2] at hn ⊢
    have hn := Option.some.inj hn
    by_cases c3 : hM (mi 47) e i = 48
    · by_cases c4 : 48 ≤ hM (mi 47) e (i + 1) ∧ hM (mi 47) e (i + 1) ≤ 57
      · simp (disch := first | assumption | exact isL_i | exact isL_r | exact isL_n | exact i01a | exact i01b | omega | (simp (disch := decide) only [up_a, up_s, up_k]; first | assumption | omega)) only [K13_0, K13_1, K13_2, K13_5, K13_8, K13_9, K13_12, K13_14, K13_16, K13_19, K13_22, K13_23, K13_26, K13_27, K13_30, K13_31, K13_32, K13_33, K13_34, K13_35, K13_36, K13_39, K13_40, K13_43, K13_46, K13_47, K13_50, K13_52, K13_54, K13_57, K13_60, K13_61, K13_64, K13_65, K13_68, K13_70, K13_71, K13_72, K13_73, K13_76, K13_77, K13_79, K13_80, K13_81, K13_82, K13_82i, K13_83, K13_86, K13_87, K13_88, K13_91, K13_94, K13_97, K13_98, g1, g2, g3, g11, g12, g15, g16, g18, wr_id, td_e, tm_e, pu_n, pu_s, up_s, up_k, up_a, ↓reduceIte, Int.reduceLT, Int.reduceLE, Int.reduceEq, Int.reduceNeg, Int.reduceAdd, Int.reduceSub, Int.reduceMul, Int.reduceMod, Int.reduceDiv, Int.cast_ofNat_Int, not_true_eq_false, not_false_eq_true, Int.reduceTDiv, Int.reduceTMod, m_here hG h7 h8, m_in, h7, h9, up_same, H1, Int.zero_add, c3, if_pos, if_neg, if_pos c4]
        rw [← hn, c3]
        rfl
      · simp (disch := first | assumption | exact isL_i | exact isL_r | exact isL_n | exact i01a | exact i01b | omega | (simp (disch := decide) only [up_a, up_s, up_k]; first | assumption | omega)) only [K13_0, K13_1, K13_2, K13_5, K13_8, K13_9, K13_12, K13_14, K13_16, K13_19, K13_22, K13_23, K13_26, K13_27, K13_30, K13_31, K13_32, K13_33, K13_34, K13_35, K13_36, K13_39, K13_40, K13_43, K13_46, K13_47, K13_50, K13_52, K13_54, K13_57, K13_60, K13_61, K13_64, K13_65, K13_68, K13_70, K13_71, K13_72, K13_73, K13_76, K13_77, K13_79, K13_80, K13_81, K13_82, K13_82i, K13_83, K13_86, K13_87, K13_88, K13_91, K13_94, K13_97, K13_98, g1, g2, g3, g11, g12, g15, g16, g18, wr_id, td_e, tm_e, pu_n, pu_s, up_s, up_k, up_a, ↓reduceIte, Int.reduceLT, Int.reduceLE, Int.reduceEq, Int.reduceNeg, Int.reduceAdd, Int.reduceSub, Int.reduceMul, Int.reduceMod, Int.reduceDiv, Int.cast_ofNat_Int, not_true_eq_false, not_false_eq_true, Int.reduceTDiv, Int.reduceTMod, m_here hG h7 h8, m_in, h7, h9, up_same, H1, Int.zero_add, c3, if_pos, if_neg, if_neg c4]
        rw [← hn, c3]
        rfl
    · have c4 : ¬ (48 ≤ hM (mi 47) e (i + 1) ∧ hM (mi 47) e (i + 1) ≤ 57) := fun c => c2 ⟨c3, c⟩
      simp (disch := first | assumption | exact isL_i | exact isL_r | exact isL_n | exact i01a | exact i01b | omega | (simp (disch := decide) only [up_a, up_s, up_k]; first | assumption | omega)) only [K13_0, K13_1, K13_2, K13_5, K13_8, K13_9, K13_12, K13_14, K13_16, K13_19, K13_22, K13_23, K13_26, K13_27, K13_30, K13_31, K13_32, K13_33, K13_34, K13_35, K13_36, K13_39, K13_40, K13_43, K13_46, K13_47, K13_50, K13_52, K13_54, K13_57, K13_60, K13_61, K13_64, K13_65, K13_68, K13_70, K13_71, K13_72, K13_73, K13_76, K13_77, K13_79, K13_80, K13_81, K13_82, K13_82i, K13_83, K13_86, K13_87, K13_88, K13_91, K13_94, K13_97, K13_98, g1, g2, g3, g11, g12, g15, g16, g18, wr_id, td_e, tm_e, pu_n, pu_s, up_s, up_k, up_a, ↓reduceIte, Int.reduceLT, Int.reduceLE, Int.reduceEq, Int.reduceNeg, Int.reduceAdd, Int.reduceSub, Int.reduceMul, Int.reduceMod, Int.reduceDiv, Int.cast_ofNat_Int, not_true_eq_false, not_false_eq_true, Int.reduceTDiv, Int.reduceTMod, m_here hG h7 h8, m_in, h7, h9, up_same, H1, Int.zero_add, if_pos, if_neg, if_pos cc, if_neg c4]
      rw [← hn]
theorem m_figs_1 (hG : ShM G) (h9 : mi 46 9 = 1) : OkC (d + 1) 13 [pR (some 46)] G mi K = K (some (pI 0)) G mi := by
  obtain ⟨⟨k46, k47, l47, k48, l48, k49, l49, k50, l50, k51, l51⟩, ⟨k52, l52, k53, l53, k54, l54⟩, ⟨g1, g2, g3, g11, g12, g15, g16, g18⟩⟩ := id hG
  have e1 : up mi 46 9 1 = mi := up_same h9
  rw [E13]
  simp (disch := first | assumption | exact isL_i | exact isL_r | exact isL_n | exact i01a | exact i01b | omega) only [K13_0, K13_1, K13_2, K13_5, K13_8, K13_9, K13_12, K13_14, K13_16, K13_19, K13_22, K13_23, K13_26, K13_27, K13_30, K13_31, K13_32, K13_33, K13_34, K13_35, K13_36, K13_39, K13_40, K13_43, K13_46, K13_47, K13_50, K13_52, K13_54, K13_57, K13_60, K13_61, K13_64, K13_65, K13_68, K13_70, K13_71, K13_72, K13_73, K13_76, K13_77, K13_79, K13_80, K13_81, K13_82, K13_82i, K13_83, K13_86, K13_87, K13_88, K13_91, K13_94, K13_97, K13_98, g1, g2, g3, g11, g12, g15, g16, g18, wr_id, td_e, tm_e, pu_n, pu_s, up_s, up_k, up_a, ↓reduceIte, Int.reduceLT, Int.reduceLE, Int.reduceEq, Int.reduceNeg, Int.reduceAdd, Int.reduceSub, Int.reduceMul, Int.reduceMod, Int.reduceDiv, Int.cast_ofNat_Int, not_true_eq_false, not_false_eq_true, Int.reduceTDiv, Int.reduceTMod, h9, e1, if_pos, if_neg]
theorem m_emits (hG : ShM G) (h9 : mi 46 9 = 0) (h6 : mi 46 6 = a) (ha : 0 ≤ a) (ha' : a ≤ 4) (hm : 0 ≤ mi 47 (214 + a)) (hm' : mi 47 (214 + a) < 140) : OkC d 15 [pR (some 46), pI x] G mi K = K none G (up (up mi 47 (219 + 140 * a + mi 47 (214 + a)) x) 47 (214 + a) (mi 47 (214 + a) + 1)) := by
  obtain ⟨⟨k46, k47, l47, k48, l48, k49, l49, k50, l50, k51, l51⟩, ⟨k52, l52, k53, l53, k54, l54⟩, ⟨g1, g2, g3, g11, g12, g15, g16, g18⟩⟩ := id hG
  rw [E15]
  simp (disch := first | assumption | exact isL_i | exact isL_r | exact isL_n | exact i01a | exact i01b | omega) only [K15_0, K15_1, K15_4, K15_7, K15_8, K15_11, K15_14, K15_17, K15_18, K15_21, K15_22, K15_23, K15_24, K15_27, K15_30, K15_31, K15_34, K15_35, K15_36, K15_37, K15_38, K15_39, K15_40, K15_43, K15_46, K15_47, K15_50, K15_51, K15_52, K15_53, K15_54, K15_55, K15_56, g1, g2, g3, g11, g12, g15, g16, g18, wr_id, td_e, tm_e, pu_n, pu_s, up_s, up_k, up_a, ↓reduceIte, Int.reduceLT, Int.reduceLE, Int.reduceEq, Int.reduceNeg, Int.reduceAdd, Int.reduceSub, Int.reduceMul, Int.reduceMod, Int.reduceDiv, Int.cast_ofNat_Int, not_true_eq_false, not_false_eq_true, Int.reduceTDiv, Int.reduceTMod, h9, h6, if_pos, if_neg]
theorem m_emits1 (hG : ShM G) (h9 : mi 46 9 = 1) : OkC d 15 [pR (some 46), pI x] G mi K = K none G mi := by
  obtain ⟨⟨k46, k47, l47, k48, l48, k49, l49, k50, l50, k51, l51⟩, ⟨k52, l52, k53, l53, k54, l54⟩, ⟨g1, g2, g3, g11, g12, g15, g16, g18⟩⟩ := id hG
  rw [E15]
  simp (disch := first | assumption | exact isL_i | exact isL_r | exact isL_n | exact i01a | exact i01b | omega) only [K15_0, K15_1, K15_4, K15_7, K15_8, K15_11, K15_14, K15_17, K15_18, K15_21, K15_22, K15_23, K15_24, K15_27, K15_30, K15_31, K15_34, K15_35, K15_36, K15_37, K15_38, K15_39, K15_40, K15_43, K15_46, K15_47, K15_50, K15_51, K15_52, K15_53, K15_54, K15_55, K15_56, g1, g2, g3, g11, g12, g15, g16, g18, wr_id, td_e, tm_e, pu_n, pu_s, up_s, up_k, up_a, ↓reduceIte, Int.reduceLT, Int.reduceLE, Int.reduceEq, Int.reduceNeg, Int.reduceAdd, Int.reduceSub, Int.reduceMul, Int.reduceMod, Int.reduceDiv, Int.cast_ofNat_Int, not_true_eq_false, not_false_eq_true, Int.reduceTDiv, Int.reduceTMod, h9, if_pos, if_neg]
theorem m_among_lp (hG : ShM G) {t : Nat} (ht : t < 8) (h7 : mi 46 7 = i) (h8 : mi 46 8 = e) (h0 : 0 ≤ i) (hi : i ≤ 100) (he : e ≤ 100) : ∀ (m k : Nat), k + m = (sBytes t).length →
    Ok (d + 5) 14 2 [some (pR (some 46)), some (pE (2 * t + 1)), some (pI k)] [] G mi K = K (some (pI (idxF (sBytes t) (hM (mi 47) e i) m k))) G (if idxF (sBytes t) (hM (mi 47) e i) m k = -1 then mi else up mi 46 7 (i + 1)) := by
  obtain ⟨⟨k46, k47, l47, k48, l48, k49, l49, k50, l50, k51, l51⟩, ⟨k52, l52, k53, l53, k54, l54⟩, ⟨g1, g2, g3, g11, g12, g15, g16, g18⟩⟩ := id hG
  have hr := x_rcv (G := G) ht
  have hl := sBy_l ht
  intro m
  induction m with
  | zero =>
    intro k hk
    rw [K14_2]
    simp (disch := first | assumption | exact isL_i | exact isL_r | exact isL_n | exact i01a | exact i01b | omega) only [K14_3, wr_id, td_e, tm_e, pu_n, pu_s, up_s, up_k, up_a, ↓reduceIte, Int.reduceLT, Int.reduceLE, Int.reduceEq, Int.reduceNeg, Int.reduceAdd, Int.reduceSub, Int.reduceMul, Int.reduceMod, Int.reduceDiv, Int.cast_ofNat_Int, not_true_eq_false, not_false_eq_true, Int.reduceTDiv, Int.reduceTMod]
    rw [K14_4 hr, x_len (d := d + 3) ht]
    simp (disch := first | assumption | exact isL_i | exact isL_r | exact isL_n | exact i01a | exact i01b | omega) only [K14_7, K14_40, K14_41, wr_id, td_e, tm_e, pu_n, pu_s, up_s, up_k, up_a, ↓reduceIte, Int.reduceLT, Int.reduceLE, Int.reduceEq, Int.reduceNeg, Int.reduceAdd, Int.reduceSub, Int.reduceMul, Int.reduceMod, Int.reduceDiv, Int.cast_ofNat_Int, not_true_eq_false, not_false_eq_true, Int.reduceTDiv, Int.reduceTMod, idxF, if_pos, if_neg]
  | succ m ih =>
    intro k hk
    rw [K14_2]
    simp (disch := first | assumption | exact isL_i | exact isL_r | exact isL_n | exact i01a | exact i01b | omega) only [K14_3, wr_id, td_e, tm_e, pu_n, pu_s, up_s, up_k, up_a, ↓reduceIte, Int.reduceLT, Int.reduceLE, Int.reduceEq, Int.reduceNeg, Int.reduceAdd, Int.reduceSub, Int.reduceMul, Int.reduceMod, Int.reduceDiv, Int.cast_ofNat_Int, not_true_eq_false, not_false_eq_true, Int.reduceTDiv, Int.reduceTMod]
    rw [K14_4 hr, x_len (d := d + 3) ht]
    simp (disch := first | assumption | exact isL_i | exact isL_r | exact isL_n | exact i01a | exact i01b | omega) only [K14_7, K14_10, K14_11, K14_14, K14_15, wr_id, td_e, tm_e, pu_n, pu_s, up_s, up_k, up_a, ↓reduceIte, Int.reduceLT, Int.reduceLE, Int.reduceEq, Int.reduceNeg, Int.reduceAdd, Int.reduceSub, Int.reduceMul, Int.reduceMod, Int.reduceDiv, Int.cast_ofNat_Int, not_true_eq_false, not_false_eq_true, Int.reduceTDiv, Int.reduceTMod, m_here hG h7 h8, if_pos, if_neg]
    rw [K14_16 hr, x_charAt ht (by omega)]
    by_cases c : (sBytes t).getD k 0 = hM (mi 47) e i
    · have c' : hM (mi 47) e i = (sBytes t).getD k 0 := c.symm
      rw [show idxF (sBytes t) (hM (mi 47) e i) (m + 1) k = (k : Int) from if_pos c, if_neg (by omega)]
      simp (disch := first | assumption | exact isL_i | exact isL_r | exact isL_n | exact i01a | exact i01b | omega) only [K14_19, K14_22, K14_23, K14_23i, K14_24, K14_27, K14_28, K14_29, K14_32, K14_33, g1, g2, g3, g11, g12, g15, g16, g18, wr_id, td_e, tm_e, pu_n, pu_s, up_s, up_k, up_a, ↓reduceIte, Int.reduceLT, Int.reduceLE, Int.reduceEq, Int.reduceNeg, Int.reduceAdd, Int.reduceSub, Int.reduceMul, Int.reduceMod, Int.reduceDiv, Int.cast_ofNat_Int, not_true_eq_false, not_false_eq_true, Int.reduceTDiv, Int.reduceTMod, h7, if_pos, if_neg]
    · have c' : ¬ hM (mi 47) e i = (sBytes t).getD k 0 := fun h => c h.symm
      rw [show idxF (sBytes t) (hM (mi 47) e i) (m + 1) k = idxF (sBytes t) (hM (mi 47) e i) m (k + 1) from if_neg c, ← ih (k + 1) (by omega)]
      simp (disch := first | assumption | exact isL_i | exact isL_r | exact isL_n | exact i01a | exact i01b | omega) only [K14_19, K14_22, K14_23, K14_23i, K14_24, K14_27, K14_28, K14_29, K14_32, K14_33, K14_34, K14_37, g1, g2, g3, g11, g12, g15, g16, g18, wr_id, td_e, tm_e, pu_n, pu_s, up_s, up_k, up_a, ↓reduceIte, Int.reduceLT, Int.reduceLE, Int.reduceEq, Int.reduceNeg, Int.reduceAdd, Int.reduceSub, Int.reduceMul, Int.reduceMod, Int.reduceDiv, Int.cast_ofNat_Int, not_true_eq_false, not_false_eq_true, Int.reduceTDiv, Int.reduceTMod, if_pos, if_neg]
      rfl
theorem m_among (hG : ShM G) {t : Nat} (ht : t < 8) (h7 : mi 46 7 = i) (h8 : mi 46 8 = e) (h0 : 0 ≤ i) (hi : i ≤ 100) (he : e ≤ 100) : OkC (d + 5) 14 [pR (some 46), pE (2 * t + 1)] G mi K = K (some (pI (idxF (sBytes t) (hM (mi 47) e i) (sBytes t).length 0))) G (if idxF (sBytes t) (hM (mi 47) e i) (sBytes t).length 0 = -1 then mi else up mi 46 7 (i + 1)) := by
  rw [E14]
  simp (disch := first | assumption | exact isL_i | exact isL_r | exact isL_n | exact i01a | exact i01b | omega) only [K14_0, K14_1, wr_id, td_e, tm_e, pu_n, pu_s, up_s, up_k, up_a, ↓reduceIte, Int.reduceLT, Int.reduceLE, Int.reduceEq, Int.reduceNeg, Int.reduceAdd, Int.reduceSub, Int.reduceMul, Int.reduceMod, Int.reduceDiv, Int.cast_ofNat_Int, not_true_eq_false, not_false_eq_true, Int.reduceTDiv, Int.reduceTMod]
  exact m_among_lp hG ht h7 h8 h0 hi he (sBytes t).length 0 (by omega)
end MO
