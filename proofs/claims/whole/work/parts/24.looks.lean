/-! ===== rows of doings, one after another ===== -/
def WfG (s : Int → Int) : Prop := WfT s ∧ WfV s ∧ (-1 ≤ s 17 ∧ s 17 ≤ 4) ∧ (0 ≤ s 11 ∧ s 11 ≤ 6)
theorem WfG.st {s s' : Int → Int} (h : WfG s) (hs : Stat s s') : WfG s' := by
  refine ⟨st_T hs h.1, st_V hs h.2.2.1.1 h.2.1, ?_, ?_⟩
  · rw [hs 17 (by omega)]; exact h.2.2.1
  · rw [hs 11 (by omega)]; exact h.2.2.2
theorem brt_in {c k : Int} (h0 : 0 ≤ c) (h1 : c ≤ 23) : 0 ≤ brt c k ∧ brt c k ≤ 23 := by
  unfold brt
  repeat' split
  all_goals omega
theorem gs_0 {s : Int → Int} {hz k : Int} : gs s hz k 0 = s 0 + 1 := by
  unfold gs
  split <;> rfl
theorem gs_1 {s : Int → Int} {hz k : Int} (h0 : 0 ≤ s 1) (h1 : s 1 ≤ 23) : 0 ≤ gs s hz k 1 ∧ gs s hz k 1 ≤ 23 := by
  unfold gs
  split
  · exact ⟨h0, h1⟩
  · exact brt_in h0 h1
theorem gaR_bd {s : Int → Int} (hV : WfV s) (hT : WfT s) {hz t c : Int} : ∀ (n : Nat) (p : Int), 0 ≤ p → p + n ≤ 6 → 0 ≤ gaR s hz t c n p ∧ gaR s hz t c n p ≤ 30000 * n := by
  intro n
  induction n with
  | zero => intro p _ _; simp [gaR]
  | succ n ih =>
    intro p h0 h6
    have h1 := ih (p + 1) (by omega) (by omega)
    have h2 := worthF_bd hV hT (t := t) h0 (by omega)
    simp only [gaR]
    split <;> omega
theorem gaT_bd {s : Int → Int} (h : WfG s) {hz k : Int} : 0 ≤ gaT s hz k ∧ gaT s hz k ≤ 180000 := by
  unfold gaT
  have hn := h.2.2.2
  have := gaR_bd h.2.1 h.1 (hz := hz) (t := s 0 + 1) (c := brt (s 1) k) (s 11).toNat 0 (by omega) (by omega)
  split <;> omega
/-- after a row of k doings, told as a number (its last doing the lowest figure, to the base 5): all, and what is gained -/
def simP (s : Int → Int) (hz : Int) : Nat → Int → (Int → Int) × Int
  | 0, _ => (s, 0)
  | k + 1, r => (gs (simP s hz k (r / 5)).1 hz (r % 5), (simP s hz k (r / 5)).2 + gaT (simP s hz k (r / 5)).1 hz (r % 5))
theorem simP_wf {s : Int → Int} {hz : Int} (hG : WfG s) (h0 : 0 ≤ s 1) (h1 : s 1 ≤ 23) : ∀ (k : Nat) (r : Int), Stat s (simP s hz k r).1 ∧ (simP s hz k r).1 0 = s 0 + k ∧ (0 ≤ (simP s hz k r).1 1 ∧ (simP s hz k r).1 1 ≤ 23) ∧ 0 ≤ (simP s hz k r).2 ∧ (simP s hz k r).2 ≤ 180000 * k := by
  intro k
  induction k with
  | zero => intro r; exact ⟨Stat.rf, by simp [simP], ⟨h0, h1⟩, by simp [simP], by simp [simP]⟩
  | succ k ih =>
    intro r
    obtain ⟨i1, i2, i3, i4, i5⟩ := ih (r / 5)
    have hg := hG.st i1
    have hb := gaT_bd hg (hz := hz) (k := r % 5)
    refine ⟨i1.tr (gs_st hg.2.2.2.2), ?_, ?_, ?_, ?_⟩
    · simp only [simP]; rw [gs_0, i2]; omega
    · simp only [simP]; exact gs_1 i3.1 i3.2
    · simp only [simP]; omega
    · simp only [simP]; omega
/-- the best of some rows from one on: which, how much -/
def bestF (g : Int → Int) : Nat → Int → Int × Int → Int × Int
  | 0, _, b => b
  | n + 1, r, b => bestF g n (r + 1) (if b.2 < g r then (r, g r) else b)
def pw (n : Int) : Int := 5 ^ n.toNat
theorem pw_v {n : Int} (h0 : 0 ≤ n) (h5 : n ≤ 5) : n = 0 ∧ pw n = 1 ∨ n = 1 ∧ pw n = 5 ∨ n = 2 ∧ pw n = 25 ∨ n = 3 ∧ pw n = 125 ∨ n = 4 ∧ pw n = 625 ∨ n = 5 ∧ pw n = 3125 := by
  have h : n = 0 ∨ n = 1 ∨ n = 2 ∨ n = 3 ∨ n = 4 ∨ n = 5 := by omega
  rcases h with rfl | rfl | rfl | rfl | rfl | rfl <;> decide
section MO
variable {d : Nat} {G : Gh} {mi : Mi} {K : Option PV → Gh → Mi → Prop} {p t v w a b : Int}
theorem m_power {n : Int} (h0 : 0 ≤ n) (h5 : n ≤ 5) : OkC d 46 [pI n] G mi K = K (some (pI (pw n))) G mi := by
  rw [E46]
  rcases pw_v h0 h5 with ⟨rfl, h⟩ | ⟨rfl, h⟩ | ⟨rfl, h⟩ | ⟨rfl, h⟩ | ⟨rfl, h⟩ | ⟨rfl, h⟩
  all_goals simp (disch := first | assumption | exact isL_i | exact isL_r | exact isL_n | exact i01a | exact i01b | omega) only [K46_0, K46_1, K46_2, K46_3, K46_4, K46_5, K46_6, K46_9, K46_10, K46_11, K46_12, K46_13, K46_16, K46_19, K46_20, wr_id, td_e, tm_e, pu_n, pu_s, up_s, up_k, up_a, ↓reduceIte, Int.reduceLT, Int.reduceLE, Int.reduceEq, Int.reduceNeg, Int.reduceAdd, Int.reduceSub, Int.reduceMul, Int.reduceMod, Int.reduceDiv, Int.cast_ofNat_Int, not_true_eq_false, not_false_eq_true, Int.reduceTDiv, Int.reduceTMod, if_pos, if_neg, h]
theorem m_keeps (hG : ShM G) : OkC d 7 [pR (some 46)] G mi K = K none G (up (up (up (up (up (up (up (up mi 49 0 (mi 47 0)) 49 1 (mi 47 1)) 49 2 (mi 47 2)) 49 3 (mi 47 3)) 49 4 (mi 47 4)) 49 5 (mi 47 5)) 49 6 (mi 47 6)) 49 7 (mi 47 7)) := by
  obtain ⟨⟨k46, k47, l47, k48, l48, k49, l49, k50, l50, k51, l51⟩, ⟨k52, l52, k53, l53, k54, l54⟩, ⟨g1, g2, g3, g11, g12, g15, g16, g18⟩⟩ := id hG
  rw [E7]
  simp (disch := first | assumption | exact isL_i | exact isL_r | exact isL_n | exact i01a | exact i01b | omega) only [K7_0, K7_1, K7_2, K7_3, K7_5, K7_8, K7_9, K7_12, K7_13, K7_14, K7_17, K7_18, K7_19, K7_20, K7_23, K7_26, g1, g2, g3, g11, g12, g15, g16, g18, wr_id, td_e, tm_e, pu_n, pu_s, up_s, up_k, up_a, ↓reduceIte, Int.reduceLT, Int.reduceLE, Int.reduceEq, Int.reduceNeg, Int.reduceAdd, Int.reduceSub, Int.reduceMul, Int.reduceMod, Int.reduceDiv, Int.cast_ofNat_Int, not_true_eq_false, not_false_eq_true, Int.reduceTDiv, Int.reduceTMod, if_pos, if_neg]
theorem m_goesBack (hG : ShM G) : OkC d 8 [pR (some 46)] G mi K = K none G (up (up (up (up (up (up (up (up mi 47 0 (mi 49 0)) 47 1 (mi 49 1)) 47 2 (mi 49 2)) 47 3 (mi 49 3)) 47 4 (mi 49 4)) 47 5 (mi 49 5)) 47 6 (mi 49 6)) 47 7 (mi 49 7)) := by
  obtain ⟨⟨k46, k47, l47, k48, l48, k49, l49, k50, l50, k51, l51⟩, ⟨k52, l52, k53, l53, k54, l54⟩, ⟨g1, g2, g3, g11, g12, g15, g16, g18⟩⟩ := id hG
  rw [E8]
  simp (disch := first | assumption | exact isL_i | exact isL_r | exact isL_n | exact i01a | exact i01b | omega) only [K8_0, K8_1, K8_2, K8_3, K8_5, K8_8, K8_9, K8_12, K8_13, K8_14, K8_17, K8_18, K8_19, K8_20, K8_23, K8_26, g1, g2, g3, g11, g12, g15, g16, g18, wr_id, td_e, tm_e, pu_n, pu_s, up_s, up_k, up_a, ↓reduceIte, Int.reduceLT, Int.reduceLE, Int.reduceEq, Int.reduceNeg, Int.reduceAdd, Int.reduceSub, Int.reduceMul, Int.reduceMod, Int.reduceDiv, Int.cast_ofNat_Int, not_true_eq_false, not_false_eq_true, Int.reduceTDiv, Int.reduceTMod, if_pos, if_neg]
theorem j8 {j : Int} (h0 : 0 ≤ j) (h8 : j < 8) : j = 0 ∨ j = 1 ∨ j = 2 ∨ j = 3 ∨ j = 4 ∨ j = 5 ∨ j = 6 ∨ j = 7 := by omega
theorem m_look_in (hG : ShM G) {s : Int → Int} {hz r : Int} {n : Nat} {x : Option PV} (hS : WfG s) (h0 : 0 ≤ s 0) (h0' : s 0 ≤ 9999) (h1 : 0 ≤ s 1) (h1' : s 1 ≤ 23) (hn : n ≤ 5) (hr : 0 ≤ r) : ∀ (k : Nat) (mi : Mi) (a : Int), k ≤ n → mi 47 = (simP s hz (n - k) (r / pw k)).1 → a = (simP s hz (n - k) (r / pw k)).2 → mi 46 5 = hz →
    (∀ mi', mi' 47 = (simP s hz n r).1 → Sc [47, 50, 51] mi mi' → Ok (d + 4) 47 53 [some (pR (some 46)), some (pI n), some (pI r), some (pI (simP s hz n r).2), some (pI (-1))] [] G mi' K) →
    Ok (d + 4) 47 26 [some (pR (some 46)), some (pI n), some (pI r), some (pI a), some (pI (k - 1))] [] G mi K := by
  obtain ⟨⟨k46, k47, l47, k48, l48, k49, l49, k50, l50, k51, l51⟩, ⟨k52, l52, k53, l53, k54, l54⟩, ⟨g1, g2, g3, g11, g12, g15, g16, g18⟩⟩ := id hG
  intro k
  induction k with
  | zero =>
    intro mi a hk hs ha hz5 hK
    rw [K47_26]
    simp only [show pw ((0 : Nat) : Int) = 1 by decide, Int.ediv_one, Nat.sub_zero] at hs ha
    simp (disch := first | assumption | exact isL_i | exact isL_r | exact isL_n | exact i01a | exact i01b | omega) only [K47_28, wr_id, td_e, tm_e, pu_n, pu_s, up_s, up_k, up_a, ↓reduceIte, Int.reduceLT, Int.reduceLE, Int.reduceEq, Int.reduceNeg, Int.reduceAdd, Int.reduceSub, Int.reduceMul, Int.reduceMod, Int.reduceDiv, Int.cast_ofNat_Int, not_true_eq_false, not_false_eq_true, Int.reduceTDiv, Int.reduceTMod, if_pos, if_neg]
    subst ha
    exact hK mi hs Sc.rf
  | succ k ih =>
    intro mi a hk hs ha hz5 hK
    obtain ⟨f1, f2, f3, f4, f5⟩ := simP_wf (hz := hz) hS h1 h1' (n - (k + 1)) (r / pw ((k + 1 : Nat) : Int))
    rw [← hs] at f1 f2 f3
    rw [← ha] at f4 f5
    have hS' := hS.st f1
    have hb := gaT_bd hS' (hz := hz) (k := r / pw k % 5)
    have hpw : 0 < pw k ∧ r / pw k / 5 = r / pw ((k + 1 : Nat) : Int) := by
      have h : k = 0 ∨ k = 1 ∨ k = 2 ∨ k = 3 ∨ k = 4 := by omega
      rcases h with rfl | rfl | rfl | rfl | rfl
      all_goals (simp [pw]; try omega)
    have e1 : ((k + 1 : Nat) : Int) - 1 = k := by omega
    have hq : 0 ≤ r / pw k := Int.ediv_nonneg hr (by omega)
    rw [K47_26, e1]
    simp (disch := first | assumption | exact isL_i | exact isL_r | exact isL_n | exact i01a | exact i01b | omega) only [K47_28, K47_31, K47_32, K47_33, K47_34, K47_36, K47_39, K47_40, K47_41, K47_42, wr_id, td_e, tm_e, pu_n, pu_s, up_s, up_k, up_a, ↓reduceIte, Int.reduceLT, Int.reduceLE, Int.reduceEq, Int.reduceNeg, Int.reduceAdd, Int.reduceSub, Int.reduceMul, Int.reduceMod, Int.reduceDiv, Int.cast_ofNat_Int, not_true_eq_false, not_false_eq_true, Int.reduceTDiv, Int.reduceTMod, if_pos, if_neg, m_power]
    refine m_goes hG hS'.1 hS'.2.1 hS'.2.2.1.1 hS'.2.2.1.2 hS'.2.2.2.1 hS'.2.2.2.2 (by omega) (by omega) f3.1 f3.2 fun m1 hm hsc => ?_
    rw [hz5]
    simp (disch := first | assumption | exact isL_i | exact isL_r | exact isL_n | exact i01a | exact i01b | omega) only [K47_45, K47_46, K47_47, K47_50, wr_id, td_e, tm_e, pu_n, pu_s, up_s, up_k, up_a, ↓reduceIte, Int.reduceLT, Int.reduceLE, Int.reduceEq, Int.reduceNeg, Int.reduceAdd, Int.reduceSub, Int.reduceMul, Int.reduceMod, Int.reduceDiv, Int.cast_ofNat_Int, not_true_eq_false, not_false_eq_true, Int.reduceTDiv, Int.reduceTMod, if_pos, if_neg]
    have e2 : n - k = n - (k + 1) + 1 := by omega
    refine ih m1 _ (by omega) ?_ ?_ (by rw [hsc 46 (by decide)]; exact hz5) (fun mi' hm' hs2 => hK mi' hm' (hsc.tr hs2))
    · rw [hm, e2, hz5, hs]
      simp only [simP]
      rw [hpw.2]
    · rw [e2, ha, hs]
      simp only [simP]
      rw [hpw.2]
theorem frame_back {s : Int → Int} {m1 : Mi} (hst : Stat s (m1 47)) (hf : ∀ j : Int, 0 ≤ j → j < 8 → m1 49 j = s j) (hneg : ∀ j : Int, j < 0 → m1 47 j = s j) : up (up (up (up (up (up (up (up m1 47 0 (m1 49 0)) 47 1 (m1 49 1)) 47 2 (m1 49 2)) 47 3 (m1 49 3)) 47 4 (m1 49 4)) 47 5 (m1 49 5)) 47 6 (m1 49 6)) 47 7 (m1 49 7) 47 = s := by
  funext j
  by_cases h0 : 0 ≤ j
  · by_cases h8 : j < 8
    · rcases j8 h0 h8 with rfl | rfl | rfl | rfl | rfl | rfl | rfl | rfl
      all_goals (simp (disch := decide) only [up_k, up_s]; exact hf _ (by decide) (by decide))
    · simp (disch := omega) only [up_k]
      exact hst j (by omega)
  · simp (disch := omega) only [up_k]
    exact hneg j (by omega)
theorem m_goesBack' (hG : ShM G) {s : Int → Int} (hst : Stat s (mi 47)) (hf : ∀ j : Int, 0 ≤ j → j < 8 → mi 49 j = s j) (hneg : ∀ j : Int, j < 0 → mi 47 j = s j) (hK : ∀ m2, m2 47 = s → Sc [47] mi m2 → K none G m2) : OkC d 8 [pR (some 46)] G mi K := by
  rw [m_goesBack hG]
  exact hK _ (frame_back hst hf hneg) ((((((((Sc.rf.u (by decide)).u (by decide)).u (by decide)).u (by decide)).u (by decide)).u (by decide)).u (by decide)).u (by decide))
theorem m_keeps' (hG : ShM G) (hK : ∀ m2, (∀ j : Int, 0 ≤ j → j < 8 → m2 49 j = mi 47 j) → Sc [49] mi m2 → K none G m2) : OkC d 7 [pR (some 46)] G mi K := by
  rw [m_keeps hG]
  refine hK _ (fun j h0 h8 => ?_) ((((((((Sc.rf.u (by decide)).u (by decide)).u (by decide)).u (by decide)).u (by decide)).u (by decide)).u (by decide)).u (by decide))
  rcases j8 h0 h8 with rfl | rfl | rfl | rfl | rfl | rfl | rfl | rfl
  all_goals simp (disch := decide) only [up_k, up_s]
end MO
theorem gs_neg {s : Int → Int} {hz k j : Int} (h : j < 0) : gs s hz k j = s j := by
  unfold gs
  split
  · show (if j = 0 then s 0 + 1 else s j) = s j
    rw [if_neg (by omega)]
  · unfold gsp
    rw [if_neg (by omega), if_neg (by omega), if_neg (by omega)]
theorem simP_neg {s : Int → Int} {hz j : Int} (h : j < 0) : ∀ (k : Nat) (r : Int), (simP s hz k r).1 j = s j := by
  intro k
  induction k with
  | zero => intro r; rfl
  | succ k ih => intro r; simp only [simP]; rw [gs_neg h, ih]
section MO
variable {d : Nat} {G : Gh} {mi : Mi} {K : Option PV → Gh → Mi → Prop} {p t v w a b : Int}
theorem m_look_out (hG : ShM G) {s : Int → Int} {hz : Int} {n : Nat} (hS : WfG s) (h0 : 0 ≤ s 0) (h0' : s 0 ≤ 9999) (h1 : 0 ≤ s 1) (h1' : s 1 ≤ 23) (hn : n ≤ 5) : ∀ (c : Nat) (mi : Mi) (r : Int) (x3 x4 : Option PV), isL x3 = false → isL x4 = false → r + c = pw n → 0 ≤ r → mi 47 = s → mi 46 5 = hz → (∀ j : Int, 0 ≤ j → j < 8 → mi 49 j = s j) →
    (∀ mi', (mi' 46 13, mi' 46 14) = bestF (fun q => (simP s hz n q).2) c r (mi 46 13, mi 46 14) → mi' 47 = s → (∀ j : Int, ¬ j = 13 → ¬ j = 14 → mi' 46 j = mi 46 j) → Sc [46, 47, 50, 51] mi mi' → K none G mi') →
    Ok (d + 4) 47 11 [some (pR (some 46)), some (pI n), some (pI r), x3, x4] [] G mi K := by
  obtain ⟨⟨k46, k47, l47, k48, l48, k49, l49, k50, l50, k51, l51⟩, ⟨k52, l52, k53, l53, k54, l54⟩, ⟨g1, g2, g3, g11, g12, g15, g16, g18⟩⟩ := id hG
  intro c
  induction c with
  | zero =>
    intro mi r x3 x4 q3 q4 hr hr0 hs hz5 hf hK
    rw [K47_11]
    simp (disch := first | assumption | exact isL_i | exact isL_r | exact isL_n | exact i01a | exact i01b | omega) only [K47_12, K47_13, K47_16, K47_103, wr_id, td_e, tm_e, pu_n, pu_s, up_s, up_k, up_a, ↓reduceIte, Int.reduceLT, Int.reduceLE, Int.reduceEq, Int.reduceNeg, Int.reduceAdd, Int.reduceSub, Int.reduceMul, Int.reduceMod, Int.reduceDiv, Int.cast_ofNat_Int, not_true_eq_false, not_false_eq_true, Int.reduceTDiv, Int.reduceTMod, if_pos, if_neg, m_power]
    exact hK mi rfl hs (fun _ _ _ => rfl) Sc.rf
  | succ c ih =>
    intro mi r x3 x4 q3 q4 hr hr0 hs hz5 hf hK
    have hpw := pw_v (n := n) (by omega) (by omega)
    have hdz : r / pw n = 0 := Int.ediv_eq_zero_of_lt hr0 (by omega)
    rw [K47_11]
    simp (disch := first | assumption | exact isL_i | exact isL_r | exact isL_n | exact i01a | exact i01b | omega) only [K47_12, K47_13, K47_16, K47_19, K47_20, K47_21, K47_22, K47_23, K47_24, wr_id, td_e, tm_e, pu_n, pu_s, up_s, up_k, up_a, ↓reduceIte, Int.reduceLT, Int.reduceLE, Int.reduceEq, Int.reduceNeg, Int.reduceAdd, Int.reduceSub, Int.reduceMul, Int.reduceMod, Int.reduceDiv, Int.cast_ofNat_Int, not_true_eq_false, not_false_eq_true, Int.reduceTDiv, Int.reduceTMod, if_pos, if_neg, m_power]
    refine m_look_in (x := none) hG (s := s) (hz := hz) (r := r) (n := n) hS h0 h0' h1 h1' hn hr0 n mi 0 (Nat.le_refl n) ?_ ?_ hz5 fun m1 hm hsc => ?_
    · rw [Nat.sub_self, hs]; rfl
    · rw [Nat.sub_self]; rfl
    · have hw := simP_wf (hz := hz) hS h1 h1' n r
      have hst : Stat s (m1 47) := by rw [hm]; exact hw.1
      have h14 : m1 46 14 = mi 46 14 := by rw [hsc 46 (by decide)]
      have h13 : m1 46 13 = mi 46 13 := by rw [hsc 46 (by decide)]
      simp only [bestF] at hK
      simp (disch := first | assumption | exact isL_i | exact isL_r | exact isL_n | exact i01a | exact i01b | omega) only [K47_53, K47_54, wr_id, td_e, tm_e, pu_n, pu_s, up_s, up_k, up_a, ↓reduceIte, Int.reduceLT, Int.reduceLE, Int.reduceEq, Int.reduceNeg, Int.reduceAdd, Int.reduceSub, Int.reduceMul, Int.reduceMod, Int.reduceDiv, Int.cast_ofNat_Int, not_true_eq_false, not_false_eq_true, Int.reduceTDiv, Int.reduceTMod, if_pos, if_neg]
      refine m_goesBack' hG hst (fun j a b => by rw [hsc 49 (by decide)]; exact hf j a b) (fun j a => by rw [hm]; exact simP_neg a n r) fun m2 h2 hs2 => ?_
      have f14 : m2 46 14 = mi 46 14 := by rw [hs2 46 (by decide)]; exact h14
      have f13 : m2 46 13 = mi 46 13 := by rw [hs2 46 (by decide)]; exact h13
      have hz2 : m2 46 5 = hz := by rw [hs2 46 (by decide), hsc 46 (by decide)]; exact hz5
      have hf2 : ∀ j : Int, 0 ≤ j → j < 8 → m2 49 j = s j := fun j a b => by rw [hs2 49 (by decide), hsc 49 (by decide)]; exact hf j a b
      have hcf : ∀ j : Int, m2 46 j = mi 46 j := fun j => by rw [hs2 46 (by decide), hsc 46 (by decide)]
      have hscf : Sc [46, 47, 50, 51] mi m2 := (hsc.wk (by decide)).tr (hs2.wk (by decide))
      by_cases hb : mi 46 14 < (simP s hz n r).2
      · rw [if_pos hb] at hK
        simp (disch := first | assumption | exact isL_i | exact isL_r | exact isL_n | exact i01a | exact i01b | omega) only [K47_57, K47_58, K47_59, K47_60, K47_63, K47_66, K47_67, K47_70, K47_71, K47_74, K47_77, K47_78, K47_79, K47_80, K47_83, K47_86, K47_87, K47_90, K47_91, K47_94, K47_97, K47_100, g1, g2, g3, g11, g12, g15, g16, g18, wr_id, td_e, tm_e, pu_n, pu_s, up_s, up_k, up_a, ↓reduceIte, Int.reduceLT, Int.reduceLE, Int.reduceEq, Int.reduceNeg, Int.reduceAdd, Int.reduceSub, Int.reduceMul, Int.reduceMod, Int.reduceDiv, Int.cast_ofNat_Int, not_true_eq_false, not_false_eq_true, Int.reduceTDiv, Int.reduceTMod, if_pos, if_neg, f14, f13]
        refine ih _ (r + 1) _ _ isL_i isL_i (by omega) (by omega) (by rw [up_a (by decide), up_a (by decide)]; exact h2) (by simp (disch := decide) only [up_k]; exact hz2) (fun j a b => by rw [up_a (by decide), up_a (by decide)]; exact hf2 j a b) (fun mi' e1 e2 e3 e4 => hK mi' ?_ e2 (fun j a b => ?_) (((hscf.u (by decide)).u (by decide)).tr e4))
        · rw [e1]
          simp (disch := decide) only [up_k, up_s]
        · rw [e3 j a b]
          simp (disch := omega) only [up_k]
          exact hcf j
      · rw [if_neg hb] at hK
        simp (disch := first | assumption | exact isL_i | exact isL_r | exact isL_n | exact i01a | exact i01b | omega) only [K47_57, K47_58, K47_59, K47_60, K47_63, K47_66, K47_67, K47_70, K47_71, K47_74, K47_77, K47_78, K47_79, K47_80, K47_83, K47_86, K47_87, K47_90, K47_91, K47_94, K47_97, K47_100, g1, g2, g3, g11, g12, g15, g16, g18, wr_id, td_e, tm_e, pu_n, pu_s, up_s, up_k, up_a, ↓reduceIte, Int.reduceLT, Int.reduceLE, Int.reduceEq, Int.reduceNeg, Int.reduceAdd, Int.reduceSub, Int.reduceMul, Int.reduceMod, Int.reduceDiv, Int.cast_ofNat_Int, not_true_eq_false, not_false_eq_true, Int.reduceTDiv, Int.reduceTMod, if_pos, if_neg, f14, f13]
        refine ih _ (r + 1) _ _ isL_i isL_i (by omega) (by omega) (by rw [up_a (by decide), up_a (by decide)]; exact h2) (by simp (disch := decide) only [up_k]; exact hz2) (fun j a b => by rw [up_a (by decide), up_a (by decide)]; exact hf2 j a b) (fun mi' e1 e2 e3 e4 => hK mi' ?_ e2 (fun j a b => ?_) (((hscf.u (by decide)).u (by decide)).tr e4))
        · rw [e1]
          simp (disch := decide) only [up_k, up_s, f14, f13]
        · rw [e3 j a b]
          simp (disch := omega) only [up_k]
          exact hcf j
/-- the best row of n doings from how all is: which (as a number), how much -/
def bestL (s : Int → Int) (hz : Int) (n : Nat) (b : Int) : Int × Int := bestF (fun q => (simP s hz n q).2) (5 ^ n) 0 (b, -1)
theorem m_looksFor (hG : ShM G) {n : Nat} (hS : WfG (mi 47)) (h0 : 0 ≤ mi 47 0) (h0' : mi 47 0 ≤ 9999) (h1 : 0 ≤ mi 47 1) (h1' : mi 47 1 ≤ 23) (hn : n ≤ 5)
    (hK : ∀ mi', (mi' 46 13, mi' 46 14) = bestL (mi 47) (mi 46 5) n (mi 46 13) → mi' 47 = mi 47 → (∀ j : Int, ¬ j = 13 → ¬ j = 14 → mi' 46 j = mi 46 j) → Sc [46, 47, 49, 50, 51] mi mi' → K none G mi') : OkC (d + 4) 47 [pR (some 46), pI n] G mi K := by
  obtain ⟨⟨k46, k47, l47, k48, l48, k49, l49, k50, l50, k51, l51⟩, ⟨k52, l52, k53, l53, k54, l54⟩, ⟨g1, g2, g3, g11, g12, g15, g16, g18⟩⟩ := id hG
  rw [E47]
  simp (disch := first | assumption | exact isL_i | exact isL_r | exact isL_n | exact i01a | exact i01b | omega) only [K47_0, K47_1, g1, g2, g3, g11, g12, g15, g16, g18, wr_id, td_e, tm_e, pu_n, pu_s, up_s, up_k, up_a, ↓reduceIte, Int.reduceLT, Int.reduceLE, Int.reduceEq, Int.reduceNeg, Int.reduceAdd, Int.reduceSub, Int.reduceMul, Int.reduceMod, Int.reduceDiv, Int.cast_ofNat_Int, not_true_eq_false, not_false_eq_true, Int.reduceTDiv, Int.reduceTMod, if_pos, if_neg]
  refine m_keeps' hG fun m1 hm hsc => ?_
  simp (disch := first | assumption | exact isL_i | exact isL_r | exact isL_n | exact i01a | exact i01b | omega) only [K47_4, K47_5, K47_6, K47_9, K47_10, g1, g2, g3, g11, g12, g15, g16, g18, wr_id, td_e, tm_e, pu_n, pu_s, up_s, up_k, up_a, ↓reduceIte, Int.reduceLT, Int.reduceLE, Int.reduceEq, Int.reduceNeg, Int.reduceAdd, Int.reduceSub, Int.reduceMul, Int.reduceMod, Int.reduceDiv, Int.cast_ofNat_Int, not_true_eq_false, not_false_eq_true, Int.reduceTDiv, Int.reduceTMod, if_pos, if_neg]
  have e46 : m1 46 = mi 46 := hsc 46 (by decide)
  have e47 : m1 47 = mi 47 := hsc 47 (by decide)
  refine m_look_out hG (s := mi 47) (hz := mi 46 5) (n := n) hS h0 h0' h1 h1' hn (5 ^ n) _ 0 none none isL_n isL_n ?_ (by omega) (by rw [up_a (by decide)]; exact e47) (by rw [up_k (by decide), e46]) (fun j a b => by rw [up_a (by decide)]; exact hm j a b) (fun mi' e1 e2 e3 e4 => hK mi' ?_ e2 (fun j a b => ?_) (((hsc.wk (by decide)).u (by decide)).tr (e4.wk (by decide))))
  · unfold pw
    rw [Int.toNat_natCast, Int.zero_add, Int.natCast_pow]
    rfl
  · rw [e1, up_s, up_k (by decide), e46]
    rfl
  · rw [e3 j a b, up_k b, e46]
end MO
