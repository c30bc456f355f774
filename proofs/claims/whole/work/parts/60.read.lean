/-! ===== how a view's text is read ===== -/
abbrev RdR : Type := Option (Int × Option (List Int))
def bnd (x : RdR) (k : Int → List Int → RdR) : RdR := match x with
  | none => none
  | some (j, none) => some (j, none)
  | some (j, some L) => k j L
/-- a number at a place: where the reading then stands, the number -/
def nmF (h : Int → Int) (i : Int) : Int × Option Int := if 48 ≤ h i ∧ h i ≤ 57 then (if ¬ h i = 48 ∧ (48 ≤ h (i + 1) ∧ h (i + 1) ≤ 57) then (i + 2, some (10 * (h i - 48) + (h (i + 1) - 48))) else (i + 1, some (h i - 48))) else (i, none)
def ltF (v : Int) : Int := if v = 112 then 0 else if v = 107 then 1 else if v = 118 then 2 else if v = 99 then 3 else if v = 116 then 4 else if v = 108 then 5 else -1
def cpF (v : Int) : Int := if v = 60 then 0 else if v = 61 then 1 else if v = 62 then 2 else -1
def tsF (h : Int → Int) (i : Int) : Int × Option (List Int) := if ltF (h i) = -1 then (i, none) else if cpF (h (i + 1)) = -1 then (i + 1, none) else
  match nmF h (i + 2) with
  | (j, none) => (j, none)
  | (j, some n) => (j, some [ltF (h i) + 8 * cpF (h (i + 1)) + 32 * n])
/-- 0: one; 1: parts joined by &; 2: parts joined by |; 3, 4: what follows a first part -/
def rd (h : Int → Int) : Nat → Nat → Int → Int → RdR
  | 0, _, _, _ => none
  | f + 1, 0, op, i => if h i = 33 ∨ h i = 40 then (if op = 5 then some (i, none) else if h i = 33 then bnd (rd h f 0 (op + 1) (i + 1)) (fun j L => some (j, some (L ++ [-1]))) else bnd (rd h f 2 (op + 1) (i + 1)) (fun j L => if h j = 41 then some (j + 1, some L) else some (j, none))) else some (tsF h i)
  | f + 1, 1, op, i => bnd (rd h f 0 op i) fun j L => bnd (rd h f 3 op j) fun j' L' => some (j', some (L ++ L'))
  | f + 1, 2, op, i => bnd (rd h f 1 op i) fun j L => bnd (rd h f 4 op j) fun j' L' => some (j', some (L ++ L'))
  | f + 1, 3, op, i => if h i = 38 then (bnd (rd h f 0 op (i + 1)) fun j L => bnd (rd h f 3 op j) fun j' L' => some (j', some (L ++ -2 :: L'))) else some (i, some [])
  | f + 1, 4, op, i => if h i = 124 then (bnd (rd h f 1 op (i + 1)) fun j L => bnd (rd h f 4 op j) fun j' L' => some (j', some (L ++ -3 :: L'))) else some (i, some [])
  | _ + 1, _, _, _ => none
/-- a text's signs: from 0 on, below e; -1 outside -/
def SgF (h : Int → Int) (e : Int) : Prop := (∀ i : Int, 0 ≤ i → i < e → 0 ≤ h i ∧ h i ≤ 127) ∧ ∀ i : Int, e ≤ i → h i = -1
theorem nmF_p {h : Int → Int} {e i : Int} (hS : SgF h e) (h0 : 0 ≤ i) (hi : i ≤ e) : (i ≤ (nmF h i).1 ∧ (nmF h i).1 ≤ e) ∧ ∀ n, (nmF h i).2 = some n → i < (nmF h i).1 ∧ 0 ≤ n ∧ n ≤ 99 := by
  unfold nmF
  by_cases c : 48 ≤ h i ∧ h i ≤ 57
  · rw [if_pos c]
    have hie : i < e := by
      apply Classical.byContradiction
      intro q
      have := hS.2 i (by omega)
      omega
    by_cases c2 : ¬ h i = 48 ∧ (48 ≤ h (i + 1) ∧ h (i + 1) ≤ 57)
    · rw [if_pos c2]
      have hie2 : i + 1 < e := by
        apply Classical.byContradiction
        intro q
        have := hS.2 (i + 1) (by omega)
        omega
      refine ⟨by dsimp only; omega, fun n hn => ?_⟩
      have := Option.some.inj hn
      dsimp only
      omega
    · rw [if_neg c2]
      refine ⟨by dsimp only; omega, fun n hn => ?_⟩
      have := Option.some.inj hn
      dsimp only
      omega
  · rw [if_neg c]
    exact ⟨by dsimp only; omega, fun n hn => by cases hn⟩
theorem ltF_b {v : Int} : -1 ≤ ltF v ∧ ltF v < 6 := by
  unfold ltF
  repeat' split
  all_goals decide
theorem cpF_b {v : Int} : -1 ≤ cpF v ∧ cpF v < 3 := by
  unfold cpF
  repeat' split
  all_goals decide
theorem ltF_m : ltF (-1) = -1 := by decide
theorem cpF_m : cpF (-1) = -1 := by decide
def wfX (L : List Int) (k k' : Nat) : Prop := ∀ R, wfO R k' → wfO (L ++ R) k
theorem wfX.app {L M : List Int} {k k' k'' : Nat} (h : wfX L k k') (h' : wfX M k' k'') : wfX (L ++ M) k k'' := by
  intro R hR
  rw [List.append_assoc]
  exact h _ (h' R hR)
theorem tsF_p {h : Int → Int} {e i : Int} (hS : SgF h e) (h0 : 0 ≤ i) (hi : i ≤ e) : (i ≤ (tsF h i).1 ∧ (tsF h i).1 ≤ e) ∧ ∀ L, (tsF h i).2 = some L → i + L.length ≤ (tsF h i).1 ∧ i < (tsF h i).1 ∧ ∀ k : Nat, k + 1 ≤ 13 → wfX L k (k + 1) := by
  unfold tsF
  by_cases c1 : ltF (h i) = -1
  · rw [if_pos c1]; exact ⟨⟨Int.le_refl _, hi⟩, fun L hL => by cases hL⟩
  · rw [if_neg c1]
    have hie : i < e := by
      apply Classical.byContradiction
      intro q
      rw [hS.2 i (by omega)] at c1
      exact c1 ltF_m
    by_cases c2 : cpF (h (i + 1)) = -1
    · rw [if_pos c2]; exact ⟨by dsimp only; omega, fun L hL => by cases hL⟩
    · rw [if_neg c2]
      have hie2 : i + 1 < e := by
        apply Classical.byContradiction
        intro q
        rw [hS.2 (i + 1) (by omega)] at c2
        exact c2 cpF_m
      have hn := nmF_p hS (show 0 ≤ i + 2 by omega) (show i + 2 ≤ e by omega)
      rcases hm : nmF h (i + 2) with ⟨j, _ | n⟩
      · rw [hm] at hn
        dsimp only at hn ⊢
        exact ⟨by omega, fun L hL => by cases hL⟩
      · rw [hm] at hn
        dsimp only at hn ⊢
        obtain ⟨n1, n2, n3⟩ := hn.2 n rfl
        have hl := ltF_b (v := h i)
        have hc := cpF_b (v := h (i + 1))
        refine ⟨by omega, fun L hL => ?_⟩
        have hL' := Option.some.inj hL
        subst hL'
        refine ⟨by simp only [List.length_singleton]; omega, by omega, fun k hk R hR => ?_⟩
        exact Or.inl ⟨by omega, by omega, by omega, by omega, by omega, hR⟩
/-- what a mode may use of the stack -/
def dpM (m : Nat) (op : Int) : Int := match m with
  | 0 => 1 + 2 * (5 - op)
  | 1 => 2 + 2 * (5 - op)
  | 2 => 3 + 2 * (5 - op)
  | 3 => 1 + 2 * (5 - op)
  | _ => 2 + 2 * (5 - op)
def fuM (m : Nat) : Int := match m with
  | 0 => 1
  | 1 => 2
  | 2 => 3
  | _ => 1
/-- what is so of each reading -/
def RdP (e : Int) (m : Nat) (op i : Int) (x : RdR) : Prop := ∃ j o, x = some (j, o) ∧ (i ≤ j ∧ j ≤ e) ∧ ∀ L, o = some L → i + L.length ≤ j ∧ (m < 3 → i < j) ∧ ∀ k : Nat, (m < 3 → k + dpM m op ≤ 13 → wfX L k (k + 1)) ∧ (3 ≤ m → 1 ≤ k → k + dpM m op ≤ 13 → wfX L k k)
theorem sg_lt {h : Int → Int} {e i : Int} (hS : SgF h e) (hv : ¬ h i = -1) : i < e := by
  apply Classical.byContradiction
  intro q
  exact hv (hS.2 i (by omega))
theorem rd_p {h : Int → Int} {e : Int} (hS : SgF h e) : ∀ (f : Nat) (m : Nat) (op i : Int), m ≤ 4 → 0 ≤ i → i ≤ e → 0 ≤ op → op ≤ 5 → 4 * (e - i) + fuM m ≤ f → RdP e m op i (rd h f m op i) := by
  intro f
  induction f with
  | zero =>
    intro m op i hm h0 hi ho ho' hf
    exfalso
    have : 1 ≤ fuM m := by unfold fuM; split <;> decide
    omega
  | succ f ih =>
    intro m op i hm h0 hi ho ho' hf
    have h5 : m = 0 ∨ m = 1 ∨ m = 2 ∨ m = 3 ∨ m = 4 := by omega
    rcases h5 with rfl | rfl | rfl | rfl | rfl
    · simp only [fuM] at hf
      simp only [rd]
      by_cases c : h i = 33 ∨ h i = 40
      · rw [if_pos c]
        have hie := sg_lt (i := i) hS (by omega)
        by_cases c5 : op = 5
        · rw [if_pos c5]; exact ⟨i, none, rfl, ⟨Int.le_refl _, hi⟩, fun L hL => by cases hL⟩
        · rw [if_neg c5]
          by_cases c3 : h i = 33
          · rw [if_pos c3]
            obtain ⟨j, o, e1, e2, e3⟩ := ih 0 (op + 1) (i + 1) (by decide) (by omega) (by omega) (by omega) (by omega) (by simp only [fuM]; omega)
            rw [e1]
            cases o with
            | none => exact ⟨j, none, rfl, by omega, fun L hL => by cases hL⟩
            | some L =>
              obtain ⟨l1, l2, l3⟩ := e3 L rfl
              refine ⟨j, some (L ++ [-1]), rfl, by omega, fun L' hL' => ?_⟩
              have := Option.some.inj hL'
              subst this
              refine ⟨by rw [List.length_append, List.length_singleton]; omega, fun _ => by omega, fun k => ⟨fun _ hk => ?_, fun h3 => absurd h3 (by decide)⟩⟩
              simp only [dpM] at hk
              refine ((l3 k).1 (by decide) (by simp only [dpM]; omega)).app (fun R hR => ?_)
              exact Or.inr (Or.inl ⟨rfl, by omega, hR⟩)
          · rw [if_neg c3]
            obtain ⟨j, o, e1, e2, e3⟩ := ih 2 (op + 1) (i + 1) (by decide) (by omega) (by omega) (by omega) (by omega) (by simp only [fuM]; omega)
            rw [e1]
            cases o with
            | none => exact ⟨j, none, rfl, by omega, fun L hL => by cases hL⟩
            | some L =>
              obtain ⟨l1, l2, l3⟩ := e3 L rfl
              show RdP e 0 op i (if h j = 41 then some (j + 1, some L) else some (j, none))
              by_cases c4 : h j = 41
              · rw [if_pos c4]
                have hje := sg_lt (i := j) hS (by omega)
                refine ⟨j + 1, some L, rfl, by omega, fun L' hL' => ?_⟩
                have := Option.some.inj hL'
                subst this
                refine ⟨by omega, fun _ => by omega, fun k => ⟨fun _ hk => ?_, fun h3 => absurd h3 (by decide)⟩⟩
                simp only [dpM] at hk
                exact (l3 k).1 (by decide) (by simp only [dpM]; omega)
              · rw [if_neg c4]; exact ⟨j, none, rfl, by omega, fun L hL => by cases hL⟩
      · rw [if_neg c]
        have ht := tsF_p hS h0 hi
        rcases hm : tsF h i with ⟨j, o⟩
        rw [hm] at ht
        dsimp only at ht
        refine ⟨j, o, rfl, ht.1, fun L hL => ?_⟩
        obtain ⟨t1, t2, t3⟩ := ht.2 L hL
        refine ⟨t1, fun _ => t2, fun k => ⟨fun _ hk => t3 k (by simp only [dpM] at hk; omega), fun h3 => absurd h3 (by decide)⟩⟩
    · simp only [fuM] at hf
      simp only [rd]
      obtain ⟨j, o, e1, e2, e3⟩ := ih 0 op i (by decide) h0 hi ho ho' (by simp only [fuM]; omega)
      rw [e1]
      cases o with
      | none => exact ⟨j, none, rfl, e2, fun L hL => by cases hL⟩
      | some L =>
        obtain ⟨l1, l2, l3⟩ := e3 L rfl
        have l2 := l2 (by decide)
        obtain ⟨j2, o2, f1, f2, f3⟩ := ih 3 op j (by decide) (by omega) e2.2 ho ho' (by simp only [fuM]; omega)
        show RdP e 1 op i (bnd (rd h f 3 op j) fun j' L' => some (j', some (L ++ L')))
        rw [f1]
        cases o2 with
        | none => exact ⟨j2, none, rfl, by omega, fun L hL => by cases hL⟩
        | some L2 =>
          obtain ⟨m1, m2, m3⟩ := f3 L2 rfl
          refine ⟨j2, some (L ++ L2), rfl, by omega, fun L' hL' => ?_⟩
          have := Option.some.inj hL'
          subst this
          refine ⟨by rw [List.length_append]; omega, fun _ => by omega, fun k => ⟨fun _ hk => ?_, fun h3 => absurd h3 (by decide)⟩⟩
          simp only [dpM] at hk
          exact ((l3 k).1 (by decide) (by simp only [dpM]; omega)).app ((m3 (k + 1)).2 (by decide) (by omega) (by simp only [dpM]; omega))
    · simp only [fuM] at hf
      simp only [rd]
      obtain ⟨j, o, e1, e2, e3⟩ := ih 1 op i (by decide) h0 hi ho ho' (by simp only [fuM]; omega)
      rw [e1]
      cases o with
      | none => exact ⟨j, none, rfl, e2, fun L hL => by cases hL⟩
      | some L =>
        obtain ⟨l1, l2, l3⟩ := e3 L rfl
        have l2 := l2 (by decide)
        obtain ⟨j2, o2, f1, f2, f3⟩ := ih 4 op j (by decide) (by omega) e2.2 ho ho' (by simp only [fuM]; omega)
        show RdP e 2 op i (bnd (rd h f 4 op j) fun j' L' => some (j', some (L ++ L')))
        rw [f1]
        cases o2 with
        | none => exact ⟨j2, none, rfl, by omega, fun L hL => by cases hL⟩
        | some L2 =>
          obtain ⟨m1, m2, m3⟩ := f3 L2 rfl
          refine ⟨j2, some (L ++ L2), rfl, by omega, fun L' hL' => ?_⟩
          have := Option.some.inj hL'
          subst this
          refine ⟨by rw [List.length_append]; omega, fun _ => by omega, fun k => ⟨fun _ hk => ?_, fun h3 => absurd h3 (by decide)⟩⟩
          simp only [dpM] at hk
          exact ((l3 k).1 (by decide) (by simp only [dpM]; omega)).app ((m3 (k + 1)).2 (by decide) (by omega) (by simp only [dpM]; omega))
    · simp only [fuM] at hf
      simp only [rd]
      by_cases c : h i = 38
      · rw [if_pos c]
        have hie := sg_lt (i := i) hS (by omega)
        obtain ⟨j, o, e1, e2, e3⟩ := ih 0 op (i + 1) (by decide) (by omega) (by omega) ho ho' (by simp only [fuM]; omega)
        rw [e1]
        cases o with
        | none => exact ⟨j, none, rfl, by omega, fun L hL => by cases hL⟩
        | some L =>
          obtain ⟨l1, l2, l3⟩ := e3 L rfl
          have l2 := l2 (by decide)
          obtain ⟨j2, o2, f1, f2, f3⟩ := ih 3 op j (by decide) (by omega) e2.2 ho ho' (by simp only [fuM]; omega)
          show RdP e 3 op i (bnd (rd h f 3 op j) fun j' L' => some (j', some (L ++ -2 :: L')))
          rw [f1]
          cases o2 with
          | none => exact ⟨j2, none, rfl, by omega, fun L hL => by cases hL⟩
          | some L2 =>
            obtain ⟨m1, m2, m3⟩ := f3 L2 rfl
            refine ⟨j2, some (L ++ -2 :: L2), rfl, by omega, fun L' hL' => ?_⟩
            have := Option.some.inj hL'
            subst this
            refine ⟨by rw [List.length_append, List.length_cons]; omega, fun h3 => absurd h3 (by decide), fun k => ⟨fun h3 => absurd h3 (by decide), fun _ hk1 hk => ?_⟩⟩
            simp only [dpM] at hk
            refine ((l3 k).1 (by decide) (by simp only [dpM]; omega)).app (fun R hR => ?_)
            exact Or.inr (Or.inr ⟨Or.inl rfl, by omega, (m3 k).2 (by decide) hk1 (by simp only [dpM]; omega) R hR⟩)
      · rw [if_neg c]
        refine ⟨i, some [], rfl, ⟨Int.le_refl _, hi⟩, fun L hL => ?_⟩
        have := Option.some.inj hL
        subst this
        exact ⟨by simp, fun h3 => absurd h3 (by decide), fun k => ⟨fun h3 => absurd h3 (by decide), fun _ _ _ R hR => hR⟩⟩
    · simp only [fuM] at hf
      simp only [rd]
      by_cases c : h i = 124
      · rw [if_pos c]
        have hie := sg_lt (i := i) hS (by omega)
        obtain ⟨j, o, e1, e2, e3⟩ := ih 1 op (i + 1) (by decide) (by omega) (by omega) ho ho' (by simp only [fuM]; omega)
        rw [e1]
        cases o with
        | none => exact ⟨j, none, rfl, by omega, fun L hL => by cases hL⟩
        | some L =>
          obtain ⟨l1, l2, l3⟩ := e3 L rfl
          have l2 := l2 (by decide)
          obtain ⟨j2, o2, f1, f2, f3⟩ := ih 4 op j (by decide) (by omega) e2.2 ho ho' (by simp only [fuM]; omega)
          show RdP e 4 op i (bnd (rd h f 4 op j) fun j' L' => some (j', some (L ++ -3 :: L')))
          rw [f1]
          cases o2 with
          | none => exact ⟨j2, none, rfl, by omega, fun L hL => by cases hL⟩
          | some L2 =>
            obtain ⟨m1, m2, m3⟩ := f3 L2 rfl
            refine ⟨j2, some (L ++ -3 :: L2), rfl, by omega, fun L' hL' => ?_⟩
            have := Option.some.inj hL'
            subst this
            refine ⟨by rw [List.length_append, List.length_cons]; omega, fun h3 => absurd h3 (by decide), fun k => ⟨fun h3 => absurd h3 (by decide), fun _ hk1 hk => ?_⟩⟩
            simp only [dpM] at hk
            refine ((l3 k).1 (by decide) (by simp only [dpM]; omega)).app (fun R hR => ?_)
            exact Or.inr (Or.inr ⟨Or.inr rfl, by omega, (m3 k).2 (by decide) hk1 (by simp only [dpM]; omega) R hR⟩)
      · rw [if_neg c]
        refine ⟨i, some [], rfl, ⟨Int.le_refl _, hi⟩, fun L hL => ?_⟩
        have := Option.some.inj hL
        subst this
        exact ⟨by simp, fun h3 => absurd h3 (by decide), fun k => ⟨fun h3 => absurd h3 (by decide), fun _ _ _ R hR => hR⟩⟩
