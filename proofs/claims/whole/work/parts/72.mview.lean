/-! ===== the reference's view ===== -/
abbrev Cl : Type := Nat × Int × List Int
def ClP (e i : Int) (x : ClR) : Prop := (i ≤ x.1 ∧ x.1 ≤ e) ∧ ∀ c, x.2 = some c → i < x.1 ∧ c.1 < 5 ∧ (0 ≤ c.2.1 ∧ c.2.1 ≤ 99) ∧ i + c.2.2.length + 1 ≤ x.1 ∧ (¬ c.1 < 3 → wfO c.2.2 0)
theorem nuF_p {h : Int → Int} {e i : Int} {w : Nat} (hS : SgF h e) (he : e ≤ 100) (hw : w < 5) (h0 : 0 ≤ i) (hi : i ≤ e) : ClP e i (nuF h w i) := by
  unfold nuF
  have hp := nmF_p hS h0 hi
  rcases hnm : nmF h i with ⟨j, _ | n⟩
  · rw [hnm] at hp
    exact ⟨hp.1, fun c hc => by cases hc⟩
  · rw [hnm] at hp
    obtain ⟨n1, n2, n3⟩ := hp.2 n rfl
    dsimp only at n1 hp ⊢
    by_cases hw3 : w < 3
    · rw [if_pos hw3]
      refine ⟨by dsimp only; omega, fun c hc => ?_⟩
      have := Option.some.inj hc
      subst this
      exact ⟨n1, hw, ⟨n2, n3⟩, by simp only [List.length_nil]; omega, fun h => absurd hw3 h⟩
    · rw [if_neg hw3]
      by_cases c32 : h j = 32
      · rw [if_pos c32]
        have hie := sg_lt (i := j) hS (by omega)
        obtain ⟨k, o, q1, q2, q3⟩ := rd_p hS 404 2 0 (j + 1) (by decide) (by omega) (by omega) (by decide) (by decide) (by simp only [fuM]; omega)
        rw [q1]
        cases o with
        | none => exact ⟨by dsimp only; omega, fun c hc => by cases hc⟩
        | some L =>
          obtain ⟨l1, l2, l3⟩ := q3 L rfl
          have l2 := l2 (by decide)
          refine ⟨by dsimp only; omega, fun c hc => ?_⟩
          have := Option.some.inj hc
          subst this
          refine ⟨by dsimp only; omega, hw, ⟨n2, n3⟩, by dsimp only; omega, fun _ => ?_⟩
          have := (l3 0).1 (by decide) (by decide) [] rfl
          rw [List.append_nil] at this
          exact this
      · rw [if_neg c32]; exact ⟨by dsimp only; omega, fun c hc => by cases hc⟩
theorem wsF_p {h : Int → Int} {e i : Int} {w : Nat} {W : List Int} (hS : SgF h e) (he : e ≤ 100) (hw : w < 5) (hW : ∀ x ∈ W, 0 ≤ x) (h0 : 0 ≤ i) (hi : i ≤ e) : ClP e i (wsF h w W i) := by
  obtain ⟨s1, s2, s3⟩ := sqF_p hS W i (fun q hq => by
    rw [List.getD_eq_getElem?_getD, List.getElem?_eq_getElem hq]
    exact hW _ (List.getElem_mem hq)) h0 hi
  unfold wsF
  rcases hsq : sqF h W i with ⟨j, _ | _⟩
  · rw [hsq] at s1 s2
    exact ⟨⟨s1, s2⟩, fun c hc => by cases hc⟩
  · rw [hsq] at s1 s2
    dsimp only at s1 s2
    obtain ⟨a1, a2⟩ := nuF_p (w := w) hS he hw (show 0 ≤ j by omega) s2
    refine ⟨⟨by dsimp only; omega, a1.2⟩, fun c hc => ?_⟩
    obtain ⟨b1, b2, b3, b4, b5⟩ := a2 c hc
    exact ⟨by dsimp only at b1 ⊢; omega, b2, b3, by dsimp only at b4 ⊢; omega, b5⟩
theorem clF_p {h : Int → Int} {e i : Int} (hS : SgF h e) (he : e ≤ 100) (h0 : 0 ≤ i) (hi : i ≤ e) : ClP e i (clF h i) := by
  unfold clF
  by_cases c0 : h i = 99
  · rw [if_pos c0]; exact wsF_p hS he (by decide) (by decide) h0 hi
  · rw [if_neg c0]
    by_cases c1 : h i = 97
    · rw [if_pos c1]; exact wsF_p hS he (by decide) (by decide) h0 hi
    · rw [if_neg c1]
      by_cases c2 : h i = 104
      · rw [if_pos c2]; exact wsF_p hS he (by decide) (by decide) h0 hi
      · rw [if_neg c2]
        by_cases c3 : h i = 100
        · rw [if_pos c3]
          have hie := sg_lt (i := i) hS (by omega)
          have J : ∀ x, ClP e (i + 1) x → ClP e i x := fun x hx => ⟨⟨by have := hx.1.1; omega, hx.1.2⟩, fun c hc => by
            obtain ⟨b1, b2, b3, b4, b5⟩ := hx.2 c hc
            exact ⟨by omega, b2, b3, by omega, b5⟩⟩
          by_cases c4 : h (i + 1) = 101
          · rw [if_pos c4]; exact J _ (wsF_p hS he (by decide) (by decide) (by omega) (by omega))
          · rw [if_neg c4]; exact J _ (wsF_p hS he (by decide) (by decide) (by omega) (by omega))
        · rw [if_neg c3]; exact ⟨⟨Int.le_refl _, hi⟩, fun c hc => by cases hc⟩
/-- from behind a clause: what follows -/
def vwL (h : Int → Int) : Nat → Int → List Cl → Int × Option (List Cl)
  | 0, j, cs => if h j = -1 then (j, some cs) else (j, none)
  | m + 1, j, cs => if h j = 59 then (match clF h (j + 1) with
      | (k, none) => (k, none)
      | (k, some c) => vwL h m k (cs ++ [c])) else if h j = -1 then (j, some cs) else (j, none)
def vwF (h : Int → Int) : Int × Option (List Cl) := match clF h 0 with
  | (k, none) => (k, none)
  | (k, some c) => vwL h 9 k [c]
/-- what is so of clauses that were read -/
def CsP (cs : List Cl) : Prop := ∀ c ∈ cs, c.1 < 5 ∧ (0 ≤ c.2.1 ∧ c.2.1 ≤ 99) ∧ (¬ c.1 < 3 → wfO c.2.2 0)
theorem CsP.snoc {cs : List Cl} {c : Cl} (h : CsP cs) (hc : c.1 < 5 ∧ (0 ≤ c.2.1 ∧ c.2.1 ≤ 99) ∧ (¬ c.1 < 3 → wfO c.2.2 0)) : CsP (cs ++ [c]) := by
  intro x hx
  rcases List.mem_append.mp hx with hx | hx
  · exact h x hx
  · rw [List.mem_singleton.mp hx]; exact hc
theorem flC_app : ∀ (L M : List (List Int × Int)), flC (L ++ M) = flC L ++ flC M := by
  intro L
  induction L with
  | nil => intro M; rfl
  | cons c L ih => intro M; simp only [List.cons_append, flC]; rw [ih, List.append_assoc]; rfl
theorem fc_snoc {cs : List Cl} {c : Cl} : flC (condL (cs ++ [c])) = flC (condL cs) ++ (if c.1 < 3 then [] else c.2.2 ++ [mkC c.1 c.2.1]) := by
  rw [condL_app, flC_app]
  congr 1
  show flC (if c.1 < 3 then [] else (c.2.2, mkC c.1 c.2.1) :: []) = _
  by_cases h : c.1 < 3
  · rw [if_pos h, if_pos h]; rfl
  · rw [if_neg h, if_neg h]; rfl
theorem fc_len {cs : List Cl} {c : Cl} {j k : Int} (h : ((flC (condL cs)).length : Int) ≤ j) (hk : j + c.2.2.length + 1 ≤ k) : ((flC (condL (cs ++ [c]))).length : Int) ≤ k := by
  rw [fc_snoc, List.length_append]
  by_cases h3 : c.1 < 3
  · rw [if_pos h3]; simp only [List.length_nil]; omega
  · rw [if_neg h3, List.length_append, List.length_singleton]; omega
def VwP (e : Int) (x : Int × Option (List Cl)) : Prop := (0 ≤ x.1 ∧ x.1 ≤ e) ∧ ∀ cs, x.2 = some cs → CsP cs ∧ cs.length ≤ 10 ∧ ((flC (condL cs)).length : Int) ≤ e
theorem vwL_p {h : Int → Int} {e : Int} (hS : SgF h e) (he : e ≤ 100) : ∀ (m : Nat) (j : Int) (cs : List Cl), 0 ≤ j → j ≤ e → CsP cs → cs.length + m ≤ 10 → ((flC (condL cs)).length : Int) ≤ j → VwP e (vwL h m j cs) := by
  intro m
  induction m with
  | zero =>
    intro j cs h0 hj hc hl hf
    simp only [vwL]
    by_cases c : h j = -1
    · rw [if_pos c]
      exact ⟨⟨h0, hj⟩, fun cs' hcs => by
        have := Option.some.inj hcs
        subst this
        exact ⟨hc, by omega, by omega⟩⟩
    · rw [if_neg c]; exact ⟨⟨h0, hj⟩, fun cs' hcs => by cases hcs⟩
  | succ m ih =>
    intro j cs h0 hj hc hl hf
    simp only [vwL]
    by_cases c : h j = 59
    · rw [if_pos c]
      have hie := sg_lt (i := j) hS (by omega)
      obtain ⟨p1, p2⟩ := clF_p (i := j + 1) hS he (by omega) (by omega)
      rcases hcl : clF h (j + 1) with ⟨k, _ | cl⟩
      · rw [hcl] at p1
        exact ⟨⟨by dsimp only at p1 ⊢; omega, p1.2⟩, fun cs' hcs => by cases hcs⟩
      · rw [hcl] at p1 p2
        obtain ⟨b1, b2, b3, b4, b5⟩ := p2 cl rfl
        dsimp only at p1 b1 b4 ⊢
        exact ih k (cs ++ [cl]) (by omega) p1.2 (hc.snoc ⟨b2, b3, b5⟩) (by rw [List.length_append, List.length_singleton]; omega) (fc_len hf (by omega))
    · rw [if_neg c]
      by_cases c : h j = -1
      · rw [if_pos c]
        exact ⟨⟨h0, hj⟩, fun cs' hcs => by
          have := Option.some.inj hcs
          subst this
          exact ⟨hc, by omega, by omega⟩⟩
      · rw [if_neg c]; exact ⟨⟨h0, hj⟩, fun cs' hcs => by cases hcs⟩
theorem CsP.one {c : Cl} (hc : c.1 < 5 ∧ (0 ≤ c.2.1 ∧ c.2.1 ≤ 99) ∧ (¬ c.1 < 3 → wfO c.2.2 0)) : CsP [c] := by
  intro x hx
  rw [List.mem_singleton.mp hx]; exact hc
theorem fc_one {c : Cl} {j k : Int} (h : 0 ≤ j) (hk : j + c.2.2.length + 1 ≤ k) : ((flC (condL [c])).length : Int) ≤ k := fc_len (cs := []) (j := j) h hk
theorem vwF_p {h : Int → Int} {e : Int} (hS : SgF h e) (h0 : 0 ≤ e) (he : e ≤ 100) : VwP e (vwF h) := by
  unfold vwF
  obtain ⟨p1, p2⟩ := clF_p (i := 0) hS he (by omega) (by omega)
  rcases hcl : clF h 0 with ⟨k, _ | cl⟩
  · rw [hcl] at p1
    exact ⟨p1, fun cs' hcs => by cases hcs⟩
  · rw [hcl] at p1 p2
    obtain ⟨b1, b2, b3, b4, b5⟩ := p2 cl rfl
    dsimp only at p1 b1 b4 ⊢
    exact vwL_p hS he 9 k [cl] p1.1 p1.2 (CsP.one ⟨b2, b3, b5⟩) (by simp only [List.length_singleton]; omega) (fc_one (Int.le_refl _) b4)
/-! ===== the numbers, as clauses make them ===== -/
theorem seg_c {s s' : Int → Int} : ∀ (n : Nat) (b : Int), (∀ k : Int, b ≤ k → k < b + n → s' k = s k) → seg s' b n = seg s b n := by
  intro n
  induction n with
  | zero => intro b _; rfl
  | succ n ih =>
    intro b hb
    simp only [seg]
    rw [hb b (Int.le_refl _) (by omega), ih (b + 1) (fun k h0 h1 => hb k (by omega) (by omega))]
theorem seg_app {s : Int → Int} : ∀ (n m : Nat) (b : Int), seg s b (n + m) = seg s b n ++ seg s (b + n) m := by
  intro n
  induction n with
  | zero => intro m b; simp only [Nat.zero_add, seg, List.nil_append, Int.natCast_zero, Int.add_zero]
  | succ n ih =>
    intro m b
    rw [show n + 1 + m = (n + m) + 1 by omega]
    simp only [seg, List.cons_append]
    rw [ih m (b + 1), show b + 1 + (n : Int) = b + ((n + 1 : Nat) : Int) by omega]
theorem emL_seg {a : Int} (ha : 0 ≤ a) : ∀ (L : List Int) (s : Int → Int) (n : Nat), s (214 + a) = n → n + L.length ≤ 140 → seg (emL a L s) (219 + 140 * a) (n + L.length) = seg s (219 + 140 * a) n ++ L := by
  intro L
  induction L with
  | nil => intro s n _ _; simp only [emL, List.length_nil, Nat.add_zero, List.append_nil]
  | cons x L ih =>
    intro s n hn hl
    rw [List.length_cons] at hl
    have h1 : emS a x s (214 + a) = ((n + 1 : Nat) : Int) := by rw [emS_n, hn]; omega
    have := ih (emS a x s) (n + 1) h1 (by omega)
    show seg (emL a L (emS a x s)) _ _ = _
    rw [List.length_cons, show n + (L.length + 1) = n + 1 + L.length by omega, this, seg_app n 1]
    have e1 : seg (emS a x s) (219 + 140 * a) n = seg s (219 + 140 * a) n := seg_c n _ (fun k k0 k1 => by
      unfold emS
      rw [sH_k (by omega), sH_k (by omega)])
    have e2 : seg (emS a x s) (219 + 140 * a + n) 1 = [x] := by
      simp only [seg]
      congr 1
      unfold emS
      rw [sH_k (by omega), hn, sH_s]
    rw [e1, e2, List.append_assoc]
    rfl
/-- the numbers after some clauses -/
def ApI (a : Int) (s0 : Int → Int) (cs : List Cl) (s : Int → Int) : Prop :=
  OutV a s0 s ∧ (s (199 + a) = lastN 0 8 cs ∧ s (204 + a) = lastN 1 0 cs ∧ s (209 + a) = lastN 2 0 cs) ∧ s (214 + a) = ((flC (condL cs)).length : Int) ∧ seg s (219 + 140 * a) (flC (condL cs)).length = flC (condL cs)
theorem lastN_snoc {w : Nat} {d : Int} {cs : List Cl} {c : Cl} : lastN w d (cs ++ [c]) = if c.1 = w then c.2.1 else lastN w d cs := by
  rw [lastN_app]
  rfl
theorem ApI.step {a : Int} {s0 s : Int → Int} {cs : List Cl} {c : Cl} (h : ApI a s0 cs s) (ha : 0 ≤ a) (ha' : a ≤ 4) (hc : c.1 < 5) (hl : (flC (condL cs)).length + c.2.2.length + 1 ≤ 140) : ApI a s0 (cs ++ [c]) (apC a c s) := by
  obtain ⟨h1, ⟨h2, h3, h4⟩, h5, h6⟩ := h
  have hN : ∀ (k : Int) (s' : Int → Int), (k = 199 ∨ k = 204 ∨ k = 209) → s' = sH s (k + a) c.2.1 → c.1 < 3 → OutV a s0 s' ∧ s' (214 + a) = ((flC (condL (cs ++ [c]))).length : Int) ∧ seg s' (219 + 140 * a) (flC (condL (cs ++ [c]))).length = flC (condL (cs ++ [c])) := by
    intro k s' hk hs' hc3
    have e : flC (condL (cs ++ [c])) = flC (condL cs) := by rw [fc_snoc, if_pos hc3, List.append_nil]
    rw [e]
    refine ⟨h1.tr ?_, ?_, ?_⟩
    · intro q q1 q2 q3 q4 q5
      rw [hs', sH_k (by omega)]
    · rw [hs', sH_k (by omega)]; exact h5
    · rw [seg_c (s := s) _ _ (fun q q0 q1 => by rw [hs', sH_k (by omega)])]; exact h6
  unfold apC
  by_cases c0 : c.1 = 0
  · rw [if_pos c0]
    obtain ⟨g1, g2, g3⟩ := hN 199 _ (Or.inl rfl) rfl (by omega)
    refine ⟨g1, ⟨?_, ?_, ?_⟩, g2, g3⟩
    · rw [lastN_snoc, if_pos c0, sH_s]
    · rw [lastN_snoc, if_neg (by omega), sH_k (by omega)]; exact h3
    · rw [lastN_snoc, if_neg (by omega), sH_k (by omega)]; exact h4
  · rw [if_neg c0]
    by_cases c1 : c.1 = 1
    · rw [if_pos c1]
      obtain ⟨g1, g2, g3⟩ := hN 204 _ (Or.inr (Or.inl rfl)) rfl (by omega)
      refine ⟨g1, ⟨?_, ?_, ?_⟩, g2, g3⟩
      · rw [lastN_snoc, if_neg (by omega), sH_k (by omega)]; exact h2
      · rw [lastN_snoc, if_pos c1, sH_s]
      · rw [lastN_snoc, if_neg (by omega), sH_k (by omega)]; exact h4
    · rw [if_neg c1]
      by_cases c2 : c.1 = 2
      · rw [if_pos c2]
        obtain ⟨g1, g2, g3⟩ := hN 209 _ (Or.inr (Or.inr rfl)) rfl (by omega)
        refine ⟨g1, ⟨?_, ?_, ?_⟩, g2, g3⟩
        · rw [lastN_snoc, if_neg (by omega), sH_k (by omega)]; exact h2
        · rw [lastN_snoc, if_neg (by omega), sH_k (by omega)]; exact h3
        · rw [lastN_snoc, if_pos c2, sH_s]
      · rw [if_neg c2]
        have e : flC (condL (cs ++ [c])) = flC (condL cs) ++ (c.2.2 ++ [mkC c.1 c.2.1]) := by rw [fc_snoc, if_neg (by omega)]
        have el : (c.2.2 ++ [mkC c.1 c.2.1]).length = c.2.2.length + 1 := by rw [List.length_append, List.length_singleton]
        have ho := emL_out (a := a) (c.2.2 ++ [mkC c.1 c.2.1]) s (by omega) (by rw [el]; omega)
        refine ⟨h1.tr ho.v, ⟨?_, ?_, ?_⟩, ?_, ?_⟩
        · rw [lastN_snoc, if_neg (by omega), ho _ (by omega) (by omega)]; exact h2
        · rw [lastN_snoc, if_neg (by omega), ho _ (by omega) (by omega)]; exact h3
        · rw [lastN_snoc, if_neg (by omega), ho _ (by omega) (by omega)]; exact h4
        · rw [emL_n, h5, e]; simp only [List.length_append]; omega
        · rw [e, List.length_append, emL_seg ha _ s _ h5 (by rw [el]; omega), h6]
/-- the signs that a view reads -/
def hVw (s : Int → Int) : Int → Int := hM (sH s 16 0) (s 16)
theorem hVw_S {s : Int → Int} (he0 : 0 ≤ s 16) (he : s 16 ≤ 100) (hT : ∀ j : Int, 0 ≤ j → j < 100 → 0 ≤ s (99 + j) ∧ s (99 + j) ≤ 127) : SgF (hVw s) (s 16) := by
  refine ⟨fun i i0 i1 => ?_, fun i i1 => ?_⟩
  · unfold hVw hM; rw [if_pos i1, sH_k (by omega)]; exact hT i i0 (by omega)
  · unfold hVw hM; rw [if_neg (by omega)]
/-- a view's answer, and what the numbers become -/
def vwA (s : Int → Int) : Int := if s 12 = 5 then -4 else match vwF (hVw s) with
  | (j, none) => -10 - j
  | (_, some _) => s 12
def VwX (a : Int) (s0 : Int → Int) (x : Int × Option (List Cl)) (s' : Int → Int) : Prop := match x with
  | (_, none) => OutV a s0 s'
  | (_, some cs) => ∃ s1, ApI a s0 cs s1 ∧ s' = sH (sH s1 12 (a + 1)) 17 a
def VwR (s s' : Int → Int) : Prop := if s 12 = 5 then s' = s else VwX (s 12) (sH s 16 0) (vwF (hVw s)) s'
def vwO (a : Int) (x : Int × Option (List Cl)) : Int := match x with
  | (j, none) => -10 - j
  | (_, some _) => a
section MO
variable {d : Nat} {G : Gh} {mi mi' mi'' : Mi} {K : Option PV → Gh → Mi → Prop} {p v a b c k n g q e i j op x : Int} {h : Int → Int} {cs : List Cl} {s0 : Int → Int} {x1 : Option PV}
def ScV (mi mi' : Mi) : Prop := Sc [46, 47] mi mi' ∧ ∀ k : Int, ¬ k = 7 → ¬ k = 9 → ¬ k = 10 → mi' 46 k = mi 46 k
theorem ScV.rf : ScV mi mi := ⟨Sc.rf, fun _ _ _ _ => rfl⟩
theorem ScV.tr (h : ScV mi mi') (h' : ScV mi' mi'') : ScV mi mi'' := ⟨h.1.tr h'.1, fun k a b c => (h'.2 k a b c).trans (h.2 k a b c)⟩
theorem m_view_bad (hG : ShM G) (h9 : mi 46 9 = 1) (h7 : mi 46 7 = k) (hk : 0 ≤ k) (hk' : k ≤ 100) : Ok (d + 416) 23 122 [some (pR (some 46)), x1] [] G mi K = K (some (pI (-10 - k))) G mi := by
  obtain ⟨⟨k46, k47, l47, k48, l48, k49, l49, k50, l50, k51, l51⟩, ⟨k52, l52, k53, l53, k54, l54⟩, ⟨g1, g2, g3, g11, g12, g15, g16, g18⟩⟩ := id hG
  simp (disch := first | assumption | exact isL_i | exact isL_r | exact isL_n | exact i01a | exact i01b | omega) only [K23_122, K23_123, K23_126, K23_164, K23_165, K23_168, K23_171, K23_172, K23_175, K23_176, K23_179, K23_182, K23_184, K23_185, K23_188, K23_189, g1, g2, g3, g11, g12, g15, g16, g18, wr_id, td_e, tm_e, pu_n, pu_s, up_s, up_k, up_a, ↓reduceIte, Int.reduceLT, Int.reduceLE, Int.reduceEq, Int.reduceNeg, Int.reduceAdd, Int.reduceSub, Int.reduceMul, Int.reduceMod, Int.reduceDiv, Int.cast_ofNat_Int, not_true_eq_false, not_false_eq_true, Int.reduceTDiv, Int.reduceTMod, h9, h7, if_pos, if_neg]
theorem m_view_end (hG : ShM G) (hS : SgF h e) (ha : 0 ≤ a) (ha' : a ≤ 4) (he : e ≤ 100) (h12 : s0 12 = a) (hs : StM h a e 0 j mi) (hA : ApI a s0 cs (mi 47)) (h0 : 0 ≤ j) (hj : j ≤ e)
    (hK : ∀ mi', ScV mi mi' → VwX a s0 (if h j = -1 then (j, some cs) else (j, none)) (mi' 47) → K (some (pI (vwO a (if h j = -1 then (j, some cs) else (j, none))))) G mi') : Ok (d + 416) 23 164 [some (pR (some 46)), x1] [] G mi K := by
  obtain ⟨⟨k46, k47, l47, k48, l48, k49, l49, k50, l50, k51, l51⟩, ⟨k52, l52, k53, l53, k54, l54⟩, ⟨g1, g2, g3, g11, g12, g15, g16, g18⟩⟩ := id hG
  obtain ⟨⟨h6, h7, h8, h9, h10⟩, hh, hm, hm'⟩ := hs
  have e12 : mi 47 12 = a := by rw [hA.1 12 (by omega) (by omega) (by omega) (by omega) (by omega)]; exact h12
  by_cases c : h j = -1
  · rw [if_pos c] at hK
    have hje : j = e := by
      apply Classical.byContradiction
      intro q
      have := hS.1 j h0 (by omega)
      omega
    have hK := fun mi' x y => hK mi' x y
    simp (disch := first | assumption | exact isL_i | exact isL_r | exact isL_n | exact i01a | exact i01b | omega) only [K23_164, K23_165, K23_168, K23_171, K23_172, K23_175, K23_176, K23_179, K23_190, K23_191, K23_194, K23_196, K23_197, K23_198, K23_199, K23_200, K23_201, K23_202, K23_205, K23_207, K23_208, K23_211, K23_212, K23_213, K23_216, g1, g2, g3, g11, g12, g15, g16, g18, wr_id, td_e, tm_e, pu_n, pu_s, up_s, up_k, up_a, ↓reduceIte, Int.reduceLT, Int.reduceLE, Int.reduceEq, Int.reduceNeg, Int.reduceAdd, Int.reduceSub, Int.reduceMul, Int.reduceMod, Int.reduceDiv, Int.cast_ofNat_Int, not_true_eq_false, not_false_eq_true, Int.reduceTDiv, Int.reduceTMod, h9, h7, h8, h6, e12, if_pos, if_neg]
    refine hK _ ⟨(sc_up (by decide)).u (by decide), fun k _ _ _ => by rw [up_a (by decide), up_a (by decide)]⟩ ⟨mi 47, hA, ?_⟩
    rw [up_sH, up_sH]
  · rw [if_neg c] at hK
    have hje : ¬ j = e := fun q => c (hS.2 j (by omega))
    simp (disch := first | assumption | exact isL_i | exact isL_r | exact isL_n | exact i01a | exact i01b | omega) only [K23_164, K23_165, K23_168, K23_171, K23_172, K23_175, K23_176, K23_179, K23_182, K23_184, K23_185, K23_188, K23_189, g1, g2, g3, g11, g12, g15, g16, g18, wr_id, td_e, tm_e, pu_n, pu_s, up_s, up_k, up_a, ↓reduceIte, Int.reduceLT, Int.reduceLE, Int.reduceEq, Int.reduceNeg, Int.reduceAdd, Int.reduceSub, Int.reduceMul, Int.reduceMod, Int.reduceDiv, Int.cast_ofNat_Int, not_true_eq_false, not_false_eq_true, Int.reduceTDiv, Int.reduceTMod, h9, h7, h8, if_pos, if_neg]
    exact hK _ ScV.rf hA.1
theorem m_view_lp (hG : ShM G) (hS : SgF h e) (ha : 0 ≤ a) (ha' : a ≤ 4) (he : e ≤ 100) (h12 : s0 12 = a) : ∀ (m : Nat) (mi : Mi) (j : Int) (cs : List Cl), m ≤ 9 → 0 ≤ j → j ≤ e → StM h a e 0 j mi → ApI a s0 cs (mi 47) → ((flC (condL cs)).length : Int) ≤ j →
    (∀ mi', ScV mi mi' → VwX a s0 (vwL h m j cs) (mi' 47) → K (some (pI (vwO a (vwL h m j cs)))) G mi') →
    Ok (d + 416) 23 122 [some (pR (some 46)), some (pI (10 - m))] [] G mi K := by
  obtain ⟨⟨k46, k47, l47, k48, l48, k49, l49, k50, l50, k51, l51⟩, ⟨k52, l52, k53, l53, k54, l54⟩, ⟨g1, g2, g3, g11, g12, g15, g16, g18⟩⟩ := id hG
  intro m
  induction m with
  | zero =>
    intro mi j cs hm h0 hj hs hA hf hK
    have h9 := hs.1.2.2.2.1
    simp (disch := first | assumption | exact isL_i | exact isL_r | exact isL_n | exact i01a | exact i01b | omega) only [K23_122, K23_123, K23_126, K23_129, K23_130, K23_132, g1, g2, g3, g11, g12, g15, g16, g18, wr_id, td_e, tm_e, pu_n, pu_s, up_s, up_k, up_a, ↓reduceIte, Int.reduceLT, Int.reduceLE, Int.reduceEq, Int.reduceNeg, Int.reduceAdd, Int.reduceSub, Int.reduceMul, Int.reduceMod, Int.reduceDiv, Int.cast_ofNat_Int, not_true_eq_false, not_false_eq_true, Int.reduceTDiv, Int.reduceTMod, h9, if_pos, if_neg]
    exact m_view_end hG hS ha ha' he h12 hs hA h0 hj hK
  | succ m ih =>
    intro mi j cs hm h0 hj hs hA hf hK
    have h9 := hs.1.2.2.2.1
    have h7 := hs.1.2.1
    simp only [vwL] at hK
    simp (disch := first | assumption | exact isL_i | exact isL_r | exact isL_n | exact i01a | exact i01b | omega) only [K23_122, K23_123, K23_126, K23_129, K23_130, K23_132, K23_135, g1, g2, g3, g11, g12, g15, g16, g18, wr_id, td_e, tm_e, pu_n, pu_s, up_s, up_k, up_a, ↓reduceIte, Int.reduceLT, Int.reduceLE, Int.reduceEq, Int.reduceNeg, Int.reduceAdd, Int.reduceSub, Int.reduceMul, Int.reduceMod, Int.reduceDiv, Int.cast_ofNat_Int, not_true_eq_false, not_false_eq_true, Int.reduceTDiv, Int.reduceTMod, h9, if_pos, if_neg]
    rw [K23_136 k46, m_here' hG hs h0 he]
    by_cases c : h j = 59
    · rw [if_pos c] at hK
      have hie := sg_lt (i := j) hS (by omega)
      have hs1 := hs.pp
      simp (disch := first | assumption | exact isL_i | exact isL_r | exact isL_n | exact i01a | exact i01b | omega) only [K23_139, K23_141, K23_144, K23_145, K23_145i, K23_146, K23_149, K23_150, K23_151, K23_154, g1, g2, g3, g11, g12, g15, g16, g18, wr_id, td_e, tm_e, pu_n, pu_s, up_s, up_k, up_a, ↓reduceIte, Int.reduceLT, Int.reduceLE, Int.reduceEq, Int.reduceNeg, Int.reduceAdd, Int.reduceSub, Int.reduceMul, Int.reduceMod, Int.reduceDiv, Int.cast_ofNat_Int, not_true_eq_false, not_false_eq_true, Int.reduceTDiv, Int.reduceTMod, h7, c, if_pos, if_neg]
      rw [K23_155 k46]
      obtain ⟨p1, p2⟩ := clF_p (i := j + 1) hS he (by omega) (by omega)
      refine m_clause (d := d) hG hS ha ha' he hs1 (by omega) (by omega) fun m2 hp => ?_
      have e47 : up mi 46 7 (j + 1) 47 = mi 47 := up_a (by decide)
      have hsc1 : ScV mi (up mi 46 7 (j + 1)) := ⟨sc_up (by decide), fun k a b c => up_k a⟩
      simp (disch := first | assumption | exact isL_i | exact isL_r | exact isL_n | exact i01a | exact i01b | omega) only [K23_158, K23_161, wr_id, td_e, tm_e, pu_n, pu_s, up_s, up_k, up_a, ↓reduceIte, Int.reduceLT, Int.reduceLE, Int.reduceEq, Int.reduceNeg, Int.reduceAdd, Int.reduceSub, Int.reduceMul, Int.reduceMod, Int.reduceDiv, Int.cast_ofNat_Int, not_true_eq_false, not_false_eq_true, Int.reduceTDiv, Int.reduceTMod, pu_n]
      rcases hcl : clF h (j + 1) with ⟨k, _ | cl⟩
      · rw [hcl] at hp p1 hK
        obtain ⟨q1, q2, q3, q4, q5⟩ := hp
        dsimp only at p1 hK q3
        rw [m_view_bad hG q4 q3 (by omega) (by omega)]
        refine hK m2 (hsc1.tr ⟨q1, q2⟩) ?_
        rw [e47] at q5
        exact hA.1.tr q5
      · rw [hcl] at hp p1 p2 hK
        obtain ⟨q1, q2, q3, q4, q5, q6⟩ := hp
        obtain ⟨b1, b2, b3, b4, b5⟩ := p2 cl rfl
        dsimp only at p1 hK q3 b1 b4
        rw [e47] at q6
        have hA2 : ApI a s0 (cs ++ [cl]) (m2 47) := by rw [q6]; exact hA.step ha ha' b2 (by omega)
        have hf2 : ((flC (condL (cs ++ [cl]))).length : Int) ≤ k := fc_len hf (by omega)
        obtain ⟨⟨g6, g7, g8, g9, g10⟩, gh, -, -⟩ := id hs1
        have hs2 : StM h a e 0 k m2 := by
          refine ⟨⟨by rw [q2 6 (by decide) (by decide) (by decide)]; exact g6, q3, by rw [q2 8 (by decide) (by decide) (by decide)]; exact g8, q4, q5⟩, ?_, ?_, ?_⟩
          · rw [← hs.2.1]
            funext q
            unfold hM
            by_cases cq : q < e
            · rw [if_pos cq, if_pos cq, hA2.1 _ (by omega) (by omega) (by omega) (by omega) (by omega), hA.1 _ (by omega) (by omega) (by omega) (by omega) (by omega)]
            · rw [if_neg cq, if_neg cq]
          · rw [hA2.2.2.1]; omega
          · rw [hA2.2.2.1]; exact hf2
        have J := ih m2 k (cs ++ [cl]) (by omega) (by omega) p1.2 hs2 hA2 hf2 (fun mi' hv hx => hK mi' ((hsc1.tr ⟨q1, q2⟩).tr hv) hx)
        rw [show (10 : Int) - ((m + 1 : Nat) : Int) + 1 = 10 - (m : Int) by omega]
        exact J
    · rw [if_neg c] at hK
      simp (disch := first | assumption | exact isL_i | exact isL_r | exact isL_n | exact i01a | exact i01b | omega) only [K23_139, K23_141, g1, g2, g3, g11, g12, g15, g16, g18, wr_id, td_e, tm_e, pu_n, pu_s, up_s, up_k, up_a, ↓reduceIte, Int.reduceLT, Int.reduceLE, Int.reduceEq, Int.reduceNeg, Int.reduceAdd, Int.reduceSub, Int.reduceMul, Int.reduceMod, Int.reduceDiv, Int.cast_ofNat_Int, not_true_eq_false, not_false_eq_true, Int.reduceTDiv, Int.reduceTMod, c, if_pos, if_neg]
      exact m_view_end hG hS ha ha' he h12 hs hA h0 hj hK
theorem m_view (hG : ShM G) (hv0 : 0 ≤ mi 47 12) (hv5 : mi 47 12 ≤ 5) (he0 : 0 ≤ mi 47 16) (he : mi 47 16 ≤ 100) (hT : ∀ j : Int, 0 ≤ j → j < 100 → 0 ≤ mi 47 (99 + j) ∧ mi 47 (99 + j) ≤ 127)
    (hK : ∀ mi', VwR (mi 47) (mi' 47) → ScM mi mi' → K (some (pI (vwA (mi 47)))) G mi') : OkC (d + 416) 23 [pR (some 46)] G mi K := by
  obtain ⟨⟨k46, k47, l47, k48, l48, k49, l49, k50, l50, k51, l51⟩, ⟨k52, l52, k53, l53, k54, l54⟩, ⟨g1, g2, g3, g11, g12, g15, g16, g18⟩⟩ := id hG
  rw [E23]
  unfold VwR vwA at hK
  by_cases c5 : mi 47 12 = 5
  · rw [if_pos c5] at hK
    simp only [if_pos c5] at hK
    simp (disch := first | assumption | exact isL_i | exact isL_r | exact isL_n | exact i01a | exact i01b | omega) only [K23_0, K23_1, K23_4, K23_6, K23_7, K23_8, K23_11, K23_13, g1, g2, g3, g11, g12, g15, g16, g18, wr_id, td_e, tm_e, pu_n, pu_s, up_s, up_k, up_a, ↓reduceIte, Int.reduceLT, Int.reduceLE, Int.reduceEq, Int.reduceNeg, Int.reduceAdd, Int.reduceSub, Int.reduceMul, Int.reduceMod, Int.reduceDiv, Int.cast_ofNat_Int, not_true_eq_false, not_false_eq_true, Int.reduceTDiv, Int.reduceTMod, if_pos, if_neg]
    exact hK mi rfl ScM.rf
  · rw [if_neg c5] at hK
    simp only [if_neg c5] at hK
    have hS : SgF (hVw (mi 47)) (mi 47 16) := hVw_S he0 he hT
    have J : ∀ m1 : Mi, StM (hVw (mi 47)) (mi 47 12) (mi 47 16) 0 0 m1 → ApI (mi 47 12) (sH (mi 47) 16 0) [] (m1 47) → Sc [46, 47] mi m1 → (∀ k : Int, ¬ k = 6 → ¬ k = 7 → ¬ k = 8 → ¬ k = 9 → ¬ k = 10 → m1 46 k = mi 46 k) → Ok (d + 416) 23 116 [some (pR (some 46)), none] [] G m1 K := by
      intro m1 hs hA hsc hfr
      have hfin : ∀ m2, ScV m1 m2 → ScM mi m2 := fun m2 h2 => ⟨(hsc.tr h2.1).wk (by decide), by rw [h2.2 4 (by decide) (by decide) (by decide)]; exact hfr 4 (by decide) (by decide) (by decide) (by decide) (by decide), by rw [h2.2 19 (by decide) (by decide) (by decide)]; exact hfr 19 (by decide) (by decide) (by decide) (by decide) (by decide)⟩
      have h12 : sH (mi 47) 16 0 12 = mi 47 12 := sH_k (by decide)
      simp (disch := first | assumption | exact isL_i | exact isL_r | exact isL_n | exact i01a | exact i01b | omega) only [K23_116, K23_117, K23_118, wr_id, td_e, tm_e, pu_n, pu_s, up_s, up_k, up_a, ↓reduceIte, Int.reduceLT, Int.reduceLE, Int.reduceEq, Int.reduceNeg, Int.reduceAdd, Int.reduceSub, Int.reduceMul, Int.reduceMod, Int.reduceDiv, Int.cast_ofNat_Int, not_true_eq_false, not_false_eq_true, Int.reduceTDiv, Int.reduceTMod]
      rw [K23_119 k46]
      obtain ⟨p1, p2⟩ := clF_p (i := 0) hS he (Int.le_refl _) he0
      refine m_clause (d := d) hG hS hv0 (by omega) he hs (Int.le_refl _) he0 fun m2 hp => ?_
      rw [pu_n]
      unfold vwF at hK
      rcases hcl : clF (hVw (mi 47)) 0 with ⟨k, _ | cl⟩
      · rw [hcl] at hp p1 hK
        obtain ⟨q1, q2, q3, q4, q5⟩ := hp
        dsimp only at p1 hK q3
        rw [m_view_bad hG q4 q3 (by omega) (by omega)]
        exact hK m2 (hA.1.tr q5) (hfin m2 ⟨q1, q2⟩)
      · rw [hcl] at hp p1 p2 hK
        obtain ⟨q1, q2, q3, q4, q5, q6⟩ := hp
        obtain ⟨b1, b2, b3, b4, b5⟩ := p2 cl rfl
        dsimp only at p1 hK q3 b1 b4
        have hA2 : ApI (mi 47 12) (sH (mi 47) 16 0) [cl] (m2 47) := by rw [q6]; exact hA.step hv0 (by omega) b2 (by simp only [condL, flC, List.length_nil]; omega)
        have hf2 : ((flC (condL [cl])).length : Int) ≤ k := fc_one (Int.le_refl 0) b4
        obtain ⟨⟨g6, g7, g8, g9, g10⟩, gh, -, -⟩ := id hs
        have hs2 : StM (hVw (mi 47)) (mi 47 12) (mi 47 16) 0 k m2 := by
          refine ⟨⟨by rw [q2 6 (by decide) (by decide) (by decide)]; exact g6, q3, by rw [q2 8 (by decide) (by decide) (by decide)]; exact g8, q4, q5⟩, ?_, ?_, ?_⟩
          · funext q
            unfold hVw hM
            by_cases cq : q < mi 47 16
            · rw [if_pos cq, if_pos cq, hA2.1 _ (by omega) (by omega) (by omega) (by omega) (by omega)]
            · rw [if_neg cq, if_neg cq]
          · rw [hA2.2.2.1]; omega
          · rw [hA2.2.2.1]; exact hf2
        have J := m_view_lp (d := d) (K := K) hG hS hv0 (by omega) he h12 9 m2 k [cl] (by decide) p1.1 p1.2 hs2 hA2 hf2 (fun mi' hv hx => by
          have := hK mi' hx (hfin mi' (ScV.tr ⟨q1, q2⟩ hv))
          revert this
          unfold vwO
          rcases vwL (hVw (mi 47)) 9 k [cl] with ⟨_, _ | _⟩
          · exact id
          · exact id)
        exact J
    simp (disch := first | assumption | exact isL_i | exact isL_r | exact isL_n | exact i01a | exact i01b | omega) only [K23_0, K23_1, K23_4, K23_6, K23_7, K23_8, K23_11, K23_13, K23_14, K23_15, K23_16, K23_19, K23_21, K23_22, K23_25, K23_26, K23_27, K23_30, K23_32, K23_33, K23_36, K23_37, K23_40, K23_42, K23_43, K23_44, K23_45, K23_48, K23_51, K23_52, K23_55, K23_56, K23_58, K23_59, K23_60, K23_63, K23_66, K23_67, K23_70, K23_71, K23_72, K23_73, K23_74, K23_77, K23_80, K23_81, K23_84, K23_85, K23_86, K23_87, K23_88, K23_91, K23_94, K23_95, K23_98, K23_99, K23_100, K23_101, K23_102, K23_103, K23_106, K23_107, K23_108, K23_111, K23_112, K23_113, g1, g2, g3, g11, g12, g15, g16, g18, wr_id, td_e, tm_e, pu_n, pu_s, up_s, up_k, up_a, ↓reduceIte, Int.reduceLT, Int.reduceLE, Int.reduceEq, Int.reduceNeg, Int.reduceAdd, Int.reduceSub, Int.reduceMul, Int.reduceMod, Int.reduceDiv, Int.cast_ofNat_Int, not_true_eq_false, not_false_eq_true, Int.reduceTDiv, Int.reduceTMod, if_pos, if_neg]
    refine J _ ⟨⟨?_, ?_, ?_, ?_, ?_⟩, ?_, ?_, ?_⟩ ⟨?_, ⟨?_, ?_, ?_⟩, ?_, ?_⟩ ?_ ?_
    · simp (disch := omega) only [up_k, up_s, up_a]
    · simp (disch := omega) only [up_k, up_s, up_a]
    · simp (disch := omega) only [up_k, up_s, up_a]
    · simp (disch := omega) only [up_k, up_s, up_a]
    · simp (disch := omega) only [up_k, up_s, up_a]
    · funext q
      unfold hVw hM
      by_cases cq : q < mi 47 16
      · rw [if_pos cq, if_pos cq]
        by_cases q16 : 99 + q = 16
        · rw [q16]
          simp (disch := omega) only [up_k, up_s, up_a, sH_s]
        · simp (disch := omega) only [up_k, up_s, up_a, sH_k]
      · rw [if_neg cq, if_neg cq]
    · simp (disch := omega) only [up_k, up_s, up_a, Int.le_refl]
    · simp (disch := omega) only [up_k, up_s, up_a, Int.le_refl]
    · intro q q1 q2 q3 q4 q5
      by_cases q16 : q = 16
      · subst q16
        simp (disch := omega) only [up_k, up_s, up_a, sH_s]
      · simp (disch := omega) only [up_k, up_s, up_a, sH_k]
    · simp (disch := omega) only [up_k, up_s, up_a]
      rfl
    · simp (disch := omega) only [up_k, up_s, up_a]
      rfl
    · simp (disch := omega) only [up_k, up_s, up_a]
      rfl
    · simp (disch := omega) only [up_k, up_s, up_a]
      rfl
    · rfl
    · repeat' (first | exact Sc.rf | (refine Sc.u ?_ (by decide)))
    · intro q q1 q2 q3 q4 q5
      simp (disch := omega) only [up_k, up_s, up_a]
end MO
