/-! ===== one step of the pure machine that is no call is a step of the machine (written by wip/whole/gen/gensound5.py) ===== -/
theorem nx_inv {pc pc' : Nat} {ls ls' : Lcs} {st st' : List PV} {G G' : Gh} {mi mi' : Mi} (h : nx pc ls st G mi = some (.inl (pc', ls', st', G', mi'))) : pc = pc' ∧ ls = ls' ∧ st = st' ∧ G = G' ∧ mi = mi' := by
  have h1 := Sum.inl.inj (Option.some.inj h)
  simp only [Prod.mk.injEq] at h1
  obtain ⟨h1, h2, h3, h4⟩ := h1
  exact ⟨h1, h2, h3, h4.1, h4.2⟩
theorem op2_inv {st : List PV} {k : Int → Int → List PV → Option Out} {q : Out} (h : op2 st k = some q) : ∃ a b r, st = pI b :: pI a :: r ∧ k a b r = some q := by
  unfold op2 at h
  split at h
  · exact ⟨_, _, _, rfl, h⟩
  · cases h
theorem op1_inv {st : List PV} {k : Int → List PV → Option Out} {q : Out} (h : op1 st k = some q) : ∃ a r, st = pI a :: r ∧ k a r = some q := by
  unfold op1 at h
  split at h
  · exact ⟨_, _, rfl, h⟩
  · cases h
theorem opL_inv {st : List PV} {k : Int → Int → List PV → Option Out} {q : Out} (h : opL st k = some q) : ∃ a b r, st = pL b :: pL a :: r ∧ k a b r = some q := by
  unfold opL at h
  split at h
  · exact ⟨_, _, _, rfl, h⟩
  · cases h
theorem ite_inv {c : Prop} [Decidable c] {α : Type} {a : Option α} {q : α} (h : (if c then a else none) = some q) : c ∧ a = some q := by
  by_cases hc : c
  · rw [if_pos hc] at h; exact ⟨hc, h⟩
  · rw [if_neg hc] at h; cases h
theorem in32_of {n : Int} (h : in32B n = true) : in32 n := by
  simp only [in32B, Bool.and_eq_true, decide_eq_true_eq] at h
  exact h
theorem in64_of {n : Int} (h : in64B n = true) : in64 n := by
  simp only [in64B, Bool.and_eq_true, decide_eq_true_eq] at h
  exact h
theorem swT_spec (pc : Int) (d : Int) : ∀ (offs : List Int) (lo x : Int), swL x d (swT pc lo offs) = if lo ≤ x ∧ x < lo + offs.length then pc + offs.getD (x - lo).toNat 0 else d := by
  intro offs
  induction offs with
  | nil => intro lo x; rw [if_neg (by intro h; simp at h; omega)]; rfl
  | cons a r ih =>
    intro lo x
    simp only [swT, swL]
    by_cases h : x = lo
    · subst h
      rw [if_pos rfl, if_pos (by simp; omega), Int.sub_self]
      rfl
    · rw [if_neg h, ih]
      by_cases h2 : lo + 1 ≤ x ∧ x < lo + 1 + r.length
      · rw [if_pos h2, if_pos (by simp; omega)]
        have e : (x - lo).toNat = (x - (lo + 1)).toNat + 1 := by omega
        rw [e, List.getD_cons_succ]
      · rw [if_neg h2, if_neg (by simp; omega)]
theorem lkT_spec (pc d : Int) : ∀ (ps : List (Int × Int)) (x : Int), swL x (pc + d) (lkT pc ps) = pc + Op.lookupswitch.offset ps d x := by
  intro ps
  induction ps with
  | nil => intro x; rfl
  | cons a r ih =>
    intro x
    obtain ⟨v, t⟩ := a
    rw [Op.lookupswitch.offset_cons]
    simp only [lkT, swL]
    by_cases h : x = v
    · subst h
      rw [if_pos rfl, if_pos rfl]
    · rw [if_neg h, if_neg (fun z => h z.symm), ih]
/-- what a method's walk stands on -/
def Mch (X : Cx) (p : Program) (s : State) (m : MethodId) (args : Array Value) (meth : Method) (c : Code) (y : Nat) : Prop :=
  p.tables.exec = Jvm.exec ∧ c.code = (mY y).2.1 ∧ c.maxLocals = maxLY y ∧ s.vm.findClass (ownY y) = some m.cls ∧ (∀ w ∈ AW, w.before args s = true) ∧ meth.name = (mY y).1.name ∧ EnvU X s s.heap ∧ xb X ≤ s.heap.size
theorem rOK_sum {X : Cx} {U : State} {H : Heap} (hE : EnvU X U H) {r : List PV} (h : rOK r = true) : ((r.map (trV X)).map fun v => v.category).sum ≤ 8 := by
  have c2 : ∀ v : PV, (trV X v).category ≤ 2 := by
    intro v
    by_cases h : isL (some v) = false
    · rw [tr_cat1 hE h]; decide
    · match v, h with
      | .inl i, h => exact absurd rfl h
      | .inr (.inl l), _ => exact Nat.le_refl 2
      | .inr (.inr q), h => exact absurd rfl h
  have s2 : ∀ r : List PV, ((r.map (trV X)).map fun v => v.category).sum ≤ 2 * r.length := by
    intro r
    induction r with
    | nil => exact Nat.le_refl _
    | cons a r ih =>
      simp only [List.map_cons, List.sum_cons, List.length_cons]
      have := c2 a
      omega
  simp only [rOK, Bool.or_eq_true, decide_eq_true_eq, Bool.and_eq_true] at h
  rcases h with h | ⟨h1, h2⟩
  · have := s2 r
    omega
  · have s1 : ∀ r : List PV, r.all (fun v => !isL (some v)) = true → ((r.map (trV X)).map fun v => v.category).sum ≤ r.length := by
      intro r
      induction r with
      | nil => intro _; exact Nat.le_refl _
      | cons a r ih =>
        intro h
        simp only [List.all_cons, Bool.and_eq_true, Bool.not_eq_true'] at h
        simp only [List.map_cons, List.sum_cons, List.length_cons]
        have := ih h.2
        rw [tr_cat1 hE h.1]
        omega
    have := s1 r h2
    omega
theorem fldB_spec {s : State} {args : Array Value} (hts : ∀ w ∈ AW, w.before args s = true) {own : String} {i : Nat} {k kind : Int} {c : Nat} (h : fldB own i k kind (c : Int) = true) :
    ∃ (ci kk : Nat) (ref : String), c = ci + 1 ∧ ci < 13 ∧ k = (kk : Int) ∧ kk < clN ci ∧ rfF ci kk = decide (kind = 1) ∧ (kind = 0 → tyC ci kk = .int) ∧ (kind = 0 ∨ kind = 1 ∨ kind = 2) ∧ (Cond.fieldLink own i ref ((clCc ci).2.1 kk).2.1 ((clCc ci).2.1 kk).2.2.1).before args s = true ∧
      ∀ x, s.fieldFound? ((clCc ci).2.1 kk).1 ((clCc ci).2.1 kk).2.1 ((clCc ci).2.1 kk).2.2.1 = some x → s.fieldFound? ref ((clCc ci).2.1 kk).2.1 ((clCc ci).2.1 kk).2.2.1 = some x := by
  unfold fldB at h
  simp only [Bool.and_eq_true, decide_eq_true_eq, List.any_eq_true, Bool.or_eq_true] at h
  obtain ⟨⟨⟨⟨⟨⟨⟨h1, h2⟩, h3⟩, h4⟩, h5⟩, h6⟩, h7⟩, q, hq, ⟨⟨q1, q2⟩, q3⟩, q4⟩ := h
  have e1 : (c : Int).toNat - 1 = c - 1 := by omega
  rw [e1] at h4 h5 h6 q3 q4
  refine ⟨c - 1, k.toNat, q.2.2, by omega, by omega, by omega, h4, h5, h6, h7, hts _ (wIn_mem q3), ?_⟩
  rcases q4 with q4 | q4
  · intro x hx
    rw [q4]
    exact hx
  · exact fun x hx => u_same (hts _ (wIn_mem q4)) x hx
section DI
variable {X : Cx} {p : Program} {l : Launch} {e : Env} {R : Room} {s : State} {m : MethodId} {args : Array Value} {below : List Frame} {meth : Method} {c : Code} {Q : State → Prop} {y d nL pc npc pc' : Nat} {L L' : Lcs} {st st' : List PV} {G G' : Gh} {mi mi' : Mi} {cells slots : Nat} {ins : ClassFile.Instr} {aux : List Int}
set_option maxRecDepth 100000 in
set_option maxHeartbeats 4000000 in
theorem step_ok (Mh : Mch X p s m args meth c y) (hn : npc = pc + ilen ins (npc - pc)) (hdec : decode (mY y).2.1 pc = .ok (ins, ilen ins (npc - pc))) (hc : chkI y pc ins aux = true) (hnL : nL = maxLY y) (hd1 : d ≤ R.frames) (hd2 : 64 * d ≤ R.locals) (hcs : s.heap.size + cells = xb X + gN G)
    (hs : sI d pc npc ins aux L st G mi = some (.inl (pc', L', st', G', mi'))) (hcell : cells + (gN G' - gN G) ≤ R.cells) (hslot : slots + (gS G' - gS G) ≤ R.slots)
    (k : WC X p l e R s m args below meth c Q nL (pc') (L') (st') (G') (mi') (cells + (gN G' - gN G)) (slots + (gS G' - gS G))) : WC X p l e R s m args below meth c Q nL (pc) (L) (st) (G) (mi) (cells) (slots) := by
  obtain ⟨hx, hb, hml, hown, hts, hnm, hE, hxb⟩ := Mh
  cases ins
  all_goals try (exfalso; exact nomatch (show (none : Option Out) = some _ from hs))
  case iconst n =>
    replace hs : nx npc L (pI n :: st) G mi = _ := hs
    obtain ⟨rfl, rfl, rfl, rfl, rfl⟩ := nx_inv hs
    simp only [Nat.sub_self, Nat.add_zero] at k
    rw [hn] at k
    exact st_iconst hx hb hE (in32_of hc) hdec k
  case bipush n =>
    simp only [chkI, Bool.and_eq_true, decide_eq_true_eq] at hc
    replace hs : nx npc L (pI n :: st) G mi = _ := hs
    obtain ⟨rfl, rfl, rfl, rfl, rfl⟩ := nx_inv hs
    simp only [Nat.sub_self, Nat.add_zero] at k
    rw [hn] at k
    exact st_bipush hx hb hE (in32_of hc.1) hc.2 hdec k
  case sipush n =>
    simp only [chkI, Bool.and_eq_true, decide_eq_true_eq] at hc
    replace hs : nx npc L (pI n :: st) G mi = _ := hs
    obtain ⟨rfl, rfl, rfl, rfl, rfl⟩ := nx_inv hs
    simp only [Nat.sub_self, Nat.add_zero] at k
    rw [hn] at k
    exact st_sipush hx hb hE (in32_of hc.1) hc.2 hdec k
  case lconst z =>
    simp only [chkI, decide_eq_true_eq] at hc
    replace hs : nx npc L (pL z.val :: st) G mi = _ := hs
    obtain ⟨rfl, rfl, rfl, rfl, rfl⟩ := nx_inv hs
    simp only [Nat.sub_self, Nat.add_zero] at k
    rw [hn] at k
    exact st_lconst hx hb hE hc ⟨by have := z.isLt; omega, by have := z.isLt; omega⟩ hdec k
  case aconst_null =>
    replace hs : nx npc L (pR none :: st) G mi = _ := hs
    obtain ⟨rfl, rfl, rfl, rfl, rfl⟩ := nx_inv hs
    simp only [Nat.sub_self, Nat.add_zero] at k
    rw [hn] at k
    exact st_null hx hb hE hdec k
  case ldc i =>
    replace hs : (if a0 aux = 0 then nx npc L (pI (a1 aux) :: st) G mi else nx npc L (pE (2 * (a1 aux).toNat + 1) :: st) G mi) = _ := hs
    simp only [chkI] at hc
    by_cases h0 : a0 aux = 0
    · rw [if_pos h0] at hs hc
      simp only [Bool.and_eq_true] at hc
      obtain ⟨rfl, rfl, rfl, rfl, rfl⟩ := nx_inv hs
      simp only [Nat.sub_self, Nat.add_zero] at k
      rw [hn] at k
      exact st_ldci hx hb hE hown (hts _ (wIn_mem hc.2)) (in32_of hc.1) hdec k
    · rw [if_neg h0] at hs hc
      simp only [Bool.and_eq_true, decide_eq_true_eq, List.any_eq_true] at hc
      obtain ⟨hl, q, hq, ⟨q1, q2⟩, q3⟩ := hc
      obtain ⟨rfl, rfl, rfl, rfl, rfl⟩ := nx_inv hs
      simp only [Nat.sub_self, Nat.add_zero] at k
      rw [hn] at k
      obtain ⟨z1, z2, z3, z4⟩ := q
      dsimp only at q1 q2 q3
      subst q1 q2 q3
      exact st_ldcs hx hb hE hown hq hl hdec k
  case ldc2_w i =>
    simp only [chkI, Bool.and_eq_true] at hc
    replace hs : nx npc L (pL (a0 aux) :: st) G mi = _ := hs
    obtain ⟨rfl, rfl, rfl, rfl, rfl⟩ := nx_inv hs
    simp only [Nat.sub_self, Nat.add_zero] at k
    rw [hn] at k
    exact st_ldc2 hx hb hE hown (hts _ (wIn_mem hc.2)) (in64_of hc.1) hdec k
  case iload_n z =>
    simp only [chkI, decide_eq_true_eq] at hc
    replace hs : (match lg L (ia aux) with | some (.inl v) => nx npc L (pI v :: st) G mi | _ => none) = _ := hs
    split at hs
    · rename_i v hv
      obtain ⟨rfl, rfl, rfl, rfl, rfl⟩ := nx_inv hs
      simp only [Nat.sub_self, Nat.add_zero] at k
      rw [hn] at k
      exact st_iload_n hx hb hE hc hv hdec k
    · cases hs
  case iload i =>
    simp only [chkI, decide_eq_true_eq] at hc
    replace hs : (match lg L (ia aux) with | some (.inl v) => nx npc L (pI v :: st) G mi | _ => none) = _ := hs
    split at hs
    · rename_i v hv
      obtain ⟨rfl, rfl, rfl, rfl, rfl⟩ := nx_inv hs
      simp only [Nat.sub_self, Nat.add_zero] at k
      rw [hn] at k
      rw [← hc] at hv
      exact st_iload hx hb hE hv hdec k
    · cases hs
  case lload_n z =>
    simp only [chkI, decide_eq_true_eq] at hc
    replace hs : (match lg L (ia aux) with | some (.inr (.inl v)) => nx npc L (pL v :: st) G mi | _ => none) = _ := hs
    split at hs
    · rename_i v hv
      obtain ⟨rfl, rfl, rfl, rfl, rfl⟩ := nx_inv hs
      simp only [Nat.sub_self, Nat.add_zero] at k
      rw [hn] at k
      exact st_lload_n hx hb hE hc hv hdec k
    · cases hs
  case lload i =>
    simp only [chkI, decide_eq_true_eq] at hc
    replace hs : (match lg L (ia aux) with | some (.inr (.inl v)) => nx npc L (pL v :: st) G mi | _ => none) = _ := hs
    split at hs
    · rename_i v hv
      obtain ⟨rfl, rfl, rfl, rfl, rfl⟩ := nx_inv hs
      simp only [Nat.sub_self, Nat.add_zero] at k
      rw [hn] at k
      rw [← hc] at hv
      exact st_lload hx hb hE hv hdec k
    · cases hs
  case aload_n z =>
    simp only [chkI, decide_eq_true_eq] at hc
    replace hs : (match lg L (ia aux) with | some (.inr (.inr v)) => nx npc L (.inr (.inr v) :: st) G mi | _ => none) = _ := hs
    split at hs
    · rename_i v hv
      obtain ⟨rfl, rfl, rfl, rfl, rfl⟩ := nx_inv hs
      simp only [Nat.sub_self, Nat.add_zero] at k
      rw [hn] at k
      exact st_aload_n hx hb hE hc hv hdec k
    · cases hs
  case aload i =>
    simp only [chkI, decide_eq_true_eq] at hc
    replace hs : (match lg L (ia aux) with | some (.inr (.inr v)) => nx npc L (.inr (.inr v) :: st) G mi | _ => none) = _ := hs
    split at hs
    · rename_i v hv
      obtain ⟨rfl, rfl, rfl, rfl, rfl⟩ := nx_inv hs
      simp only [Nat.sub_self, Nat.add_zero] at k
      rw [hn] at k
      rw [← hc] at hv
      exact st_aload hx hb hE hv hdec k
    · cases hs
  case istore_n z =>
    simp only [chkI, decide_eq_true_eq] at hc
    replace hs : (match st with | .inl v :: r => (if okSt L (ia aux) = true ∧ ia aux < L.length then nx npc (L.set (ia aux) (some (pI v))) r G mi else none) | _ => none) = _ := hs
    split at hs
    · rename_i v r
      obtain ⟨⟨h1, h2⟩, hs⟩ := ite_inv hs
      obtain ⟨rfl, rfl, rfl, rfl, rfl⟩ := nx_inv hs
      simp only [Nat.sub_self, Nat.add_zero] at k
      rw [hn] at k
      exact st_istore_n hx hb hE hc h1 h2 hdec k
    · cases hs
  case istore i =>
    simp only [chkI, decide_eq_true_eq] at hc
    replace hs : (match st with | .inl v :: r => (if okSt L (ia aux) = true ∧ ia aux < L.length then nx npc (L.set (ia aux) (some (pI v))) r G mi else none) | _ => none) = _ := hs
    split at hs
    · rename_i v r
      obtain ⟨⟨h1, h2⟩, hs⟩ := ite_inv hs
      obtain ⟨rfl, rfl, rfl, rfl, rfl⟩ := nx_inv hs
      simp only [Nat.sub_self, Nat.add_zero] at k
      rw [hn] at k
      rw [← hc] at h1 h2 k
      exact st_istore hx hb hE h1 h2 hdec k
    · cases hs
  case lstore_n z =>
    simp only [chkI, decide_eq_true_eq] at hc
    replace hs : (match st with | .inr (.inl v) :: r => (if okSt L (ia aux) = true ∧ ia aux + 1 < L.length then nx npc ((L.set (ia aux) (some (pL v))).set (ia aux + 1) none) r G mi else none) | _ => none) = _ := hs
    split at hs
    · rename_i v r
      obtain ⟨⟨h1, h2⟩, hs⟩ := ite_inv hs
      obtain ⟨rfl, rfl, rfl, rfl, rfl⟩ := nx_inv hs
      simp only [Nat.sub_self, Nat.add_zero] at k
      rw [hn] at k
      exact st_lstore_n hx hb hE hc h1 h2 hdec k
    · cases hs
  case lstore i =>
    simp only [chkI, decide_eq_true_eq] at hc
    replace hs : (match st with | .inr (.inl v) :: r => (if okSt L (ia aux) = true ∧ ia aux + 1 < L.length then nx npc ((L.set (ia aux) (some (pL v))).set (ia aux + 1) none) r G mi else none) | _ => none) = _ := hs
    split at hs
    · rename_i v r
      obtain ⟨⟨h1, h2⟩, hs⟩ := ite_inv hs
      obtain ⟨rfl, rfl, rfl, rfl, rfl⟩ := nx_inv hs
      simp only [Nat.sub_self, Nat.add_zero] at k
      rw [hn] at k
      rw [← hc] at h1 h2 k
      exact st_lstore hx hb hE h1 h2 hdec k
    · cases hs
  case astore_n z =>
    simp only [chkI, decide_eq_true_eq] at hc
    replace hs : (match st with | .inr (.inr v) :: r => (if okSt L (ia aux) = true ∧ ia aux < L.length then nx npc (L.set (ia aux) (some (.inr (.inr v)))) r G mi else none) | _ => none) = _ := hs
    split at hs
    · rename_i v r
      obtain ⟨⟨h1, h2⟩, hs⟩ := ite_inv hs
      obtain ⟨rfl, rfl, rfl, rfl, rfl⟩ := nx_inv hs
      simp only [Nat.sub_self, Nat.add_zero] at k
      rw [hn] at k
      exact st_astore_n hx hb hE hc h1 h2 hdec k
    · cases hs
  case astore i =>
    simp only [chkI, decide_eq_true_eq] at hc
    replace hs : (match st with | .inr (.inr v) :: r => (if okSt L (ia aux) = true ∧ ia aux < L.length then nx npc (L.set (ia aux) (some (.inr (.inr v)))) r G mi else none) | _ => none) = _ := hs
    split at hs
    · rename_i v r
      obtain ⟨⟨h1, h2⟩, hs⟩ := ite_inv hs
      obtain ⟨rfl, rfl, rfl, rfl, rfl⟩ := nx_inv hs
      simp only [Nat.sub_self, Nat.add_zero] at k
      rw [hn] at k
      rw [← hc] at h1 h2 k
      exact st_astore hx hb hE h1 h2 hdec k
    · cases hs
  case iinc i n =>
    simp only [chkI, Bool.and_eq_true, decide_eq_true_eq] at hc
    obtain ⟨hc1, hc2⟩ := hc
    replace hs : (match lg L (ia aux) with | some (.inl v) => (if okSt L (ia aux) = true ∧ ia aux < L.length then nx npc (L.set (ia aux) (some (pI (wr (v + a1 aux))))) st G mi else none) | _ => none) = _ := hs
    split at hs
    · rename_i v hv
      obtain ⟨⟨h1, h2⟩, hs⟩ := ite_inv hs
      obtain ⟨rfl, rfl, rfl, rfl, rfl⟩ := nx_inv hs
      simp only [Nat.sub_self, Nat.add_zero] at k
      rw [hn] at k
      rw [← hc1] at hv h1 h2 k
      rw [← hc2] at k
      exact st_iinc hx hb hE hv h1 h2 hdec k
    · cases hs
  case iadd =>
    replace hs : op2 st (fun a b r => nx npc L (pI (wr (a + b)) :: r) G mi) = _ := hs
    obtain ⟨a, b, r, rfl, hs⟩ := op2_inv hs
    obtain ⟨rfl, rfl, rfl, rfl, rfl⟩ := nx_inv hs
    simp only [Nat.sub_self, Nat.add_zero] at k
    rw [hn] at k
    exact st_iadd hx hb hE hdec k
  case isub =>
    replace hs : op2 st (fun a b r => nx npc L (pI (wr (a - b)) :: r) G mi) = _ := hs
    obtain ⟨a, b, r, rfl, hs⟩ := op2_inv hs
    obtain ⟨rfl, rfl, rfl, rfl, rfl⟩ := nx_inv hs
    simp only [Nat.sub_self, Nat.add_zero] at k
    rw [hn] at k
    exact st_isub hx hb hE hdec k
  case imul =>
    replace hs : op2 st (fun a b r => nx npc L (pI (wr (a * b)) :: r) G mi) = _ := hs
    obtain ⟨a, b, r, rfl, hs⟩ := op2_inv hs
    obtain ⟨rfl, rfl, rfl, rfl, rfl⟩ := nx_inv hs
    simp only [Nat.sub_self, Nat.add_zero] at k
    rw [hn] at k
    exact st_imul hx hb hE hdec k
  case iand =>
    replace hs : op2 st (fun a b r => nx npc L (pI (iAnd a b) :: r) G mi) = _ := hs
    obtain ⟨a, b, r, rfl, hs⟩ := op2_inv hs
    obtain ⟨rfl, rfl, rfl, rfl, rfl⟩ := nx_inv hs
    simp only [Nat.sub_self, Nat.add_zero] at k
    rw [hn] at k
    exact st_iand hx hb hE hdec k
  case ior =>
    replace hs : op2 st (fun a b r => nx npc L (pI (iOr a b) :: r) G mi) = _ := hs
    obtain ⟨a, b, r, rfl, hs⟩ := op2_inv hs
    obtain ⟨rfl, rfl, rfl, rfl, rfl⟩ := nx_inv hs
    simp only [Nat.sub_self, Nat.add_zero] at k
    rw [hn] at k
    exact st_ior hx hb hE hdec k
  case ixor =>
    replace hs : op2 st (fun a b r => nx npc L (pI (iXor a b) :: r) G mi) = _ := hs
    obtain ⟨a, b, r, rfl, hs⟩ := op2_inv hs
    obtain ⟨rfl, rfl, rfl, rfl, rfl⟩ := nx_inv hs
    simp only [Nat.sub_self, Nat.add_zero] at k
    rw [hn] at k
    exact st_ixor hx hb hE hdec k
  case ishl =>
    replace hs : op2 st (fun a b r => nx npc L (pI (iShl a b) :: r) G mi) = _ := hs
    obtain ⟨a, b, r, rfl, hs⟩ := op2_inv hs
    obtain ⟨rfl, rfl, rfl, rfl, rfl⟩ := nx_inv hs
    simp only [Nat.sub_self, Nat.add_zero] at k
    rw [hn] at k
    exact st_ishl hx hb hE hdec k
  case ishr =>
    replace hs : op2 st (fun a b r => nx npc L (pI (iShr a b) :: r) G mi) = _ := hs
    obtain ⟨a, b, r, rfl, hs⟩ := op2_inv hs
    obtain ⟨rfl, rfl, rfl, rfl, rfl⟩ := nx_inv hs
    simp only [Nat.sub_self, Nat.add_zero] at k
    rw [hn] at k
    exact st_ishr hx hb hE hdec k
  case iushr =>
    replace hs : op2 st (fun a b r => nx npc L (pI (iUshr a b) :: r) G mi) = _ := hs
    obtain ⟨a, b, r, rfl, hs⟩ := op2_inv hs
    obtain ⟨rfl, rfl, rfl, rfl, rfl⟩ := nx_inv hs
    simp only [Nat.sub_self, Nat.add_zero] at k
    rw [hn] at k
    exact st_iushr hx hb hE hdec k
  case idiv =>
    replace hs : op2 st (fun a b r => if 0 < b then nx npc L (pI (a.tdiv b) :: r) G mi else none) = _ := hs
    obtain ⟨a, b, r, rfl, hs⟩ := op2_inv hs
    obtain ⟨h0, hs⟩ := ite_inv hs
    obtain ⟨rfl, rfl, rfl, rfl, rfl⟩ := nx_inv hs
    simp only [Nat.sub_self, Nat.add_zero] at k
    rw [hn] at k
    exact st_idiv hx hb hE h0 hdec k
  case irem =>
    replace hs : op2 st (fun a b r => if 0 < b then nx npc L (pI (a.tmod b) :: r) G mi else none) = _ := hs
    obtain ⟨a, b, r, rfl, hs⟩ := op2_inv hs
    obtain ⟨h0, hs⟩ := ite_inv hs
    obtain ⟨rfl, rfl, rfl, rfl, rfl⟩ := nx_inv hs
    simp only [Nat.sub_self, Nat.add_zero] at k
    rw [hn] at k
    exact st_irem hx hb hE h0 hdec k
  case ldiv =>
    replace hs : opL st (fun a b r => if 0 < b then nx npc L (pL (a.tdiv b) :: r) G mi else none) = _ := hs
    obtain ⟨a, b, r, rfl, hs⟩ := opL_inv hs
    obtain ⟨h0, hs⟩ := ite_inv hs
    obtain ⟨rfl, rfl, rfl, rfl, rfl⟩ := nx_inv hs
    simp only [Nat.sub_self, Nat.add_zero] at k
    rw [hn] at k
    exact st_ldiv hx hb hE h0 hdec k
  case lrem =>
    replace hs : opL st (fun a b r => if 0 < b then nx npc L (pL (a.tmod b) :: r) G mi else none) = _ := hs
    obtain ⟨a, b, r, rfl, hs⟩ := opL_inv hs
    obtain ⟨h0, hs⟩ := ite_inv hs
    obtain ⟨rfl, rfl, rfl, rfl, rfl⟩ := nx_inv hs
    simp only [Nat.sub_self, Nat.add_zero] at k
    rw [hn] at k
    exact st_lrem hx hb hE h0 hdec k
  case ladd =>
    replace hs : opL st (fun a b r => nx npc L (pL (wl (a + b)) :: r) G mi) = _ := hs
    obtain ⟨a, b, r, rfl, hs⟩ := opL_inv hs
    obtain ⟨rfl, rfl, rfl, rfl, rfl⟩ := nx_inv hs
    simp only [Nat.sub_self, Nat.add_zero] at k
    rw [hn] at k
    exact st_ladd hx hb hE hdec k
  case lcmp =>
    replace hs : opL st (fun a b r => nx npc L (pI (cmpL a b) :: r) G mi) = _ := hs
    obtain ⟨a, b, r, rfl, hs⟩ := opL_inv hs
    obtain ⟨rfl, rfl, rfl, rfl, rfl⟩ := nx_inv hs
    simp only [Nat.sub_self, Nat.add_zero] at k
    rw [hn] at k
    exact st_lcmp hx hb hE hdec k
  case ineg =>
    replace hs : op1 st (fun a r => nx npc L (pI (wr (-a)) :: r) G mi) = _ := hs
    obtain ⟨a, r, rfl, hs⟩ := op1_inv hs
    obtain ⟨rfl, rfl, rfl, rfl, rfl⟩ := nx_inv hs
    simp only [Nat.sub_self, Nat.add_zero] at k
    rw [hn] at k
    exact st_ineg hx hb hE hdec k
  case i2l =>
    replace hs : op1 st (fun a r => nx npc L (pL a :: r) G mi) = _ := hs
    obtain ⟨a, r, rfl, hs⟩ := op1_inv hs
    obtain ⟨rfl, rfl, rfl, rfl, rfl⟩ := nx_inv hs
    simp only [Nat.sub_self, Nat.add_zero] at k
    rw [hn] at k
    exact st_i2l hx hb hE hdec k
  case i2b =>
    replace hs : op1 st (fun a r => nx npc L (pI (iB a) :: r) G mi) = _ := hs
    obtain ⟨a, r, rfl, hs⟩ := op1_inv hs
    obtain ⟨rfl, rfl, rfl, rfl, rfl⟩ := nx_inv hs
    simp only [Nat.sub_self, Nat.add_zero] at k
    rw [hn] at k
    exact st_i2b hx hb hE hdec k
  case i2c =>
    replace hs : op1 st (fun a r => if 0 ≤ a ∧ a < 65536 then nx npc L (pI a :: r) G mi else none) = _ := hs
    obtain ⟨a, r, rfl, hs⟩ := op1_inv hs
    obtain ⟨⟨h0, h1⟩, hs⟩ := ite_inv hs
    obtain ⟨rfl, rfl, rfl, rfl, rfl⟩ := nx_inv hs
    simp only [Nat.sub_self, Nat.add_zero] at k
    rw [hn] at k
    exact st_i2c hx hb hE h0 h1 hdec k
  case lneg =>
    replace hs : (match st with | .inr (.inl a) :: r => nx npc L (pL (wl (-a)) :: r) G mi | _ => none) = _ := hs
    split at hs
    · rename_i a r
      obtain ⟨rfl, rfl, rfl, rfl, rfl⟩ := nx_inv hs
      simp only [Nat.sub_self, Nat.add_zero] at k
      rw [hn] at k
      exact st_lneg hx hb hE hdec k
    · cases hs
  case dup =>
    replace hs : (match st with | .inr (.inl _) :: _ => none | v :: r => nx npc L (v :: v :: r) G mi | _ => none) = _ := hs
    split at hs
    · cases hs
    · rename_i v r hv
      obtain ⟨rfl, rfl, rfl, rfl, rfl⟩ := nx_inv hs
      simp only [Nat.sub_self, Nat.add_zero] at k
      rw [hn] at k
      exact st_dup hx hb hE (by match v, hv with | .inl _, _ => rfl | .inr (.inl q), hv => exact (hv q rfl).elim | .inr (.inr _), _ => rfl) hdec k
    · cases hs
  case pop =>
    replace hs : (match st with | .inr (.inl _) :: _ => none | _ :: r => nx npc L r G mi | _ => none) = _ := hs
    split at hs
    · cases hs
    · rename_i v r hv
      obtain ⟨rfl, rfl, rfl, rfl, rfl⟩ := nx_inv hs
      simp only [Nat.sub_self, Nat.add_zero] at k
      rw [hn] at k
      exact st_pop hx hb hE (by match v, hv with | .inl _, _ => rfl | .inr (.inl q), hv => exact (hv q rfl).elim | .inr (.inr _), _ => rfl) hdec k
    · cases hs
  case dup2 =>
    replace hs : (match st with | .inl b :: .inr (.inr a) :: r => nx npc L (.inl b :: .inr (.inr a) :: .inl b :: .inr (.inr a) :: r) G mi | _ => none) = _ := hs
    split at hs
    · rename_i b a r
      obtain ⟨rfl, rfl, rfl, rfl, rfl⟩ := nx_inv hs
      simp only [Nat.sub_self, Nat.add_zero] at k
      rw [hn] at k
      exact st_dup2 hx hb hE rfl rfl hdec k
    · cases hs
  case goto off =>
    simp only [chkI, tgtB, decide_eq_true_eq] at hc
    replace hs : nx (ia aux) L st G mi = _ := hs
    obtain ⟨rfl, rfl, rfl, rfl, rfl⟩ := nx_inv hs
    simp only [Nat.sub_self, Nat.add_zero] at k
    exact st_goto hx hb hE hc hdec k
  case if_icmp cc off =>
    simp only [chkI, tgtB, decide_eq_true_eq] at hc
    replace hs : op2 st (fun a b r => nx (if cmpC cc a b = true then ia aux else npc) L r G mi) = _ := hs
    obtain ⟨a, b, r, rfl, hs⟩ := op2_inv hs
    obtain ⟨rfl, rfl, rfl, rfl, rfl⟩ := nx_inv hs
    simp only [Nat.sub_self, Nat.add_zero] at k
    rw [hn] at k
    cases cc
    · exact st_icmp_eq hx hb hE hc hdec k
    · exact st_icmp_ne hx hb hE hc hdec k
    · exact st_icmp_lt hx hb hE hc hdec k
    · exact st_icmp_ge hx hb hE hc hdec k
    · exact st_icmp_gt hx hb hE hc hdec k
    · exact st_icmp_le hx hb hE hc hdec k
  case ifCond cc off =>
    simp only [chkI, tgtB, decide_eq_true_eq] at hc
    replace hs : op1 st (fun a r => nx (if cmpC cc a 0 = true then ia aux else npc) L r G mi) = _ := hs
    obtain ⟨a, r, rfl, hs⟩ := op1_inv hs
    obtain ⟨rfl, rfl, rfl, rfl, rfl⟩ := nx_inv hs
    simp only [Nat.sub_self, Nat.add_zero] at k
    rw [hn] at k
    cases cc
    · exact st_if_eq hx hb hE hc hdec k
    · exact st_if_ne hx hb hE hc hdec k
    · exact st_if_lt hx hb hE hc hdec k
    · exact st_if_ge hx hb hE hc hdec k
    · exact st_if_gt hx hb hE hc hdec k
    · exact st_if_le hx hb hE hc hdec k
  case ifnull off =>
    simp only [chkI, tgtB, decide_eq_true_eq] at hc
    replace hs : (match st with | .inr (.inr (.inl ro)) :: r => nx (if ro = none then ia aux else npc) L r G mi | _ => none) = _ := hs
    split at hs
    · rename_i ro r
      obtain ⟨rfl, rfl, rfl, rfl, rfl⟩ := nx_inv hs
      simp only [Nat.sub_self, Nat.add_zero] at k
      rw [hn] at k
      exact st_ifnull hx hb hE hc hdec k
    · cases hs
  case ifnonnull off =>
    simp only [chkI, tgtB, decide_eq_true_eq] at hc
    replace hs : (match st with | .inr (.inr (.inl ro)) :: r => nx (if ro = none then npc else ia aux) L r G mi | _ => none) = _ := hs
    split at hs
    · rename_i ro r
      obtain ⟨rfl, rfl, rfl, rfl, rfl⟩ := nx_inv hs
      simp only [Nat.sub_self, Nat.add_zero] at k
      rw [hn] at k
      exact st_ifnonnull hx hb hE hc hdec k
    · cases hs
  case tableswitch dd lo hi offs =>
    simp only [chkI, Bool.and_eq_true, decide_eq_true_eq, List.all_eq_true] at hc
    obtain ⟨⟨⟨hc1, hc2⟩, hc3⟩, hc4⟩ := hc
    replace hs : op1 st (fun a r => nx (swL a (a0 aux) (aux.drop 1)).toNat L r G mi) = _ := hs
    obtain ⟨a, r, rfl, hs⟩ := op1_inv hs
    obtain ⟨rfl, rfl, rfl, rfl, rfl⟩ := nx_inv hs
    simp only [Nat.sub_self, Nat.add_zero] at k
    rw [hc1] at k
    rw [show a0 (((pc : Int) + dd) :: swT pc lo offs.toList) = (pc : Int) + dd from rfl, show (((pc : Int) + dd) :: swT pc lo offs.toList).drop 1 = swT pc lo offs.toList from rfl, swT_spec] at k
    intro ls H locs hI hL hO hS
    obtain ⟨h1, hS2⟩ := List.forall_mem_cons.mp hS
    have hto := of_to h1
    have hlen : (offs.toList.length : Int) = offs.size := by simp
    by_cases hin : lo ≤ a ∧ a < lo + offs.toList.length
    · rw [if_pos hin] at k
      have hlt : (a - lo).toNat < offs.toList.length := by omega
      have hm : offs.toList.getD (a - lo).toNat 0 ∈ offs.toList := by rw [List.getD_eq_getElem?_getD, List.getElem?_eq_getElem hlt]; exact List.getElem_mem hlt
      have hnn := hc4 _ hm
      refine lv_tableIn (off := offs.toList.getD (a - lo).toNat 0) hx hb hdec (by rw [hto]; omega) (by rw [hto]; omega) ?_ ?_ (k ls H locs hI hL hO hS2)
      · rw [hto, ← Array.getElem?_toList, List.getD_eq_getElem?_getD, List.getElem?_eq_getElem hlt]
        rfl
      · exact (Int.toNat_of_nonneg hnn).symm
    · rw [if_neg hin] at k
      refine lv_tableOut hx hb hdec (by rw [hto]; omega) ?_ (k ls H locs hI hL hO hS2)
      exact (Int.toNat_of_nonneg hc3).symm
  case lookupswitch dd ps =>
    simp only [chkI, Bool.and_eq_true, decide_eq_true_eq] at hc
    obtain ⟨⟨⟨hc1, hc2⟩, hc3⟩, hc4⟩ := hc
    replace hs : op1 st (fun a r => nx (swL a (a0 aux) (aux.drop 1)).toNat L r G mi) = _ := hs
    obtain ⟨a, r, rfl, hs⟩ := op1_inv hs
    obtain ⟨rfl, rfl, rfl, rfl, rfl⟩ := nx_inv hs
    simp only [Nat.sub_self, Nat.add_zero] at k
    rw [hc1] at k
    rw [show a0 (((pc : Int) + dd) :: lkT pc ps.toList) = (pc : Int) + dd from rfl, show (((pc : Int) + dd) :: lkT pc ps.toList).drop 1 = lkT pc ps.toList from rfl, lkT_spec] at k
    intro ls H locs hI hL hO hS
    obtain ⟨h1, hS2⟩ := List.forall_mem_cons.mp hS
    have hto := of_to h1
    have key : ∀ (l : List (Int × Int)), (∀ q ∈ l, (0 : Int) ≤ (pc : Int) + q.2) → 0 ≤ (pc : Int) + Op.lookupswitch.offset l dd a := by
      intro l
      induction l with
      | nil => intro _; exact hc3
      | cons q l ih =>
        intro hq
        obtain ⟨v, t⟩ := q
        rw [Op.lookupswitch.offset_cons]
        split
        · exact hq (v, t) List.mem_cons_self
        · exact ih fun z hz => hq z (List.mem_cons_of_mem _ hz)
    have hnn := key ps.toList (fun q hq => by simpa using List.all_eq_true.mp hc4 q hq)
    exact lv_lookup hx hb hdec hc2 (by rw [hto]) (Int.toNat_of_nonneg hnn).symm (k ls H locs hI hL hO hS2)
  case getfield i =>
    simp only [chkI, getB, Bool.and_eq_true, List.all_eq_true, Bool.or_eq_true, decide_eq_true_eq] at hc
    obtain ⟨⟨g3, g4⟩, g5⟩ := hc
    replace hs : (match st with
        | .inr (.inr (.inl (some o))) :: r => if ((gK G o).1 : Int) ∈ aux.drop 2 then (if a1 aux = 1 then nx npc L (pR (gR G o (a0 aux)) :: r) G mi else nx npc L (pI (mi o (a0 aux)) :: r) G mi) else none
        | .inr (.inr (.inr e)) :: r => if rcv G (pE e) = 500 ∧ a1 aux = 3 then nx npc L (pE (e + 1) :: r) G mi else if rcv G (pE e) = 500 ∧ a1 aux = 4 then nx npc L (pI 0 :: r) G mi else none
        | _ => none) = _ := hs
    split at hs
    · rename_i o r
      obtain ⟨hmem, hs⟩ := ite_inv hs
      intro ls H locs hI hL hO hS
      have hk22 := hI.1.2.2.2.1 o
      obtain ⟨ci, kk, ref, f1, f2, f3, f4, f5, f6, f7, f8, f9⟩ := fldB_spec hts ((g5 _ hmem).resolve_left (by omega))
      by_cases h1 : a1 aux = 1
      · rw [if_pos h1] at hs
        obtain ⟨rfl, rfl, rfl, rfl, rfl⟩ := nx_inv hs
        simp only [Nat.sub_self, Nat.add_zero] at k
        rw [hn, f3] at k
        exact st_gfr hx hb hE hts hown f1 f2 f4 f8 f9 (by rw [f5]; exact decide_eq_true h1) hdec k ls H locs hI hL hO hS
      · rw [if_neg h1] at hs
        obtain ⟨rfl, rfl, rfl, rfl, rfl⟩ := nx_inv hs
        simp only [Nat.sub_self, Nat.add_zero] at k
        rw [hn, f3] at k
        exact st_gfi hx hb hE hts hown f1 f2 f4 f8 f9 (by rw [f5]; exact decide_eq_false h1) hdec k ls H locs hI hL hO hS
    · rename_i e0 r
      have hr : ∀ z, rcv G (pE e0) = 500 ∧ z → ∃ q, q < sTexts.length ∧ e0 = 2 * q + 1 := by
        rintro z ⟨h1, -⟩
        have h1 : (if e0 % 2 = 1 ∧ e0 < 2 * sTexts.length then (500 : Int) else -1) = 500 := h1
        by_cases h2 : e0 % 2 = 1 ∧ e0 < 2 * sTexts.length
        · exact ⟨e0 / 2, by omega, by omega⟩
        · rw [if_neg h2] at h1; omega
      by_cases h3 : rcv G (pE e0) = 500 ∧ a1 aux = 3
      · rw [if_pos h3] at hs
        obtain ⟨q, hq, rfl⟩ := hr _ h3
        obtain ⟨rfl, rfl, rfl, rfl, rfl⟩ := nx_inv hs
        simp only [Nat.sub_self, Nat.add_zero] at k
        rw [hn] at k
        exact st_gfS hx hb hE hts hown hq (hts _ (wIn_mem (g3.resolve_left (fun z => z h3.2)))) hdec k
      · rw [if_neg h3] at hs
        have h5 := ite_inv hs
        clear hs
        obtain ⟨h4, hs⟩ := h5
        obtain ⟨q, hq, rfl⟩ := hr _ h4
        obtain ⟨rfl, rfl, rfl, rfl, rfl⟩ := nx_inv hs
        simp only [Nat.sub_self, Nat.add_zero] at k
        rw [hn] at k
        exact st_gfC hx hb hE hts hown hq (hts _ (wIn_mem (g4.resolve_left (fun z => z h4.2)))) hdec k
    · cases hs
  case putfield i =>
    simp only [chkI, putB, List.all_eq_true, Bool.and_eq_true, Bool.or_eq_true, decide_eq_true_eq] at hc
    replace hs : (match st with
        | .inl v :: .inr (.inr (.inl (some o))) :: r => if ((gK G o).1 : Int) ∈ aux.drop 2 ∧ (a1 aux = 0 ∨ a1 aux = 2 ∧ 0 ≤ v ∧ v ≤ 1) then nx npc L r G (up mi o (a0 aux) v) else none
        | .inr (.inr (.inl v)) :: .inr (.inr (.inl (some o))) :: r => if ((gK G o).1 : Int) ∈ aux.drop 2 ∧ a1 aux = 1 then nx npc L r (setR G o (a0 aux) v) mi else none
        | _ => none) = _ := hs
    split at hs
    · rename_i v o r
      obtain ⟨⟨hmem, hbo⟩, hs⟩ := ite_inv hs
      obtain ⟨h5, h6⟩ := hc _ hmem
      obtain ⟨ci, kk, ref, f1, f2, f3, f4, f5, f6, f7, f8, f9⟩ := fldB_spec hts h5
      have e1 : (((gK G o).1 : Nat) : Int).toNat - 1 = ci := by omega
      have e2 : (a0 aux).toNat = kk := by omega
      rw [e1, e2] at h6
      obtain ⟨rfl, rfl, rfl, rfl, rfl⟩ := nx_inv hs
      simp only [Nat.sub_self, Nat.add_zero] at k
      rw [hn, f3] at k
      refine st_pfi hx hb hE hts hown f1 f2 f4 f8 f9 (by rw [f5]; exact decide_eq_false (by omega)) (by rw [hnm]; exact h6) (fun hty => ?_) hdec k
      rcases hbo with h0 | h2
      · have := f6 h0
        rw [this] at hty
        cases hty
      · exact h2.2
    · rename_i v o r
      obtain ⟨⟨hmem, hbo⟩, hs⟩ := ite_inv hs
      obtain ⟨h5, h6⟩ := hc _ hmem
      obtain ⟨ci, kk, ref, f1, f2, f3, f4, f5, f6, f7, f8, f9⟩ := fldB_spec hts h5
      have e1 : (((gK G o).1 : Nat) : Int).toNat - 1 = ci := by omega
      have e2 : (a0 aux).toNat = kk := by omega
      rw [e1, e2] at h6
      obtain ⟨rfl, rfl, rfl, rfl, rfl⟩ := nx_inv hs
      have k : WC X p l e R s m args below meth c Q nL (npc) (L) (r) (setR G o (a0 aux) v) (mi) (cells) (slots) := by
        have q1 : gN (setR G o (a0 aux) v) - gN G = 0 := Nat.sub_self _
        have q2 : gS (setR G o (a0 aux) v) - gS G = 0 := Nat.sub_self _
        rw [q1, q2] at k
        exact k
      rw [hn, f3] at k
      exact st_pfr hx hb hE hts hown f1 f2 f4 f8 f9 (by rw [f5]; exact decide_eq_true hbo) (by rw [hnm]; exact h6) hdec k
    · cases hs
  case getstatic i =>
    simp only [chkI] at hc
    replace hs : (if a0 aux = 0 then nx npc L (pI 1 :: st) G mi else nx npc L (pE 1000 :: st) G mi) = _ := hs
    by_cases h0 : a0 aux = 0
    · rw [if_pos h0] at hs hc
      obtain ⟨rfl, rfl, rfl, rfl, rfl⟩ := nx_inv hs
      simp only [Nat.sub_self, Nat.add_zero] at k
      rw [hn] at k
      exact st_gs0 hx hb hE hts hown (hts _ (wIn_mem hc)) hdec k
    · rw [if_neg h0] at hs hc
      obtain ⟨rfl, rfl, rfl, rfl, rfl⟩ := nx_inv hs
      simp only [Nat.sub_self, Nat.add_zero] at k
      rw [hn] at k
      exact st_gs1 hx hb hE hts hown (hts _ (wIn_mem hc)) hdec k
  case arraylength =>
    replace hs : (match st with
        | .inr (.inr (.inl (some o))) :: r => if 20 ≤ (gK G o).1 then nx npc L (pI (gK G o).2 :: r) G mi else none
        | .inr (.inr (.inr e)) :: r => if e = 0 then nx npc L (pI (gL G) :: r) G mi else if e % 2 = 0 ∧ e ≤ 2 * sTexts.length then nx npc L (pI (sBytes (e / 2 - 1)).length :: r) G mi else none
        | _ => none) = _ := hs
    split at hs
    · rename_i o r
      obtain ⟨h1, hs⟩ := ite_inv hs
      obtain ⟨rfl, rfl, rfl, rfl, rfl⟩ := nx_inv hs
      simp only [Nat.sub_self, Nat.add_zero] at k
      rw [hn] at k
      exact st_alen hx hb hE hts hown h1 hdec k
    · rename_i e0 r
      by_cases h0 : e0 = 0
      · rw [if_pos h0] at hs
        subst h0
        obtain ⟨rfl, rfl, rfl, rfl, rfl⟩ := nx_inv hs
        simp only [Nat.sub_self, Nat.add_zero] at k
        rw [hn] at k
        exact st_alenS hx hb hE hts hown hdec k
      · rw [if_neg h0] at hs
        obtain ⟨⟨h1, h2⟩, hs⟩ := ite_inv hs
        obtain ⟨q, rfl⟩ : ∃ q, e0 = 2 * q + 2 := ⟨e0 / 2 - 1, by omega⟩
        obtain ⟨rfl, rfl, rfl, rfl, rfl⟩ := nx_inv hs
        simp only [Nat.sub_self, Nat.add_zero] at k
        rw [hn, show (2 * q + 2) / 2 - 1 = q by omega] at k
        exact st_alenB hx hb hE hts hown (by omega) hdec k
    · cases hs
  case iaload =>
    replace hs : (match st with
        | .inl i :: .inr (.inr (.inl (some o))) :: r => if (gK G o).1 = 20 ∧ 0 ≤ i ∧ i < (gK G o).2 then nx npc L (pI (mi o i) :: r) G mi else none
        | .inl i :: .inr (.inr (.inr 0)) :: r => if 0 ≤ i ∧ i < gL G then nx npc L (pI (gX G i) :: r) G mi else none
        | _ => none) = _ := hs
    split at hs
    · rename_i i o r
      obtain ⟨⟨h1, h2, h3⟩, hs⟩ := ite_inv hs
      obtain ⟨rfl, rfl, rfl, rfl, rfl⟩ := nx_inv hs
      simp only [Nat.sub_self, Nat.add_zero] at k
      rw [hn] at k
      exact st_iaload hx hb hE hts hown h1 h2 h3 hdec k
    · rename_i i r
      obtain ⟨⟨h2, h3⟩, hs⟩ := ite_inv hs
      obtain ⟨rfl, rfl, rfl, rfl, rfl⟩ := nx_inv hs
      simp only [Nat.sub_self, Nat.add_zero] at k
      rw [hn] at k
      exact st_ialdS hx hb hE hts hown h2 h3 hdec k
    · cases hs
  case baload =>
    replace hs : (match st with
        | .inl i :: .inr (.inr (.inl (some o))) :: r => if (gK G o).1 = 21 ∧ 0 ≤ i ∧ i < (gK G o).2 then nx npc L (pI (mi o i) :: r) G mi else none
        | .inl i :: .inr (.inr (.inr e)) :: r => if e % 2 = 0 ∧ 0 < e ∧ e ≤ 2 * sTexts.length ∧ 0 ≤ i ∧ i < (sBytes (e / 2 - 1)).length then nx npc L (pI ((sBytes (e / 2 - 1)).getD i.toNat 0) :: r) G mi else none
        | _ => none) = _ := hs
    split at hs
    · rename_i i o r
      obtain ⟨⟨h1, h2, h3⟩, hs⟩ := ite_inv hs
      obtain ⟨rfl, rfl, rfl, rfl, rfl⟩ := nx_inv hs
      simp only [Nat.sub_self, Nat.add_zero] at k
      rw [hn] at k
      exact st_baload hx hb hE hts hown h1 h2 h3 hdec k
    · rename_i i e0 r
      obtain ⟨⟨g1, g2, g3, h2, h3⟩, hs⟩ := ite_inv hs
      obtain ⟨rfl, rfl, rfl, rfl, rfl⟩ := nx_inv hs
      simp only [Nat.sub_self, Nat.add_zero] at k
      rw [hn] at k
      obtain ⟨q, rfl⟩ : ∃ q, e0 = 2 * q + 2 := ⟨e0 / 2 - 1, by omega⟩
      rw [show (2 * q + 2) / 2 - 1 = q by omega] at k h3
      exact st_baldB hx hb hE hts hown (by omega) h2 h3 hdec k
    · cases hs
  case aaload =>
    replace hs : (match st with | .inl i :: .inr (.inr (.inl (some o))) :: r => if (gK G o).1 = 22 ∧ 0 ≤ i ∧ i < (gK G o).2 then nx npc L (pR (gR G o i) :: r) G mi else none | _ => none) = _ := hs
    split at hs
    · rename_i i o r
      obtain ⟨⟨h1, h2, h3⟩, hs⟩ := ite_inv hs
      obtain ⟨rfl, rfl, rfl, rfl, rfl⟩ := nx_inv hs
      simp only [Nat.sub_self, Nat.add_zero] at k
      rw [hn] at k
      exact st_aaload hx hb hE hts hown h1 h2 h3 hdec k
    · cases hs
  case iastore =>
    replace hs : (match st with | .inl v :: .inl i :: .inr (.inr (.inl (some o))) :: r => if (gK G o).1 = 20 ∧ 0 ≤ i ∧ i < (gK G o).2 then nx npc L r G (up mi o i v) else none | _ => none) = _ := hs
    split at hs
    · rename_i v i o r
      obtain ⟨⟨h1, h2, h3⟩, hs⟩ := ite_inv hs
      obtain ⟨rfl, rfl, rfl, rfl, rfl⟩ := nx_inv hs
      simp only [Nat.sub_self, Nat.add_zero] at k
      rw [hn] at k
      exact st_iastore hx hb hE hts hown h1 h2 h3 hdec k
    · cases hs
  case bastore =>
    replace hs : (match st with | .inl v :: .inl i :: .inr (.inr (.inl (some o))) :: r => if (gK G o).1 = 21 ∧ 0 ≤ i ∧ i < (gK G o).2 ∧ 0 ≤ v ∧ v ≤ 1 then nx npc L r G (up mi o i v) else none | _ => none) = _ := hs
    split at hs
    · rename_i v i o r
      obtain ⟨⟨h1, h2, h3, h4, h5⟩, hs⟩ := ite_inv hs
      obtain ⟨rfl, rfl, rfl, rfl, rfl⟩ := nx_inv hs
      simp only [Nat.sub_self, Nat.add_zero] at k
      rw [hn] at k
      exact st_bastore hx hb hE hts hown h1 h2 h3 h4 h5 hdec k
    · cases hs
  case aastore =>
    replace hs : (match st with | .inr (.inr (.inl v)) :: .inl i :: .inr (.inr (.inl (some o))) :: r => if (gK G o).1 = 22 ∧ 0 ≤ i ∧ i < (gK G o).2 ∧ thgO G v = true then nx npc L r (setR G o i v) mi else none | _ => none) = _ := hs
    split at hs
    · rename_i v i o r
      obtain ⟨⟨h1, h2, h3, h4⟩, hs⟩ := ite_inv hs
      cases v with
      | none =>
        obtain ⟨rfl, rfl, rfl, rfl, rfl⟩ := nx_inv hs
        have k : WC X p l e R s m args below meth c Q nL (npc) (L) (r) (setR G o i none) (mi) (cells) (slots) := by
          have q1 : gN (setR G o i none) - gN G = 0 := Nat.sub_self _
          have q2 : gS (setR G o i none) - gS G = 0 := Nat.sub_self _
          rw [q1, q2] at k
          exact k
        rw [hn] at k
        exact st_aastoreN hx hb hE hts hown h1 h2 h3 hdec k
      | some v =>
        obtain ⟨rfl, rfl, rfl, rfl, rfl⟩ := nx_inv hs
        have k : WC X p l e R s m args below meth c Q nL (npc) (L) (r) (setR G o i (some v)) (mi) (cells) (slots) := by
          have q1 : gN (setR G o i (some v)) - gN G = 0 := Nat.sub_self _
          have q2 : gS (setR G o i (some v)) - gS G = 0 := Nat.sub_self _
          rw [q1, q2] at k
          exact k
        rw [hn] at k
        exact st_aastore hx hb hE hts hown h1 h2 h3 h4 hdec k
    · cases hs
  case new i =>
    simp only [chkI, newB, Bool.and_eq_true, decide_eq_true_eq] at hc
    obtain ⟨⟨⟨⟨⟨c1, c2⟩, c3⟩, c4⟩, c5⟩, c6⟩ := hc
    replace hs : nx npc L (pR (some (gN G)) :: st) (newG G ((a0 aux).toNat, 0) (a1 aux).toNat) (newM G mi) = _ := hs
    obtain ⟨ci, hci⟩ : ∃ ci, (a0 aux).toNat = ci + 1 := ⟨(a0 aux).toNat - 1, by omega⟩
    rw [hci, Nat.add_sub_cancel] at c3 c4 c5 c6
    rw [hci, c3, Int.toNat_natCast] at hs
    obtain ⟨rfl, rfl, rfl, rfl, rfl⟩ := nx_inv hs
    have q1 : gN (newG G (ci + 1, 0) (clN ci)) - gN G = 1 := Nat.add_sub_cancel_left ..
    have q2 : gS (newG G (ci + 1, 0) (clN ci)) - gS G = clN ci := Nat.add_sub_cancel_left ..
    rw [q1, q2] at k
    rw [q1] at hcell
    rw [q2] at hslot
    rw [hn] at k
    exact st_new hx hb hE hts hown hxb hcs (by omega) (hts _ (wIn_mem c4)) (hts _ (wIn_mem c5)) (hts _ (wIn_mem c6)) hcell hslot hdec k
  case newarray t =>
    simp only [chkI, Bool.and_eq_true, Bool.or_eq_true, decide_eq_true_eq] at hc
    replace hs : op1 st (fun n r => if 0 ≤ n ∧ n < 100000 then nx npc L (pR (some (gN G)) :: r) (newG G ((a0 aux).toNat, n.toNat) n.toNat) (newM G mi) else none) = _ := hs
    obtain ⟨a, r, rfl, hs⟩ := op1_inv hs
    obtain ⟨⟨h1, h2⟩, hs⟩ := ite_inv hs
    obtain ⟨(⟨rfl, e1⟩ | ⟨rfl, e1⟩), c2⟩ := hc
    · rw [e1] at hs
      obtain ⟨rfl, rfl, rfl, rfl, rfl⟩ := nx_inv hs
      have q1 : gN (newG G ((20 : Int).toNat, a.toNat) a.toNat) - gN G = 1 := Nat.add_sub_cancel_left ..
      have q2 : gS (newG G ((20 : Int).toNat, a.toNat) a.toNat) - gS G = a.toNat := Nat.add_sub_cancel_left ..
      rw [q1, q2] at k
      rw [q1] at hcell
      rw [q2] at hslot
      rw [hn] at k
      exact st_newai hx hb hE hts hown hxb hcs (hts _ (wIn_mem c2)) h1 h2 hcell hslot hdec k
    · rw [e1] at hs
      obtain ⟨rfl, rfl, rfl, rfl, rfl⟩ := nx_inv hs
      have q1 : gN (newG G ((21 : Int).toNat, a.toNat) a.toNat) - gN G = 1 := Nat.add_sub_cancel_left ..
      have q2 : gS (newG G ((21 : Int).toNat, a.toNat) a.toNat) - gS G = a.toNat := Nat.add_sub_cancel_left ..
      rw [q1, q2] at k
      rw [q1] at hcell
      rw [q2] at hslot
      rw [hn] at k
      exact st_newaz hx hb hE hts hown hxb hcs (hts _ (wIn_mem c2)) h1 h2 hcell hslot hdec k
  case anewarray i =>
    simp only [chkI] at hc
    replace hs : op1 st (fun n r => if 0 ≤ n ∧ n < 100000 then nx npc L (pR (some (gN G)) :: r) (newG G (22, n.toNat) n.toNat) (newM G mi) else none) = _ := hs
    obtain ⟨a, r, rfl, hs⟩ := op1_inv hs
    obtain ⟨⟨h1, h2⟩, hs⟩ := ite_inv hs
    obtain ⟨rfl, rfl, rfl, rfl, rfl⟩ := nx_inv hs
    have q1 : gN (newG G (22, a.toNat) a.toNat) - gN G = 1 := Nat.add_sub_cancel_left ..
    have q2 : gS (newG G (22, a.toNat) a.toNat) - gS G = a.toNat := Nat.add_sub_cancel_left ..
    rw [q1, q2] at k
    rw [q1] at hcell
    rw [q2] at hslot
    rw [hn] at k
    exact st_anewa hx hb hE hts hown hxb hcs (hts _ (wIn_mem hc)) h1 h2 hcell hslot hdec k
  case instanceof i =>
    simp only [chkI, instB, List.any_eq_true, Bool.and_eq_true, decide_eq_true_eq, List.all_eq_true, Bool.or_eq_true] at hc
    obtain ⟨q, hq, ⟨⟨q1, q2⟩, q3⟩, q4⟩ := hc
    replace hs : (match st with | .inr (.inr (.inl (some o))) :: r => if thg (gK G o).1 = true then nx npc L (pI (if ((gK G o).1 : Int) ∈ aux then 1 else 0) :: r) G mi else none | _ => none) = _ := hs
    split at hs
    · rename_i o r
      obtain ⟨h1, hs⟩ := ite_inv hs
      obtain ⟨rfl, rfl, rfl, rfl, rfl⟩ := nx_inv hs
      simp only [Nat.sub_self, Nat.add_zero] at k
      rw [hn] at k
      obtain ⟨l1, l2⟩ := thg_lt h1
      obtain ⟨ci, hci⟩ : ∃ ci, (gK G o).1 = ci + 1 := ⟨(gK G o).1 - 1, by omega⟩
      have h4 := (q4 ci (List.mem_range.mpr (by omega))).resolve_left (by rw [← hci, h1]; decide)
      rw [← hci] at h4
      refine st_inst hx hb hE hts hown hci (by omega) (hts _ (wIn_mem q3)) ?_ hdec k
      by_cases hm : ((gK G o).1 : Int) ∈ aux
      · rw [if_pos hm] at h4 ⊢
        simp only [Bool.or_eq_true, decide_eq_true_eq] at h4
        exact Or.inl ⟨rfl, h4⟩
      · rw [if_neg hm] at h4 ⊢
        simp only [decide_eq_true_eq] at h4
        exact Or.inr ⟨rfl, h4⟩
    · cases hs
  case invokevirtual i =>
    exfalso
    replace hs : (match (takeA (ia aux) st).2 with
        | v :: r => (match dsp (rcv G v) (aux.drop 1) with
          | some y => if rOK r = true then some (.inr (y.toNat, v :: (takeA (ia aux) st).1, r)) else none
          | none => none)
        | [] => none) = some (Sum.inl _) := hs
    split at hs
    · split at hs
      · obtain ⟨-, hs⟩ := ite_inv hs
        cases hs
      · cases hs
    · cases hs
  case invokespecial i =>
    simp only [chkI] at hc
    replace hs : (if a0 aux = 0 then (match st with
          | .inr (.inr (.inl (some _))) :: r => if 1 ≤ d ∧ rOK r = true then nx npc L r G mi else none
          | _ => none) else (match (takeA (a1 aux).toNat st).2 with
        | v :: r => if (a0 aux = 1 ∨ rcv G v ∈ aux.drop 3) ∧ isR v = true ∧ rOK r = true then some (.inr ((a2 aux).toNat, v :: (takeA (a1 aux).toNat st).1, r)) else none
        | [] => none)) = some (Sum.inl _) := hs
    by_cases h0 : a0 aux = 0
    · rw [if_pos h0] at hs hc
      simp only [Bool.and_eq_true] at hc
      split at hs
      · rename_i o r
        obtain ⟨⟨h1, h2⟩, hs⟩ := ite_inv hs
        obtain ⟨rfl, rfl, rfl, rfl, rfl⟩ := nx_inv hs
        simp only [Nat.sub_self, Nat.add_zero] at k
        rw [hn] at k
        intro ls H locs hI hL hO hS
        have hsum := rOK_sum hE h2
        exact W.objInit hx hb hown (hts _ (wIn_mem hc.1.1)) (hts _ (wIn_mem hc.1.2)) (hts _ (wIn_mem hc.2)) rfl (by rw [hml, ← hnL]; exact hL.1.1) rfl hdec (by omega) (by show 2 * 0 + _ + 12 ≤ _; omega) (k ls H locs hI hL hO (List.forall_mem_cons.mp hS).2)
      · cases hs
    · rw [if_neg h0] at hs
      exfalso
      split at hs
      · obtain ⟨-, hs⟩ := ite_inv hs
        cases hs
      · cases hs
  case invokestatic i =>
    simp only [chkI] at hc
    simp only [sI] at hs
    by_cases hz0 : a0 aux = 0
    · exfalso
      rw [if_neg (by omega), if_neg (by omega), if_neg (by omega), if_neg (by omega)] at hs
      obtain ⟨-, hs⟩ := ite_inv hs
      cases hs
    rw [if_neg hz0] at hc
    by_cases hz1 : a0 aux = 1
    · exfalso
      rw [if_neg (by omega), if_neg (by omega), if_neg (by omega), if_neg (by omega)] at hs
      obtain ⟨-, hs⟩ := ite_inv hs
      cases hs
    rw [if_neg hz1] at hc
    by_cases h2 : a0 aux = 2
    · rw [if_pos h2] at hs hc
      simp only [matB, Bool.and_eq_true] at hc
      obtain ⟨⟨⟨c1, c2⟩, c3⟩, c4⟩ := hc
      obtain ⟨a, b, r, rfl, hs⟩ := op2_inv hs
      obtain ⟨⟨h8, h9⟩, hs⟩ := ite_inv hs
      obtain ⟨rfl, rfl, rfl, rfl, rfl⟩ := nx_inv hs
      simp only [Nat.sub_self, Nat.add_zero] at k
      rw [hn] at k
      intro ls H locs hI hL hO hS
      obtain ⟨b1, hS1⟩ := List.forall_mem_cons.mp hS
      obtain ⟨b2, hS2⟩ := List.forall_mem_cons.mp hS1
      have hsum := rOK_sum hE h9
      refine va_mmax hx hb (by rw [hml, ← hnL]; exact hL.1.1.symm) hown (hts _ (wIn_mem c1)) (hts _ (wIn_mem c2)) (hts _ (wIn_mem c3)) (hts _ (wIn_mem c4)) (by omega) (by omega) (by simpa using hcell) (by simpa using hslot) hdec ?_
      have kk := k ls H locs hI hL hO (List.forall_mem_cons.mpr ⟨by show in32 (if _ then _ else _); split; exact b1; exact b2, hS2⟩)
      rw [List.map_cons] at kk
      have e1 : trV X (pI (if a < b then b else a)) = .int (if Int32.ofInt a < Int32.ofInt b then Int32.ofInt b else Int32.ofInt a) := by
        show Value.int _ = _
        by_cases hab : a < b
        · rw [if_pos hab, if_pos ((of_lt b2 b1).mpr hab)]
        · rw [if_neg hab, if_neg (fun z => hab ((of_lt b2 b1).mp z))]
      rw [e1] at kk
      exact kk
    rw [if_neg h2] at hs hc
    by_cases h3 : a0 aux = 3
    · rw [if_pos h3] at hs hc
      simp only [matB, Bool.and_eq_true] at hc
      obtain ⟨⟨⟨c1, c2⟩, c3⟩, c4⟩ := hc
      obtain ⟨a, b, r, rfl, hs⟩ := op2_inv hs
      obtain ⟨⟨h8, h9⟩, hs⟩ := ite_inv hs
      obtain ⟨rfl, rfl, rfl, rfl, rfl⟩ := nx_inv hs
      simp only [Nat.sub_self, Nat.add_zero] at k
      rw [hn] at k
      intro ls H locs hI hL hO hS
      obtain ⟨b1, hS1⟩ := List.forall_mem_cons.mp hS
      obtain ⟨b2, hS2⟩ := List.forall_mem_cons.mp hS1
      have hsum := rOK_sum hE h9
      refine va_mmin hx hb (by rw [hml, ← hnL]; exact hL.1.1.symm) hown (hts _ (wIn_mem c1)) (hts _ (wIn_mem c2)) (hts _ (wIn_mem c3)) (hts _ (wIn_mem c4)) (by omega) (by omega) (by simpa using hcell) (by simpa using hslot) hdec ?_
      have kk := k ls H locs hI hL hO (List.forall_mem_cons.mpr ⟨by show in32 (if _ then _ else _); split; exact b1; exact b2, hS2⟩)
      rw [List.map_cons] at kk
      have e1 : trV X (pI (if b < a then b else a)) = .int (if Int32.ofInt b < Int32.ofInt a then Int32.ofInt b else Int32.ofInt a) := by
        show Value.int _ = _
        by_cases hab : b < a
        · rw [if_pos hab, if_pos ((of_lt b1 b2).mpr hab)]
        · rw [if_neg hab, if_neg (fun z => hab ((of_lt b1 b2).mp z))]
      rw [e1] at kk
      exact kk
    rw [if_neg h3] at hs hc
    by_cases h4 : a0 aux = 4
    · rw [if_pos h4] at hs hc
      simp only [matB, Bool.and_eq_true] at hc
      obtain ⟨⟨⟨c1, c2⟩, c3⟩, c4⟩ := hc
      obtain ⟨a, r, rfl, hs⟩ := op1_inv hs
      obtain ⟨⟨h8, h9⟩, hs⟩ := ite_inv hs
      obtain ⟨rfl, rfl, rfl, rfl, rfl⟩ := nx_inv hs
      simp only [Nat.sub_self, Nat.add_zero] at k
      rw [hn] at k
      intro ls H locs hI hL hO hS
      obtain ⟨b1, hS2⟩ := List.forall_mem_cons.mp hS
      have hsum := rOK_sum hE h9
      refine va_mabs hx hb (by rw [hml, ← hnL]; exact hL.1.1.symm) hown (hts _ (wIn_mem c1)) (hts _ (wIn_mem c2)) (hts _ (wIn_mem c3)) (hts _ (wIn_mem c4)) (by omega) (by omega) (by simpa using hcell) (by simpa using hslot) hdec ?_
      have kk := k ls H locs hI hL hO (List.forall_mem_cons.mpr ⟨by show in32 (if _ then _ else _); split; exact b1; exact wr_in _, hS2⟩)
      rw [List.map_cons] at kk
      have e1 : trV X (pI (if 0 ≤ a then a else wr (0 - a))) = .int (if 0 ≤ Int32.ofInt a then Int32.ofInt a else 0 - Int32.ofInt a) := by
        show Value.int _ = _
        have hle : (0 ≤ Int32.ofInt a) ↔ 0 ≤ a := of_le in_0 b1
        by_cases hab : 0 ≤ a
        · rw [if_pos hab, if_pos (hle.mpr hab)]
        · rw [if_neg hab, if_neg (fun z => hab (hle.mp z)), wr_of, Int32.ofInt_sub]
          rfl
      rw [e1] at kk
      exact kk
    rw [if_neg h4] at hs hc
    by_cases h5 : a0 aux = 5
    · rw [if_pos h5] at hs hc
      simp only [Bool.and_eq_true] at hc
      obtain ⟨⟨⟨c1, c2⟩, c3⟩, c4⟩ := hc
      split at hs
      · rename_i n dp b sp a r
        obtain ⟨⟨h8, h9, k1, k2, k3, k4, k5, k6, k7, k8⟩, hs⟩ := ite_inv hs
        obtain ⟨rfl, rfl, rfl, rfl, rfl⟩ := nx_inv hs
        simp only [Nat.sub_self, Nat.add_zero] at k
        rw [hn] at k
        intro ls H locs hI hL hO hS
        obtain ⟨b1, hS1⟩ := List.forall_mem_cons.mp hS
        obtain ⟨b2, hS2⟩ := List.forall_mem_cons.mp hS1
        obtain ⟨-, hS3⟩ := List.forall_mem_cons.mp hS2
        obtain ⟨b4, hS4⟩ := List.forall_mem_cons.mp hS3
        obtain ⟨-, hS5⟩ := List.forall_mem_cons.mp hS4
        have hsum := rOK_sum hE h9
        have ga := wlX_get (X := X) (mi := mi) (hI.1.2.2.1 a (by omega))
        have gb := wlX_get (X := X) (mi := mi) (hI.1.2.2.1 b (by omega))
        rw [entX_i k1] at ga
        rw [entX_i k2] at gb
        refine va_copyi hx hb (by rw [hml, ← hnL]; exact hL.1.1.symm) hown (hts _ (wIn_mem c1)) (hts _ (wIn_mem c2)) (hts _ (wIn_mem c3)) (hts _ (wIn_mem c4)) hE.1 hI.1.1 wlX_D hI.2 a b 0 0 ga gb rfl rfl rfl (fun z => by have := (of_lt b4 in_0).mp z; omega) (fun z => by have := (of_lt b2 in_0).mp z; omega) (fun z => by have := (of_lt b1 in_0).mp z; omega) (by rw [of_clamp b4, of_clamp b1]; omega) (by rw [of_clamp b2, of_clamp b1]; omega) (fun _ _ => rfl) (by omega) (Nat.le_trans (Nat.add_le_add hsum (by decide +kernel : nativeFrameWords "java/lang/System" "arraycopy" 5 + 11 ≤ 56)) (by omega)) hdec (fun H1 locs1 hP1 _ hS6 => ?_)
        have hin : ∀ z j, in32 (cpy mi a sp b dp n z j) := by
          intro z j
          unfold cpy
          split
          · exact hI.1.2.1 _ _
          · exact hI.1.2.1 _ _
        rw [wlX_set (G := G) (mi := mi) (G' := G) (mi' := cpy mi a sp b dp n) rfl (by
          rw [entX_i k2]
          refine congrArg (fun f => (Sum.inl (xI X, (gK G b).2, Sum.inl f) : va_E)) (funext fun j => ?_)
          rw [of_clamp b4, of_clamp b2, of_clamp b1]
          unfold va_cpy cpy
          by_cases hj : dp.toNat ≤ j ∧ j < dp.toNat + n.toNat
          · rw [if_pos hj, if_pos ⟨rfl, by omega, by omega⟩]
            congr 2
            omega
          · rw [if_neg hj, if_neg (fun z => hj ⟨by omega, by omega⟩)]) (fun q hq => by
          have e1 : cpy mi a sp b dp n q = mi q := by
            funext j
            unfold cpy
            rw [if_neg (fun z => hq z.1)]
          unfold entX fvs
          rw [e1])] at hP1
        exact k ls H1 locs1 ⟨⟨hP1, hin, hI.1.2.2⟩, hS6⟩ hL hO hS5
      · cases hs
    · exfalso
      rw [if_neg h5] at hs
      obtain ⟨⟨h6, -⟩, hs⟩ := ite_inv hs
      cases hs
end DI
