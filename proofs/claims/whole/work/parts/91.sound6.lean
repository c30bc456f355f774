/-! ===== entry, returns, calls; a run of the pure machine is a run of the machine (written by wip/whole/gen/gensound6.py) ===== -/
def Ws (y : Nat) : List Cond := Cond.code (mY y).1 (mY y).2.1 (mY y).2.2.1 (mY y).2.2.2 :: AW
theorem goodAW {ws : List Cond} (h : ∀ w ∈ ws, w ∈ AW) : GoodIn AW ws := fun w hw => ⟨h w hw, good_of_word (List.mem_filter.mp (h w hw)).2⟩
theorem mB_spec {y : Nat} (h : y < 217) : Cond.code (mY y).1 (mY y).2.1 (mY y).2.2.1 (mY y).2.2.2 ∈ AW ∧ Cond.initialized (mY y).1.cls ∈ AW ∧ (mY y).2.2.1 ≤ 40 ∧ plainFor (mY y).1 = true ∧ (mY y).1.cls ≠ "java/lang/invoke/MethodHandle" ∧ (mY y).1.cls ≠ "java/lang/invoke/VarHandle" := by
  have h1 := mB_all y h
  simp only [mB, plB, Bool.and_eq_true, decide_eq_true_eq, Bool.or_eq_true] at h1
  obtain ⟨⟨⟨⟨⟨-, h1⟩, h2⟩, h3⟩, h4⟩, h5, h6⟩ := h1
  refine ⟨wY_mem (mB_all y h) (k := 0) (by decide) h1, wY_mem (mB_all y h) (k := 1) (by decide) h2, h3, ?_, h5, h6⟩
  rcases h4 with h4 | h4
  · exact plainFor_of_name (ownNames_plain _ h4)
  · exact h4
theorem wInst {y : Nat} (h : y < 217) (h2 : wY 2 y = true) : Cond.instanceMethod (mY y).1 ∈ AW := wY_mem (mB_all y h) (k := 2) (by decide) h2
theorem wStat {y : Nat} (h : y < 217) (h2 : wY 3 y = true) : Cond.static (mY y).1 ∈ AW := wY_mem (mB_all y h) (k := 3) (by decide) h2
theorem wSel {y : Nat} (h : y < 217) (h2 : wY 4 y = true) : Cond.selects (mY y).1.cls (mY y).1 (mY y).1 ∈ AW := wY_mem (mB_all y h) (k := 4) (by decide) h2
theorem wCode {y : Nat} (h : y < 217) (h2 : wY 0 y = true) : Cond.code (mY y).1 (mY y).2.1 (mY y).2.2.1 (mY y).2.2.2 ∈ AW := wY_mem (mB_all y h) (k := 0) (by decide) h2
theorem Ws_in {y : Nat} (h : y < 217) : ∀ w ∈ Ws y, w ∈ AW := by
  intro w hw
  rcases List.mem_cons.mp hw with rfl | hw
  · exact (mB_spec h).1
  · exact hw
def rmY (d mc ms : Nat) : Room := { frames := d, cells := mc, slots := ms, locals := 64 * d }
def PcF (X : Cx) (as : List PV) (G : Gh) (mi : Mi) : Array Value → State → Prop := fun v U => v = (as.map (trV X)).toArray ∧ EnvU X U U.heap ∧ InvS X G mi U.heap ∧ U.heap.size = xb X + gN G ∧ ∀ a ∈ as, okV a
def QcF (X : Cx) (r : Option PV) (G : Gh) (mi : Mi) : Array Value → State → Outcome → State → Prop := fun _ st oc t => oc = .returned (r.map (trV X)) ∧ InvS X G mi t.heap ∧ (∀ v, r = some v → okV v) ∧ va_F (AX X) st t
theorem EnvU.warm {X : Cx} {s U : State} {H : Heap} {locs : List Loc} (h : EnvU X s s.heap) (hS : va_S (AX X) s.heap H locs) (hU : U.heap = H) (hW : s.WarmedH U.vm) : EnvU X U U.heap := by
  obtain ⟨h1, ⟨h2, h2b, h2c⟩, h3, h4, h5, ⟨h6, h6b⟩, h7, h8, h9, h10⟩ := h
  have hvm := hW.alike
  have hq : ∀ a : Nat, a < s.heap.size → ¬ AX X a → U.heap[a]? = s.heap[a]? := by rw [hU]; exact hS.2.1
  have hlt : (xs X).1 < s.heap.size := (Array.getElem?_eq_some_iff.mp h2.choose_spec.1).1
  exact ⟨va_K.moved hvm h1, ⟨(va_X.moved hvm h2).kept (hq _ hlt (Nat.not_le.mpr h2b)), h2b, h2c⟩, (vk_S.moved hvm h3).kept hq, fun q hm => vk_R.warm hW (h4 q hm), (va_Z.moved hvm h5).kept hq, ⟨(va_Z.moved hvm h6).kept hq, h6b⟩,
    fun q hm => va_Nw.warmM hW (h7 q hm), fun q hm => va_Nw.warmC hW (h8 q hm), fun q hm => va_Nc.moved hvm (h9 q hm), va_AO.moved hvm h10⟩
theorem PcF_blind {X : Cx} {as : List PV} {G : Gh} {mi : Mi} : FrameBlind (PcF X as G mi) := fun a U g mk ⟨h1, h2, h3, h4, h5⟩ => ⟨h1, EnvU.warm (U := U.calling g mk a) h2 va_S.rf rfl (State.WarmedH.refl U), h3, h4, h5⟩
theorem ent_args {X : Cx} {U : State} {H : Heap} (hE : EnvU X U H) : ∀ (as : List PV) (k i : Nat) (v : PV), lg (ent as) i = some v → (k + i, trV X v) ∈ lv_args k (as.map (trV X)) := by
  intro as
  induction as with
  | nil => intro k i v h; have := (lg_some h).1; simp [ent] at this
  | cons a r ih =>
    intro k i v h
    by_cases ha : isL (some a) = false
    · have e1 : ent (a :: r) = some a :: ent r := by
        match a, ha with
        | .inl _, _ => rfl
        | .inr (.inl _), ha => cases ha
        | .inr (.inr _), _ => rfl
      rw [e1] at h
      rw [List.map_cons]
      unfold lv_args
      rw [if_neg (by rw [tr_cat1 hE ha]; decide)]
      cases i with
      | zero =>
        have : some a = some v := h
        cases this
        exact List.mem_cons_self
      | succ i =>
        have h2 := ih (k + 1) i v h
        rw [show k + (i + 1) = k + 1 + i by omega]
        exact List.mem_cons_of_mem _ h2
    · match a, ha with
      | .inl _, ha => exact absurd rfl ha
      | .inr (.inr _), ha => exact absurd rfl ha
      | .inr (.inl z), _ =>
        have h : lg (some (pL z) :: none :: ent r) i = some v := h
        rw [List.map_cons]
        unfold lv_args
        rw [if_pos (by rfl)]
        match i, h with
        | 0, h =>
          have : some (pL z) = some v := h
          cases this
          exact List.mem_cons_self
        | 1, h => have h : (none : Option PV) = some v := h; cases h
        | i + 2, h =>
          have h2 := ih (k + 2) i v h
          rw [show k + (i + 2) = k + 2 + i by omega]
          exact List.mem_cons_of_mem _ h2
theorem ent_len {X : Cx} {U : State} {H : Heap} (hE : EnvU X U H) : ∀ as : List PV, (lg_sl (as.map (trV X))).length = (ent as).length := by
  intro as
  induction as with
  | nil => rfl
  | cons a r ih =>
    unfold lg_sl at ih ⊢
    rw [List.map_cons, List.flatMap_cons, List.length_append, ih]
    match a with
    | .inl _ => show 1 + _ = _; simp [ent]; omega
    | .inr (.inl _) => show 2 + _ = _; simp [ent]; omega
    | .inr (.inr q) =>
      have hc : (trV X (.inr (.inr q))).category = 1 := tr_cat1 hE rfl
      rw [if_neg (by rw [hc]; decide)]
      show 1 + _ = _
      simp [ent]
      omega
theorem iniL_lg {y i : Nat} {as : List PV} {v : PV} (h : lg (iniL y as) i = some v) : lg (ent as) i = some v := by
  unfold iniL at h
  unfold lg at h ⊢
  rw [List.getD_eq_getElem?_getD] at h ⊢
  by_cases hi : i < (ent as).length
  · rw [List.getElem?_append_left hi] at h
    exact h
  · rw [List.getElem?_append_right (by omega)] at h
    cases hx : (List.replicate (maxLY y - (ent as).length) (none : Option PV))[i - (ent as).length]? with
    | none => rw [hx] at h; cases h
    | some w =>
      rw [hx] at h
      have := List.mem_of_getElem? hx
      rw [List.eq_of_mem_replicate this] at h
      cases h
theorem ent_ok {as : List PV} (h : ∀ a ∈ as, okV a) : okL (ent as) := by
  intro i v hv
  have key : ∀ (as : List PV) (i : Nat), lg (ent as) i = some v → v ∈ as := by
    intro as
    induction as with
    | nil => intro i hv; have := (lg_some hv).1; simp [ent] at this
    | cons a r ih =>
      intro i hv
      match a with
      | .inl z =>
        have hv : lg (some (.inl z) :: ent r) i = some v := hv
        cases i with
        | zero => have : some (Sum.inl z) = some v := hv; cases this; exact List.mem_cons_self
        | succ i => exact List.mem_cons_of_mem _ (ih i hv)
      | .inr (.inr z) =>
        have hv : lg (some (.inr (.inr z)) :: ent r) i = some v := hv
        cases i with
        | zero => have : some (Sum.inr (Sum.inr z)) = some v := hv; cases this; exact List.mem_cons_self
        | succ i => exact List.mem_cons_of_mem _ (ih i hv)
      | .inr (.inl z) =>
        have hv : lg (some (pL z) :: none :: ent r) i = some v := hv
        match i, hv with
        | 0, hv => have : some (pL z) = some v := hv; cases this; exact List.mem_cons_self
        | 1, hv => have hv : (none : Option PV) = some v := hv; cases hv
        | i + 2, hv => exact List.mem_cons_of_mem _ (ih i hv)
  exact h v (key as i hv)
theorem iniL_len {y : Nat} {as : List PV} (h : (ent as).length ≤ maxLY y) : (iniL y as).length = maxLY y := by
  unfold iniL
  rw [List.length_append, List.length_replicate]
  omega
section CA
variable {X : Cx} {p : Program} {l : Launch} {e : Env} {R : Room} {s : State} {m : MethodId} {args : Array Value} {below : List Frame} {meth : Method} {c : Code} {Q : State → Prop} {y d nL pc npc : Nat} {L : Lcs} {st rest : List PV} {G G1 : Gh} {mi mi1 : Mi} {cells slots mc ms : Nat} {ins : ClassFile.Instr} {aux : List Int} {r : Option PV}
theorem nar_bz {v : Int} (h : 0 ≤ v ∧ v ≤ 1) : narrow .boolean (.int (Int32.ofInt v)) = .int (Int32.ofInt v) := (nar_bool h.1 h.2).1
theorem nar_ch {v : Int} (h : 0 ≤ v ∧ v < 65536) : narrow .char (.int (Int32.ofInt v)) = .int (Int32.ofInt v) := by
  obtain ⟨j, rfl⟩ : ∃ j : Nat, v = j := ⟨v.toNat, by omega⟩
  exact (pk_charN (q := j) (by omega)).1
theorem wc_ret (Mh : Mch X p s m args meth c y) (hy : y < 218) (hcd : cd y pc = some (npc, ins, aux)) (hr : isRet ins = true) (hrv : retv y (pc, L, st, G, mi) = some r) (hret : meth.sig.returnType = (mY y).2.2.2) (hlocks : meth.locks = false) :
    WC X p l e R s m args below meth c (MQ below (QcF X r G mi) args s cells slots (AX X)) nL pc L st G mi cells slots := by
  obtain ⟨hx, hb, hml, hown, hts, hnm, hE, hxb⟩ := Mh
  obtain ⟨-, hdec, hchk⟩ := cd_chk hy hcd
  unfold retv at hrv
  simp only [hcd] at hrv
  intro ls H locs hI hL hO hS
  cases ins
  all_goals try (exfalso; exact nomatch (show false = true from hr))
  case ireturn =>
    simp only at hrv
    split at hrv
    · rename_i v
      obtain ⟨h1, h2⟩ := ite_inv hrv
      cases h2
      have hv : okV (pI v) := hS _ List.mem_cons_self
      have hq : ∀ t : State, t.heap = H → s.WarmedH t.vm → QcF X (some (pI v)) G mi args s (.returned (some (.int (Int32.ofInt v)))) t := fun t ht _ => ⟨rfl, by rw [ht]; exact hI.1, fun w hw => by cases hw; exact hv, hI.2.F ht⟩
      cases ht : (mY y).2.2.2 with
      | none => rw [ht] at h1; cases h1
      | some ty =>
        rw [ht] at h1
        rw [ht] at hret
        cases ty
        all_goals try (exfalso; exact nomatch (show false = true from h1))
        case int => exact W.iret hx hb hret hq hI.2.2.2 hdec hlocks
        case boolean => exact W.zret hx hb hret (nar_bz (of_decide_eq_true h1)) hq hI.2.2.2 hdec hlocks
        case char => exact W.zret hx hb hret (nar_ch (of_decide_eq_true h1)) hq hI.2.2.2 hdec hlocks
        case byte =>
          have h0 : v = 0 := of_decide_eq_true h1
          subst h0
          exact W.zret hx hb hret (by decide) hq hI.2.2.2 hdec hlocks
    · cases hrv
  case lreturn =>
    simp only [chkI, decide_eq_true_eq] at hchk
    simp only at hrv
    split at hrv
    · rename_i v
      cases hrv
      have hv : okV (pL v) := hS _ List.mem_cons_self
      exact W.lret hx hb (hret.trans hchk) (fun t ht _ => ⟨rfl, by rw [ht]; exact hI.1, fun w hw => by cases hw; exact hv, hI.2.F ht⟩) hI.2.2.2 hdec hlocks
    · cases hrv
  case areturn =>
    simp only [chkI] at hchk
    simp only at hrv
    split at hrv
    · rename_i v
      cases hrv
      cases ht : (mY y).2.2.2 with
      | none => rw [ht] at hchk; cases hchk
      | some ty =>
        rw [ht] at hchk
        rw [ht] at hret
        refine W.aret hx hb hret ?_ (va_rf_or _) (fun t ht _ => ⟨rfl, by rw [ht]; exact hI.1, fun w hw => by cases hw; exact trivial, hI.2.F ht⟩) hI.2.2.2 hdec hlocks
        cases ty
        all_goals try (exfalso; exact nomatch (show false = true from hchk))
        case object n => exact Or.inl ⟨n, rfl⟩
        case array t => exact Or.inr ⟨t, rfl⟩
    · cases hrv
  case return_ =>
    simp only [chkI, decide_eq_true_eq] at hchk
    simp only at hrv
    split at hrv
    · cases hrv
      exact W.vret hx hb (hret.trans hchk) (fun t ht _ => ⟨rfl, by rw [ht]; exact hI.1, fun w hw => (by cases hw), hI.2.F ht⟩) hI.2.2.2 hdec hlocks
    · cases hrv
theorem wc_call {H : Heap} {locs : List Loc} {ls : Array Slot} {st0 : List Value} {a : Array Value} (hrun : va_Run p l e R s m args below meth c H locs cells slots mc ms (F0 m pc ls st0) (rest.map (trV X)) (QcF X r G1 mi1 a) (AX X)) (hI : Inv X G mi s H locs) (hL : LR X nL ls L) (hO : okL L) (hSr : ∀ v ∈ rest, okV v)
    (k : WC X p l e R s m args below meth c Q nL (pc + 3) (L) (pu r rest) (G1) (mi1) (cells + mc) (slots + ms)) : W p l e R s m args below meth c H locs cells slots Q (F0 m pc ls st0) := by
  intro T hT XX
  obtain ⟨v, st₀, t, T', L', h0, X', hL', e1, e2, ⟨hv, hInv, hok, hz, hk⟩, hst⟩ := hrun T hT XX
  have hv : v = r.map (trV X) := Outcome.returned.inj hv
  subst hv
  rw [h0] at hz hk
  have hS3 : va_S (AX X) s.heap T'.heap (locs ++ L') := ⟨Nat.le_trans hI.2.1 (by rw [e1]; exact hz), fun q h1 h2 => by rw [e1, hk q (Nat.lt_of_lt_of_le h1 hI.2.1) h2]; exact hI.2.2.1 q h1 h2, fun q hq => by
      rcases List.mem_append.mp hq with h | h
      · exact hI.2.2.2 q h
      · exact hL' q h⟩
  have hSp : ∀ v ∈ pu r rest, okV v := by
    cases r with
    | none => exact hSr
    | some w => exact List.forall_mem_cons.mpr ⟨hok w rfl, hSr⟩
  obtain ⟨t2, a1, b1⟩ := k ls T'.heap (locs ++ L') ⟨by rw [e1]; exact hInv, hS3⟩ hL hO hSp T' rfl X'
  refine ⟨t2, hst t2 ?_, b1⟩
  have e3 : (r.map (trV X)).toList ++ rest.map (trV X) = (pu r rest).map (trV X) := by cases r <;> rfl
  show Steps _ _ _ (T'.setTop { F0 m pc ls st0 with pc := pc + 3, stack := (r.map (trV X)).toList ++ rest.map (trV X) }) t2
  rw [e3]
  exact a1
theorem dsp_virA {own : String} {i na : Nat} {c z : Int} : ∀ (n : Nat) (l : List Int), l.length ≤ n → virA own i na l = true → dsp c l = some z → ∃ mode, virB own i na c z mode = true := by
  intro n
  induction n with
  | zero =>
    intro l hl _ h
    cases l with
    | nil => cases h
    | cons a l => simp at hl
  | succ n ih =>
    intro l hl hv h
    match l, hl, hv, h with
    | [], _, _, h => cases h
    | [_], _, _, h => cases h
    | [_, _], _, _, h => cases h
    | c' :: y' :: mode :: r, hl, hv, h =>
      simp only [virA, Bool.and_eq_true] at hv
      simp only [dsp] at h
      by_cases hc : c = c'
      · rw [if_pos hc] at h
        cases h
        exact ⟨mode, by rw [hc]; exact hv.1⟩
      · rw [if_neg hc] at h
        exact ih r (by simp at hl; omega) hv.2 h
theorem takeA_spec {n : Nat} {v : PV} {r : List PV} (h : (takeA n st).2 = v :: r) : st = (takeA n st).1.reverse ++ v :: r ∧ (takeA n st).1.length = n := by
  have h : st.drop n = v :: r := h
  have h1 : n < st.length := by
    rcases Nat.lt_or_ge n st.length with q | q
    · exact q
    · rw [List.drop_eq_nil_of_le q] at h; cases h
  refine ⟨?_, ?_⟩
  · show st = (st.take n).reverse.reverse ++ v :: r
    rw [List.reverse_reverse, ← h, List.take_append_drop]
  · show (st.take n).reverse.length = n
    rw [List.length_reverse, List.length_take]
    omega
theorem pcN_len {desc : String} {n : Nat} (h : pcN desc = some n) : ∀ sig, parseMethodDescriptor desc = some sig → n = sig.parameters.length := by
  intro sig hs
  unfold pcN at h
  rw [hs] at h
  exact (Option.some.inj h).symm
theorem sub_refl (vm : Vm) (a : ClassId) : vm.isSubclass a a = true := by simp [Vm.isSubclass, Vm.isSubclassAux]
theorem sub_one {vm : Vm} {a b : ClassId} {k : Class} (hk : vm.classes[a]? = some k) (hs : k.super = some b) : vm.isSubclass a b = true := by
  have hpos : 0 < vm.classes.size := Nat.lt_of_le_of_lt (Nat.zero_le _) (Array.getElem?_eq_some_iff.mp hk).1
  obtain ⟨n, hn⟩ : ∃ n, vm.classes.size = n + 1 := ⟨vm.classes.size - 1, by omega⟩
  unfold Vm.isSubclass
  rw [hn]
  simp [Vm.isSubclassAux, hk, hs]
/-- super.m(..), also where the superclass inherits m -/
theorem runSU {x z : MethodName} {index n maxL : Nat} {bytes cc : ByteArray} {ret : Option FieldType} {ws : List Cond} {rm : Room} {Pc : Array Value → State → Prop} {Qc : Array Value → State → Outcome → State → Prop} {free : Addr → Prop} {own C : String} {cC : ClassId} {b : Addr} {As restV : List Value} {g : JFrame} {H : Heap} {locs : List Loc}
    (hat : ClassAt s C cC) (hx : p.tables.exec = Jvm.exec) (hb : c.code = cc) (hml : c.maxLocals = nL) (ho : s.vm.findClass own = some m.cls) (hM : Met l z ws rm Pc Qc mc ms free) (hrc : rm.cells = mc) (hrs : rm.slots = ms) (hfr : rm.frames + 1 ≤ R.frames) (hlo : 8 + (maxL + 11) + rm.locals ≤ R.locals)
    (hws : ∀ w ∈ ws, ∀ (a' : Array Value) (U : State), s.WarmedH U.vm → w.before a' U = true) (hcw : Cond.code z bytes maxL ret ∈ ws) (hl1 : (Cond.methodLink own index x).before args s = true) (hl2 : (Cond.sameMethod x.cls z.cls x.name x.desc).before args s = true) (hl3 : (Cond.superclass own x.cls).before args s = true) (hl4 : x.cls = z.cls ∨ (Cond.superclass x.cls z.cls).before args s = true)
    (hz1 : z.name = x.name) (hz2 : z.desc = x.desc) (hl5 : (Cond.instanceMethod z).before args s = true) (hini : (Cond.initialized z.cls).before args s = true) (hcode : (Cond.code z bytes maxL ret).before args s = true) (hno : z.name ≠ "<init>") (hlen : ∀ sig, parseMethodDescriptor z.desc = some sig → n = sig.parameters.length)
    (hp : PreV s H C b Pc As) (hg : g.method = m) (hn : As.length = n) (hsize : g.locals.size = nL) (hstack : g.stack = As.reverse ++ .ref b :: restV) (hW : 2 * g.monitorRoom + (restV.map fun v => v.category).sum ≤ 8) (hdg : decode cc g.pc = .ok (.invokespecial index, 3)) (hf : cells + mc ≤ R.cells ∧ slots + ms ≤ R.slots) :
    va_Run p l e R s m args below meth c H locs cells slots mc ms g restV (Qc (Value.ref b :: As).toArray) (free) := by
  have hK : Back l R p e below s args z 3 8 (PreOf R mc ms Pc) (PostOf Qc mc ms free) := back_of (bytes := bytes) (maxL := maxL) (ret := ret) hM hp.1 hrc hrs hfr hlo hws hcw (fun a' U hW => word_at hW (Or.inl (by first | rfl | simp [Cond.onTables, Cond.keeps, Cond.steady])) hini)
  obtain ⟨-, ⟨cellB, hcB, hoB, hclB⟩, hPc⟩ := hp
  obtain ⟨hfc, kB, hkB, -⟩ := hat
  cases hfc.symm.trans hclB
  obtain ⟨mk, methM, hnamed, hmethM, hstM, habM⟩ := Cond.instanceMethod_spec hl5
  obtain ⟨methM', cM, hmethM', -, -, -, -, -, -, hsigM⟩ := Cond.code_spec hnamed hcode
  cases hmethM.symm.trans hmethM'
  obtain ⟨ps, dk, kp, hps, hdk, hkp, hsuper, -, -, hnid⟩ := Cond.superclass_spec ho hl3
  have hzc : s.vm.findClass z.cls = some mk.cls := findClass_of_methodNamed hnamed
  have hsub : s.vm.isSubclass ps mk.cls = true := by
    rcases hl4 with h | h
    · have : ps = mk.cls := by rw [h] at hps; exact Option.some.inj (hps.symm.trans hzc)
      rw [this]
      exact sub_refl _ _
    · obtain ⟨q, k2, k3, g1, g2, -, g4, -, -, -⟩ := Cond.superclass_spec hps h
      have : q = mk.cls := Option.some.inj (g1.symm.trans hzc)
      subst this
      exact sub_one g2 g4
  have hn0 : s.methodNamed? ⟨z.cls, x.name, x.desc⟩ = some mk := by rw [← hz1, ← hz2]; exact hnamed
  intro T hT XX
  obtain ⟨vm₁, X₁, hstep₁⟩ := XX.invokespecialUp hx ho hl1 hl2 hn0 hmethM hstM habM (by rw [← hz1]; exact hno) hdk hnid hps hsuper hsub (a := b) (cell := cellB) (by rw [hT]; exact hcB)
    (fun z h => by rw [h] at hoB; cases hoB) hkB (g := g) hg (argsL := As) (rest := restV) (hn.trans (hlen _ hsigM)) hstack (by rw [hb]; exact hdg)
  obtain ⟨v, B, X', hpost, hsteps⟩ := hK m meth c ⟨T.setVm vm₁, locs, cells, slots⟩ { g with stack := restV } (.invokespecial index) mk (Value.ref b :: As).toArray X₁ hg (hsize.trans hml.symm) (by rw [hb]; exact hdg) hW (X₁.named hnamed) ⟨hf.1, hf.2, hPc (T.setVm vm₁) hT X₁.warmed⟩
  obtain ⟨g', mk', t, L', e1, e2, hq, h1, hL', h2, h3⟩ := hpost
  obtain ⟨U', l2, c2, s2⟩ := B
  dsimp only [Pt.U, Pt.locs, Pt.cells, Pt.slots] at X' e1 e2 h1 h2 h3 hsteps
  subst h1; subst h2; subst h3
  exact ⟨v, (T.setVm vm₁).calling g' mk' (Value.ref b :: As).toArray, t, U', L', hT, X', hL', e1, e2, hq, fun target h => hstep₁ _ (by rw [doInvoke_state]; exact hsteps.trans h)⟩
def isCall (ins : ClassFile.Instr) : Bool := match ins with
  | .invokevirtual _ | .invokespecial _ | .invokestatic _ => true
  | _ => false
theorem sI_nocall {d pc npc : Nat} {ins : ClassFile.Instr} {aux : List Int} {L : Lcs} {st : List PV} {G : Gh} {mi : Mi} {q : Nat × List PV × List PV} (hc : isCall ins = false) (hs : sI d pc npc ins aux L st G mi = some (.inr q)) : False := by
  cases ins
  all_goals first
    | exact nomatch (show true = false from hc)
    | exact nomatch (show (none : Option Out) = some _ from hs)
    | (simp only [sI, op1, op2, opL, nx] at hs; (repeat' (split at hs)) <;> cases hs)
set_option maxRecDepth 100000 in
set_option maxHeartbeats 4000000 in
theorem call_ok {y' : Nat} {as : List PV} (Mh : Mch X p s m args meth c y) (hn : npc = pc + ilen ins (npc - pc)) (hdec : decode (mY y).2.1 pc = .ok (ins, ilen ins (npc - pc))) (hc : chkI y pc ins aux = true) (hnL : nL = maxLY y) (hd1 : d + 1 ≤ R.frames) (hd2 : 64 * (d + 1) ≤ R.locals) (hcs : s.heap.size + cells = xb X + gN G)
    (hs : sI (d + 1) pc npc ins aux L st G mi = some (.inr (y', as, rest))) (hM : y' < 217 → Met l (mY y').1 (Ws y') (rmY d mc ms) (PcF X as G mi) (QcF X r G1 mi1) mc ms (AX X)) (hcell : cells + mc ≤ R.cells) (hslot : slots + ms ≤ R.slots)
    (k : WC X p l e R s m args below meth c Q nL (npc) (L) (pu r rest) (G1) (mi1) (cells + mc) (slots + ms)) : WC X p l e R s m args below meth c Q nL (pc) (L) (st) (G) (mi) (cells) (slots) := by
  have Mh0 := Mh
  obtain ⟨hx, hb, hml, hown, hts, hnm, hE, hxb⟩ := Mh
  cases ins
  all_goals try (exact (sI_nocall rfl hs).elim)
  case invokevirtual i =>
    simp only [chkI] at hc
    replace hs : (match (takeA (ia aux) st).2 with
        | v :: r => (match dsp (rcv G v) (aux.drop 1) with
          | some y => if rOK r = true then some (.inr (y.toNat, v :: (takeA (ia aux) st).1, r)) else none
          | none => none)
        | [] => none) = some (Sum.inr (y', as, rest)) := hs
    split at hs
    · rename_i v rr hta
      split at hs
      · rename_i z hz
        obtain ⟨hro, hs⟩ := ite_inv hs
        have hs := Sum.inr.inj (Option.some.inj hs)
        simp only [Prod.mk.injEq] at hs
        obtain ⟨rfl, rfl, rfl⟩ := hs
        obtain ⟨hst, hlen⟩ := takeA_spec hta
        generalize (takeA (ia aux) st).1 = av at hst hlen k hM
        obtain ⟨mode, hvb⟩ := dsp_virA _ _ (Nat.le_refl _) hc hz
        unfold virB at hvb
        simp only [Bool.and_eq_true, decide_eq_true_eq] at hvb
        obtain ⟨⟨hz0, hzN⟩, hvb⟩ := hvb
        have hM := hM hzN
        obtain ⟨w1, w2, w3, w4, w5, w6⟩ := mB_spec hzN
        intro ls H locs hI hL hO hS
        refine W_size fun hsz0 => ?_
        have hsz : H.size = xb X + gN G := by have := size_ge hI hxb; omega
        have hSv : (∀ a ∈ v :: av, okV a) ∧ ∀ a ∈ rr, okV a := by
          rw [hst] at hS
          refine ⟨fun a ha => ?_, fun a ha => hS a (List.mem_append_right _ (List.mem_cons_of_mem _ ha))⟩
          rcases List.mem_cons.mp ha with rfl | ha
          · exact hS _ (List.mem_append_right _ List.mem_cons_self)
          · exact hS a (List.mem_append_left _ (List.mem_reverse.mpr ha))
        have hsum := rOK_sum hE hro
        have hpre : ∀ (bb : Addr), trV X v = .ref bb → ∀ U : State, U.heap = H → s.WarmedH U.vm → PcF X (v :: av) G mi (Value.ref bb :: av.map (trV X)).toArray U := fun bb hbb U hU hW => ⟨by rw [List.map_cons, hbb], EnvU.warm hE hI.2 hU hW, by rw [hU]; exact hI.1, by rw [hU]; exact hsz, hSv.1⟩
        have hstk : ∀ bb : Addr, trV X v = .ref bb → st.map (trV X) = (av.map (trV X)).reverse ++ .ref bb :: rr.map (trV X) := fun bb hbb => by rw [hst, List.map_append, List.map_cons, hbb, List.map_reverse]
        have hnpc : npc = pc + 3 := hn
        rw [hnpc] at k
        by_cases hmode : mode = 0
        · rw [if_pos hmode] at hvb
          simp only [Bool.and_eq_true, decide_eq_true_eq] at hvb
          obtain ⟨⟨⟨⟨⟨c1, c2⟩, c3⟩, c4⟩, c5⟩, c6⟩ := hvb
          have hgood : GoodIn AW (wsV (ownY y) i (mY z.toNat).1.cls (mY z.toNat).1 (Ws z.toNat)) := goodAW fun w hw => by
            rcases List.mem_append.mp hw with hw | hw
            · simp only [List.mem_cons, List.not_mem_nil, or_false] at hw
              rcases hw with rfl | rfl | rfl | rfl
              · exact wIn_mem c4
              · exact wInst hzN c5
              · exact wSel hzN c6
              · exact w2
            · exact Ws_in hzN w hw
          have hcw := cwV (R := R) (rm := rmY d mc ms) (mc := mc) (ms := ms) (ia aux) hts hgood rfl rfl rfl ⟨rfl, w5, w6, c3⟩ ⟨hd1, by show 8 + ((mY z.toNat).2.2.1 + 11) + 64 * d ≤ R.locals; omega⟩
          have hrecv : ∃ bb, trV X v = .ref bb ∧ ∃ cellB : Cell, H[bb]? = some cellB ∧ cellB.vm.isStatics = false ∧ s.vm.findClass (mY z.toNat).1.cls = some cellB.cls := by
            match v, c1, c2 with
            | .inr (.inr (.inl (some o))), c1, c2 =>
              have c1 : (mY z.toNat).1.cls = (if (((gK G o).1 : Nat) : Int) = 500 then "java/lang/String" else (clCc ((((gK G o).1 : Nat) : Int).toNat - 1)).1) := c1
              have c2 : (((gK G o).1 : Nat) : Int) = 500 ∨ ((1 : Int) ≤ (((gK G o).1 : Nat) : Int) ∧ (((gK G o).1 : Nat) : Int) ≤ 13) := c2
              have h22 := hI.1.2.2.2.1 o
              rw [if_neg (by omega)] at c1
              have hci : (gK G o).1 = ((((gK G o).1 : Nat) : Int).toNat - 1) + 1 := by omega
              have hg := wlX_get (X := X) (mi := mi) (hI.1.2.2.1 o (by omega))
              rw [entX_obj hci (by omega)] at hg
              refine ⟨xb X + o, rfl, ?_⟩
              rw [c1]
              exact va_recv hE.1 hI.1.1 (cl_get (by omega)) hg
            | .inr (.inr (.inr e0)), c1, c2 =>
              by_cases he : e0 % 2 = 1 ∧ e0 < 2 * sTexts.length
              · obtain ⟨q, hq, rfl⟩ : ∃ q, q < sTexts.length ∧ e0 = 2 * q + 1 := ⟨e0 / 2, by omega, by omega⟩
                have hr0 : rcv G (.inr (.inr (.inr (2 * q + 1)))) = 500 := if_pos he
                rw [hr0, if_pos rfl] at c1
                refine ⟨xK X q, evX_s hq, ?_⟩
                rw [c1]
                exact vk_recv hE.2.2.1 hq hI.2
              · have hr0 : rcv G (.inr (.inr (.inr e0))) = -1 := if_neg he
                rw [hr0] at c2
                omega
            | .inl _, c1, c2 => have c2 : (-1 : Int) = 500 ∨ ((1 : Int) ≤ -1 ∧ (-1 : Int) ≤ 13) := c2; omega
            | .inr (.inl _), c1, c2 => have c2 : (-1 : Int) = 500 ∨ ((1 : Int) ≤ -1 ∧ (-1 : Int) ≤ 13) := c2; omega
            | .inr (.inr (.inl none)), c1, c2 => have c2 : (-1 : Int) = 500 ∨ ((1 : Int) ≤ -1 ∧ (-1 : Int) ≤ 13) := c2; omega
          obtain ⟨bb, hbb, hcellB⟩ := hrecv
          have hrun := va_runV (locs := locs) (cells := cells) (slots := slots) (e := e) (below := below) (meth := meth) (g := F0 m pc ls (st.map (trV X))) (As := av.map (trV X)) (rest := rr.map (trV X)) ⟨hx, hb, hml, hown, hts⟩ hM hcw ⟨PcF_blind, hcellB, hpre bb hbb⟩ rfl (by rw [List.length_map]; exact hlen) (by rw [← hnL]; exact hL.1.1) (hstk bb hbb) (by show 2 * 0 + _ ≤ 8; omega) hdec ⟨hcell, hslot⟩
          exact wc_call hrun hI hL hO hSv.2 k
        · rw [if_neg hmode] at hvb
          simp only [Bool.and_eq_true, decide_eq_true_eq, List.any_eq_true] at hvb
          obtain ⟨⟨⟨c1, c2⟩, c3⟩, q, hq, ⟨⟨⟨⟨q1, q2⟩, q3⟩, q4⟩, q5⟩, q6⟩ := hvb
          have hobj : ∃ o ci, v = pR (some o) ∧ (gK G o).1 = ci + 1 ∧ ci < 13 ∧ (rcv G v).toNat - 1 = ci := by
            match v, c1, c2 with
            | .inr (.inr (.inl (some o))), c1, c2 =>
              have c1 : (1 : Int) ≤ (((gK G o).1 : Nat) : Int) := c1
              have c2 : (((gK G o).1 : Nat) : Int) ≤ 13 := c2
              exact ⟨o, (gK G o).1 - 1, rfl, by omega, by omega, by show (((gK G o).1 : Nat) : Int).toNat - 1 = _; omega⟩
            | .inr (.inr (.inr e0)), c1, c2 =>
              by_cases he : e0 % 2 = 1 ∧ e0 < 2 * sTexts.length
              · have hr0 : rcv G (.inr (.inr (.inr e0))) = 500 := if_pos he
                rw [hr0] at c2; omega
              · have hr0 : rcv G (.inr (.inr (.inr e0))) = -1 := if_neg he
                rw [hr0] at c1; omega
            | .inl _, c1, c2 => have c1 : (1 : Int) ≤ -1 := c1; omega
            | .inr (.inl _), c1, c2 => have c1 : (1 : Int) ≤ -1 := c1; omega
            | .inr (.inr (.inl none)), c1, c2 => have c1 : (1 : Int) ≤ -1 := c1; omega
          obtain ⟨o, ci, rfl, hci, h13, hcc⟩ := hobj
          rw [hcc] at q5
          have hg := wlX_get (X := X) (mi := mi) (hI.1.2.2.1 o (by omega))
          rw [entX_obj hci h13] at hg
          have hcellB := va_recv hE.1 hI.1.1 (cl_get h13) hg
          obtain ⟨z1, z2, x⟩ := q
          dsimp only at q1 q2 q3 q4 q5 q6
          subst q1
          obtain rfl := q2.symm
          have hcw : ∃ owner, va_CU R s args (ownY y) (clCc ci).1 owner i x (mY z.toNat).1 (mY z.toNat).2.1 (mY z.toNat).2.2.1 (mY z.toNat).2.2.2 (Ws z.toNat) (rmY d mc ms) mc ms (ia aux) := by
            by_cases hm1 : mode = 1
            · rw [if_pos hm1] at q6
              simp only [Bool.and_eq_true, decide_eq_true_eq] at q6
              obtain ⟨⟨q6, q7⟩, q8⟩ := q6
              refine ⟨(mY z.toNat).1.cls, va_cwU (ia aux) hts (goodAW fun w hw => ?_) rfl rfl rfl (by rw [← q6, ← q7]) ⟨w5, w6, q3⟩ ⟨hd1, by show 8 + ((mY z.toNat).2.2.1 + 11) + 64 * d ≤ R.locals; omega⟩⟩
              rcases List.mem_append.mp hw with hw | hw
              · simp only [List.mem_cons, List.not_mem_nil, or_false] at hw
                rcases hw with rfl | rfl | rfl | rfl | rfl
                · exact wIn_mem q4
                · exact wIn_mem q8
                · exact wIn_mem q5
                · exact wInst hzN c3
                · exact w2
              · exact Ws_in hzN w hw
            · rw [if_neg hm1] at q6
              simp only [List.any_eq_true, Bool.and_eq_true, decide_eq_true_eq, plB] at q6
              obtain ⟨yo, hyo, ⟨⟨⟨⟨⟨p1, p2⟩, p3, p4⟩, p5⟩, p6⟩, p7⟩⟩ := q6
              have hno : (⟨(mY yo).1.cls, x.name, x.desc⟩ : MethodName) = (mY yo).1 := by rw [← p1, ← p2]
              refine ⟨(mY yo).1.cls, va_cwO (ia aux) hts (goodAW fun w hw => ?_) rfl rfl rfl (by rw [hno]; exact wCode (List.mem_range.mp hyo) p7) ⟨p3, p4, q3⟩ ⟨hd1, by show 8 + ((mY z.toNat).2.2.1 + 11) + 64 * d ≤ R.locals; omega⟩⟩
              rcases List.mem_append.mp hw with hw | hw
              · simp only [List.mem_cons, List.not_mem_nil, or_false] at hw
                rcases hw with rfl | rfl | rfl | rfl | rfl | rfl
                · exact wIn_mem q4
                · exact wIn_mem p5
                · rw [hno]; exact wInst (List.mem_range.mp hyo) p6
                · exact wIn_mem q5
                · exact wInst hzN c3
                · exact w2
              · exact Ws_in hzN w hw
          obtain ⟨owner, hcw⟩ := hcw
          have hrun := va_runU (locs := locs) (cells := cells) (slots := slots) (e := e) (below := below) (meth := meth) (g := F0 m pc ls (st.map (trV X))) (As := av.map (trV X)) (rest := rr.map (trV X)) ⟨hx, hb, hml, hown, hts⟩ hM hcw ⟨PcF_blind, hcellB, hpre (xb X + o) rfl⟩ rfl (by rw [List.length_map]; exact hlen) (by rw [← hnL]; exact hL.1.1) (hstk (xb X + o) rfl) (by show 2 * 0 + _ ≤ 8; omega) hdec ⟨hcell, hslot⟩
          exact wc_call hrun hI hL hO hSv.2 k
      · cases hs
    · cases hs
  case invokespecial i =>
    simp only [chkI] at hc
    replace hs : (if a0 aux = 0 then (match st with
          | .inr (.inr (.inl (some _))) :: r => if 1 ≤ d + 1 ∧ rOK r = true then nx npc L r G mi else none
          | _ => none) else (match (takeA (a1 aux).toNat st).2 with
        | v :: r => if (a0 aux = 1 ∨ rcv G v ∈ aux.drop 3) ∧ isR v = true ∧ rOK r = true then some (.inr ((a2 aux).toNat, v :: (takeA (a1 aux).toNat st).1, r)) else none
        | [] => none)) = some (Sum.inr (y', as, rest)) := hs
    by_cases h0 : a0 aux = 0
    · exfalso
      rw [if_pos h0] at hs
      split at hs
      · obtain ⟨-, hs⟩ := ite_inv hs
        cases hs
      · cases hs
    rw [if_neg h0] at hs hc
    split at hs
    · rename_i v rr hta
      obtain ⟨⟨hcl, hisR, hro⟩, hs⟩ := ite_inv hs
      have hs := Sum.inr.inj (Option.some.inj hs)
      simp only [Prod.mk.injEq] at hs
      obtain ⟨rfl, rfl, rfl⟩ := hs
      obtain ⟨hst, hlen⟩ := takeA_spec hta
      generalize (takeA (a1 aux).toNat st).1 = av at hst hlen k hM
      obtain ⟨o, rfl⟩ : ∃ o, v = pR (some o) := by
        match v, hisR with
        | .inr (.inr (.inl (some o))), _ => exact ⟨o, rfl⟩
        | .inl _, h => cases h
        | .inr (.inl _), h => cases h
        | .inr (.inr (.inl none)), h => cases h
        | .inr (.inr (.inr _)), h => cases h
      intro ls H locs hI hL hO hS
      refine W_size fun hsz0 => ?_
      have hsz : H.size = xb X + gN G := by have := size_ge hI hxb; omega
      have hSv : (∀ a ∈ pR (some o) :: av, okV a) ∧ ∀ a ∈ rr, okV a := by
        rw [hst] at hS
        refine ⟨fun a ha => ?_, fun a ha => hS a (List.mem_append_right _ (List.mem_cons_of_mem _ ha))⟩
        rcases List.mem_cons.mp ha with rfl | ha
        · exact trivial
        · exact hS a (List.mem_append_left _ (List.mem_reverse.mpr ha))
      have hsum := rOK_sum hE hro
      have hpre : ∀ U : State, U.heap = H → s.WarmedH U.vm → PcF X (pR (some o) :: av) G mi (Value.ref (xb X + o) :: av.map (trV X)).toArray U := fun U hU hW => ⟨rfl, EnvU.warm hE hI.2 hU hW, by rw [hU]; exact hI.1, by rw [hU]; exact hsz, hSv.1⟩
      have hstk : st.map (trV X) = (av.map (trV X)).reverse ++ .ref (xb X + o) :: rr.map (trV X) := by rw [hst, List.map_append, List.map_cons, List.map_reverse]; rfl
      have hnpc : npc = pc + 3 := hn
      rw [hnpc] at k
      by_cases h1 : a0 aux = 1
      · rw [if_pos h1] at hc
        simp only [spcB, Bool.and_eq_true, decide_eq_true_eq] at hc
        obtain ⟨⟨⟨⟨⟨hzN, c1⟩, c2⟩, c3⟩, c4⟩, c5⟩ := hc
        have hM := hM hzN
        obtain ⟨w1, w2, w3, w4, w5, w6⟩ := mB_spec hzN
        have hcw := cwI (R := R) (rm := rmY d mc ms) (mc := mc) (ms := ms) (ws := Ws (a2 aux).toNat) (bytes := (mY (a2 aux).toNat).2.1) (maxL := (mY (a2 aux).toNat).2.2.1) (own := ownY y) (index := i) (a1 aux).toNat hts (goodAW (Ws_in hzN)) (by unfold Ws; rw [c2]) rfl rfl (hts _ w2) (hts _ (wIn_mem c4)) (hts _ (wInst hzN c5)) c1 ⟨w5, w6, c3⟩ ⟨hd1, by show 8 + ((mY (a2 aux).toNat).2.2.1 + 11) + 64 * d ≤ R.locals; omega⟩
        have hrun := va_runI (locs := locs) (cells := cells) (slots := slots) (e := e) (below := below) (meth := meth) (g := F0 m pc ls (st.map (trV X))) (As := av.map (trV X)) (rest := rr.map (trV X)) ⟨hx, hb, hml, hown, hts⟩ hM hcw ⟨PcF_blind, hpre⟩ rfl (by rw [List.length_map]; exact hlen) (by rw [← hnL]; exact hL.1.1) hstk (by show 2 * 0 + _ ≤ 8; omega) hdec ⟨hcell, hslot⟩
        exact wc_call hrun hI hL hO hSv.2 k
      · rw [if_neg h1] at hc
        have hcl := hcl.resolve_left h1
        simp only [supB, Bool.and_eq_true, decide_eq_true_eq, List.any_eq_true, List.all_eq_true, Bool.or_eq_true] at hc
        obtain ⟨⟨⟨⟨⟨hzN, c1⟩, c2⟩, c3⟩, q, hq, ⟨⟨⟨⟨⟨⟨q1, q2⟩, q3⟩, q4⟩, q5⟩, q6⟩, q7⟩, q8⟩, c9⟩ := hc
        have hM := hM hzN
        obtain ⟨w1, w2, w3, w4, w5, w6⟩ := mB_spec hzN
        have hr9 := c9 _ hcl
        have hr9 : (1 : Int) ≤ (((gK G o).1 : Nat) : Int) ∧ (((gK G o).1 : Nat) : Int) ≤ 13 := hr9
        obtain ⟨ci, hci⟩ : ∃ ci, (gK G o).1 = ci + 1 := ⟨(gK G o).1 - 1, by omega⟩
        have h13 : ci < 13 := by omega
        have hg := wlX_get (X := X) (mi := mi) (hI.1.2.2.1 o (by omega))
        rw [entX_obj hci h13] at hg
        have hcellB := va_recv hE.1 hI.1.1 (cl_get h13) hg
        obtain ⟨z1, z2, x⟩ := q
        dsimp only at q1 q2 q3 q4 q5 q6 q7 q8
        subst q1
        obtain rfl := q2.symm
        have hrun := runSU (locs := locs) (cells := cells) (slots := slots) (e := e) (below := below) (meth := meth) (g := F0 m pc ls (st.map (trV X))) (As := av.map (trV X)) (restV := rr.map (trV X)) (hE.1.1 ci _ (cl_get h13)).2 hx hb hml hown hM rfl rfl hd1 (by show 8 + ((mY (a2 aux).toNat).2.2.1 + 11) + 64 * d ≤ R.locals; omega) (pay_in hts (goodAW (Ws_in hzN))) List.mem_cons_self (hts _ (wIn_mem q5)) (hts _ (wIn_mem q6)) (hts _ (wIn_mem q7)) (q8.imp id (fun h => hts _ (wIn_mem h))) q3 q4 (hts _ (wInst hzN c3)) (hts _ w2) (hts _ w1) c1 (pcN_len c2) ⟨PcF_blind, hcellB, hpre⟩ rfl (by rw [List.length_map]; exact hlen) (by rw [← hnL]; exact hL.1.1) hstk (by show 2 * 0 + _ ≤ 8; omega) hdec ⟨hcell, hslot⟩
        exact wc_call hrun hI hL hO hSv.2 k
    · cases hs
  case invokestatic i =>
    simp only [chkI] at hc
    simp only [sI] at hs
    by_cases h2 : a0 aux = 2
    · exfalso
      rw [if_pos h2] at hs
      obtain ⟨a, b, r0, rfl, hs⟩ := op2_inv hs
      obtain ⟨-, hs⟩ := ite_inv hs
      cases hs
    rw [if_neg h2] at hs
    by_cases h3 : a0 aux = 3
    · exfalso
      rw [if_pos h3] at hs
      obtain ⟨a, b, r0, rfl, hs⟩ := op2_inv hs
      obtain ⟨-, hs⟩ := ite_inv hs
      cases hs
    rw [if_neg h3] at hs
    by_cases h4 : a0 aux = 4
    · exfalso
      rw [if_pos h4] at hs
      obtain ⟨a, r0, rfl, hs⟩ := op1_inv hs
      obtain ⟨-, hs⟩ := ite_inv hs
      cases hs
    rw [if_neg h4] at hs
    by_cases h5 : a0 aux = 5
    · exfalso
      rw [if_pos h5] at hs
      split at hs
      · obtain ⟨-, hs⟩ := ite_inv hs
        cases hs
      · cases hs
    rw [if_neg h5] at hs
    obtain ⟨⟨h01, hro, hle⟩, hs⟩ := ite_inv hs
    have hs := Sum.inr.inj (Option.some.inj hs)
    simp only [Prod.mk.injEq] at hs
    obtain ⟨rfl, rfl, rfl⟩ := hs
    have hst : st = (takeA (a1 aux).toNat st).1.reverse ++ (takeA (a1 aux).toNat st).2 := by
      show st = (st.take _).reverse.reverse ++ st.drop _
      rw [List.reverse_reverse, List.take_append_drop]
    have hlen : (takeA (a1 aux).toNat st).1.length = (a1 aux).toNat := by
      show (st.take _).reverse.length = _
      rw [List.length_reverse, List.length_take]
      omega
    generalize (takeA (a1 aux).toNat st).1 = av at hst hlen k hM
    generalize (takeA (a1 aux).toNat st).2 = rr at hst hro k
    intro ls H locs hI hL hO hS
    refine W_size fun hsz0 => ?_
    have hsz : H.size = xb X + gN G := by have := size_ge hI hxb; omega
    have hSv : (∀ a ∈ av, okV a) ∧ ∀ a ∈ rr, okV a := by
      rw [hst] at hS
      exact ⟨fun a ha => hS a (List.mem_append_left _ (List.mem_reverse.mpr ha)), fun a ha => hS a (List.mem_append_right _ ha)⟩
    have hsum := rOK_sum hE hro
    have hpre : ∀ U : State, U.heap = H → s.WarmedH U.vm → PcF X av G mi (av.map (trV X)).toArray U := fun U hU hW => ⟨rfl, EnvU.warm hE hI.2 hU hW, by rw [hU]; exact hI.1, by rw [hU]; exact hsz, hSv.1⟩
    have hstk : st.map (trV X) = (av.map (trV X)).reverse ++ rr.map (trV X) := by rw [hst, List.map_append, List.map_reverse]
    have hnpc : npc = pc + 3 := hn
    rw [hnpc] at k
    by_cases hz0 : a0 aux = 0
    · rw [if_pos hz0] at hc
      simp only [staB, Bool.and_eq_true, decide_eq_true_eq] at hc
      obtain ⟨⟨⟨hzN, c1⟩, c2⟩, c3⟩ := hc
      have hM := hM hzN
      obtain ⟨w1, w2, w3, w4, w5, w6⟩ := mB_spec hzN
      have hgood : GoodIn AW (va_wsS (ownY y) i (mY (a2 aux).toNat).1 (Ws (a2 aux).toNat)) := goodAW fun w hw => by
        rcases List.mem_append.mp hw with hw | hw
        · simp only [List.mem_cons, List.not_mem_nil, or_false] at hw
          rcases hw with rfl | rfl | rfl
          · exact wIn_mem c2
          · exact wStat hzN c3
          · exact w2
        · exact Ws_in hzN w hw
      have hcw := va_cwS (R := R) (rm := rmY d mc ms) (mc := mc) (ms := ms) (a1 aux).toNat hts hgood rfl rfl rfl ⟨w5, w6, c1⟩ ⟨hd1, by show 8 + ((mY (a2 aux).toNat).2.2.1 + 11) + 64 * d ≤ R.locals; omega⟩
      have hrun := va_runS (locs := locs) (cells := cells) (slots := slots) (e := e) (below := below) (meth := meth) (g := F0 m pc ls (st.map (trV X))) (As := av.map (trV X)) (rest := rr.map (trV X)) ⟨hx, hb, hml, hown, hts⟩ hM hcw ⟨PcF_blind, hpre⟩ rfl (by rw [List.length_map]; exact hlen) (by rw [← hnL]; exact hL.1.1) hstk (by show 2 * 0 + _ ≤ 8; omega) hdec ⟨hcell, hslot⟩
      exact wc_call hrun hI hL hO hSv.2 k
    · rw [if_neg hz0, if_pos (h01.resolve_left hz0)] at hc
      simp only [nstB, Bool.and_eq_true, decide_eq_true_eq, List.any_eq_true] at hc
      obtain ⟨⟨⟨hzN, c1⟩, c2⟩, q, hq, ⟨q1, q2⟩, q3⟩ := hc
      have hM := hM hzN
      obtain ⟨w1, w2, w3, w4, w5, w6⟩ := mB_spec hzN
      have hnest := hE.2.2.2.2.2.2.1 q hq
      rw [q1, q2, q3] at hnest
      have hcw := va_cnB (R := R) (rm := rmY d mc ms) (mc := mc) (ms := ms) (a1 aux).toNat hts (goodAW (Ws_in hzN)) rfl rfl rfl hnest (hts _ w2) ⟨w5, w6, c1⟩ ⟨hd1, by show 8 + ((mY (a2 aux).toNat).2.2.1 + 11) + 64 * d ≤ R.locals; omega⟩
      have hrun := va_runSN (locs := locs) (cells := cells) (slots := slots) (e := e) (below := below) (meth := meth) (g := F0 m pc ls (st.map (trV X))) (As := av.map (trV X)) (rest := rr.map (trV X)) ⟨hx, hb, hml, hown, hts⟩ hM ⟨hcw, hts _ (wStat hzN c2), trivial⟩ ⟨PcF_blind, hpre⟩ rfl (by rw [List.length_map]; exact hlen) (by rw [← hnL]; exact hL.1.1) hstk (by show 2 * 0 + _ ≤ 8; omega) hdec ⟨hcell, hslot⟩
      exact wc_call hrun hI hL hO hSv.2 k
end CA
theorem sI_grow {d pc npc : Nat} {ins : ClassFile.Instr} {aux : List Int} {L L' : Lcs} {st st' : List PV} {G G' : Gh} {mi mi' : Mi} {pc' : Nat} (hs : sI d pc npc ins aux L st G mi = some (.inl (pc', L', st', G', mi'))) : gN G ≤ gN G' ∧ gS G ≤ gS G' := by
  cases ins
  all_goals try (exfalso; exact nomatch (show (none : Option Out) = some _ from hs))
  all_goals (simp only [sI, op1, op2, opL, nx] at hs)
  all_goals (repeat' (split at hs))
  all_goals (first | (cases hs; first | exact ⟨Nat.le_refl _, Nat.le_refl _⟩ | exact ⟨Nat.le_succ _, Nat.le_add_right _ _⟩) | (simp at hs; done))
theorem runTo_grow : ∀ (f d y : Nat) (c c' : Cf), runTo f d y c = some c' → gN c.2.2.2.1 ≤ gN c'.2.2.2.1 ∧ gS c.2.2.2.1 ≤ gS c'.2.2.2.1 := by
  intro f
  induction f with
  | zero => intro d y c c' h; simp [runTo] at h
  | succ f ih =>
    intro d y c c' h
    rw [runTo] at h
    cases h1 : cd y c.1 with
    | none => rw [h1] at h; simp at h
    | some e =>
      rw [h1] at h
      dsimp only at h
      by_cases hr : isRet e.2.1 = true
      · rw [if_pos hr] at h; cases h; exact ⟨Nat.le_refl _, Nat.le_refl _⟩
      · rw [if_neg hr] at h
        cases h2 : sI d c.1 e.1 e.2.1 e.2.2 c.2.1 c.2.2.1 c.2.2.2.1 c.2.2.2.2 with
        | none => rw [h2] at h; simp at h
        | some o =>
          rw [h2] at h
          cases o with
          | inl c1 =>
            have g1 := sI_grow (pc' := c1.1) (L' := c1.2.1) (st' := c1.2.2.1) (G' := c1.2.2.2.1) (mi' := c1.2.2.2.2) h2
            have g2 := ih _ _ _ _ h
            exact ⟨Nat.le_trans g1.1 g2.1, Nat.le_trans g1.2 g2.2⟩
          | inr q =>
            dsimp only at h
            cases d with
            | zero => simp at h
            | succ d =>
              dsimp only at h
              by_cases hl : (ent q.2.1).length ≤ maxLY q.1
              · rw [if_pos hl] at h
                cases h3 : runTo f d q.1 (0, iniL q.1 q.2.1, [], c.2.2.2.1, c.2.2.2.2) with
                | none => rw [h3] at h; simp at h
                | some c1 =>
                  rw [h3] at h
                  dsimp only at h
                  have g1 := ih _ _ _ _ h3
                  cases h4 : retv q.1 c1 with
                  | none => rw [h4] at h; simp at h
                  | some rv =>
                    rw [h4] at h
                    have g2 := ih _ _ _ _ h
                    exact ⟨Nat.le_trans g1.1 g2.1, Nat.le_trans g1.2 g2.2⟩
              · rw [if_neg hl] at h; simp at h
def SoundF (X : Cx) (l : Launch) (f : Nat) : Prop := ∀ (d y : Nat) (c0 c1 : Cf), y < 218 → runTo f d y c0 = some c1 → ∀ (p : Program) (e : Env) (R : Room) (s : State) (m : MethodId) (args : Array Value) (below : List Frame) (meth : Method) (c : Code) (Q : State → Prop) (cells slots : Nat),
  Mch X p s m args meth c y → d ≤ R.frames → 64 * d ≤ R.locals → s.heap.size + cells = xb X + gN c0.2.2.2.1 → cells + (gN c1.2.2.2.1 - gN c0.2.2.2.1) ≤ R.cells → slots + (gS c1.2.2.2.1 - gS c0.2.2.2.1) ≤ R.slots →
  WC X p l e R s m args below meth c Q (maxLY y) c1.1 c1.2.1 c1.2.2.1 c1.2.2.2.1 c1.2.2.2.2 (cells + (gN c1.2.2.2.1 - gN c0.2.2.2.1)) (slots + (gS c1.2.2.2.1 - gS c0.2.2.2.1)) → WC X p l e R s m args below meth c Q (maxLY y) c0.1 c0.2.1 c0.2.2.1 c0.2.2.2.1 c0.2.2.2.2 cells slots
theorem run_ret : ∀ (f d y : Nat) (c c' : Cf), runTo f d y c = some c' → ∃ e, cd y c'.1 = some e ∧ isRet e.2.1 = true := by
  intro f
  induction f with
  | zero => intro d y c c' h; simp [runTo] at h
  | succ f ih =>
    intro d y c c' h
    rw [runTo] at h
    cases h1 : cd y c.1 with
    | none => rw [h1] at h; simp at h
    | some e =>
      rw [h1] at h
      dsimp only at h
      by_cases hr : isRet e.2.1 = true
      · rw [if_pos hr] at h; cases h; exact ⟨e, h1, hr⟩
      · rw [if_neg hr] at h
        cases h2 : sI d c.1 e.1 e.2.1 e.2.2 c.2.1 c.2.2.1 c.2.2.2.1 c.2.2.2.2 with
        | none => rw [h2] at h; simp at h
        | some o =>
          rw [h2] at h
          cases o with
          | inl c1 => exact ih _ _ _ _ h
          | inr q =>
            dsimp only at h
            cases d with
            | zero => simp at h
            | succ d =>
              dsimp only at h
              by_cases hl : (ent q.2.1).length ≤ maxLY q.1
              · rw [if_pos hl] at h
                cases h3 : runTo f d q.1 (0, iniL q.1 q.2.1, [], c.2.2.2.1, c.2.2.2.2) with
                | none => rw [h3] at h; simp at h
                | some c1 =>
                  rw [h3] at h
                  dsimp only at h
                  cases h4 : retv q.1 c1 with
                  | none => rw [h4] at h; simp at h
                  | some rv =>
                    rw [h4] at h
                    exact ih _ _ _ _ h
              · rw [if_neg hl] at h; simp at h
theorem met_of {X : Cx} {l : Launch} {f : Nat} (IH : SoundF X l f) {d y : Nat} {as : List PV} {G : Gh} {mi : Mi} {c1 : Cf} {r : Option PV} (hy : y < 217) (hrun : runTo f d y (0, iniL y as, [], G, mi) = some c1) (hrv : retv y c1 = some r) (hlen : (ent as).length ≤ maxLY y) :
    Met l (mY y).1 (Ws y) (rmY d (gN c1.2.2.2.1 - gN G) (gS c1.2.2.2.1 - gS G)) (PcF X as G mi) (QcF X r c1.2.2.2.1 c1.2.2.2.2) (gN c1.2.2.2.1 - gN G) (gS c1.2.2.2.1 - gS G) (AX X) := by
  obtain ⟨w1, w2, w3, w4, w5, w6⟩ := mB_spec hy
  refine va_MetF (cc := (mY y).2.1) (maxL := (mY y).2.2.1) (ret := (mY y).2.2.2) w4 rfl ?_
  intro p e s m args below meth c s₁ B hml hv
  obtain ⟨rfl, hE, hInv, hsz, hok⟩ := hv
  have hts0 := atoms_spec (ws := Ws y) B.pre
  have hown : s.vm.findClass (mY y).1.cls = some m.cls := findClass_of_methodNamed B.named
  have Mh : Mch X p s m (as.map (trV X)).toArray meth c y := ⟨B.exec, B.bytes, hml, hown, fun w hw => hts0 w (List.mem_cons_of_mem _ hw), (name_of_methodNamed B.named B.method).1, hE, by omega⟩
  obtain ⟨e1, he1, hr1⟩ := run_ret _ _ _ _ _ hrun
  have hret := wc_ret (l := l) (e := e) (R := rmY d (gN c1.2.2.2.1 - gN G) (gS c1.2.2.2.1 - gS G)) (below := below) (nL := maxLY y) (cells := 0 + (gN c1.2.2.2.1 - gN G)) (slots := 0 + (gS c1.2.2.2.1 - gS G)) (pc := c1.1) (npc := e1.1) (ins := e1.2.1) (aux := e1.2.2) (L := c1.2.1) (st := c1.2.2.1) (G := c1.2.2.2.1) (mi := c1.2.2.2.2) (r := r) Mh (by omega) he1 hr1 hrv B.returns B.notSynchronized
  have hW := IH d y _ c1 (by omega) hrun p e (rmY d (gN c1.2.2.2.1 - gN G) (gS c1.2.2.2.1 - gS G)) s m (as.map (trV X)).toArray below meth c _ 0 0 Mh (Nat.le_refl _) (Nat.le_refl _) (by show s.heap.size + 0 = xb X + gN G; omega) (by show 0 + (gN c1.2.2.2.1 - gN G) ≤ gN c1.2.2.2.1 - gN G; omega) (by show 0 + (gS c1.2.2.2.1 - gS G) ≤ gS c1.2.2.2.1 - gS G; omega) hret
  rw [Nat.zero_add, Nat.zero_add] at hW
  rw [lg_entry_eq]
  have hent := lv_entry (as.map (trV X)) (n := (mY y).2.2.1) (by rw [ent_len hE]; exact hlen)
  refine hW _ s.heap [] ⟨hInv, va_S.rf⟩ ⟨⟨hent.1, hent.2.1, fun q hq => ?_⟩, iniL_len hlen⟩ (fun i v hv => ent_ok hok i v (iniL_lg hv)) (fun v hv => by cases hv)
  obtain ⟨v, hv, hqv⟩ := prs_of hq
  have h3 := ent_args hE as 0 q.1 v (iniL_lg hv)
  rw [Nat.zero_add] at h3
  have h4 := hent.2.2 _ h3
  rw [hqv]
  exact h4
theorem sound (X : Cx) (l : Launch) : ∀ f, SoundF X l f := by
  intro f
  induction f with
  | zero => intro d y c0 c1 _ h; simp [runTo] at h
  | succ f IH =>
    intro d y c0 c1 hy h p e R s m args below meth c Q cells slots Mh hd1 hd2 hcs hcell hslot k
    have hgr := runTo_grow _ _ _ _ _ h
    rw [runTo] at h
    cases h1 : cd y c0.1 with
    | none => rw [h1] at h; simp at h
    | some en =>
      rw [h1] at h
      dsimp only at h
      by_cases hr : isRet en.2.1 = true
      · rw [if_pos hr] at h
        cases h
        simpa using k
      · rw [if_neg hr] at h
        obtain ⟨hn, hdec, hchk⟩ := cd_chk (npc := en.1) (ins := en.2.1) (aux := en.2.2) hy h1
        cases h2 : sI d c0.1 en.1 en.2.1 en.2.2 c0.2.1 c0.2.2.1 c0.2.2.2.1 c0.2.2.2.2 with
        | none => rw [h2] at h; simp at h
        | some o =>
          rw [h2] at h
          cases o with
          | inl c2 =>
            have g1 := sI_grow (pc' := c2.1) (L' := c2.2.1) (st' := c2.2.2.1) (G' := c2.2.2.2.1) (mi' := c2.2.2.2.2) h2
            have g2 := runTo_grow _ _ _ _ _ h
            refine step_ok (pc' := c2.1) (L' := c2.2.1) (st' := c2.2.2.1) (G' := c2.2.2.2.1) (mi' := c2.2.2.2.2) Mh hn hdec hchk rfl hd1 hd2 hcs h2 (by omega) (by omega) ?_
            refine IH d y c2 c1 hy h p e R s m args below meth c Q _ _ Mh hd1 hd2 (by omega) (by omega) (by omega) ?_
            rw [show cells + (gN c2.2.2.2.1 - gN c0.2.2.2.1) + (gN c1.2.2.2.1 - gN c2.2.2.2.1) = cells + (gN c1.2.2.2.1 - gN c0.2.2.2.1) by omega, show slots + (gS c2.2.2.2.1 - gS c0.2.2.2.1) + (gS c1.2.2.2.1 - gS c2.2.2.2.1) = slots + (gS c1.2.2.2.1 - gS c0.2.2.2.1) by omega]
            exact k
          | inr q =>
            dsimp only at h
            cases d with
            | zero => simp at h
            | succ d =>
              dsimp only at h
              by_cases hl : (ent q.2.1).length ≤ maxLY q.1
              · rw [if_pos hl] at h
                cases h3 : runTo f d q.1 (0, iniL q.1 q.2.1, [], c0.2.2.2.1, c0.2.2.2.2) with
                | none => rw [h3] at h; simp at h
                | some c2 =>
                  rw [h3] at h
                  dsimp only at h
                  have g1 := runTo_grow _ _ _ _ _ h3
                  dsimp only at g1
                  cases h4 : retv q.1 c2 with
                  | none => rw [h4] at h; simp at h
                  | some rv =>
                    rw [h4] at h
                    have g2 := runTo_grow _ _ _ _ _ h
                    dsimp only at g2
                    refine call_ok (y' := q.1) (as := q.2.1) (rest := q.2.2) (r := rv) (G1 := c2.2.2.2.1) (mi1 := c2.2.2.2.2) (mc := gN c2.2.2.2.1 - gN c0.2.2.2.1) (ms := gS c2.2.2.2.1 - gS c0.2.2.2.1) Mh hn hdec hchk rfl hd1 hd2 hcs h2 (fun hyN => met_of IH hyN h3 h4 hl) (by omega) (by omega) ?_
                    refine IH (d + 1) y _ c1 hy h p e R s m args below meth c Q _ _ Mh hd1 hd2 (by dsimp only; omega) (by dsimp only; omega) (by dsimp only; omega) ?_
                    dsimp only
                    rw [show cells + (gN c2.2.2.2.1 - gN c0.2.2.2.1) + (gN c1.2.2.2.1 - gN c2.2.2.2.1) = cells + (gN c1.2.2.2.1 - gN c0.2.2.2.1) by omega, show slots + (gS c2.2.2.2.1 - gS c0.2.2.2.1) + (gS c1.2.2.2.1 - gS c2.2.2.2.1) = slots + (gS c1.2.2.2.1 - gS c0.2.2.2.1) by omega]
                    exact k
              · rw [if_neg hl] at h; simp at h
