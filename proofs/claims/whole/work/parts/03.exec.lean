/-! ===== A small pure machine: ints are Int, cells are numbers from 0 on; 'runTo' is what the proofs of the methods speak of; 04 ties it to the machine ===== -/
/-- a value: an int, a long, a reference to a cell of ours (or null), a thing outside (the script, a constant text, its bytes) -/
abbrev PV : Type := Int ⊕ Int ⊕ Option Nat ⊕ Nat
abbrev pI (i : Int) : PV := .inl i
abbrev pL (l : Int) : PV := .inr (.inl l)
abbrev pR (r : Option Nat) : PV := .inr (.inr (.inl r))
abbrev pE (e : Nat) : PV := .inr (.inr (.inr e))
/-- cells made, slots made, kind and length of a cell, its references, the script's length and ints -/
abbrev Gh : Type := Nat × Nat × (Nat → Nat × Nat) × (Nat → Int → Option Nat) × Nat × (Int → Int)
abbrev Mi : Type := Nat → Int → Int
abbrev gN (G : Gh) : Nat := G.1
abbrev gS (G : Gh) : Nat := G.2.1
abbrev gK (G : Gh) : Nat → Nat × Nat := G.2.2.1
abbrev gR (G : Gh) : Nat → Int → Option Nat := G.2.2.2.1
abbrev gL (G : Gh) : Nat := G.2.2.2.2.1
abbrev gX (G : Gh) : Int → Int := G.2.2.2.2.2
abbrev Lcs : Type := List (Option PV)
abbrev Cf : Type := Nat × Lcs × List PV × Gh × Mi
def wr (x : Int) : Int := Int.bmod x 4294967296
def wl (x : Int) : Int := Int.bmod x 18446744073709551616
def up (mi : Mi) (o : Nat) (k : Int) (v : Int) : Mi := fun a j => if a = o ∧ j = k then v else mi a j
def upR (r : Nat → Int → Option Nat) (o : Nat) (k : Int) (v : Option Nat) : Nat → Int → Option Nat := fun a j => if a = o ∧ j = k then v else r a j
def cpy (mi : Mi) (a : Nat) (sp : Int) (b : Nat) (dp n : Int) : Mi := fun c j => if c = b ∧ dp ≤ j ∧ j < dp + n then mi a (sp + (j - dp)) else mi c j
def newG (G : Gh) (kd : Nat × Nat) (sl : Nat) : Gh := (gN G + 1, gS G + sl, (fun a => if a = gN G then kd else gK G a), (fun a j => if a = gN G then none else gR G a j), gL G, gX G)
def newM (G : Gh) (mi : Mi) : Mi := fun a j => if a = gN G then 0 else mi a j
def setR (G : Gh) (o : Nat) (k : Int) (v : Option Nat) : Gh := (gN G, gS G, gK G, upR (gR G) o k v, gL G, gX G)
def ib (f : Int32 → Int32 → Int32) (a b : Int) : Int := (f (Int32.ofInt a) (Int32.ofInt b)).toInt
def iAnd (a b : Int) : Int := ib (· &&& ·) a b
def iOr (a b : Int) : Int := ib (· ||| ·) a b
def iXor (a b : Int) : Int := ib (· ^^^ ·) a b
def iShl (a b : Int) : Int := ib (fun x y => x <<< (y &&& 31)) a b
def iShr (a b : Int) : Int := ib (fun x y => x >>> (y &&& 31)) a b
def iUshr (a b : Int) : Int := ib (fun x y => (x.toUInt32 >>> (y.toUInt32 &&& Int32.toUInt32 31)).toInt32) a b
def iB (a : Int) : Int := (Int32.ofInt a).toInt8.toInt32.toInt
def cmpL (a b : Int) : Int := if a < b then -1 else if a = b then 0 else 1
/-- the constant texts -/
def sBytes (k : Nat) : List Int := sTexts.getD k []
def lg (ls : Lcs) (i : Nat) : Option PV := ls.getD i none
def isL (v : Option PV) : Bool := match v with
  | some (.inr (.inl _)) => true
  | _ => false
def okSt (ls : Lcs) : Nat → Bool
  | 0 => true
  | i + 1 => !isL (lg ls i)
def swL (x d : Int) : List Int → Int
  | v :: t :: r => if x = v then t else swL x d r
  | _ => d
def dsp (c : Int) : List Int → Option Int
  | c' :: y :: _ :: r => if c = c' then some y else dsp c r
  | _ => none
/-- a reference's class, as a number: one more than its place in the list of classes; 500: a constant text -/
def isR (v : PV) : Bool := match v with
  | .inr (.inr (.inl (some _))) => true
  | _ => false
def thgO (G : Gh) (v : Option Nat) : Bool := match v with
  | some o => thg (gK G o).1
  | none => true
def rcv (G : Gh) : PV → Int
  | .inr (.inr (.inl (some o))) => ((gK G o).1 : Int)
  | .inr (.inr (.inr e)) => if e % 2 = 1 ∧ e < 2 * sTexts.length then 500 else -1
  | _ => -1
/-- what stays on the stack below a call: few words -/
def rOK (r : List PV) : Bool := decide (r.length ≤ 4) || (decide (r.length ≤ 8) && r.all (fun v => !isL (some v)))
def takeA (n : Nat) (st : List PV) : List PV × List PV := ((st.take n).reverse, st.drop n)
abbrev Out : Type := Cf ⊕ (Nat × List PV × List PV)
def nx (pc : Nat) (ls : Lcs) (st : List PV) (G : Gh) (mi : Mi) : Option Out := some (.inl (pc, ls, st, G, mi))
def op2 (st : List PV) (k : Int → Int → List PV → Option Out) : Option Out := match st with
  | .inl b :: .inl a :: r => k a b r
  | _ => none
def op1 (st : List PV) (k : Int → List PV → Option Out) : Option Out := match st with
  | .inl a :: r => k a r
  | _ => none
def opL (st : List PV) (k : Int → Int → List PV → Option Out) : Option Out := match st with
  | .inr (.inl b) :: .inr (.inl a) :: r => k a b r
  | _ => none
def cmpC (c : ClassFile.Cond) (a b : Int) : Bool := match c with
  | .eq => decide (a = b)
  | .ne => decide (a ≠ b)
  | .lt => decide (a < b)
  | .ge => decide (b ≤ a)
  | .gt => decide (b < a)
  | .le => decide (a ≤ b)
def a0 (aux : List Int) : Int := aux.getD 0 0
def a1 (aux : List Int) : Int := aux.getD 1 0
def a2 (aux : List Int) : Int := aux.getD 2 0
def ia (aux : List Int) : Nat := (a0 aux).toNat
/-- one instruction, but the returns: the next state, or a call (whom, arguments, what stays on the stack) -/
def sI (d pc npc : Nat) (ins : ClassFile.Instr) (aux : List Int) (ls : Lcs) (st : List PV) (G : Gh) (mi : Mi) : Option Out := match ins with
  | .iconst n => nx npc ls (pI n :: st) G mi
  | .bipush n => nx npc ls (pI n :: st) G mi
  | .sipush n => nx npc ls (pI n :: st) G mi
  | .lconst n => nx npc ls (pL n.val :: st) G mi
  | .aconst_null => nx npc ls (pR none :: st) G mi
  | .ldc _ => if a0 aux = 0 then nx npc ls (pI (a1 aux) :: st) G mi else nx npc ls (pE (2 * (a1 aux).toNat + 1) :: st) G mi
  | .ldc2_w _ => nx npc ls (pL (a0 aux) :: st) G mi
  | .iload_n _ | .iload _ => match lg ls (ia aux) with
    | some (.inl v) => nx npc ls (pI v :: st) G mi
    | _ => none
  | .lload_n _ | .lload _ => match lg ls (ia aux) with
    | some (.inr (.inl v)) => nx npc ls (pL v :: st) G mi
    | _ => none
  | .aload_n _ | .aload _ => match lg ls (ia aux) with
    | some (.inr (.inr v)) => nx npc ls (.inr (.inr v) :: st) G mi
    | _ => none
  | .istore_n _ | .istore _ => match st with
    | .inl v :: r => if okSt ls (ia aux) = true ∧ ia aux < ls.length then nx npc (ls.set (ia aux) (some (pI v))) r G mi else none
    | _ => none
  | .astore_n _ | .astore _ => match st with
    | .inr (.inr v) :: r => if okSt ls (ia aux) = true ∧ ia aux < ls.length then nx npc (ls.set (ia aux) (some (.inr (.inr v)))) r G mi else none
    | _ => none
  | .lstore_n _ | .lstore _ => match st with
    | .inr (.inl v) :: r => if okSt ls (ia aux) = true ∧ ia aux + 1 < ls.length then nx npc ((ls.set (ia aux) (some (pL v))).set (ia aux + 1) none) r G mi else none
    | _ => none
  | .iinc _ _ => match lg ls (ia aux) with
    | some (.inl v) => if okSt ls (ia aux) = true ∧ ia aux < ls.length then nx npc (ls.set (ia aux) (some (pI (wr (v + a1 aux))))) st G mi else none
    | _ => none
  | .iadd => op2 st fun a b r => nx npc ls (pI (wr (a + b)) :: r) G mi
  | .isub => op2 st fun a b r => nx npc ls (pI (wr (a - b)) :: r) G mi
  | .imul => op2 st fun a b r => nx npc ls (pI (wr (a * b)) :: r) G mi
  | .idiv => op2 st fun a b r => if 0 < b then nx npc ls (pI (a.tdiv b) :: r) G mi else none
  | .irem => op2 st fun a b r => if 0 < b then nx npc ls (pI (a.tmod b) :: r) G mi else none
  | .iand => op2 st fun a b r => nx npc ls (pI (iAnd a b) :: r) G mi
  | .ior => op2 st fun a b r => nx npc ls (pI (iOr a b) :: r) G mi
  | .ixor => op2 st fun a b r => nx npc ls (pI (iXor a b) :: r) G mi
  | .ishl => op2 st fun a b r => nx npc ls (pI (iShl a b) :: r) G mi
  | .ishr => op2 st fun a b r => nx npc ls (pI (iShr a b) :: r) G mi
  | .iushr => op2 st fun a b r => nx npc ls (pI (iUshr a b) :: r) G mi
  | .ineg => op1 st fun a r => nx npc ls (pI (wr (-a)) :: r) G mi
  | .i2l => op1 st fun a r => nx npc ls (pL a :: r) G mi
  | .i2c => op1 st fun a r => if 0 ≤ a ∧ a < 65536 then nx npc ls (pI a :: r) G mi else none
  | .i2b => op1 st fun a r => nx npc ls (pI (iB a) :: r) G mi
  | .ladd => opL st fun a b r => nx npc ls (pL (wl (a + b)) :: r) G mi
  | .ldiv => opL st fun a b r => if 0 < b then nx npc ls (pL (a.tdiv b) :: r) G mi else none
  | .lrem => opL st fun a b r => if 0 < b then nx npc ls (pL (a.tmod b) :: r) G mi else none
  | .lcmp => opL st fun a b r => nx npc ls (pI (cmpL a b) :: r) G mi
  | .lneg => match st with
    | .inr (.inl a) :: r => nx npc ls (pL (wl (-a)) :: r) G mi
    | _ => none
  | .dup => match st with
    | .inr (.inl _) :: _ => none
    | v :: r => nx npc ls (v :: v :: r) G mi
    | _ => none
  | .pop => match st with
    | .inr (.inl _) :: _ => none
    | _ :: r => nx npc ls r G mi
    | _ => none
  | .dup2 => match st with
    | .inl b :: .inr (.inr a) :: r => nx npc ls (.inl b :: .inr (.inr a) :: .inl b :: .inr (.inr a) :: r) G mi
    | _ => none
  | .goto _ => nx (ia aux) ls st G mi
  | .ifCond c _ => op1 st fun a r => nx (if cmpC c a 0 = true then ia aux else npc) ls r G mi
  | .if_icmp c _ => op2 st fun a b r => nx (if cmpC c a b = true then ia aux else npc) ls r G mi
  | .ifnull _ => match st with
    | .inr (.inr (.inl o)) :: r => nx (if o = none then ia aux else npc) ls r G mi
    | _ => none
  | .ifnonnull _ => match st with
    | .inr (.inr (.inl o)) :: r => nx (if o = none then npc else ia aux) ls r G mi
    | _ => none
  | .tableswitch _ _ _ _ => op1 st fun a r => nx (swL a (a0 aux) (aux.drop 1)).toNat ls r G mi
  | .lookupswitch _ _ => op1 st fun a r => nx (swL a (a0 aux) (aux.drop 1)).toNat ls r G mi
  | .getfield _ => match st with
    | .inr (.inr (.inl (some o))) :: r => if ((gK G o).1 : Int) ∈ aux.drop 2 then (if a1 aux = 1 then nx npc ls (pR (gR G o (a0 aux)) :: r) G mi else nx npc ls (pI (mi o (a0 aux)) :: r) G mi) else none
    | .inr (.inr (.inr e)) :: r => if rcv G (pE e) = 500 ∧ a1 aux = 3 then nx npc ls (pE (e + 1) :: r) G mi else if rcv G (pE e) = 500 ∧ a1 aux = 4 then nx npc ls (pI 0 :: r) G mi else none
    | _ => none
  | .putfield _ => match st with
    | .inl v :: .inr (.inr (.inl (some o))) :: r => if ((gK G o).1 : Int) ∈ aux.drop 2 ∧ (a1 aux = 0 ∨ a1 aux = 2 ∧ 0 ≤ v ∧ v ≤ 1) then nx npc ls r G (up mi o (a0 aux) v) else none
    | .inr (.inr (.inl v)) :: .inr (.inr (.inl (some o))) :: r => if ((gK G o).1 : Int) ∈ aux.drop 2 ∧ a1 aux = 1 then nx npc ls r (setR G o (a0 aux) v) mi else none
    | _ => none
  | .getstatic _ => if a0 aux = 0 then nx npc ls (pI 1 :: st) G mi else nx npc ls (pE 1000 :: st) G mi
  | .arraylength => match st with
    | .inr (.inr (.inl (some o))) :: r => if 20 ≤ (gK G o).1 then nx npc ls (pI (gK G o).2 :: r) G mi else none
    | .inr (.inr (.inr e)) :: r => if e = 0 then nx npc ls (pI (gL G) :: r) G mi else if e % 2 = 0 ∧ e ≤ 2 * sTexts.length then nx npc ls (pI (sBytes (e / 2 - 1)).length :: r) G mi else none
    | _ => none
  | .iaload => match st with
    | .inl i :: .inr (.inr (.inl (some o))) :: r => if (gK G o).1 = 20 ∧ 0 ≤ i ∧ i < (gK G o).2 then nx npc ls (pI (mi o i) :: r) G mi else none
    | .inl i :: .inr (.inr (.inr 0)) :: r => if 0 ≤ i ∧ i < gL G then nx npc ls (pI (gX G i) :: r) G mi else none
    | _ => none
  | .baload => match st with
    | .inl i :: .inr (.inr (.inl (some o))) :: r => if (gK G o).1 = 21 ∧ 0 ≤ i ∧ i < (gK G o).2 then nx npc ls (pI (mi o i) :: r) G mi else none
    | .inl i :: .inr (.inr (.inr e)) :: r => if e % 2 = 0 ∧ 0 < e ∧ e ≤ 2 * sTexts.length ∧ 0 ≤ i ∧ i < (sBytes (e / 2 - 1)).length then nx npc ls (pI ((sBytes (e / 2 - 1)).getD i.toNat 0) :: r) G mi else none
    | _ => none
  | .aaload => match st with
    | .inl i :: .inr (.inr (.inl (some o))) :: r => if (gK G o).1 = 22 ∧ 0 ≤ i ∧ i < (gK G o).2 then nx npc ls (pR (gR G o i) :: r) G mi else none
    | _ => none
  | .iastore => match st with
    | .inl v :: .inl i :: .inr (.inr (.inl (some o))) :: r => if (gK G o).1 = 20 ∧ 0 ≤ i ∧ i < (gK G o).2 then nx npc ls r G (up mi o i v) else none
    | _ => none
  | .bastore => match st with
    | .inl v :: .inl i :: .inr (.inr (.inl (some o))) :: r => if (gK G o).1 = 21 ∧ 0 ≤ i ∧ i < (gK G o).2 ∧ 0 ≤ v ∧ v ≤ 1 then nx npc ls r G (up mi o i v) else none
    | _ => none
  | .aastore => match st with
    | .inr (.inr (.inl v)) :: .inl i :: .inr (.inr (.inl (some o))) :: r => if (gK G o).1 = 22 ∧ 0 ≤ i ∧ i < (gK G o).2 ∧ thgO G v = true then nx npc ls r (setR G o i v) mi else none
    | _ => none
  | .new _ => nx npc ls (pR (some (gN G)) :: st) (newG G ((a0 aux).toNat, 0) (a1 aux).toNat) (newM G mi)
  | .newarray _ => op1 st fun n r => if 0 ≤ n ∧ n < 100000 then nx npc ls (pR (some (gN G)) :: r) (newG G ((a0 aux).toNat, n.toNat) n.toNat) (newM G mi) else none
  | .anewarray _ => op1 st fun n r => if 0 ≤ n ∧ n < 100000 then nx npc ls (pR (some (gN G)) :: r) (newG G (22, n.toNat) n.toNat) (newM G mi) else none
  | .instanceof _ => match st with
    | .inr (.inr (.inl (some o))) :: r => if thg (gK G o).1 = true then nx npc ls (pI (if ((gK G o).1 : Int) ∈ aux then 1 else 0) :: r) G mi else none
    | _ => none
  | .invokevirtual _ => match (takeA (ia aux) st).2 with
    | v :: r => match dsp (rcv G v) (aux.drop 1) with
      | some y => if rOK r = true then some (.inr (y.toNat, v :: (takeA (ia aux) st).1, r)) else none
      | none => none
    | [] => none
  | .invokespecial _ => if a0 aux = 0 then (match st with
      | .inr (.inr (.inl (some _))) :: r => if 1 ≤ d ∧ rOK r = true then nx npc ls r G mi else none
      | _ => none) else (match (takeA (a1 aux).toNat st).2 with
    | v :: r => if (a0 aux = 1 ∨ rcv G v ∈ aux.drop 3) ∧ isR v = true ∧ rOK r = true then some (.inr ((a2 aux).toNat, v :: (takeA (a1 aux).toNat st).1, r)) else none
    | [] => none)
  | .invokestatic _ => if a0 aux = 2 then (op2 st fun a b r => if 1 ≤ d ∧ rOK r = true then nx npc ls (pI (if a < b then b else a) :: r) G mi else none)
    else if a0 aux = 3 then (op2 st fun a b r => if 1 ≤ d ∧ rOK r = true then nx npc ls (pI (if b < a then b else a) :: r) G mi else none)
    else if a0 aux = 4 then (op1 st fun a r => if 1 ≤ d ∧ rOK r = true then nx npc ls (pI (if 0 ≤ a then a else wr (0 - a)) :: r) G mi else none)
    else if a0 aux = 5 then (match st with
      | .inl n :: .inl dp :: .inr (.inr (.inl (some b))) :: .inl sp :: .inr (.inr (.inl (some a))) :: r => if 1 ≤ d ∧ rOK r = true ∧ (gK G a).1 = 20 ∧ (gK G b).1 = 20 ∧ a ≠ b ∧ 0 ≤ sp ∧ 0 ≤ dp ∧ 0 ≤ n ∧ sp + n ≤ (gK G a).2 ∧ dp + n ≤ (gK G b).2 then nx npc ls r G (cpy mi a sp b dp n) else none
      | _ => none)
    else (if (a0 aux = 0 ∨ a0 aux = 1) ∧ rOK (takeA (a1 aux).toNat st).2 = true ∧ (a1 aux).toNat ≤ st.length then some (.inr ((a2 aux).toNat, (takeA (a1 aux).toNat st).1, (takeA (a1 aux).toNat st).2)) else none)
  | _ => none
def isRet (ins : ClassFile.Instr) : Bool := match ins with
  | .ireturn | .lreturn | .areturn | .return_ => true
  | _ => false
def mY (y : Nat) : MethodName × ByteArray × Nat × Option FieldType := mT.getD y (⟨"", "", ""⟩, ⟨#[]⟩, 0, none)
def maxLY (y : Nat) : Nat := (mY y).2.2.1
def retOk (t : Option FieldType) (v : Int) : Bool := match t with
  | some .int => true
  | some .boolean => decide (0 ≤ v ∧ v ≤ 1)
  | some .char => decide (0 ≤ v ∧ v < 65536)
  | some .byte => decide (v = 0)
  | _ => false
/-- what a frame at a return instruction answers -/
def retv (y : Nat) (c : Cf) : Option (Option PV) := match cd y c.1 with
  | some (_, .ireturn, _) => match c.2.2.1 with
    | [.inl v] => if retOk (mY y).2.2.2 v = true then some (some (pI v)) else none
    | _ => none
  | some (_, .lreturn, _) => match c.2.2.1 with
    | [.inr (.inl v)] => some (some (pL v))
    | _ => none
  | some (_, .areturn, _) => match c.2.2.1 with
    | [.inr (.inr (.inl v))] => some (some (pR v))
    | _ => none
  | some (_, .return_, _) => match c.2.2.1 with
    | [] => some none
    | _ => none
  | _ => none
def ent : List PV → Lcs
  | [] => []
  | .inr (.inl l) :: r => some (pL l) :: none :: ent r
  | v :: r => some v :: ent r
def iniL (y : Nat) (as : List PV) : Lcs := ent as ++ List.replicate (maxLY y - (ent as).length) none
def pu (r : Option PV) (st : List PV) : List PV := match r with
  | none => st
  | some v => v :: st
theorem pu_n (st : List PV) : pu none st = st := rfl
theorem pu_s (v : PV) (st : List PV) : pu (some v) st = v :: st := rfl
def runTo : Nat → Nat → Nat → Cf → Option Cf
  | 0, _, _, _ => none
  | f + 1, d, y, c => match cd y c.1 with
    | none => none
    | some e => if isRet e.2.1 = true then some c else match sI d c.1 e.1 e.2.1 e.2.2 c.2.1 c.2.2.1 c.2.2.2.1 c.2.2.2.2 with
      | none => none
      | some (.inl c') => runTo f d y c'
      | some (.inr q) => match d with
        | 0 => none
        | d' + 1 => if (ent q.2.1).length ≤ maxLY q.1 then match runTo f d' q.1 (0, iniL q.1 q.2.1, [], c.2.2.2.1, c.2.2.2.2) with
          | none => none
          | some c1 => match retv q.1 c1 with
            | none => none
            | some rv => runTo f d y (e.1, c.2.1, pu rv q.2.2, c1.2.2.2.1, c1.2.2.2.2)
          else none
def Ok (d y pc : Nat) (ls : Lcs) (st : List PV) (G : Gh) (mi : Mi) (Q : Option PV → Gh → Mi → Prop) : Prop :=
  ∃ (f : Nat) (c : Cf) (r : Option PV), runTo f d y (pc, ls, st, G, mi) = some c ∧ retv y c = some r ∧ Q r c.2.2.2.1 c.2.2.2.2
def OkC (d y : Nat) (as : List PV) (G : Gh) (mi : Mi) (K : Option PV → Gh → Mi → Prop) : Prop := (ent as).length ≤ maxLY y ∧ Ok d y 0 (iniL y as) [] G mi K
theorem runTo_step {f d y : Nat} {c : Cf} {e : Nat × ClassFile.Instr × List Int} (h : cd y c.1 = some e) (hr : isRet e.2.1 = false) {c' : Cf} (hs : sI d c.1 e.1 e.2.1 e.2.2 c.2.1 c.2.2.1 c.2.2.2.1 c.2.2.2.2 = some (.inl c')) : runTo (f + 1) d y c = runTo f d y c' := by
  simp only [runTo, h, hr, hs, Bool.false_eq_true, if_false]
theorem runTo_call {f d y : Nat} {c : Cf} {e : Nat × ClassFile.Instr × List Int} (h : cd y c.1 = some e) (hr : isRet e.2.1 = false) {q : Nat × List PV × List PV} (hs : sI (d + 1) c.1 e.1 e.2.1 e.2.2 c.2.1 c.2.2.1 c.2.2.2.1 c.2.2.2.2 = some (.inr q)) :
    runTo (f + 1) (d + 1) y c = if (ent q.2.1).length ≤ maxLY q.1 then match runTo f d q.1 (0, iniL q.1 q.2.1, [], c.2.2.2.1, c.2.2.2.2) with
          | none => none
          | some c1 => match retv q.1 c1 with
            | none => none
            | some rv => runTo f (d + 1) y (e.1, c.2.1, pu rv q.2.2, c1.2.2.2.1, c1.2.2.2.2)
          else none := by
  simp only [runTo, h, hr, hs, Bool.false_eq_true, if_false]
theorem runTo_mono : ∀ (f d y : Nat) (c c' : Cf), runTo f d y c = some c' → runTo (f + 1) d y c = some c' := by
  intro f
  induction f with
  | zero => intro d y c c' h; simp [runTo] at h
  | succ f ih =>
    intro d y c c' h
    rw [runTo] at h ⊢
    cases h1 : cd y c.1 with
    | none => rw [h1] at h; simp at h
    | some e =>
      rw [h1] at h
      dsimp only at h ⊢
      by_cases hr : isRet e.2.1 = true
      · rw [if_pos hr] at h ⊢; exact h
      · rw [if_neg hr] at h ⊢
        cases h2 : sI d c.1 e.1 e.2.1 e.2.2 c.2.1 c.2.2.1 c.2.2.2.1 c.2.2.2.2 with
        | none => rw [h2] at h; simp at h
        | some o =>
          rw [h2] at h
          cases o with
          | inl c1 => exact ih _ _ _ _ h
          | inr q =>
            dsimp only at h ⊢
            cases d with
            | zero => simp at h
            | succ d =>
              dsimp only at h ⊢
              by_cases hl : (ent q.2.1).length ≤ maxLY q.1
              · rw [if_pos hl] at h ⊢
                cases h3 : runTo f d q.1 (0, iniL q.1 q.2.1, [], c.2.2.2.1, c.2.2.2.2) with
                | none => rw [h3] at h; simp at h
                | some c1 =>
                  rw [h3] at h
                  rw [ih _ _ _ _ h3]
                  dsimp only at h ⊢
                  cases h4 : retv q.1 c1 with
                  | none => rw [h4] at h; simp at h
                  | some rv =>
                    rw [h4] at h
                    exact ih _ _ _ _ h
              · rw [if_neg hl] at h; simp at h
theorem runTo_le {f g d y : Nat} {c c' : Cf} (h : runTo f d y c = some c') (hg : f ≤ g) : runTo g d y c = some c' := by
  obtain ⟨k, rfl⟩ := Nat.le.dest hg
  induction k with
  | zero => exact h
  | succ k ih => exact runTo_mono _ _ _ _ _ (ih (Nat.le_add_right _ _))
section K
variable {d y pc npc : Nat} {ls : Lcs} {st : List PV} {G : Gh} {mi : Mi} {Q : Option PV → Gh → Mi → Prop} {aux : List Int} {ins : ClassFile.Instr}
theorem ok_nx {pc' : Nat} {ls' : Lcs} {st' : List PV} {G' : Gh} {mi' : Mi} (h : cd y pc = some (npc, ins, aux)) (hr : isRet ins = false) (hs : sI d pc npc ins aux ls st G mi = some (.inl (pc', ls', st', G', mi'))) : Ok d y pc ls st G mi Q = Ok d y pc' ls' st' G' mi' Q := by
  apply propext
  constructor
  · rintro ⟨f, c, r, h1, h2, h3⟩
    cases f with
    | zero => simp [runTo] at h1
    | succ f => exact ⟨f, c, r, by rw [← runTo_step (c := (pc, ls, st, G, mi)) h hr hs]; exact h1, h2, h3⟩
  · rintro ⟨f, c, r, h1, h2, h3⟩
    exact ⟨f + 1, c, r, by rw [runTo_step (c := (pc, ls, st, G, mi)) h hr hs]; exact h1, h2, h3⟩
theorem ok_call {y' : Nat} {as rest : List PV} (h : cd y pc = some (npc, ins, aux)) (hr : isRet ins = false) (hs : sI (d + 1) pc npc ins aux ls st G mi = some (.inr (y', as, rest))) : Ok (d + 1) y pc ls st G mi Q = OkC d y' as G mi (fun r G' mi' => Ok (d + 1) y npc ls (pu r rest) G' mi' Q) := by
  apply propext
  constructor
  · rintro ⟨f, c, r, h1, h2, h3⟩
    cases f with
    | zero => simp [runTo] at h1
    | succ f =>
      rw [runTo_call (c := (pc, ls, st, G, mi)) h hr hs] at h1
      by_cases hl : (ent as).length ≤ maxLY y'
      · rw [if_pos hl] at h1
        cases h4 : runTo f d y' (0, iniL y' as, [], G, mi) with
        | none => simp only [h4] at h1; simp at h1
        | some c1 =>
          simp only [h4] at h1
          cases h5 : retv y' c1 with
          | none => simp only [h5] at h1; simp at h1
          | some rv =>
            simp only [h5] at h1
            exact ⟨hl, f, c1, rv, h4, h5, f, c, r, h1, h2, h3⟩
      · rw [if_neg hl] at h1; simp at h1
  · rintro ⟨hl, f, c1, rv, h4, h5, g, c, r, h1, h2, h3⟩
    refine ⟨max f g + 1, c, r, ?_, h2, h3⟩
    rw [runTo_call (c := (pc, ls, st, G, mi)) h hr hs, if_pos hl]
    simp only [runTo_le h4 (Nat.le_max_left f g), h5]
    exact runTo_le h1 (Nat.le_max_right f g)
theorem ok_ret {r : Option PV} (h : cd y pc = some (npc, ins, aux)) (hr : isRet ins = true) (hv : retv y (pc, ls, st, G, mi) = some r) : Ok d y pc ls st G mi Q = Q r G mi := by
  apply propext
  constructor
  · rintro ⟨f, c, r', h1, h2, h3⟩
    cases f with
    | zero => simp [runTo] at h1
    | succ f =>
      simp only [runTo, h, hr, if_true] at h1
      cases h1
      rw [hv] at h2
      cases h2
      exact h3
  · intro hq
    exact ⟨1, (pc, ls, st, G, mi), r, by simp only [runTo, h, hr, if_true], hv, hq⟩
theorem ok_ite {c : Prop} [Decidable c] {a b : Nat} : Ok d y (if c then a else b) ls st G mi Q = if c then Ok d y a ls st G mi Q else Ok d y b ls st G mi Q := by
  split <;> rfl
end K
theorem up_o {mi : Mi} {o : Nat} {k v : Int} {a : Nat} (h : a ≠ o) : up mi o k v a = mi a := by
  funext j
  simp [up, h]
