/-! ===== rows of the pure machine: one for each kind of instruction ===== -/
section KK
variable {d y pc npc i : Nat} {ls : Lcs} {st : List PV} {G : Gh} {mi : Mi} {Q : Option PV → Gh → Mi → Prop} {aux : List Int} {n v w : Int} {o o' k : Nat} {off : Int}
theorem thg_mem {c : Nat} (h : thg c = true) : (c : Int) ∈ ([1, 2, 3, 5, 6, 9, 10] : List Int) := by
  simp only [thg, Bool.or_eq_true, beq_iff_eq] at h
  rcases h with (((((h | h) | h) | h) | h) | h) | h <;> subst h <;> decide
theorem kk_iconst (h : cd y pc = some (npc, .iconst n, [])) : Ok d y pc ls st G mi Q = Ok d y npc ls (pI n :: st) G mi Q := ok_nx h rfl rfl
theorem kk_bipush (h : cd y pc = some (npc, .bipush n, [])) : Ok d y pc ls st G mi Q = Ok d y npc ls (pI n :: st) G mi Q := ok_nx h rfl rfl
theorem kk_sipush (h : cd y pc = some (npc, .sipush n, [])) : Ok d y pc ls st G mi Q = Ok d y npc ls (pI n :: st) G mi Q := ok_nx h rfl rfl
theorem kk_lconst {z : Fin 2} (h : cd y pc = some (npc, .lconst z, [])) (hn : (z.val : Int) = n) : Ok d y pc ls st G mi Q = Ok d y npc ls (pL n :: st) G mi Q := ok_nx h rfl (by simp only [sI, nx]; rw [hn])
theorem kk_null (h : cd y pc = some (npc, .aconst_null, [])) : Ok d y pc ls st G mi Q = Ok d y npc ls (pR none :: st) G mi Q := ok_nx h rfl rfl
theorem kk_ldci (h : cd y pc = some (npc, .ldc i, [0, n])) : Ok d y pc ls st G mi Q = Ok d y npc ls (pI n :: st) G mi Q := ok_nx h rfl rfl
theorem kk_ldcs (h : cd y pc = some (npc, .ldc i, [1, n])) {e : Nat} (he : 2 * n.toNat + 1 = e) : Ok d y pc ls st G mi Q = Ok d y npc ls (pE e :: st) G mi Q := by subst he; exact ok_nx h rfl rfl
theorem kk_ldc2 (h : cd y pc = some (npc, .ldc2_w i, [n])) : Ok d y pc ls st G mi Q = Ok d y npc ls (pL n :: st) G mi Q := ok_nx h rfl rfl
theorem kk_iload_n {z : Fin 4} (h : cd y pc = some (npc, .iload_n z, [n])) (hl : lg ls n.toNat = some (pI v)) : Ok d y pc ls st G mi Q = Ok d y npc ls (pI v :: st) G mi Q := ok_nx h rfl (by simp only [sI, ia, a0, List.getD_cons_zero, hl, nx])
theorem kk_iload (h : cd y pc = some (npc, .iload i, [n])) (hl : lg ls n.toNat = some (pI v)) : Ok d y pc ls st G mi Q = Ok d y npc ls (pI v :: st) G mi Q := ok_nx h rfl (by simp only [sI, ia, a0, List.getD_cons_zero, hl, nx])
theorem kk_lload_n {z : Fin 4} (h : cd y pc = some (npc, .lload_n z, [n])) (hl : lg ls n.toNat = some (pL v)) : Ok d y pc ls st G mi Q = Ok d y npc ls (pL v :: st) G mi Q := ok_nx h rfl (by simp only [sI, ia, a0, List.getD_cons_zero, hl, nx])
theorem kk_lload (h : cd y pc = some (npc, .lload i, [n])) (hl : lg ls n.toNat = some (pL v)) : Ok d y pc ls st G mi Q = Ok d y npc ls (pL v :: st) G mi Q := ok_nx h rfl (by simp only [sI, ia, a0, List.getD_cons_zero, hl, nx])
theorem kk_aload_n {z : Fin 4} {r : Option Nat ⊕ Nat} (h : cd y pc = some (npc, .aload_n z, [n])) (hl : lg ls n.toNat = some (.inr (.inr r))) : Ok d y pc ls st G mi Q = Ok d y npc ls (.inr (.inr r) :: st) G mi Q := ok_nx h rfl (by simp only [sI, ia, a0, List.getD_cons_zero, hl, nx])
theorem kk_aload {r : Option Nat ⊕ Nat} (h : cd y pc = some (npc, .aload i, [n])) (hl : lg ls n.toNat = some (.inr (.inr r))) : Ok d y pc ls st G mi Q = Ok d y npc ls (.inr (.inr r) :: st) G mi Q := ok_nx h rfl (by simp only [sI, ia, a0, List.getD_cons_zero, hl, nx])
theorem kk_istore_n {z : Fin 4} (h : cd y pc = some (npc, .istore_n z, [n])) (hs : okSt ls n.toNat = true) (hl : n.toNat < ls.length) : Ok d y pc ls (pI v :: st) G mi Q = Ok d y npc (ls.set n.toNat (some (pI v))) st G mi Q := ok_nx h rfl (by simp only [sI, ia, a0, List.getD_cons_zero, hs, hl, and_self, if_true, nx])
theorem kk_istore (h : cd y pc = some (npc, .istore i, [n])) (hs : okSt ls n.toNat = true) (hl : n.toNat < ls.length) : Ok d y pc ls (pI v :: st) G mi Q = Ok d y npc (ls.set n.toNat (some (pI v))) st G mi Q := ok_nx h rfl (by simp only [sI, ia, a0, List.getD_cons_zero, hs, hl, and_self, if_true, nx])
theorem kk_astore_n {z : Fin 4} {r : Option Nat ⊕ Nat} (h : cd y pc = some (npc, .astore_n z, [n])) (hs : okSt ls n.toNat = true) (hl : n.toNat < ls.length) : Ok d y pc ls (.inr (.inr r) :: st) G mi Q = Ok d y npc (ls.set n.toNat (some (.inr (.inr r)))) st G mi Q := ok_nx h rfl (by simp only [sI, ia, a0, List.getD_cons_zero, hs, hl, and_self, if_true, nx])
theorem kk_astore {r : Option Nat ⊕ Nat} (h : cd y pc = some (npc, .astore i, [n])) (hs : okSt ls n.toNat = true) (hl : n.toNat < ls.length) : Ok d y pc ls (.inr (.inr r) :: st) G mi Q = Ok d y npc (ls.set n.toNat (some (.inr (.inr r)))) st G mi Q := ok_nx h rfl (by simp only [sI, ia, a0, List.getD_cons_zero, hs, hl, and_self, if_true, nx])
theorem kk_lstore_n {z : Fin 4} (h : cd y pc = some (npc, .lstore_n z, [n])) (hs : okSt ls n.toNat = true) (hl : n.toNat + 1 < ls.length) : Ok d y pc ls (pL v :: st) G mi Q = Ok d y npc ((ls.set n.toNat (some (pL v))).set (n.toNat + 1) none) st G mi Q := ok_nx h rfl (by simp only [sI, ia, a0, List.getD_cons_zero, hs, hl, and_self, if_true, nx])
theorem kk_lstore (h : cd y pc = some (npc, .lstore i, [n])) (hs : okSt ls n.toNat = true) (hl : n.toNat + 1 < ls.length) : Ok d y pc ls (pL v :: st) G mi Q = Ok d y npc ((ls.set n.toNat (some (pL v))).set (n.toNat + 1) none) st G mi Q := ok_nx h rfl (by simp only [sI, ia, a0, List.getD_cons_zero, hs, hl, and_self, if_true, nx])
theorem kk_iinc (h : cd y pc = some (npc, .iinc i off, [n, w])) (hl : lg ls n.toNat = some (pI v)) (hs : okSt ls n.toNat = true) (hlt : n.toNat < ls.length) : Ok d y pc ls st G mi Q = Ok d y npc (ls.set n.toNat (some (pI (wr (v + w))))) st G mi Q := ok_nx h rfl (by simp only [sI, ia, a0, a1, List.getD_cons_zero, List.getD_cons_succ, hl, hs, hlt, and_self, if_true, nx])
theorem kk_iadd (h : cd y pc = some (npc, .iadd, [])) : Ok d y pc ls (pI w :: pI v :: st) G mi Q = Ok d y npc ls (pI (wr (v + w)) :: st) G mi Q := ok_nx h rfl rfl
theorem kk_isub (h : cd y pc = some (npc, .isub, [])) : Ok d y pc ls (pI w :: pI v :: st) G mi Q = Ok d y npc ls (pI (wr (v - w)) :: st) G mi Q := ok_nx h rfl rfl
theorem kk_imul (h : cd y pc = some (npc, .imul, [])) : Ok d y pc ls (pI w :: pI v :: st) G mi Q = Ok d y npc ls (pI (wr (v * w)) :: st) G mi Q := ok_nx h rfl rfl
theorem kk_idiv (h : cd y pc = some (npc, .idiv, [])) (hw : 0 < w) : Ok d y pc ls (pI w :: pI v :: st) G mi Q = Ok d y npc ls (pI (v.tdiv w) :: st) G mi Q := ok_nx h rfl (by simp only [sI, op2, hw, if_true, nx])
theorem kk_irem (h : cd y pc = some (npc, .irem, [])) (hw : 0 < w) : Ok d y pc ls (pI w :: pI v :: st) G mi Q = Ok d y npc ls (pI (v.tmod w) :: st) G mi Q := ok_nx h rfl (by simp only [sI, op2, hw, if_true, nx])
theorem kk_iand (h : cd y pc = some (npc, .iand, [])) : Ok d y pc ls (pI w :: pI v :: st) G mi Q = Ok d y npc ls (pI (iAnd v w) :: st) G mi Q := ok_nx h rfl rfl
theorem kk_ior (h : cd y pc = some (npc, .ior, [])) : Ok d y pc ls (pI w :: pI v :: st) G mi Q = Ok d y npc ls (pI (iOr v w) :: st) G mi Q := ok_nx h rfl rfl
theorem kk_ixor (h : cd y pc = some (npc, .ixor, [])) : Ok d y pc ls (pI w :: pI v :: st) G mi Q = Ok d y npc ls (pI (iXor v w) :: st) G mi Q := ok_nx h rfl rfl
theorem kk_ishl (h : cd y pc = some (npc, .ishl, [])) : Ok d y pc ls (pI w :: pI v :: st) G mi Q = Ok d y npc ls (pI (iShl v w) :: st) G mi Q := ok_nx h rfl rfl
theorem kk_ishr (h : cd y pc = some (npc, .ishr, [])) : Ok d y pc ls (pI w :: pI v :: st) G mi Q = Ok d y npc ls (pI (iShr v w) :: st) G mi Q := ok_nx h rfl rfl
theorem kk_iushr (h : cd y pc = some (npc, .iushr, [])) : Ok d y pc ls (pI w :: pI v :: st) G mi Q = Ok d y npc ls (pI (iUshr v w) :: st) G mi Q := ok_nx h rfl rfl
theorem kk_ineg (h : cd y pc = some (npc, .ineg, [])) : Ok d y pc ls (pI v :: st) G mi Q = Ok d y npc ls (pI (wr (-v)) :: st) G mi Q := ok_nx h rfl rfl
theorem kk_i2l (h : cd y pc = some (npc, .i2l, [])) : Ok d y pc ls (pI v :: st) G mi Q = Ok d y npc ls (pL v :: st) G mi Q := ok_nx h rfl rfl
theorem kk_i2b (h : cd y pc = some (npc, .i2b, [])) : Ok d y pc ls (pI v :: st) G mi Q = Ok d y npc ls (pI (iB v) :: st) G mi Q := ok_nx h rfl rfl
theorem kk_i2c (h : cd y pc = some (npc, .i2c, [])) (h1 : 0 ≤ v) (h2 : v < 65536) : Ok d y pc ls (pI v :: st) G mi Q = Ok d y npc ls (pI v :: st) G mi Q := ok_nx h rfl (by simp only [sI, op1, h1, h2, and_self, if_true, nx])
theorem kk_ladd (h : cd y pc = some (npc, .ladd, [])) : Ok d y pc ls (pL w :: pL v :: st) G mi Q = Ok d y npc ls (pL (wl (v + w)) :: st) G mi Q := ok_nx h rfl rfl
theorem kk_ldiv (h : cd y pc = some (npc, .ldiv, [])) (hw : 0 < w) : Ok d y pc ls (pL w :: pL v :: st) G mi Q = Ok d y npc ls (pL (v.tdiv w) :: st) G mi Q := ok_nx h rfl (by simp only [sI, opL, hw, if_true, nx])
theorem kk_lrem (h : cd y pc = some (npc, .lrem, [])) (hw : 0 < w) : Ok d y pc ls (pL w :: pL v :: st) G mi Q = Ok d y npc ls (pL (v.tmod w) :: st) G mi Q := ok_nx h rfl (by simp only [sI, opL, hw, if_true, nx])
theorem kk_lcmp (h : cd y pc = some (npc, .lcmp, [])) : Ok d y pc ls (pL w :: pL v :: st) G mi Q = Ok d y npc ls (pI (cmpL v w) :: st) G mi Q := ok_nx h rfl rfl
theorem kk_lneg (h : cd y pc = some (npc, .lneg, [])) : Ok d y pc ls (pL v :: st) G mi Q = Ok d y npc ls (pL (wl (-v)) :: st) G mi Q := ok_nx h rfl rfl
theorem kk_dupr {r : Option Nat ⊕ Nat} (h : cd y pc = some (npc, .dup, [])) : Ok d y pc ls (.inr (.inr r) :: st) G mi Q = Ok d y npc ls (.inr (.inr r) :: .inr (.inr r) :: st) G mi Q := ok_nx h rfl rfl
theorem kk_dupi (h : cd y pc = some (npc, .dup, [])) : Ok d y pc ls (pI v :: st) G mi Q = Ok d y npc ls (pI v :: pI v :: st) G mi Q := ok_nx h rfl rfl
theorem kk_popi (h : cd y pc = some (npc, .pop, [])) : Ok d y pc ls (pI v :: st) G mi Q = Ok d y npc ls st G mi Q := ok_nx h rfl rfl
theorem kk_popr {r : Option Nat ⊕ Nat} (h : cd y pc = some (npc, .pop, [])) : Ok d y pc ls (.inr (.inr r) :: st) G mi Q = Ok d y npc ls st G mi Q := ok_nx h rfl rfl
theorem kk_dup2 {r : Option Nat ⊕ Nat} (h : cd y pc = some (npc, .dup2, [])) : Ok d y pc ls (pI v :: .inr (.inr r) :: st) G mi Q = Ok d y npc ls (pI v :: .inr (.inr r) :: pI v :: .inr (.inr r) :: st) G mi Q := ok_nx h rfl rfl
theorem kk_goto (h : cd y pc = some (npc, .goto off, [n])) {t : Nat} (ht : n.toNat = t) : Ok d y pc ls st G mi Q = Ok d y t ls st G mi Q := by subst ht; exact ok_nx h rfl rfl
theorem kk_br {c : ClassFile.Cond} {C : Prop} [hC : Decidable C] (h : cd y pc = some (npc, .ifCond c off, [n])) {t : Nat} (ht : n.toNat = t) (hv : (cmpC c v 0 = true) = C) : Ok d y pc ls (pI v :: st) G mi Q = if C then Ok d y t ls st G mi Q else Ok d y npc ls st G mi Q := by
  subst ht; subst hv
  by_cases hh : cmpC c v 0 = true
  · rw [if_pos hh]
    exact ok_nx h rfl (by simp only [sI, op1, hh, if_true]; rfl)
  · rw [if_neg hh]
    exact ok_nx h rfl (by simp only [sI, op1, nx]; rw [if_neg hh])
theorem kk_br2 {c : ClassFile.Cond} {C : Prop} [hC : Decidable C] (h : cd y pc = some (npc, .if_icmp c off, [n])) {t : Nat} (ht : n.toNat = t) (hv : (cmpC c v w = true) = C) : Ok d y pc ls (pI w :: pI v :: st) G mi Q = if C then Ok d y t ls st G mi Q else Ok d y npc ls st G mi Q := by
  subst ht; subst hv
  by_cases hh : cmpC c v w = true
  · rw [if_pos hh]
    exact ok_nx h rfl (by simp only [sI, op2, hh, if_true]; rfl)
  · rw [if_neg hh]
    exact ok_nx h rfl (by simp only [sI, op2, nx]; rw [if_neg hh])
theorem cc_eq : (cmpC .eq v w = true) = (v = w) := by simp [cmpC]
theorem cc_ne : (cmpC .ne v w = true) = ¬ v = w := by simp [cmpC]
theorem cc_lt : (cmpC .lt v w = true) = (v < w) := by simp [cmpC]
theorem cc_ge : (cmpC .ge v w = true) = (w ≤ v) := by simp [cmpC]
theorem cc_gt : (cmpC .gt v w = true) = (w < v) := by simp [cmpC]
theorem cc_le : (cmpC .le v w = true) = (v ≤ w) := by simp [cmpC]
theorem kk_ifnull_s (h : cd y pc = some (npc, .ifnull off, [n])) : Ok d y pc ls (pR (some o) :: st) G mi Q = Ok d y npc ls st G mi Q := ok_nx h rfl rfl
theorem kk_ifnull_n (h : cd y pc = some (npc, .ifnull off, [n])) {t : Nat} (ht : n.toNat = t) : Ok d y pc ls (pR none :: st) G mi Q = Ok d y t ls st G mi Q := by subst ht; exact ok_nx h rfl rfl
theorem kk_ifnonnull_s (h : cd y pc = some (npc, .ifnonnull off, [n])) {t : Nat} (ht : n.toNat = t) : Ok d y pc ls (pR (some o) :: st) G mi Q = Ok d y t ls st G mi Q := by subst ht; exact ok_nx h rfl rfl
theorem kk_ifnonnull_n (h : cd y pc = some (npc, .ifnonnull off, [n])) : Ok d y pc ls (pR none :: st) G mi Q = Ok d y npc ls st G mi Q := ok_nx h rfl rfl
def swO (P : Nat → Prop) (x d : Int) : List Int → Prop
  | v :: t :: r => if x = v then P t.toNat else swO P x d r
  | _ => P d.toNat
theorem swO_eq (P : Nat → Prop) (x d : Int) : ∀ (m : Nat) (l : List Int), l.length ≤ m → P (swL x d l).toNat = swO P x d l := by
  intro m
  induction m with
  | zero =>
    intro l hl
    cases l with
    | nil => rfl
    | cons a l => simp at hl
  | succ m ih =>
    intro l hl
    match l, hl with
    | [], _ => rfl
    | [a], _ => rfl
    | a :: t :: r, hl =>
      simp only [swL, swO]
      by_cases hx : x = a
      · rw [if_pos hx, if_pos hx]
      · rw [if_neg hx, if_neg hx]
        exact ih r (by simp at hl; omega)
theorem kk_tsw {a b : Int} {offs : Array Int} {e : Int} (h : cd y pc = some (npc, .tableswitch off a b offs, e :: aux)) : Ok d y pc ls (pI v :: st) G mi Q = swO (fun t => Ok d y t ls st G mi Q) v e aux := by
  rw [← swO_eq (fun t => Ok d y t ls st G mi Q) v e aux.length aux (Nat.le_refl _)]
  exact ok_nx h rfl rfl
theorem kk_lsw {ps : Array (Int × Int)} {e : Int} (h : cd y pc = some (npc, .lookupswitch off ps, e :: aux)) : Ok d y pc ls (pI v :: st) G mi Q = swO (fun t => Ok d y t ls st G mi Q) v e aux := by
  rw [← swO_eq (fun t => Ok d y t ls st G mi Q) v e aux.length aux (Nat.le_refl _)]
  exact ok_nx h rfl rfl
theorem kk_gfi (h : cd y pc = some (npc, .getfield i, n :: 0 :: aux)) (hk : ((gK G o).1 : Int) ∈ aux) : Ok d y pc ls (pR (some o) :: st) G mi Q = Ok d y npc ls (pI (mi o n) :: st) G mi Q := ok_nx h rfl (by simp only [sI, List.drop_succ_cons, List.drop_zero, hk, if_true, a0, a1, List.getD_cons_zero, List.getD_cons_succ]; rfl)
theorem kk_gfz (h : cd y pc = some (npc, .getfield i, n :: 2 :: aux)) (hk : ((gK G o).1 : Int) ∈ aux) : Ok d y pc ls (pR (some o) :: st) G mi Q = Ok d y npc ls (pI (mi o n) :: st) G mi Q := ok_nx h rfl (by simp only [sI, List.drop_succ_cons, List.drop_zero, hk, if_true, a0, a1, List.getD_cons_zero, List.getD_cons_succ]; rfl)
theorem kk_gfr (h : cd y pc = some (npc, .getfield i, n :: 1 :: aux)) (hk : ((gK G o).1 : Int) ∈ aux) : Ok d y pc ls (pR (some o) :: st) G mi Q = Ok d y npc ls (pR (gR G o n) :: st) G mi Q := ok_nx h rfl (by simp only [sI, List.drop_succ_cons, List.drop_zero, hk, if_true, a0, a1, List.getD_cons_zero, List.getD_cons_succ]; rfl)
theorem kk_gfv {e : Nat} (h : cd y pc = some (npc, .getfield i, 0 :: 3 :: aux)) (he : rcv G (pE e) = 500) : Ok d y pc ls (pE e :: st) G mi Q = Ok d y npc ls (pE (e + 1) :: st) G mi Q := ok_nx h rfl (by simp only [sI, he, a1, List.getD_cons_zero, List.getD_cons_succ, and_self, if_true]; rfl)
theorem kk_gfc {e : Nat} (h : cd y pc = some (npc, .getfield i, 0 :: 4 :: aux)) (he : rcv G (pE e) = 500) : Ok d y pc ls (pE e :: st) G mi Q = Ok d y npc ls (pI 0 :: st) G mi Q := ok_nx h rfl (by simp only [sI, he, a1, List.getD_cons_zero, List.getD_cons_succ]; rfl)
theorem kk_pfi (h : cd y pc = some (npc, .putfield i, n :: 0 :: aux)) (hk : ((gK G o).1 : Int) ∈ aux) : Ok d y pc ls (pI v :: pR (some o) :: st) G mi Q = Ok d y npc ls st G (up mi o n v) Q := ok_nx h rfl (by simp only [sI, List.drop_succ_cons, List.drop_zero, hk, a0, a1, List.getD_cons_zero, List.getD_cons_succ, true_and, true_or, if_true]; rfl)
theorem kk_pfz (h : cd y pc = some (npc, .putfield i, n :: 2 :: aux)) (hk : ((gK G o).1 : Int) ∈ aux) (h0 : 0 ≤ v) (h1 : v ≤ 1) : Ok d y pc ls (pI v :: pR (some o) :: st) G mi Q = Ok d y npc ls st G (up mi o n v) Q := ok_nx h rfl (by simp only [sI, List.drop_succ_cons, List.drop_zero, hk, h0, h1, a0, a1, List.getD_cons_zero, List.getD_cons_succ, true_and, and_self, or_true, if_true]; rfl)
theorem kk_pfr {r : Option Nat} (h : cd y pc = some (npc, .putfield i, n :: 1 :: aux)) (hk : ((gK G o).1 : Int) ∈ aux) : Ok d y pc ls (pR r :: pR (some o) :: st) G mi Q = Ok d y npc ls st (setR G o n r) mi Q := ok_nx h rfl (by simp only [sI, List.drop_succ_cons, List.drop_zero, hk, a0, a1, List.getD_cons_zero, List.getD_cons_succ, and_self, if_true]; rfl)
theorem kk_gs0 (h : cd y pc = some (npc, .getstatic i, [0])) : Ok d y pc ls st G mi Q = Ok d y npc ls (pI 1 :: st) G mi Q := ok_nx h rfl rfl
theorem kk_gs1 (h : cd y pc = some (npc, .getstatic i, [1])) : Ok d y pc ls st G mi Q = Ok d y npc ls (pE 1000 :: st) G mi Q := ok_nx h rfl rfl
theorem kk_alen (h : cd y pc = some (npc, .arraylength, [])) (hk : 20 ≤ (gK G o).1) : Ok d y pc ls (pR (some o) :: st) G mi Q = Ok d y npc ls (pI (gK G o).2 :: st) G mi Q := ok_nx h rfl (by simp only [sI, hk, if_true]; rfl)
theorem kk_alenS (h : cd y pc = some (npc, .arraylength, [])) : Ok d y pc ls (pE 0 :: st) G mi Q = Ok d y npc ls (pI (gL G) :: st) G mi Q := ok_nx h rfl rfl
theorem kk_alenB {e : Nat} (h : cd y pc = some (npc, .arraylength, [])) (h0 : ¬ e = 0) (h1 : e % 2 = 0) (h2 : e ≤ 2 * sTexts.length) : Ok d y pc ls (pE e :: st) G mi Q = Ok d y npc ls (pI (sBytes (e / 2 - 1)).length :: st) G mi Q := ok_nx h rfl (by simp only [sI, h0, h1, h2, if_false, and_self, if_true]; rfl)
theorem kk_iald (h : cd y pc = some (npc, .iaload, [])) (hk : (gK G o).1 = 20) (h0 : 0 ≤ v) (h1 : v < (gK G o).2) : Ok d y pc ls (pI v :: pR (some o) :: st) G mi Q = Ok d y npc ls (pI (mi o v) :: st) G mi Q := ok_nx h rfl (by simp only [sI, hk, h0, h1, and_self, if_true]; rfl)
theorem kk_ialdS (h : cd y pc = some (npc, .iaload, [])) (h0 : 0 ≤ v) (h1 : v < gL G) : Ok d y pc ls (pI v :: pE 0 :: st) G mi Q = Ok d y npc ls (pI (gX G v) :: st) G mi Q := ok_nx h rfl (by simp only [sI, h0, h1, and_self, if_true]; rfl)
theorem kk_bald (h : cd y pc = some (npc, .baload, [])) (hk : (gK G o).1 = 21) (h0 : 0 ≤ v) (h1 : v < (gK G o).2) : Ok d y pc ls (pI v :: pR (some o) :: st) G mi Q = Ok d y npc ls (pI (mi o v) :: st) G mi Q := ok_nx h rfl (by simp only [sI, hk, h0, h1, and_self, if_true]; rfl)
theorem kk_baldB {e : Nat} (h : cd y pc = some (npc, .baload, [])) (h4 : 0 < e) (h3 : e % 2 = 0) (h2 : e ≤ 2 * sTexts.length) (h0 : 0 ≤ v) (h1 : v < (sBytes (e / 2 - 1)).length) : Ok d y pc ls (pI v :: pE e :: st) G mi Q = Ok d y npc ls (pI ((sBytes (e / 2 - 1)).getD v.toNat 0) :: st) G mi Q := ok_nx h rfl (by simp only [sI, h0, h1, h2, h3, h4, and_self, if_true]; rfl)
theorem kk_aald (h : cd y pc = some (npc, .aaload, [])) (hk : (gK G o).1 = 22) (h0 : 0 ≤ v) (h1 : v < (gK G o).2) : Ok d y pc ls (pI v :: pR (some o) :: st) G mi Q = Ok d y npc ls (pR (gR G o v) :: st) G mi Q := ok_nx h rfl (by simp only [sI, hk, h0, h1, and_self, if_true]; rfl)
theorem kk_iast (h : cd y pc = some (npc, .iastore, [])) (hk : (gK G o).1 = 20) (h0 : 0 ≤ v) (h1 : v < (gK G o).2) : Ok d y pc ls (pI w :: pI v :: pR (some o) :: st) G mi Q = Ok d y npc ls st G (up mi o v w) Q := ok_nx h rfl (by simp only [sI, hk, h0, h1, and_self, if_true]; rfl)
theorem kk_bast (h : cd y pc = some (npc, .bastore, [])) (hk : (gK G o).1 = 21) (h0 : 0 ≤ v) (h1 : v < (gK G o).2) (h2 : 0 ≤ w) (h3 : w ≤ 1) : Ok d y pc ls (pI w :: pI v :: pR (some o) :: st) G mi Q = Ok d y npc ls st G (up mi o v w) Q := ok_nx h rfl (by simp only [sI, hk, h0, h1, h2, h3, and_self, if_true]; rfl)
theorem kk_aast {r : Option Nat} (h : cd y pc = some (npc, .aastore, [])) (hk : (gK G o).1 = 22) (h0 : 0 ≤ v) (h1 : v < (gK G o).2) (h2 : thgO G r = true) : Ok d y pc ls (pR r :: pI v :: pR (some o) :: st) G mi Q = Ok d y npc ls st (setR G o v r) mi Q := ok_nx h rfl (by simp only [sI, hk, h0, h1, h2, and_self, if_true]; rfl)
theorem kk_new {a b : Int} (h : cd y pc = some (npc, .new i, [a, b])) {A B : Nat} (ha : a.toNat = A) (hb : b.toNat = B) : Ok d y pc ls st G mi Q = Ok d y npc ls (pR (some (gN G)) :: st) (newG G (A, 0) B) (newM G mi) Q := by subst ha; subst hb; exact ok_nx h rfl rfl
theorem kk_newa {t : ClassFile.ArrayType} {a : Int} (h : cd y pc = some (npc, .newarray t, [a])) {A : Nat} (ha : a.toNat = A) (h0 : 0 ≤ v) (h1 : v < 100000) : Ok d y pc ls (pI v :: st) G mi Q = Ok d y npc ls (pR (some (gN G)) :: st) (newG G (A, v.toNat) v.toNat) (newM G mi) Q := by subst ha; exact ok_nx h rfl (by simp only [sI, op1, h0, h1, and_self, if_true]; rfl)
theorem kk_anewa (h : cd y pc = some (npc, .anewarray i, [])) (h0 : 0 ≤ v) (h1 : v < 100000) : Ok d y pc ls (pI v :: st) G mi Q = Ok d y npc ls (pR (some (gN G)) :: st) (newG G (22, v.toNat) v.toNat) (newM G mi) Q := ok_nx h rfl (by simp only [sI, op1, h0, h1, and_self, if_true]; rfl)
theorem kk_inst (h : cd y pc = some (npc, .instanceof i, aux)) (hk : thg (gK G o).1 = true) : Ok d y pc ls (pR (some o) :: st) G mi Q = Ok d y npc ls (pI (if ((gK G o).1 : Int) ∈ aux then 1 else 0) :: st) G mi Q := ok_nx h rfl (by simp only [sI, hk, if_true]; rfl)
theorem kk_objI (h : cd y pc = some (npc, .invokespecial i, [0])) (hl : rOK st = true) : Ok (d + 1) y pc ls (pR (some o) :: st) G mi Q = Ok (d + 1) y npc ls st G mi Q := ok_nx h rfl (by simp only [sI, a0, List.getD_cons_zero, if_true, hl, Nat.le_add_left, and_self, nx])
theorem kk_spc {a b : Int} {st0 : List PV} {t : PV × List PV × List PV} (h : cd y pc = some (npc, .invokespecial i, 1 :: a :: b :: aux)) (ht : takeA a.toNat st0 = (t.2.1, t.1 :: t.2.2)) (hr : isR t.1 = true) (hl : rOK t.2.2 = true) : Ok (d + 1) y pc ls st0 G mi Q = OkC d b.toNat (t.1 :: t.2.1) G mi (fun r G' mi' => Ok (d + 1) y npc ls (pu r t.2.2) G' mi' Q) :=
  ok_call h rfl (by simp only [sI, a0, a1, a2, List.getD_cons_zero, List.getD_cons_succ, ht, hr, hl, true_or, and_self, if_true]; rfl)
theorem kk_sup {a b : Int} {st0 : List PV} {t : PV × List PV × List PV} (h : cd y pc = some (npc, .invokespecial i, 2 :: a :: b :: aux)) (ht : takeA a.toNat st0 = (t.2.1, t.1 :: t.2.2)) (hr : isR t.1 = true) (hc : rcv G t.1 ∈ aux) (hl : rOK t.2.2 = true) : Ok (d + 1) y pc ls st0 G mi Q = OkC d b.toNat (t.1 :: t.2.1) G mi (fun r G' mi' => Ok (d + 1) y npc ls (pu r t.2.2) G' mi' Q) :=
  ok_call h rfl (by simp only [sI, a0, a1, a2, List.getD_cons_zero, List.getD_cons_succ, ht, hr, hl, hc, List.drop_succ_cons, List.drop_zero, or_true, and_self, if_true]; rfl)
theorem kk_sta {a b e : Int} {st0 : List PV} {t : List PV × List PV} (h : cd y pc = some (npc, .invokestatic i, e :: a :: b :: aux)) (he : e = 0 ∨ e = 1) (ht : takeA a.toNat st0 = t) (hs : a.toNat ≤ st0.length) (hl : rOK t.2 = true) : Ok (d + 1) y pc ls st0 G mi Q = OkC d b.toNat t.1 G mi (fun r G' mi' => Ok (d + 1) y npc ls (pu r t.2) G' mi' Q) := by
  subst ht
  refine ok_call h rfl ?_
  rcases he with rfl | rfl <;> simp [sI, a0, a1, a2, hs, hl]
theorem kk_max (h : cd y pc = some (npc, .invokestatic i, [2])) (hl : rOK st = true) : Ok (d + 1) y pc ls (pI w :: pI v :: st) G mi Q = Ok (d + 1) y npc ls (pI (if v < w then w else v) :: st) G mi Q := ok_nx h rfl (by simp only [sI, a0, List.getD_cons_zero, if_true, op2, hl, Nat.le_add_left, and_self, nx])
theorem kk_min (h : cd y pc = some (npc, .invokestatic i, [3])) (hl : rOK st = true) : Ok (d + 1) y pc ls (pI w :: pI v :: st) G mi Q = Ok (d + 1) y npc ls (pI (if w < v then w else v) :: st) G mi Q := ok_nx h rfl (by simp [sI, a0, op2, hl, nx])
theorem kk_abs (h : cd y pc = some (npc, .invokestatic i, [4])) (hl : rOK st = true) : Ok (d + 1) y pc ls (pI v :: st) G mi Q = Ok (d + 1) y npc ls (pI (if 0 ≤ v then v else wr (0 - v)) :: st) G mi Q := ok_nx h rfl (by simp [sI, a0, op1, hl, nx])
theorem kk_copy {a b : Nat} {sp dp : Int} (h : cd y pc = some (npc, .invokestatic i, [5])) (hl : rOK st = true) (ha : (gK G a).1 = 20) (hb : (gK G b).1 = 20) (hab : a ≠ b) (h1 : 0 ≤ sp) (h2 : 0 ≤ dp) (h3 : 0 ≤ n) (h4 : sp + n ≤ (gK G a).2) (h5 : dp + n ≤ (gK G b).2) : Ok (d + 1) y pc ls (pI n :: pI dp :: pR (some b) :: pI sp :: pR (some a) :: st) G mi Q = Ok (d + 1) y npc ls st G (cpy mi a sp b dp n) Q :=
  ok_nx h rfl (by simp [sI, a0, hl, nx, ha, hb, hab, h1, h2, h3, h4, h5])
theorem kk_vir {a : Int} {st0 : List PV} {t : PV × List PV × List PV} {z : Int} (h : cd y pc = some (npc, .invokevirtual i, a :: aux)) (ht : takeA a.toNat st0 = (t.2.1, t.1 :: t.2.2)) (hc : dsp (rcv G t.1) aux = some z) (hl : rOK t.2.2 = true) : Ok (d + 1) y pc ls st0 G mi Q = OkC d z.toNat (t.1 :: t.2.1) G mi (fun r G' mi' => Ok (d + 1) y npc ls (pu r t.2.2) G' mi' Q) :=
  ok_call h rfl (by simp only [sI, ia, a0, List.getD_cons_zero, ht, List.drop_succ_cons, List.drop_zero, hc, hl, if_true])
theorem kk_iret (h : cd y pc = some (npc, .ireturn, aux)) (hr : retOk (mY y).2.2.2 v = true) : Ok d y pc ls [pI v] G mi Q = Q (some (pI v)) G mi := ok_ret h rfl (by simp only [retv, h, hr, if_true])
theorem kk_lret (h : cd y pc = some (npc, .lreturn, aux)) : Ok d y pc ls [pL v] G mi Q = Q (some (pL v)) G mi := ok_ret h rfl (by simp only [retv, h])
theorem kk_aret {r : Option Nat} (h : cd y pc = some (npc, .areturn, aux)) : Ok d y pc ls [pR r] G mi Q = Q (some (pR r)) G mi := ok_ret h rfl (by simp only [retv, h])
theorem kk_vret (h : cd y pc = some (npc, .return_, aux)) : Ok d y pc ls [] G mi Q = Q none G mi := ok_ret h rfl (by simp only [retv, h])
theorem kk_ent {as : List PV} {K : Option PV → Gh → Mi → Prop} {m : Nat} {ls : Lcs} (h : maxLY y = m) (hl : (ent as).length ≤ m) (hi : ent as ++ List.replicate (m - (ent as).length) none = ls) : OkC d y as G mi K = Ok d y 0 ls [] G mi K := by
  subst h; subst hi
  exact propext ⟨fun h => h.2, fun h => ⟨hl, h⟩⟩
end KK
