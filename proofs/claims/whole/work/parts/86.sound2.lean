/-! ===== one row for each instruction that is no call: the next state's walk gives this one's (written by wip/whole/gen/gensound2.py) ===== -/
theorem tdiv_in64 {x y : Int} (hx : in64 x) (h : 0 < y) : in64 (x.tdiv y) := by
  unfold in64 at hx ⊢
  rcases Int.le_total 0 x with h0 | h0
  · rw [Int.tdiv_eq_ediv_of_nonneg h0]
    have h1 := Int.ediv_nonneg h0 (Int.le_of_lt h)
    have h2 := Int.ediv_le_self y h0
    omega
  · have e : x.tdiv y = -((-x).tdiv y) := by rw [Int.neg_tdiv, Int.neg_neg]
    rw [e, Int.tdiv_eq_ediv_of_nonneg (by omega : 0 ≤ -x)]
    have h1 := Int.ediv_nonneg (by omega : 0 ≤ -x) (Int.le_of_lt h)
    have h2 := Int.ediv_le_self y (by omega : 0 ≤ -x)
    omega
theorem tmod_in64 {x y : Int} (hx : in64 x) (h : 0 < y) : in64 (x.tmod y) := by
  unfold in64 at hx ⊢
  rcases Int.le_total 0 x with h0 | h0
  · rw [Int.tmod_eq_emod_of_nonneg h0]
    have h1 := Int.emod_nonneg x (by omega : y ≠ 0)
    have h2 := em_le h0 h
    omega
  · have e : x.tmod y = -((-x).tmod y) := by rw [Int.neg_tmod, Int.neg_neg]
    rw [e, Int.tmod_eq_emod_of_nonneg (by omega : 0 ≤ -x)]
    have h1 := Int.emod_nonneg (-x) (by omega : y ≠ 0)
    have h2 := em_le (by omega : 0 ≤ -x) h
    omega
theorem of_tdivL {x y : Int} (hx : in64 x) (hy : in64 y) (h : 0 < y) : Int64.ofInt x / Int64.ofInt y = Int64.ofInt (x.tdiv y) := by
  rw [Int64.ofInt_tdiv (show (-9223372036854775808 : Int) ≤ x from hx.1) (show x ≤ (9223372036854775807 : Int) from hx.2) (show (-9223372036854775808 : Int) ≤ y from hy.1) (show y ≤ (9223372036854775807 : Int) from hy.2)]
def WC (X : Cx) (p : Program) (l : Launch) (e : Env) (R : Room) (s : State) (m : MethodId) (args : Array Value) (below : List Frame) (meth : Method) (c : Code) (Q : State → Prop) (nL pc : Nat) (L : Lcs) (st : List PV) (G : Gh) (mi : Mi) (cells slots : Nat) : Prop :=
  ∀ (ls : Array Slot) (H : Heap) (locs : List Loc), Inv X G mi s H locs → LR X nL ls L → okL L → (∀ v ∈ st, okV v) → W p l e R s m args below meth c H locs cells slots Q (F0 m pc ls (st.map (trV X)))
section ST
variable {X : Cx} {p : Program} {l : Launch} {e : Env} {R : Room} {s : State} {m : MethodId} {args : Array Value} {below : List Frame} {meth : Method} {c : Code} {cc : ByteArray} {Q : State → Prop} {nL pc tgt i : Nat} {L : Lcs} {st : List PV} {G : Gh} {mi : Mi} {cells slots : Nat} {a b n off : Int}
theorem st_iconst (hx : p.tables.exec = Jvm.exec) (hb : c.code = cc) (hE : EnvU X s s.heap) (hn : in32 n) (hd : decode cc pc = .ok (.iconst n, 1))
    (k : WC X p l e R s m args below meth c Q nL (pc + 1) (L) (pI n :: st) (G) (mi) (cells) (slots)) : WC X p l e R s m args below meth c Q nL (pc) (L) (st) (G) (mi) (cells) (slots) := by
  intro ls H locs hI hL hO hS
  exact lv_iconst hx hb hd rfl (k ls H locs hI hL hO (List.forall_mem_cons.mpr ⟨hn, hS⟩))
theorem st_bipush (hx : p.tables.exec = Jvm.exec) (hb : c.code = cc) (hE : EnvU X s s.heap) (hn : in32 n) (hv : (Int8.ofInt n).toInt32 = Int32.ofInt n) (hd : decode cc pc = .ok (.bipush n, 2))
    (k : WC X p l e R s m args below meth c Q nL (pc + 2) (L) (pI n :: st) (G) (mi) (cells) (slots)) : WC X p l e R s m args below meth c Q nL (pc) (L) (st) (G) (mi) (cells) (slots) := by
  intro ls H locs hI hL hO hS
  exact lv_bipush hx hb hd hv (k ls H locs hI hL hO (List.forall_mem_cons.mpr ⟨hn, hS⟩))
theorem st_sipush (hx : p.tables.exec = Jvm.exec) (hb : c.code = cc) (hE : EnvU X s s.heap) (hn : in32 n) (hv : (Int16.ofInt n).toInt32 = Int32.ofInt n) (hd : decode cc pc = .ok (.sipush n, 3))
    (k : WC X p l e R s m args below meth c Q nL (pc + 3) (L) (pI n :: st) (G) (mi) (cells) (slots)) : WC X p l e R s m args below meth c Q nL (pc) (L) (st) (G) (mi) (cells) (slots) := by
  intro ls H locs hI hL hO hS
  exact lv_sipush hx hb hd hv (k ls H locs hI hL hO (List.forall_mem_cons.mpr ⟨hn, hS⟩))
theorem st_lconst (hx : p.tables.exec = Jvm.exec) (hb : c.code = cc) (hE : EnvU X s s.heap) {z : Fin 2} (hz : Int64.ofNat z.val = Int64.ofInt n) (hn : in64 n) (hd : decode cc pc = .ok (.lconst z, 1))
    (k : WC X p l e R s m args below meth c Q nL (pc + 1) (L) (pL n :: st) (G) (mi) (cells) (slots)) : WC X p l e R s m args below meth c Q nL (pc) (L) (st) (G) (mi) (cells) (slots) := by
  intro ls H locs hI hL hO hS
  exact lv_lconst hx hb hd hz (k ls H locs hI hL hO (List.forall_mem_cons.mpr ⟨hn, hS⟩))
theorem st_null (hx : p.tables.exec = Jvm.exec) (hb : c.code = cc) (hE : EnvU X s s.heap)  (hd : decode cc pc = .ok (.aconst_null, 1))
    (k : WC X p l e R s m args below meth c Q nL (pc + 1) (L) (pR none :: st) (G) (mi) (cells) (slots)) : WC X p l e R s m args below meth c Q nL (pc) (L) (st) (G) (mi) (cells) (slots) := by
  intro ls H locs hI hL hO hS
  exact lv_null hx hb hd (k ls H locs hI hL hO (List.forall_mem_cons.mpr ⟨trivial, hS⟩))
theorem st_ldci (hx : p.tables.exec = Jvm.exec) (hb : c.code = cc) (hE : EnvU X s s.heap) {own : String} (hown : s.vm.findClass own = some m.cls) (hc : (Cond.constant own i (Int32.ofInt n)).before args s = true) (hn : in32 n) (hd : decode cc pc = .ok (.ldc i, 2))
    (k : WC X p l e R s m args below meth c Q nL (pc + 2) (L) (pI n :: st) (G) (mi) (cells) (slots)) : WC X p l e R s m args below meth c Q nL (pc) (L) (st) (G) (mi) (cells) (slots) := by
  intro ls H locs hI hL hO hS
  exact lv_ldc hx hb hown hc hd (k ls H locs hI hL hO (List.forall_mem_cons.mpr ⟨hn, hS⟩))
theorem st_ldcs (hx : p.tables.exec = Jvm.exec) (hb : c.code = cc) (hE : EnvU X s s.heap) {own tx : String} {q : Nat} (hown : s.vm.findClass own = some m.cls) (hq : (own, i, tx, q) ∈ strL) (hl : q < sTexts.length) (hd : decode cc pc = .ok (.ldc i, 2))
    (k : WC X p l e R s m args below meth c Q nL (pc + 2) (L) (pE (2 * q + 1) :: st) (G) (mi) (cells) (slots)) : WC X p l e R s m args below meth c Q nL (pc) (L) (st) (G) (mi) (cells) (slots) := by
  intro ls H locs hI hL hO hS
  have hv : trV X (pE (2 * q + 1)) = .ref (xK X q) := by
    show evX X (2 * q + 1) = _
    unfold evX
    rw [if_neg (by omega), if_pos (by omega), show (2 * q + 1) / 2 = q by omega]
  have kk := k ls H locs hI hL hO (List.forall_mem_cons.mpr ⟨trivial, hS⟩)
  rw [List.map_cons, hv] at kk
  exact va_ldcS hx hb hown (hE.2.2.2.1 _ hq) hd kk
theorem st_ldc2 (hx : p.tables.exec = Jvm.exec) (hb : c.code = cc) (hE : EnvU X s s.heap) {own : String} (hown : s.vm.findClass own = some m.cls) (hc : (Cond.constantLong own i (Int64.ofInt n)).before args s = true) (hn : in64 n) (hd : decode cc pc = .ok (.ldc2_w i, 3))
    (k : WC X p l e R s m args below meth c Q nL (pc + 3) (L) (pL n :: st) (G) (mi) (cells) (slots)) : WC X p l e R s m args below meth c Q nL (pc) (L) (st) (G) (mi) (cells) (slots) := by
  intro ls H locs hI hL hO hS
  exact lv_ldc2 hx hb hown hc hd (k ls H locs hI hL hO (List.forall_mem_cons.mpr ⟨hn, hS⟩))
theorem st_iload_n (hx : p.tables.exec = Jvm.exec) (hb : c.code = cc) (hE : EnvU X s s.heap) {z : Fin 4} (hz : z.val = i) (hl : lg L i = some (pI a)) (hd : decode cc pc = .ok (.iload_n z, 1))
    (k : WC X p l e R s m args below meth c Q nL (pc + 1) (L) (pI a :: st) (G) (mi) (cells) (slots)) : WC X p l e R s m args below meth c Q nL (pc) (L) (st) (G) (mi) (cells) (slots) := by
  intro ls H locs hI hL hO hS
  exact lv_iload_n hx hb hd hz (hL.at hl) (k ls H locs hI hL hO (List.forall_mem_cons.mpr ⟨hO i _ hl, hS⟩))
theorem st_iload (hx : p.tables.exec = Jvm.exec) (hb : c.code = cc) (hE : EnvU X s s.heap) (hl : lg L i = some (pI a)) (hd : decode cc pc = .ok (.iload i, 2))
    (k : WC X p l e R s m args below meth c Q nL (pc + 2) (L) (pI a :: st) (G) (mi) (cells) (slots)) : WC X p l e R s m args below meth c Q nL (pc) (L) (st) (G) (mi) (cells) (slots) := by
  intro ls H locs hI hL hO hS
  exact lv_iload hx hb hd (hL.at hl) (k ls H locs hI hL hO (List.forall_mem_cons.mpr ⟨hO i _ hl, hS⟩))
theorem st_lload_n (hx : p.tables.exec = Jvm.exec) (hb : c.code = cc) (hE : EnvU X s s.heap) {z : Fin 4} (hz : z.val = i) (hl : lg L i = some (pL a)) (hd : decode cc pc = .ok (.lload_n z, 1))
    (k : WC X p l e R s m args below meth c Q nL (pc + 1) (L) (pL a :: st) (G) (mi) (cells) (slots)) : WC X p l e R s m args below meth c Q nL (pc) (L) (st) (G) (mi) (cells) (slots) := by
  intro ls H locs hI hL hO hS
  exact lv_lload_n hx hb hd hz (hL.at hl) (k ls H locs hI hL hO (List.forall_mem_cons.mpr ⟨hO i _ hl, hS⟩))
theorem st_lload (hx : p.tables.exec = Jvm.exec) (hb : c.code = cc) (hE : EnvU X s s.heap) (hl : lg L i = some (pL a)) (hd : decode cc pc = .ok (.lload i, 2))
    (k : WC X p l e R s m args below meth c Q nL (pc + 2) (L) (pL a :: st) (G) (mi) (cells) (slots)) : WC X p l e R s m args below meth c Q nL (pc) (L) (st) (G) (mi) (cells) (slots) := by
  intro ls H locs hI hL hO hS
  exact lv_lload hx hb hd (hL.at hl) (k ls H locs hI hL hO (List.forall_mem_cons.mpr ⟨hO i _ hl, hS⟩))
theorem st_aload_n (hx : p.tables.exec = Jvm.exec) (hb : c.code = cc) (hE : EnvU X s s.heap) {z : Fin 4} (hz : z.val = i) {r : Option Nat ⊕ Nat} (hl : lg L i = some (.inr (.inr r))) (hd : decode cc pc = .ok (.aload_n z, 1))
    (k : WC X p l e R s m args below meth c Q nL (pc + 1) (L) (.inr (.inr r) :: st) (G) (mi) (cells) (slots)) : WC X p l e R s m args below meth c Q nL (pc) (L) (st) (G) (mi) (cells) (slots) := by
  intro ls H locs hI hL hO hS
  have h1 := hL.at hl
  have kk := k ls H locs hI hL hO (List.forall_mem_cons.mpr ⟨trivial, hS⟩)
  rw [List.map_cons] at kk
  rcases trR_ref hE r with h | ⟨q, h⟩
  · rw [h] at h1 kk
    exact lv_aload_nN hx hb hd hz h1 kk
  · rw [h] at h1 kk
    exact lv_aload_n hx hb hd hz h1 kk
theorem st_aload (hx : p.tables.exec = Jvm.exec) (hb : c.code = cc) (hE : EnvU X s s.heap) {r : Option Nat ⊕ Nat} (hl : lg L i = some (.inr (.inr r))) (hd : decode cc pc = .ok (.aload i, 2))
    (k : WC X p l e R s m args below meth c Q nL (pc + 2) (L) (.inr (.inr r) :: st) (G) (mi) (cells) (slots)) : WC X p l e R s m args below meth c Q nL (pc) (L) (st) (G) (mi) (cells) (slots) := by
  intro ls H locs hI hL hO hS
  have h1 := hL.at hl
  have kk := k ls H locs hI hL hO (List.forall_mem_cons.mpr ⟨trivial, hS⟩)
  rw [List.map_cons] at kk
  rcases trR_ref hE r with h | ⟨q, h⟩
  · rw [h] at h1 kk
    exact lv_aloadN hx hb hd h1 kk
  · rw [h] at h1 kk
    exact lv_aload hx hb hd h1 kk
theorem st_istore_n (hx : p.tables.exec = Jvm.exec) (hb : c.code = cc) (hE : EnvU X s s.heap) {z : Fin 4} (hz : z.val = i) (hs : okSt L i = true) (hi : i < L.length) (hd : decode cc pc = .ok (.istore_n z, 1))
    (k : WC X p l e R s m args below meth c Q nL (pc + 1) (L.set i (some (pI a))) (st) (G) (mi) (cells) (slots)) : WC X p l e R s m args below meth c Q nL (pc) (L) (pI a :: st) (G) (mi) (cells) (slots) := by
  intro ls H locs hI hL hO hS
  have hS' := List.forall_mem_cons.mp hS
  exact lv_istore_n (x := Int32.ofInt a) hx hb hd hz hL.1 (by rw [← hL.2]; exact hi) rfl (fun ls' h' => k ls' H locs hI (LR.store hE hL rfl hs hi h') (hO.set hS'.1) hS'.2)
theorem st_istore (hx : p.tables.exec = Jvm.exec) (hb : c.code = cc) (hE : EnvU X s s.heap) (hs : okSt L i = true) (hi : i < L.length) (hd : decode cc pc = .ok (.istore i, 2))
    (k : WC X p l e R s m args below meth c Q nL (pc + 2) (L.set i (some (pI a))) (st) (G) (mi) (cells) (slots)) : WC X p l e R s m args below meth c Q nL (pc) (L) (pI a :: st) (G) (mi) (cells) (slots) := by
  intro ls H locs hI hL hO hS
  have hS' := List.forall_mem_cons.mp hS
  exact lv_istore (x := Int32.ofInt a) hx hb hd hL.1 (by rw [← hL.2]; exact hi) rfl (fun ls' h' => k ls' H locs hI (LR.store hE hL rfl hs hi h') (hO.set hS'.1) hS'.2)
theorem st_astore_n (hx : p.tables.exec = Jvm.exec) (hb : c.code = cc) (hE : EnvU X s s.heap) {z : Fin 4} (hz : z.val = i) {r : Option Nat ⊕ Nat} (hs : okSt L i = true) (hi : i < L.length) (hd : decode cc pc = .ok (.astore_n z, 1))
    (k : WC X p l e R s m args below meth c Q nL (pc + 1) (L.set i (some (.inr (.inr r)))) (st) (G) (mi) (cells) (slots)) : WC X p l e R s m args below meth c Q nL (pc) (L) (.inr (.inr r) :: st) (G) (mi) (cells) (slots) := by
  intro ls H locs hI hL hO hS
  have hS' := List.forall_mem_cons.mp hS
  rw [List.map_cons]
  rcases trR_ref hE r with h | ⟨q, h⟩
  · rw [h]
    exact lv_astore_nN hx hb hd hz hL.1 (by rw [← hL.2]; exact hi) rfl (fun ls' h' => k ls' H locs hI (LR.store hE hL h hs hi h') (hO.set hS'.1) hS'.2)
  · rw [h]
    exact lv_astore_n hx hb hd hz hL.1 (by rw [← hL.2]; exact hi) rfl (fun ls' h' => k ls' H locs hI (LR.store hE hL h hs hi h') (hO.set hS'.1) hS'.2)
theorem st_astore (hx : p.tables.exec = Jvm.exec) (hb : c.code = cc) (hE : EnvU X s s.heap) {r : Option Nat ⊕ Nat} (hs : okSt L i = true) (hi : i < L.length) (hd : decode cc pc = .ok (.astore i, 2))
    (k : WC X p l e R s m args below meth c Q nL (pc + 2) (L.set i (some (.inr (.inr r)))) (st) (G) (mi) (cells) (slots)) : WC X p l e R s m args below meth c Q nL (pc) (L) (.inr (.inr r) :: st) (G) (mi) (cells) (slots) := by
  intro ls H locs hI hL hO hS
  have hS' := List.forall_mem_cons.mp hS
  rw [List.map_cons]
  rcases trR_ref hE r with h | ⟨q, h⟩
  · rw [h]
    exact lv_astoreN hx hb hd hL.1 (by rw [← hL.2]; exact hi) rfl (fun ls' h' => k ls' H locs hI (LR.store hE hL h hs hi h') (hO.set hS'.1) hS'.2)
  · rw [h]
    exact lv_astore hx hb hd hL.1 (by rw [← hL.2]; exact hi) rfl (fun ls' h' => k ls' H locs hI (LR.store hE hL h hs hi h') (hO.set hS'.1) hS'.2)
theorem st_lstore_n (hx : p.tables.exec = Jvm.exec) (hb : c.code = cc) (hE : EnvU X s s.heap) {z : Fin 4} (hz : z.val = i) (hs : okSt L i = true) (hi : i + 1 < L.length) (hd : decode cc pc = .ok (.lstore_n z, 1))
    (k : WC X p l e R s m args below meth c Q nL (pc + 1) ((L.set i (some (pL a))).set (i + 1) none) (st) (G) (mi) (cells) (slots)) : WC X p l e R s m args below meth c Q nL (pc) (L) (pL a :: st) (G) (mi) (cells) (slots) := by
  intro ls H locs hI hL hO hS
  have hS' := List.forall_mem_cons.mp hS
  exact lv_lstore_n (x := Int64.ofInt a) hx hb hd hz hL.1 (by rw [← hL.2]; exact hi) rfl (fun ls' h' => k ls' H locs hI (LR.storeL hE hL rfl hs hi h') (okL.setN (hO.set hS'.1)) hS'.2)
theorem st_lstore (hx : p.tables.exec = Jvm.exec) (hb : c.code = cc) (hE : EnvU X s s.heap) (hs : okSt L i = true) (hi : i + 1 < L.length) (hd : decode cc pc = .ok (.lstore i, 2))
    (k : WC X p l e R s m args below meth c Q nL (pc + 2) ((L.set i (some (pL a))).set (i + 1) none) (st) (G) (mi) (cells) (slots)) : WC X p l e R s m args below meth c Q nL (pc) (L) (pL a :: st) (G) (mi) (cells) (slots) := by
  intro ls H locs hI hL hO hS
  have hS' := List.forall_mem_cons.mp hS
  exact lv_lstore (x := Int64.ofInt a) hx hb hd hL.1 (by rw [← hL.2]; exact hi) rfl (fun ls' h' => k ls' H locs hI (LR.storeL hE hL rfl hs hi h') (okL.setN (hO.set hS'.1)) hS'.2)
theorem st_iinc (hx : p.tables.exec = Jvm.exec) (hb : c.code = cc) (hE : EnvU X s s.heap) (hl : lg L i = some (pI a)) (hs : okSt L i = true) (hi : i < L.length) (hd : decode cc pc = .ok (.iinc i n, 3))
    (k : WC X p l e R s m args below meth c Q nL (pc + 3) (L.set i (some (pI (wr (a + n))))) (st) (G) (mi) (cells) (slots)) : WC X p l e R s m args below meth c Q nL (pc) (L) (st) (G) (mi) (cells) (slots) := by
  intro ls H locs hI hL hO hS
  obtain ⟨kx, hk⟩ := List.getElem?_of_mem (prs_mem (X := X) hl)
  exact lv_iinc (v := Int32.ofInt (wr (a + n))) hx hb hd hL.1 hk (by rw [wr_of, Int32.ofInt_add]) (by rw [← hL.2]; exact hi) rfl (fun ls' h' => k ls' H locs hI (LR.store hE hL rfl hs hi h') (hO.set (wr_in _)) hS)
theorem st_iadd (hx : p.tables.exec = Jvm.exec) (hb : c.code = cc) (hE : EnvU X s s.heap)  (hd : decode cc pc = .ok (.iadd, 1))
    (k : WC X p l e R s m args below meth c Q nL (pc + 1) (L) (pI (wr (a + b)) :: st) (G) (mi) (cells) (slots)) : WC X p l e R s m args below meth c Q nL (pc) (L) (pI b :: pI a :: st) (G) (mi) (cells) (slots) := by
  intro ls H locs hI hL hO hS
  have hS2 := (List.forall_mem_cons.mp (List.forall_mem_cons.mp hS).2).2
  have kk := k ls H locs hI hL hO (List.forall_mem_cons.mpr ⟨wr_in _, hS2⟩)
  rw [List.map_cons, show trV X (pI (wr (a + b))) = .int (Int32.ofInt a + Int32.ofInt b) by show Value.int _ = _; rw [wr_of, Int32.ofInt_add]] at kk
  exact lv_iadd hx hb hd kk
theorem st_isub (hx : p.tables.exec = Jvm.exec) (hb : c.code = cc) (hE : EnvU X s s.heap)  (hd : decode cc pc = .ok (.isub, 1))
    (k : WC X p l e R s m args below meth c Q nL (pc + 1) (L) (pI (wr (a - b)) :: st) (G) (mi) (cells) (slots)) : WC X p l e R s m args below meth c Q nL (pc) (L) (pI b :: pI a :: st) (G) (mi) (cells) (slots) := by
  intro ls H locs hI hL hO hS
  have hS2 := (List.forall_mem_cons.mp (List.forall_mem_cons.mp hS).2).2
  have kk := k ls H locs hI hL hO (List.forall_mem_cons.mpr ⟨wr_in _, hS2⟩)
  rw [List.map_cons, show trV X (pI (wr (a - b))) = .int (Int32.ofInt a - Int32.ofInt b) by show Value.int _ = _; rw [wr_of, Int32.ofInt_sub]] at kk
  exact lv_isub hx hb hd kk
theorem st_imul (hx : p.tables.exec = Jvm.exec) (hb : c.code = cc) (hE : EnvU X s s.heap)  (hd : decode cc pc = .ok (.imul, 1))
    (k : WC X p l e R s m args below meth c Q nL (pc + 1) (L) (pI (wr (a * b)) :: st) (G) (mi) (cells) (slots)) : WC X p l e R s m args below meth c Q nL (pc) (L) (pI b :: pI a :: st) (G) (mi) (cells) (slots) := by
  intro ls H locs hI hL hO hS
  have hS2 := (List.forall_mem_cons.mp (List.forall_mem_cons.mp hS).2).2
  have kk := k ls H locs hI hL hO (List.forall_mem_cons.mpr ⟨wr_in _, hS2⟩)
  rw [List.map_cons, show trV X (pI (wr (a * b))) = .int (Int32.ofInt a * Int32.ofInt b) by show Value.int _ = _; rw [wr_of, Int32.ofInt_mul]] at kk
  exact lv_imul hx hb hd kk
theorem st_ineg (hx : p.tables.exec = Jvm.exec) (hb : c.code = cc) (hE : EnvU X s s.heap)  (hd : decode cc pc = .ok (.ineg, 1))
    (k : WC X p l e R s m args below meth c Q nL (pc + 1) (L) (pI (wr (-a)) :: st) (G) (mi) (cells) (slots)) : WC X p l e R s m args below meth c Q nL (pc) (L) (pI a :: st) (G) (mi) (cells) (slots) := by
  intro ls H locs hI hL hO hS
  have hS2 := (List.forall_mem_cons.mp hS).2
  have kk := k ls H locs hI hL hO (List.forall_mem_cons.mpr ⟨wr_in _, hS2⟩)
  rw [List.map_cons, show trV X (pI (wr (-a))) = .int (-Int32.ofInt a) by show Value.int _ = _; rw [wr_of, Int32.ofInt_neg]] at kk
  exact lv_ineg hx hb hd kk
theorem st_idiv (hx : p.tables.exec = Jvm.exec) (hb : c.code = cc) (hE : EnvU X s s.heap) (hp : 0 < b) (hd : decode cc pc = .ok (.idiv, 1))
    (k : WC X p l e R s m args below meth c Q nL (pc + 1) (L) (pI (a.tdiv b) :: st) (G) (mi) (cells) (slots)) : WC X p l e R s m args below meth c Q nL (pc) (L) (pI b :: pI a :: st) (G) (mi) (cells) (slots) := by
  intro ls H locs hI hL hO hS
  obtain ⟨h1, hS1⟩ := List.forall_mem_cons.mp hS
  obtain ⟨h2, hS2⟩ := List.forall_mem_cons.mp hS1
  have kk := k ls H locs hI hL hO (List.forall_mem_cons.mpr ⟨tdiv_in h2 hp, hS2⟩)
  rw [List.map_cons, show trV X (pI (a.tdiv b)) = .int (Int32.ofInt a / Int32.ofInt b) by show Value.int _ = _; rw [of_tdiv h2 h1 hp]] at kk
  exact lv_idiv hx hb hd (fun z => by have := (of_eq h1 in_0).mp z; omega) kk
theorem st_irem (hx : p.tables.exec = Jvm.exec) (hb : c.code = cc) (hE : EnvU X s s.heap) (hp : 0 < b) (hd : decode cc pc = .ok (.irem, 1))
    (k : WC X p l e R s m args below meth c Q nL (pc + 1) (L) (pI (a.tmod b) :: st) (G) (mi) (cells) (slots)) : WC X p l e R s m args below meth c Q nL (pc) (L) (pI b :: pI a :: st) (G) (mi) (cells) (slots) := by
  intro ls H locs hI hL hO hS
  obtain ⟨h1, hS1⟩ := List.forall_mem_cons.mp hS
  obtain ⟨h2, hS2⟩ := List.forall_mem_cons.mp hS1
  have kk := k ls H locs hI hL hO (List.forall_mem_cons.mpr ⟨tmod_in h2 hp, hS2⟩)
  rw [List.map_cons, show trV X (pI (a.tmod b)) = .int (Int32.ofInt a - Int32.ofInt a / Int32.ofInt b * Int32.ofInt b) by show Value.int _ = _; rw [of_tdiv h2 h1 hp, ← Int32.ofInt_mul, ← Int32.ofInt_sub, tmod_eq]] at kk
  exact lv_irem hx hb hd (fun z => by have := (of_eq h1 in_0).mp z; omega) kk
theorem st_iand (hx : p.tables.exec = Jvm.exec) (hb : c.code = cc) (hE : EnvU X s s.heap)  (hd : decode cc pc = .ok (.iand, 1))
    (k : WC X p l e R s m args below meth c Q nL (pc + 1) (L) (pI (iAnd a b) :: st) (G) (mi) (cells) (slots)) : WC X p l e R s m args below meth c Q nL (pc) (L) (pI b :: pI a :: st) (G) (mi) (cells) (slots) := by
  intro ls H locs hI hL hO hS
  have hS2 := (List.forall_mem_cons.mp (List.forall_mem_cons.mp hS).2).2
  have kk := k ls H locs hI hL hO (List.forall_mem_cons.mpr ⟨to_in _, hS2⟩)
  rw [List.map_cons] at kk
  refine lv_iand hx hb hd ?_
  have e1 : trV X (pI (iAnd a b)) = .int _ := congrArg Value.int (Int32.ofInt_toInt _)
  rw [e1] at kk
  exact kk
theorem st_ior (hx : p.tables.exec = Jvm.exec) (hb : c.code = cc) (hE : EnvU X s s.heap)  (hd : decode cc pc = .ok (.ior, 1))
    (k : WC X p l e R s m args below meth c Q nL (pc + 1) (L) (pI (iOr a b) :: st) (G) (mi) (cells) (slots)) : WC X p l e R s m args below meth c Q nL (pc) (L) (pI b :: pI a :: st) (G) (mi) (cells) (slots) := by
  intro ls H locs hI hL hO hS
  have hS2 := (List.forall_mem_cons.mp (List.forall_mem_cons.mp hS).2).2
  have kk := k ls H locs hI hL hO (List.forall_mem_cons.mpr ⟨to_in _, hS2⟩)
  rw [List.map_cons] at kk
  refine lv_ior hx hb hd ?_
  have e1 : trV X (pI (iOr a b)) = .int _ := congrArg Value.int (Int32.ofInt_toInt _)
  rw [e1] at kk
  exact kk
theorem st_ixor (hx : p.tables.exec = Jvm.exec) (hb : c.code = cc) (hE : EnvU X s s.heap)  (hd : decode cc pc = .ok (.ixor, 1))
    (k : WC X p l e R s m args below meth c Q nL (pc + 1) (L) (pI (iXor a b) :: st) (G) (mi) (cells) (slots)) : WC X p l e R s m args below meth c Q nL (pc) (L) (pI b :: pI a :: st) (G) (mi) (cells) (slots) := by
  intro ls H locs hI hL hO hS
  have hS2 := (List.forall_mem_cons.mp (List.forall_mem_cons.mp hS).2).2
  have kk := k ls H locs hI hL hO (List.forall_mem_cons.mpr ⟨to_in _, hS2⟩)
  rw [List.map_cons] at kk
  refine lv_ixor hx hb hd ?_
  have e1 : trV X (pI (iXor a b)) = .int _ := congrArg Value.int (Int32.ofInt_toInt _)
  rw [e1] at kk
  exact kk
theorem st_ishl (hx : p.tables.exec = Jvm.exec) (hb : c.code = cc) (hE : EnvU X s s.heap)  (hd : decode cc pc = .ok (.ishl, 1))
    (k : WC X p l e R s m args below meth c Q nL (pc + 1) (L) (pI (iShl a b) :: st) (G) (mi) (cells) (slots)) : WC X p l e R s m args below meth c Q nL (pc) (L) (pI b :: pI a :: st) (G) (mi) (cells) (slots) := by
  intro ls H locs hI hL hO hS
  have hS2 := (List.forall_mem_cons.mp (List.forall_mem_cons.mp hS).2).2
  have kk := k ls H locs hI hL hO (List.forall_mem_cons.mpr ⟨to_in _, hS2⟩)
  rw [List.map_cons] at kk
  refine lv_ishl hx hb hd ?_
  have e1 : trV X (pI (iShl a b)) = .int _ := congrArg Value.int (Int32.ofInt_toInt _)
  rw [e1] at kk
  exact kk
theorem st_ishr (hx : p.tables.exec = Jvm.exec) (hb : c.code = cc) (hE : EnvU X s s.heap)  (hd : decode cc pc = .ok (.ishr, 1))
    (k : WC X p l e R s m args below meth c Q nL (pc + 1) (L) (pI (iShr a b) :: st) (G) (mi) (cells) (slots)) : WC X p l e R s m args below meth c Q nL (pc) (L) (pI b :: pI a :: st) (G) (mi) (cells) (slots) := by
  intro ls H locs hI hL hO hS
  have hS2 := (List.forall_mem_cons.mp (List.forall_mem_cons.mp hS).2).2
  have kk := k ls H locs hI hL hO (List.forall_mem_cons.mpr ⟨to_in _, hS2⟩)
  rw [List.map_cons] at kk
  refine lv_ishr hx hb hd ?_
  have e1 : trV X (pI (iShr a b)) = .int _ := congrArg Value.int (Int32.ofInt_toInt _)
  rw [e1] at kk
  exact kk
theorem st_iushr (hx : p.tables.exec = Jvm.exec) (hb : c.code = cc) (hE : EnvU X s s.heap)  (hd : decode cc pc = .ok (.iushr, 1))
    (k : WC X p l e R s m args below meth c Q nL (pc + 1) (L) (pI (iUshr a b) :: st) (G) (mi) (cells) (slots)) : WC X p l e R s m args below meth c Q nL (pc) (L) (pI b :: pI a :: st) (G) (mi) (cells) (slots) := by
  intro ls H locs hI hL hO hS
  have hS2 := (List.forall_mem_cons.mp (List.forall_mem_cons.mp hS).2).2
  have kk := k ls H locs hI hL hO (List.forall_mem_cons.mpr ⟨to_in _, hS2⟩)
  rw [List.map_cons] at kk
  refine lv_iushr hx hb hd rfl ?_
  have e1 : trV X (pI (iUshr a b)) = .int _ := congrArg Value.int (Int32.ofInt_toInt _)
  rw [e1] at kk
  exact kk
theorem st_i2l (hx : p.tables.exec = Jvm.exec) (hb : c.code = cc) (hE : EnvU X s s.heap)  (hd : decode cc pc = .ok (.i2l, 1))
    (k : WC X p l e R s m args below meth c Q nL (pc + 1) (L) (pL a :: st) (G) (mi) (cells) (slots)) : WC X p l e R s m args below meth c Q nL (pc) (L) (pI a :: st) (G) (mi) (cells) (slots) := by
  intro ls H locs hI hL hO hS
  obtain ⟨h1, hS1⟩ := List.forall_mem_cons.mp hS
  have h64 : in64 a := ⟨by have := h1.1; omega, by have := h1.2; omega⟩
  exact lv_i2l hx hb hd (Int64.toInt_inj.mp (by rw [Int32.toInt_toInt64, of_to h1, of_toL h64])) (k ls H locs hI hL hO (List.forall_mem_cons.mpr ⟨h64, hS1⟩))
theorem st_i2b (hx : p.tables.exec = Jvm.exec) (hb : c.code = cc) (hE : EnvU X s s.heap)  (hd : decode cc pc = .ok (.i2b, 1))
    (k : WC X p l e R s m args below meth c Q nL (pc + 1) (L) (pI (iB a) :: st) (G) (mi) (cells) (slots)) : WC X p l e R s m args below meth c Q nL (pc) (L) (pI a :: st) (G) (mi) (cells) (slots) := by
  intro ls H locs hI hL hO hS
  have hS2 := (List.forall_mem_cons.mp hS).2
  exact lv_i2b hx hb hd (by unfold iB; rw [Int32.ofInt_toInt]) (k ls H locs hI hL hO (List.forall_mem_cons.mpr ⟨to_in _, hS2⟩))
theorem st_i2c (hx : p.tables.exec = Jvm.exec) (hb : c.code = cc) (hE : EnvU X s s.heap) (h0 : 0 ≤ a) (h1 : a < 65536) (hd : decode cc pc = .ok (.i2c, 1))
    (k : WC X p l e R s m args below meth c Q nL (pc + 1) (L) (pI a :: st) (G) (mi) (cells) (slots)) : WC X p l e R s m args below meth c Q nL (pc) (L) (pI a :: st) (G) (mi) (cells) (slots) := by
  intro ls H locs hI hL hO hS
  refine lv_i2c hx hb hd ?_ (k ls H locs hI hL hO hS)
  obtain ⟨j, rfl⟩ : ∃ j : Nat, a = j := ⟨a.toNat, by omega⟩
  rw [show Int32.ofInt (j : Int) = nI j from rfl, pk_char, pk_tn (by omega), Nat.mod_eq_of_lt (by omega)]
theorem st_ladd (hx : p.tables.exec = Jvm.exec) (hb : c.code = cc) (hE : EnvU X s s.heap)  (hd : decode cc pc = .ok (.ladd, 1))
    (k : WC X p l e R s m args below meth c Q nL (pc + 1) (L) (pL (wl (a + b)) :: st) (G) (mi) (cells) (slots)) : WC X p l e R s m args below meth c Q nL (pc) (L) (pL b :: pL a :: st) (G) (mi) (cells) (slots) := by
  intro ls H locs hI hL hO hS
  have hS2 := (List.forall_mem_cons.mp (List.forall_mem_cons.mp hS).2).2
  have kk := k ls H locs hI hL hO (List.forall_mem_cons.mpr ⟨wl_in _, hS2⟩)
  rw [List.map_cons, show trV X (pL (wl (a + b))) = .long (Int64.ofInt a + Int64.ofInt b) by show Value.long _ = _; rw [wl_of, Int64.ofInt_add]] at kk
  exact lv_ladd hx hb hd kk
theorem st_lneg (hx : p.tables.exec = Jvm.exec) (hb : c.code = cc) (hE : EnvU X s s.heap)  (hd : decode cc pc = .ok (.lneg, 1))
    (k : WC X p l e R s m args below meth c Q nL (pc + 1) (L) (pL (wl (-a)) :: st) (G) (mi) (cells) (slots)) : WC X p l e R s m args below meth c Q nL (pc) (L) (pL a :: st) (G) (mi) (cells) (slots) := by
  intro ls H locs hI hL hO hS
  have hS2 := (List.forall_mem_cons.mp hS).2
  have kk := k ls H locs hI hL hO (List.forall_mem_cons.mpr ⟨wl_in _, hS2⟩)
  rw [List.map_cons, show trV X (pL (wl (-a))) = .long (-Int64.ofInt a) by show Value.long _ = _; rw [wl_of, Int64.ofInt_neg]] at kk
  exact lv_lneg hx hb hd kk
theorem st_ldiv (hx : p.tables.exec = Jvm.exec) (hb : c.code = cc) (hE : EnvU X s s.heap) (hp : 0 < b) (hd : decode cc pc = .ok (.ldiv, 1))
    (k : WC X p l e R s m args below meth c Q nL (pc + 1) (L) (pL (a.tdiv b) :: st) (G) (mi) (cells) (slots)) : WC X p l e R s m args below meth c Q nL (pc) (L) (pL b :: pL a :: st) (G) (mi) (cells) (slots) := by
  intro ls H locs hI hL hO hS
  obtain ⟨h1, hS1⟩ := List.forall_mem_cons.mp hS
  obtain ⟨h2, hS2⟩ := List.forall_mem_cons.mp hS1
  have kk := k ls H locs hI hL hO (List.forall_mem_cons.mpr ⟨tdiv_in64 h2 hp, hS2⟩)
  rw [List.map_cons, show trV X (pL (a.tdiv b)) = .long (Int64.ofInt a / Int64.ofInt b) by show Value.long _ = _; rw [of_tdivL h2 h1 hp]] at kk
  exact lv_ldiv hx hb hd (fun z => by have z2 := congrArg Int64.toInt z; rw [of_toL h1] at z2; have : b = 0 := z2; omega) kk
theorem st_lrem (hx : p.tables.exec = Jvm.exec) (hb : c.code = cc) (hE : EnvU X s s.heap) (hp : 0 < b) (hd : decode cc pc = .ok (.lrem, 1))
    (k : WC X p l e R s m args below meth c Q nL (pc + 1) (L) (pL (a.tmod b) :: st) (G) (mi) (cells) (slots)) : WC X p l e R s m args below meth c Q nL (pc) (L) (pL b :: pL a :: st) (G) (mi) (cells) (slots) := by
  intro ls H locs hI hL hO hS
  obtain ⟨h1, hS1⟩ := List.forall_mem_cons.mp hS
  obtain ⟨h2, hS2⟩ := List.forall_mem_cons.mp hS1
  have kk := k ls H locs hI hL hO (List.forall_mem_cons.mpr ⟨tmod_in64 h2 hp, hS2⟩)
  rw [List.map_cons, show trV X (pL (a.tmod b)) = .long (Int64.ofInt a - Int64.ofInt a / Int64.ofInt b * Int64.ofInt b) by show Value.long _ = _; rw [of_tdivL h2 h1 hp, ← Int64.ofInt_mul, ← Int64.ofInt_sub, tmod_eq]] at kk
  exact lv_lrem hx hb hd (fun z => by have z2 := congrArg Int64.toInt z; rw [of_toL h1] at z2; have : b = 0 := z2; omega) kk
theorem st_lcmp (hx : p.tables.exec = Jvm.exec) (hb : c.code = cc) (hE : EnvU X s s.heap)  (hd : decode cc pc = .ok (.lcmp, 1))
    (k : WC X p l e R s m args below meth c Q nL (pc + 1) (L) (pI (cmpL a b) :: st) (G) (mi) (cells) (slots)) : WC X p l e R s m args below meth c Q nL (pc) (L) (pL b :: pL a :: st) (G) (mi) (cells) (slots) := by
  intro ls H locs hI hL hO hS
  obtain ⟨h1, hS1⟩ := List.forall_mem_cons.mp hS
  obtain ⟨h2, hS2⟩ := List.forall_mem_cons.mp hS1
  have hc : in32 (cmpL a b) := by unfold cmpL in32; split <;> (try split) <;> omega
  have kk := k ls H locs hI hL hO (List.forall_mem_cons.mpr ⟨hc, hS2⟩)
  have e1 : Int32.ofInt (cmpL a b) = lg_cmp (Int64.ofInt a) (Int64.ofInt b) := by
    have g1 : Int64.ofInt a > Int64.ofInt b ↔ b < a := by rw [show (Int64.ofInt a > Int64.ofInt b) = (Int64.ofInt b < Int64.ofInt a) from rfl, Int64.lt_iff_toInt_lt, of_toL h1, of_toL h2]
    have g2 : Int64.ofInt a = Int64.ofInt b ↔ a = b := ⟨fun z => by rw [← of_toL h2, z, of_toL h1], fun z => by rw [z]⟩
    unfold cmpL lg_cmp
    by_cases c1 : b < a
    · rw [if_pos (g1.mpr c1), if_neg (by omega), if_neg (by omega)]; rfl
    · rw [if_neg (fun z => c1 (g1.mp z))]
      by_cases c2 : a = b
      · rw [if_pos (g2.mpr c2), if_neg (by omega), if_pos c2]; rfl
      · rw [if_neg (fun z => c2 (g2.mp z)), if_pos (by omega)]; rfl
  rw [List.map_cons, show trV X (pI (cmpL a b)) = .int (lg_cmp (Int64.ofInt a) (Int64.ofInt b)) from congrArg Value.int e1] at kk
  exact W.lcmp hx hb hd kk
theorem st_dup (hx : p.tables.exec = Jvm.exec) (hb : c.code = cc) (hE : EnvU X s s.heap) {v : PV} (hv : isL (some v) = false) (hd : decode cc pc = .ok (.dup, 1))
    (k : WC X p l e R s m args below meth c Q nL (pc + 1) (L) (v :: v :: st) (G) (mi) (cells) (slots)) : WC X p l e R s m args below meth c Q nL (pc) (L) (v :: st) (G) (mi) (cells) (slots) := by
  intro ls H locs hI hL hO hS
  exact lv_dup hx hb hd (tr_cat1 hE hv) (k ls H locs hI hL hO (List.forall_mem_cons.mpr ⟨(List.forall_mem_cons.mp hS).1, hS⟩))
theorem st_pop (hx : p.tables.exec = Jvm.exec) (hb : c.code = cc) (hE : EnvU X s s.heap) {v : PV} (hv : isL (some v) = false) (hd : decode cc pc = .ok (.pop, 1))
    (k : WC X p l e R s m args below meth c Q nL (pc + 1) (L) (st) (G) (mi) (cells) (slots)) : WC X p l e R s m args below meth c Q nL (pc) (L) (v :: st) (G) (mi) (cells) (slots) := by
  intro ls H locs hI hL hO hS
  exact lv_pop hx hb hd (tr_cat1 hE hv) (k ls H locs hI hL hO (List.forall_mem_cons.mp hS).2)
theorem st_dup2 (hx : p.tables.exec = Jvm.exec) (hb : c.code = cc) (hE : EnvU X s s.heap) {v w : PV} (hv : isL (some v) = false) (hw : isL (some w) = false) (hd : decode cc pc = .ok (.dup2, 1))
    (k : WC X p l e R s m args below meth c Q nL (pc + 1) (L) (v :: w :: v :: w :: st) (G) (mi) (cells) (slots)) : WC X p l e R s m args below meth c Q nL (pc) (L) (v :: w :: st) (G) (mi) (cells) (slots) := by
  intro ls H locs hI hL hO hS
  exact lv_dup2_11 hx hb hd (tr_cat1 hE hv) (tr_cat1 hE hw) (k ls H locs hI hL hO (List.forall_mem_cons.mpr ⟨(List.forall_mem_cons.mp hS).1, List.forall_mem_cons.mpr ⟨(List.forall_mem_cons.mp (List.forall_mem_cons.mp hS).2).1, hS⟩⟩))
theorem st_goto (hx : p.tables.exec = Jvm.exec) (hb : c.code = cc) (hE : EnvU X s s.heap) (ht : (pc : Int) + off = (tgt : Int)) (hd : decode cc pc = .ok (.goto off, 3))
    (k : WC X p l e R s m args below meth c Q nL (tgt) (L) (st) (G) (mi) (cells) (slots)) : WC X p l e R s m args below meth c Q nL (pc) (L) (st) (G) (mi) (cells) (slots) := by
  intro ls H locs hI hL hO hS
  exact lv_goto hx hb hd ht (k ls H locs hI hL hO hS)
theorem st_icmp_eq (hx : p.tables.exec = Jvm.exec) (hb : c.code = cc) (hE : EnvU X s s.heap) (ht : (pc : Int) + off = (tgt : Int)) (hd : decode cc pc = .ok (.if_icmp .eq off, 3))
    (k : WC X p l e R s m args below meth c Q nL (if cmpC .eq a b = true then tgt else pc + 3) (L) (st) (G) (mi) (cells) (slots)) : WC X p l e R s m args below meth c Q nL (pc) (L) (pI b :: pI a :: st) (G) (mi) (cells) (slots) := by
  intro ls H locs hI hL hO hS
  obtain ⟨h1, hS1⟩ := List.forall_mem_cons.mp hS
  obtain ⟨h2, hS2⟩ := List.forall_mem_cons.mp hS1
  have kk := k ls H locs hI hL hO hS2
  refine lv_icmp_eq hx hb hd ht (fun hc => ?_) (fun hc => ?_)
  · have hh : cmpC .eq a b = true := by rw [cc_eq]; exact (of_eq h2 h1).mp hc
    rw [if_pos hh] at kk; exact kk
  · have hh : ¬ cmpC .eq a b = true := by rw [cc_eq]; exact fun z => hc ((of_eq h2 h1).mpr z)
    rw [if_neg hh] at kk; exact kk
theorem st_if_eq (hx : p.tables.exec = Jvm.exec) (hb : c.code = cc) (hE : EnvU X s s.heap) (ht : (pc : Int) + off = (tgt : Int)) (hd : decode cc pc = .ok (.ifCond .eq off, 3))
    (k : WC X p l e R s m args below meth c Q nL (if cmpC .eq a 0 = true then tgt else pc + 3) (L) (st) (G) (mi) (cells) (slots)) : WC X p l e R s m args below meth c Q nL (pc) (L) (pI a :: st) (G) (mi) (cells) (slots) := by
  intro ls H locs hI hL hO hS
  obtain ⟨h2, hS2⟩ := List.forall_mem_cons.mp hS
  have h1 := in_0
  have kk := k ls H locs hI hL hO hS2
  refine lv_if_eq hx hb hd ht (fun hc => ?_) (fun hc => ?_)
  · have hh : cmpC .eq a 0 = true := by rw [cc_eq]; exact (of_eq h2 h1).mp hc
    rw [if_pos hh] at kk; exact kk
  · have hh : ¬ cmpC .eq a 0 = true := by rw [cc_eq]; exact fun z => hc ((of_eq h2 h1).mpr z)
    rw [if_neg hh] at kk; exact kk
theorem st_icmp_ne (hx : p.tables.exec = Jvm.exec) (hb : c.code = cc) (hE : EnvU X s s.heap) (ht : (pc : Int) + off = (tgt : Int)) (hd : decode cc pc = .ok (.if_icmp .ne off, 3))
    (k : WC X p l e R s m args below meth c Q nL (if cmpC .ne a b = true then tgt else pc + 3) (L) (st) (G) (mi) (cells) (slots)) : WC X p l e R s m args below meth c Q nL (pc) (L) (pI b :: pI a :: st) (G) (mi) (cells) (slots) := by
  intro ls H locs hI hL hO hS
  obtain ⟨h1, hS1⟩ := List.forall_mem_cons.mp hS
  obtain ⟨h2, hS2⟩ := List.forall_mem_cons.mp hS1
  have kk := k ls H locs hI hL hO hS2
  refine lv_icmp_ne hx hb hd ht (fun hc => ?_) (fun hc => ?_)
  · have hh : cmpC .ne a b = true := by rw [cc_ne]; exact fun z => hc ((of_eq h2 h1).mpr z)
    rw [if_pos hh] at kk; exact kk
  · have hh : ¬ cmpC .ne a b = true := by rw [cc_ne]; exact fun z => z ((of_eq h2 h1).mp hc)
    rw [if_neg hh] at kk; exact kk
theorem st_if_ne (hx : p.tables.exec = Jvm.exec) (hb : c.code = cc) (hE : EnvU X s s.heap) (ht : (pc : Int) + off = (tgt : Int)) (hd : decode cc pc = .ok (.ifCond .ne off, 3))
    (k : WC X p l e R s m args below meth c Q nL (if cmpC .ne a 0 = true then tgt else pc + 3) (L) (st) (G) (mi) (cells) (slots)) : WC X p l e R s m args below meth c Q nL (pc) (L) (pI a :: st) (G) (mi) (cells) (slots) := by
  intro ls H locs hI hL hO hS
  obtain ⟨h2, hS2⟩ := List.forall_mem_cons.mp hS
  have h1 := in_0
  have kk := k ls H locs hI hL hO hS2
  refine lv_if_ne hx hb hd ht (fun hc => ?_) (fun hc => ?_)
  · have hh : cmpC .ne a 0 = true := by rw [cc_ne]; exact fun z => hc ((of_eq h2 h1).mpr z)
    rw [if_pos hh] at kk; exact kk
  · have hh : ¬ cmpC .ne a 0 = true := by rw [cc_ne]; exact fun z => z ((of_eq h2 h1).mp hc)
    rw [if_neg hh] at kk; exact kk
theorem st_icmp_lt (hx : p.tables.exec = Jvm.exec) (hb : c.code = cc) (hE : EnvU X s s.heap) (ht : (pc : Int) + off = (tgt : Int)) (hd : decode cc pc = .ok (.if_icmp .lt off, 3))
    (k : WC X p l e R s m args below meth c Q nL (if cmpC .lt a b = true then tgt else pc + 3) (L) (st) (G) (mi) (cells) (slots)) : WC X p l e R s m args below meth c Q nL (pc) (L) (pI b :: pI a :: st) (G) (mi) (cells) (slots) := by
  intro ls H locs hI hL hO hS
  obtain ⟨h1, hS1⟩ := List.forall_mem_cons.mp hS
  obtain ⟨h2, hS2⟩ := List.forall_mem_cons.mp hS1
  have kk := k ls H locs hI hL hO hS2
  refine lv_icmp_lt hx hb hd ht (fun hc => ?_) (fun hc => ?_)
  · have hh : cmpC .lt a b = true := by rw [cc_lt]; exact (of_lt h2 h1).mp hc
    rw [if_pos hh] at kk; exact kk
  · have hh : ¬ cmpC .lt a b = true := by rw [cc_lt]; exact fun z => hc ((of_lt h2 h1).mpr z)
    rw [if_neg hh] at kk; exact kk
theorem st_if_lt (hx : p.tables.exec = Jvm.exec) (hb : c.code = cc) (hE : EnvU X s s.heap) (ht : (pc : Int) + off = (tgt : Int)) (hd : decode cc pc = .ok (.ifCond .lt off, 3))
    (k : WC X p l e R s m args below meth c Q nL (if cmpC .lt a 0 = true then tgt else pc + 3) (L) (st) (G) (mi) (cells) (slots)) : WC X p l e R s m args below meth c Q nL (pc) (L) (pI a :: st) (G) (mi) (cells) (slots) := by
  intro ls H locs hI hL hO hS
  obtain ⟨h2, hS2⟩ := List.forall_mem_cons.mp hS
  have h1 := in_0
  have kk := k ls H locs hI hL hO hS2
  refine lv_if_lt hx hb hd ht (fun hc => ?_) (fun hc => ?_)
  · have hh : cmpC .lt a 0 = true := by rw [cc_lt]; exact (of_lt h2 h1).mp hc
    rw [if_pos hh] at kk; exact kk
  · have hh : ¬ cmpC .lt a 0 = true := by rw [cc_lt]; exact fun z => hc ((of_lt h2 h1).mpr z)
    rw [if_neg hh] at kk; exact kk
theorem st_icmp_ge (hx : p.tables.exec = Jvm.exec) (hb : c.code = cc) (hE : EnvU X s s.heap) (ht : (pc : Int) + off = (tgt : Int)) (hd : decode cc pc = .ok (.if_icmp .ge off, 3))
    (k : WC X p l e R s m args below meth c Q nL (if cmpC .ge a b = true then tgt else pc + 3) (L) (st) (G) (mi) (cells) (slots)) : WC X p l e R s m args below meth c Q nL (pc) (L) (pI b :: pI a :: st) (G) (mi) (cells) (slots) := by
  intro ls H locs hI hL hO hS
  obtain ⟨h1, hS1⟩ := List.forall_mem_cons.mp hS
  obtain ⟨h2, hS2⟩ := List.forall_mem_cons.mp hS1
  have kk := k ls H locs hI hL hO hS2
  refine lv_icmp_ge hx hb hd ht (fun hc => ?_) (fun hc => ?_)
  · have hh : cmpC .ge a b = true := by rw [cc_ge]; exact (of_le h1 h2).mp hc
    rw [if_pos hh] at kk; exact kk
  · have hh : ¬ cmpC .ge a b = true := by rw [cc_ge]; exact fun z => hc ((of_le h1 h2).mpr z)
    rw [if_neg hh] at kk; exact kk
theorem st_if_ge (hx : p.tables.exec = Jvm.exec) (hb : c.code = cc) (hE : EnvU X s s.heap) (ht : (pc : Int) + off = (tgt : Int)) (hd : decode cc pc = .ok (.ifCond .ge off, 3))
    (k : WC X p l e R s m args below meth c Q nL (if cmpC .ge a 0 = true then tgt else pc + 3) (L) (st) (G) (mi) (cells) (slots)) : WC X p l e R s m args below meth c Q nL (pc) (L) (pI a :: st) (G) (mi) (cells) (slots) := by
  intro ls H locs hI hL hO hS
  obtain ⟨h2, hS2⟩ := List.forall_mem_cons.mp hS
  have h1 := in_0
  have kk := k ls H locs hI hL hO hS2
  refine lv_if_ge hx hb hd ht (fun hc => ?_) (fun hc => ?_)
  · have hh : cmpC .ge a 0 = true := by rw [cc_ge]; exact (of_le h1 h2).mp hc
    rw [if_pos hh] at kk; exact kk
  · have hh : ¬ cmpC .ge a 0 = true := by rw [cc_ge]; exact fun z => hc ((of_le h1 h2).mpr z)
    rw [if_neg hh] at kk; exact kk
theorem st_icmp_gt (hx : p.tables.exec = Jvm.exec) (hb : c.code = cc) (hE : EnvU X s s.heap) (ht : (pc : Int) + off = (tgt : Int)) (hd : decode cc pc = .ok (.if_icmp .gt off, 3))
    (k : WC X p l e R s m args below meth c Q nL (if cmpC .gt a b = true then tgt else pc + 3) (L) (st) (G) (mi) (cells) (slots)) : WC X p l e R s m args below meth c Q nL (pc) (L) (pI b :: pI a :: st) (G) (mi) (cells) (slots) := by
  intro ls H locs hI hL hO hS
  obtain ⟨h1, hS1⟩ := List.forall_mem_cons.mp hS
  obtain ⟨h2, hS2⟩ := List.forall_mem_cons.mp hS1
  have kk := k ls H locs hI hL hO hS2
  refine lv_icmp_gt hx hb hd ht (fun hc => ?_) (fun hc => ?_)
  · have hh : cmpC .gt a b = true := by rw [cc_gt]; exact (of_lt h1 h2).mp hc
    rw [if_pos hh] at kk; exact kk
  · have hh : ¬ cmpC .gt a b = true := by rw [cc_gt]; exact fun z => hc ((of_lt h1 h2).mpr z)
    rw [if_neg hh] at kk; exact kk
theorem st_if_gt (hx : p.tables.exec = Jvm.exec) (hb : c.code = cc) (hE : EnvU X s s.heap) (ht : (pc : Int) + off = (tgt : Int)) (hd : decode cc pc = .ok (.ifCond .gt off, 3))
    (k : WC X p l e R s m args below meth c Q nL (if cmpC .gt a 0 = true then tgt else pc + 3) (L) (st) (G) (mi) (cells) (slots)) : WC X p l e R s m args below meth c Q nL (pc) (L) (pI a :: st) (G) (mi) (cells) (slots) := by
  intro ls H locs hI hL hO hS
  obtain ⟨h2, hS2⟩ := List.forall_mem_cons.mp hS
  have h1 := in_0
  have kk := k ls H locs hI hL hO hS2
  refine lv_if_gt hx hb hd ht (fun hc => ?_) (fun hc => ?_)
  · have hh : cmpC .gt a 0 = true := by rw [cc_gt]; exact (of_lt h1 h2).mp hc
    rw [if_pos hh] at kk; exact kk
  · have hh : ¬ cmpC .gt a 0 = true := by rw [cc_gt]; exact fun z => hc ((of_lt h1 h2).mpr z)
    rw [if_neg hh] at kk; exact kk
theorem st_icmp_le (hx : p.tables.exec = Jvm.exec) (hb : c.code = cc) (hE : EnvU X s s.heap) (ht : (pc : Int) + off = (tgt : Int)) (hd : decode cc pc = .ok (.if_icmp .le off, 3))
    (k : WC X p l e R s m args below meth c Q nL (if cmpC .le a b = true then tgt else pc + 3) (L) (st) (G) (mi) (cells) (slots)) : WC X p l e R s m args below meth c Q nL (pc) (L) (pI b :: pI a :: st) (G) (mi) (cells) (slots) := by
  intro ls H locs hI hL hO hS
  obtain ⟨h1, hS1⟩ := List.forall_mem_cons.mp hS
  obtain ⟨h2, hS2⟩ := List.forall_mem_cons.mp hS1
  have kk := k ls H locs hI hL hO hS2
  refine lv_icmp_le hx hb hd ht (fun hc => ?_) (fun hc => ?_)
  · have hh : cmpC .le a b = true := by rw [cc_le]; exact (of_le h2 h1).mp hc
    rw [if_pos hh] at kk; exact kk
  · have hh : ¬ cmpC .le a b = true := by rw [cc_le]; exact fun z => hc ((of_le h2 h1).mpr z)
    rw [if_neg hh] at kk; exact kk
theorem st_if_le (hx : p.tables.exec = Jvm.exec) (hb : c.code = cc) (hE : EnvU X s s.heap) (ht : (pc : Int) + off = (tgt : Int)) (hd : decode cc pc = .ok (.ifCond .le off, 3))
    (k : WC X p l e R s m args below meth c Q nL (if cmpC .le a 0 = true then tgt else pc + 3) (L) (st) (G) (mi) (cells) (slots)) : WC X p l e R s m args below meth c Q nL (pc) (L) (pI a :: st) (G) (mi) (cells) (slots) := by
  intro ls H locs hI hL hO hS
  obtain ⟨h2, hS2⟩ := List.forall_mem_cons.mp hS
  have h1 := in_0
  have kk := k ls H locs hI hL hO hS2
  refine lv_if_le hx hb hd ht (fun hc => ?_) (fun hc => ?_)
  · have hh : cmpC .le a 0 = true := by rw [cc_le]; exact (of_le h2 h1).mp hc
    rw [if_pos hh] at kk; exact kk
  · have hh : ¬ cmpC .le a 0 = true := by rw [cc_le]; exact fun z => hc ((of_le h2 h1).mpr z)
    rw [if_neg hh] at kk; exact kk
theorem st_ifnull (hx : p.tables.exec = Jvm.exec) (hb : c.code = cc) (hE : EnvU X s s.heap) {ro : Option Nat} (ht : (pc : Int) + off = (tgt : Int)) (hd : decode cc pc = .ok (.ifnull off, 3))
    (k : WC X p l e R s m args below meth c Q nL (if ro = none then tgt else pc + 3) (L) (st) (G) (mi) (cells) (slots)) : WC X p l e R s m args below meth c Q nL (pc) (L) (pR ro :: st) (G) (mi) (cells) (slots) := by
  intro ls H locs hI hL hO hS
  have kk := k ls H locs hI hL hO (List.forall_mem_cons.mp hS).2
  cases ro with
  | none =>
    rw [if_pos rfl] at kk
    exact lv_ifnullN hx hb hd ht kk
  | some x =>
    rw [if_neg (by simp)] at kk
    exact lv_ifnull hx hb hd kk
theorem st_ifnonnull (hx : p.tables.exec = Jvm.exec) (hb : c.code = cc) (hE : EnvU X s s.heap) {ro : Option Nat} (ht : (pc : Int) + off = (tgt : Int)) (hd : decode cc pc = .ok (.ifnonnull off, 3))
    (k : WC X p l e R s m args below meth c Q nL (if ro = none then pc + 3 else tgt) (L) (st) (G) (mi) (cells) (slots)) : WC X p l e R s m args below meth c Q nL (pc) (L) (pR ro :: st) (G) (mi) (cells) (slots) := by
  intro ls H locs hI hL hO hS
  have kk := k ls H locs hI hL hO (List.forall_mem_cons.mp hS).2
  cases ro with
  | none =>
    rw [if_pos rfl] at kk
    exact lv_ifnonnullN hx hb hd kk
  | some x =>
    rw [if_neg (by simp)] at kk
    exact lv_ifnonnull hx hb hd ht kk
end ST
