/-! ===== the tie: values, cells, states (written by wip/whole/gen/gensound1.py) ===== -/
def sLens : List Nat := sTexts.map List.length
def sByts : List (List Int32) := sTexts.map (fun t => t.map Int32.ofInt)
def strL : List (String × Nat × String × Nat) := [("CoinTelescope$View", 79, "coinaddshazedeardull", 0), ("CoinTelescope$View", 100, "pkvctl", 1), ("CoinTelescope$View", 106, "<=>", 2), ("CoinTelescopeModel", 124, "coin ", 3), ("CoinTelescopeModel", 129, "adds ", 4), ("CoinTelescopeModel", 131, "haze ", 5), ("CoinTelescopeModel", 116, "ear ", 6), ("CoinTelescopeModel", 98, "pkvctl", 1), ("CoinTelescopeModel", 104, "<=>", 2), ("CoinTelescopeModel", 122, "ull ", 7)]
def nestL : List (String × Nat × MethodName × String) := [("CoinTelescope$View", 111, ⟨"CoinTelescope", "isIn", "([II)Z"⟩, "CoinTelescope"), ("CoinTelescope$State", 56, ⟨"CoinTelescope", "isIn", "([II)Z"⟩, "CoinTelescope"), ("CoinTelescope$Thing", 23, ⟨"CoinTelescope", "rowOf", "(I)I"⟩, "CoinTelescope"), ("CoinTelescope$View", 123, ⟨"CoinTelescope", "bit", "(Z)I"⟩, "CoinTelescope"), ("CoinTelescope$Ship", 15, ⟨"CoinTelescope", "columnOf", "(I)I"⟩, "CoinTelescope"), ("CoinTelescope$Search", 67, ⟨"CoinTelescope", "isIn", "([II)Z"⟩, "CoinTelescope"), ("CoinTelescope$Search", 89, ⟨"CoinTelescope", "copy", "([I[I)V"⟩, "CoinTelescope"), ("CoinTelescope$Search", 93, ⟨"CoinTelescope", "moved", "(II)I"⟩, "CoinTelescope"), ("CoinTelescope$Search", 100, ⟨"CoinTelescope", "far", "(II)I"⟩, "CoinTelescope"), ("CoinTelescope$Table", 37, ⟨"CoinTelescope", "copy", "([I[I)V"⟩, "CoinTelescope"), ("CoinTelescope$State", 120, ⟨"CoinTelescope", "copy", "([I[I)V"⟩, "CoinTelescope")]
def castL : List (String × String) := [("CoinTelescope$Bird", "CoinTelescope$Thing"), ("CoinTelescope$Boat", "CoinTelescope$Thing"), ("CoinTelescope$House", "CoinTelescope$Thing"), ("CoinTelescope$Ship", "CoinTelescope$Boat"), ("CoinTelescope$Ship", "CoinTelescope$Thing"), ("CoinTelescope$Spire", "CoinTelescope$House"), ("CoinTelescope$Spire", "CoinTelescope$Thing"), ("CoinTelescope$Told", "CoinTelescope$Bird"), ("CoinTelescope$Told", "CoinTelescope$Thing")]
def ncastL : List (String × String) := [("CoinTelescope$Boat", "CoinTelescope$Bird"), ("CoinTelescope$House", "CoinTelescope$Bird"), ("CoinTelescope$Ship", "CoinTelescope$Bird"), ("CoinTelescope$Spire", "CoinTelescope$Bird"), ("CoinTelescope$Thing", "CoinTelescope$Bird"), ("CoinTelescope$Bird", "CoinTelescope$Boat"), ("CoinTelescope$House", "CoinTelescope$Boat"), ("CoinTelescope$Spire", "CoinTelescope$Boat"), ("CoinTelescope$Thing", "CoinTelescope$Boat"), ("CoinTelescope$Told", "CoinTelescope$Boat"), ("CoinTelescope$Bird", "CoinTelescope$House"), ("CoinTelescope$Boat", "CoinTelescope$House"), ("CoinTelescope$Ship", "CoinTelescope$House"), ("CoinTelescope$Thing", "CoinTelescope$House"), ("CoinTelescope$Told", "CoinTelescope$House"), ("CoinTelescope$Bird", "CoinTelescope$Ship"), ("CoinTelescope$Boat", "CoinTelescope$Ship"), ("CoinTelescope$House", "CoinTelescope$Ship"), ("CoinTelescope$Spire", "CoinTelescope$Ship"), ("CoinTelescope$Thing", "CoinTelescope$Ship"), ("CoinTelescope$Told", "CoinTelescope$Ship"), ("CoinTelescope$Bird", "CoinTelescope$Spire"), ("CoinTelescope$Boat", "CoinTelescope$Spire"), ("CoinTelescope$House", "CoinTelescope$Spire"), ("CoinTelescope$Ship", "CoinTelescope$Spire"), ("CoinTelescope$Thing", "CoinTelescope$Spire"), ("CoinTelescope$Told", "CoinTelescope$Spire"), ("CoinTelescope$Bird", "CoinTelescope$Told"), ("CoinTelescope$Boat", "CoinTelescope$Told"), ("CoinTelescope$House", "CoinTelescope$Told"), ("CoinTelescope$Ship", "CoinTelescope$Told"), ("CoinTelescope$Spire", "CoinTelescope$Told"), ("CoinTelescope$Thing", "CoinTelescope$Told")]
abbrev Cx : Type := va_G × (ClassId × ClassId × ClassId) × Nat × (Nat → Nat) × (Nat → Nat) × (Nat × Nat × (Nat → Int32)) × Value
abbrev xD (X : Cx) : va_G := X.1
abbrev xI (X : Cx) : ClassId := X.2.1.1
abbrev xZ (X : Cx) : ClassId := X.2.1.2.1
abbrev xT (X : Cx) : ClassId := X.2.1.2.2
abbrev xb (X : Cx) : Nat := X.2.2.1
abbrev xK (X : Cx) : Nat → Nat := X.2.2.2.1
abbrev xV (X : Cx) : Nat → Nat := X.2.2.2.2.1
abbrev xs (X : Cx) : Nat × Nat × (Nat → Int32) := X.2.2.2.2.2.1
abbrev xF (X : Cx) : Value := X.2.2.2.2.2.2
def AX (X : Cx) : Nat → Prop := fun q => xb X ≤ q
abbrev tysX (X : Cx) : List (ClassId × FieldType) := [(xI X, .int), (xZ X, .boolean), (xT X, .object "CoinTelescope$Thing")]
def evX (X : Cx) (e : Nat) : Value := if e = 0 then .ref (xs X).1 else if e % 2 = 1 ∧ e < 2 * sTexts.length then .ref (xK X (e / 2)) else if e % 2 = 0 ∧ e ≤ 2 * sTexts.length then .ref (xV X (e / 2 - 1)) else xF X
def rfX (X : Cx) (r : Option Nat) : Option Nat := r.map (fun o => xb X + o)
def trV (X : Cx) : PV → Value
  | .inl i => .int (Int32.ofInt i)
  | .inr (.inl l) => .long (Int64.ofInt l)
  | .inr (.inr (.inl r)) => va_rf (rfX X r)
  | .inr (.inr (.inr e)) => evX X e
def in32 (x : Int) : Prop := -2147483648 ≤ x ∧ x ≤ 2147483647
def in64 (x : Int) : Prop := -9223372036854775808 ≤ x ∧ x ≤ 9223372036854775807
def okV : PV → Prop
  | .inl i => in32 i
  | .inr (.inl l) => in64 l
  | _ => True
def okL (L : Lcs) : Prop := ∀ (i : Nat) (v : PV), lg L i = some v → okV v
def clN (ci : Nat) : Nat := (rfT.getD ci []).length
def fvs (X : Cx) (G : Gh) (mi : Mi) (o ci : Nat) : List Value := (List.range (clN ci)).map (fun k => if (rfT.getD ci []).getD k false = true then va_rf (rfX X (gR G o k)) else .int (Int32.ofInt (mi o k)))
def entX (X : Cx) (G : Gh) (mi : Mi) (o : Nat) : va_E :=
  if (gK G o).1 < 20 then .inr ((gK G o).1 - 1, fvs X G mi o ((gK G o).1 - 1))
  else if (gK G o).1 = 20 then .inl (xI X, (gK G o).2, .inl fun j => Int32.ofInt (mi o j))
  else if (gK G o).1 = 21 then .inl (xZ X, (gK G o).2, .inl fun j => Int32.ofInt (mi o j))
  else .inl (xT X, (gK G o).2, .inr (.inr (.inr (.inr fun j => rfX X (gR G o j)))))
def wlX (X : Cx) (G : Gh) (mi : Mi) : va_W := (List.range (gN G)).map fun o => (xb X + o, entX X G mi o)
def gOK (X : Cx) (G : Gh) : Prop := (∀ o, (gK G o).1 ≠ 0 → o < gN G) ∧ (∀ o, (gK G o).1 ≤ 13 ∨ 20 ≤ (gK G o).1 ∧ (gK G o).1 ≤ 22) ∧ (∀ o, (gK G o).2 < 100000) ∧ gL G = (xs X).2.1 ∧ ∀ i : Int, 0 ≤ i → i < gL G → gX G i = ((xs X).2.2 i.toNat).toInt
def InvS (X : Cx) (G : Gh) (mi : Mi) (H : Heap) : Prop := va_P (xD X) vwCl (wlX X G mi) H ∧ (∀ a j, in32 (mi a j)) ∧ gOK X G
def Inv (X : Cx) (G : Gh) (mi : Mi) (s : State) (H : Heap) (locs : List Loc) : Prop := InvS X G mi H ∧ va_S (AX X) s.heap H locs
def prs (X : Cx) (L : Lcs) : List (Nat × Value) := (List.range L.length).filterMap (fun i => (lg L i).map (fun v => (i, trV X v)))
def LR (X : Cx) (nL : Nat) (ls : Array Slot) (L : Lcs) : Prop := lv_has ls nL (prs X L) ∧ L.length = nL
def EnvU (X : Cx) (U : State) (H : Heap) : Prop :=
  va_K (xD X) vwCl (tysX X) U ∧ (va_X (xs X).1 (xs X).2.1 (xs X).2.2 U H ∧ (xs X).1 < xb X ∧ (xs X).2.1 ≤ 2048) ∧ vk_S sTexts.length sLens sByts (xK X) (xV X) (AX X) U H ∧
  (∀ q ∈ strL, vk_R q.1 q.2.1 q.2.2.1 (xK X q.2.2.2) U) ∧ va_Z "java/lang/String" "COMPACT_STRINGS" "Z" (.int 1) (AX X) U H ∧
  (va_Z "jdk/internal/util/Preconditions" "SIOOBE_FORMATTER" "Ljava/util/function/BiFunction;" (xF X) (AX X) U H ∧ (xF X = .null ∨ ∃ a, xF X = .ref a)) ∧
  (∀ q ∈ nestL, va_Nw (.methodLinkNest q.1 q.2.1 q.2.2.1 q.2.2.2) U) ∧ (∀ q ∈ castL, va_Nw (.castable q.1 q.2) U) ∧ (∀ q ∈ ncastL, va_Nc q.1 q.2 U) ∧ va_AO "CoinTelescope$Thing" U
theorem lg_some {L : Lcs} {i : Nat} {v : PV} (h : lg L i = some v) : i < L.length ∧ L[i]? = some (some v) := by
  unfold lg at h
  rw [List.getD_eq_getElem?_getD] at h
  cases hx : L[i]? with
  | none => rw [hx] at h; cases h
  | some w =>
    rw [hx] at h
    have : w = some v := h
    subst this
    exact ⟨(List.getElem?_eq_some_iff.mp hx).1, rfl⟩
theorem prs_mem {X : Cx} {L : Lcs} {i : Nat} {v : PV} (h : lg L i = some v) : (i, trV X v) ∈ prs X L :=
  List.mem_filterMap.mpr ⟨i, List.mem_range.mpr (lg_some h).1, by rw [h]; rfl⟩
theorem prs_of {X : Cx} {L : Lcs} {q : Nat × Value} (h : q ∈ prs X L) : ∃ v, lg L q.1 = some v ∧ q.2 = trV X v := by
  obtain ⟨i, -, hi⟩ := List.mem_filterMap.mp h
  cases hx : lg L i with
  | none => rw [hx] at hi; cases hi
  | some v =>
    rw [hx] at hi
    have e : (i, trV X v) = q := Option.some.inj hi
    subst e
    exact ⟨v, hx, rfl⟩
theorem LR.at {X : Cx} {nL : Nat} {ls : Array Slot} {L : Lcs} (h : LR X nL ls L) {i : Nat} {v : PV} (hl : lg L i = some v) : ls[i]? = some (.val (trV X v)) := h.1.2.2 _ (prs_mem hl)
theorem evX_ref {X : Cx} {U : State} {H : Heap} (hE : EnvU X U H) (e : Nat) : evX X e = .null ∨ ∃ a, evX X e = .ref a := by
  unfold evX
  split
  · exact Or.inr ⟨_, rfl⟩
  · split
    · exact Or.inr ⟨_, rfl⟩
    · split
      · exact Or.inr ⟨_, rfl⟩
      · exact hE.2.2.2.2.2.1.2
theorem trR_ref {X : Cx} {U : State} {H : Heap} (hE : EnvU X U H) (r : Option Nat ⊕ Nat) : trV X (.inr (.inr r)) = .null ∨ ∃ a, trV X (.inr (.inr r)) = .ref a := by
  cases r with
  | inl r => cases r with
    | none => exact Or.inl rfl
    | some a => exact Or.inr ⟨_, rfl⟩
  | inr e => exact evX_ref hE e
theorem tr_cat1 {X : Cx} {U : State} {H : Heap} (hE : EnvU X U H) {v : PV} (h : isL (some v) = false) : (trV X v).category = 1 := by
  match v, h with
  | .inl i, _ => rfl
  | .inr (.inl l), h => cases h
  | .inr (.inr r), _ => rcases trR_ref hE r with h | ⟨a, h⟩ <;> rw [h] <;> rfl
theorem lg_set {L : Lcs} {i j : Nat} {v : Option PV} : lg (L.set i v) j = if i = j ∧ j < L.length then v else lg L j := by
  unfold lg
  rw [List.getD_eq_getElem?_getD, List.getD_eq_getElem?_getD, List.getElem?_set]
  by_cases h : i = j
  · subst h
    by_cases h2 : i < L.length
    · simp [h2]
    · have : L[i]? = none := List.getElem?_eq_none_iff.mpr (by omega)
      simp [h2]
  · simp [h]
theorem LR.store {X : Cx} {U : State} {H : Heap} (hE : EnvU X U H) {nL : Nat} {ls : Array Slot} {L : Lcs} {i : Nat} {w : Value} {v : PV} (h : LR X nL ls L) (hw : trV X v = w) (hs : okSt L i = true) (hi : i < L.length) {ls' : Array Slot}
    (h' : lv_has ls' nL ((i, w) :: (prs X L).filter (fun q => !(q.1 == i) && !(q.1 + 1 == i && q.2.category == 2)))) : LR X nL ls' (L.set i (some v)) := by
  refine ⟨⟨h'.1, h'.2.1, fun q hq => ?_⟩, by rw [List.length_set]; exact h.2⟩
  obtain ⟨u, hu, hqu⟩ := prs_of hq
  rw [lg_set] at hu
  by_cases hj : i = q.1 ∧ q.1 < L.length
  · rw [if_pos hj] at hu
    cases hu
    have h0 := h'.2.2 (i, w) List.mem_cons_self
    rw [← hj.1, hqu, hw]
    exact h0
  · rw [if_neg hj] at hu
    have hlt := (lg_some hu).1
    have hne : ¬ q.1 = i := fun z => hj ⟨z.symm, hlt⟩
    refine h'.2.2 q (List.mem_cons_of_mem _ (List.mem_filter.mpr ⟨?_, ?_⟩))
    · have := prs_mem (X := X) hu
      rw [← hqu] at this
      exact this
    · have h1 : (q.1 == i) = false := by simpa using hne
      rw [h1]
      by_cases h2 : q.1 + 1 = i
      · have h3 : okSt L (q.1 + 1) = true := by rw [h2]; exact hs
        have h4 : isL (lg L q.1) = false := by simpa [okSt] using h3
        rw [hu] at h4
        have h5 := tr_cat1 hE h4
        rw [hqu, h5]
        simp
      · have h3 : (q.1 + 1 == i) = false := by simpa using h2
        rw [h3]
        rfl
theorem okL.set {L : Lcs} (h : okL L) {i : Nat} {v : PV} (hv : okV v) : okL (L.set i (some v)) := by
  intro j w hw
  rw [lg_set] at hw
  split at hw
  · cases hw; exact hv
  · exact h j w hw
theorem okL.setN {L : Lcs} (h : okL L) {i : Nat} : okL (L.set i none) := by
  intro j w hw
  rw [lg_set] at hw
  split at hw
  · cases hw
  · exact h j w hw
theorem LR.storeL {X : Cx} {U : State} {H : Heap} (hE : EnvU X U H) {nL : Nat} {ls : Array Slot} {L : Lcs} {i : Nat} {w : Value} {v : PV} (h : LR X nL ls L) (hw : trV X v = w) (hs : okSt L i = true) (hi : i + 1 < L.length) {ls' : Array Slot}
    (h' : lv_has ls' nL ((i, w) :: (prs X L).filter (fun q => !(q.1 == i) && (!(q.1 == i + 1) && !(q.1 + 1 == i && q.2.category == 2))))) : LR X nL ls' ((L.set i (some v)).set (i + 1) none) := by
  refine ⟨⟨h'.1, h'.2.1, fun q hq => ?_⟩, by rw [List.length_set, List.length_set]; exact h.2⟩
  obtain ⟨u, hu, hqu⟩ := prs_of hq
  rw [lg_set] at hu
  by_cases hj1 : i + 1 = q.1 ∧ q.1 < (L.set i (some v)).length
  · rw [if_pos hj1] at hu; cases hu
  · rw [if_neg hj1, lg_set] at hu
    by_cases hj : i = q.1 ∧ q.1 < L.length
    · rw [if_pos hj] at hu
      cases hu
      have h0 := h'.2.2 (i, w) List.mem_cons_self
      rw [← hj.1, hqu, hw]
      exact h0
    · rw [if_neg hj] at hu
      have hlt := (lg_some hu).1
      have hne : ¬ q.1 = i := fun z => hj ⟨z.symm, hlt⟩
      have hne1 : ¬ q.1 = i + 1 := fun z => hj1 ⟨z.symm, by rw [List.length_set]; exact hlt⟩
      refine h'.2.2 q (List.mem_cons_of_mem _ (List.mem_filter.mpr ⟨?_, ?_⟩))
      · have := prs_mem (X := X) hu
        rw [← hqu] at this
        exact this
      · have h1 : (q.1 == i) = false := by simpa using hne
        have h1' : (q.1 == i + 1) = false := by simpa using hne1
        rw [h1, h1']
        by_cases h2 : q.1 + 1 = i
        · have h3 : okSt L (q.1 + 1) = true := by rw [h2]; exact hs
          have h4 : isL (lg L q.1) = false := by simpa [okSt] using h3
          rw [hu] at h4
          have h5 := tr_cat1 hE h4
          rw [hqu, h5]
          simp
        · have h3 : (q.1 + 1 == i) = false := by simpa using h2
          rw [h3]
          rfl
/-! numbers -/
theorem wr_of (x : Int) : Int32.ofInt (wr x) = Int32.ofInt x := by
  apply Int32.toInt_inj.mp
  rw [Int32.toInt_ofInt, Int32.toInt_ofInt]
  exact Int.bmod_bmod
theorem wr_in (x : Int) : in32 (wr x) := by
  unfold wr in32
  constructor
  · have := Int.le_bmod (x := x) (m := 4294967296) (by decide)
    simpa using this
  · have := Int.bmod_lt (x := x) (m := 4294967296) (by decide)
    have h : (4294967296 + 1 : Int) / 2 = 2147483648 := by decide
    omega
theorem wl_of (x : Int) : Int64.ofInt (wl x) = Int64.ofInt x := by
  apply Int64.toInt_inj.mp
  rw [Int64.toInt_ofInt, Int64.toInt_ofInt]
  exact Int.bmod_bmod
theorem wl_in (x : Int) : in64 (wl x) := by
  unfold wl in64
  constructor
  · have := Int.le_bmod (x := x) (m := 18446744073709551616) (by decide)
    simpa using this
  · have := Int.bmod_lt (x := x) (m := 18446744073709551616) (by decide)
    have h : (18446744073709551616 + 1 : Int) / 2 = 9223372036854775808 := by decide
    omega
theorem of_to {x : Int} (h : in32 x) : (Int32.ofInt x).toInt = x := Int32.toInt_ofInt_of_le (by have := h.1; omega) (by have := h.2; omega)
theorem of_toL {x : Int} (h : in64 x) : (Int64.ofInt x).toInt = x := Int64.toInt_ofInt_of_le (by have := h.1; omega) (by have := h.2; omega)
theorem to_in (x : Int32) : in32 x.toInt := ⟨by have := Int32.le_toInt x; omega, by have := Int32.toInt_lt x; omega⟩
theorem of_lt {x y : Int} (hx : in32 x) (hy : in32 y) : Int32.ofInt x < Int32.ofInt y ↔ x < y := by rw [Int32.lt_iff_toInt_lt, of_to hx, of_to hy]
theorem of_le {x y : Int} (hx : in32 x) (hy : in32 y) : Int32.ofInt x ≤ Int32.ofInt y ↔ x ≤ y := by rw [Int32.le_iff_toInt_le, of_to hx, of_to hy]
theorem of_eq {x y : Int} (hx : in32 x) (hy : in32 y) : Int32.ofInt x = Int32.ofInt y ↔ x = y := ⟨fun h => by rw [← of_to hx, h, of_to hy], fun h => by rw [h]⟩
theorem in_0 : in32 0 := ⟨by decide, by decide⟩
theorem of_clamp {x : Int} (h : in32 x) : (Int32.ofInt x).toNatClampNeg = x.toNat := by show (Int32.ofInt x).toInt.toNat = _; rw [of_to h]
theorem of_vp {x : Int} {n : Nat} (h : in32 x) (h0 : 0 ≤ x) (h1 : x < n) : vp_in (Int32.ofInt x) n := by
  rintro (h2 | h2)
  · have := (of_lt h in_0).mp h2
    omega
  · rw [of_clamp h] at h2
    omega
theorem of_tdiv {x y : Int} (hx : in32 x) (hy : in32 y) (h : 0 < y) : Int32.ofInt x / Int32.ofInt y = Int32.ofInt (x.tdiv y) := by
  rw [Int32.ofInt_tdiv (show (-2147483648 : Int) ≤ x from hx.1) (show x ≤ (2147483647 : Int) from hx.2) (show (-2147483648 : Int) ≤ y from hy.1) (show y ≤ (2147483647 : Int) from hy.2)]
theorem tdiv_in {x y : Int} (hx : in32 x) (h : 0 < y) : in32 (x.tdiv y) := by
  unfold in32 at hx ⊢
  rcases Int.le_total 0 x with h0 | h0
  · rw [Int.tdiv_eq_ediv_of_nonneg h0]
    have h1 := Int.ediv_nonneg h0 (Int.le_of_lt h)
    have h2 := Int.ediv_le_self y h0
    omega
  · have e : x.tdiv y = -((-x).tdiv y) := by rw [Int.neg_tdiv, Int.neg_neg]
    rw [e, Int.tdiv_eq_ediv_of_nonneg (by omega : 0 ≤ -x)]
    have h1 := Int.ediv_nonneg (by omega : 0 ≤ -x) (Int.le_of_lt h)
    have h2 := Int.ediv_le_self y (by omega : 0 ≤ -x)
    omega
theorem tmod_eq {x y : Int} : x - x.tdiv y * y = x.tmod y := by
  rw [Int.tmod_def, Int.mul_comm]
theorem em_le {x y : Int} (h0 : 0 ≤ x) (h : 0 < y) : x % y ≤ x := by
  have h2 : x % y = x - y * (x / y) := Int.emod_def x y
  have h3 : 0 ≤ y * (x / y) := Int.mul_nonneg (Int.le_of_lt h) (Int.ediv_nonneg h0 (Int.le_of_lt h))
  rw [h2]
  generalize y * (x / y) = t at h3
  omega
theorem tmod_in {x y : Int} (hx : in32 x) (h : 0 < y) : in32 (x.tmod y) := by
  unfold in32 at hx ⊢
  rcases Int.le_total 0 x with h0 | h0
  · rw [Int.tmod_eq_emod_of_nonneg h0]
    have h1 := Int.emod_nonneg x (by omega : y ≠ 0)
    have h2 := em_le h0 h
    omega
  · have e : x.tmod y = -((-x).tmod y) := by rw [Int.neg_tmod, Int.neg_neg]
    rw [e, Int.tmod_eq_emod_of_nonneg (by omega : 0 ≤ -x)]
    have h1 := Int.emod_nonneg (-x) (by omega : y ≠ 0)
    have h2 := em_le (by omega : 0 ≤ -x) h
    omega

