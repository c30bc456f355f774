/-! ===== small sets as numbers ===== -/
def p2 (p : Int) : Int := 2 ^ p.toNat
def bt (x p : Int) : Int := x / p2 p % 2
def clr (x p : Int) : Int := if bt x p = 1 then x - p2 p else x
def pcn (x : Int) : Int := bt x 0 + bt x 1 + bt x 2 + bt x 3 + bt x 4 + bt x 5
theorem fin6 {P : Int → Prop} (h : ∀ p : Fin 6, P (p.1 : Nat)) {p : Int} (h2 : 0 ≤ p) (h3 : p < 6) : P p := by
  have := h ⟨p.toNat, by omega⟩
  rw [Int.toNat_of_nonneg h2] at this
  exact this
theorem fin64 {P : Int → Prop} (h : ∀ p : Fin 64, P (p.1 : Nat)) {p : Int} (h2 : 0 ≤ p) (h3 : p < 64) : P p := by
  have := h ⟨p.toNat, by omega⟩
  rw [Int.toNat_of_nonneg h2] at this
  exact this
theorem fin2 {P : Int → Int → Prop} (h : ∀ x : Fin 64, ∀ p : Fin 6, P (x.1 : Nat) (p.1 : Nat)) {x p : Int} (h0 : 0 ≤ x) (h1 : x < 64) (h2 : 0 ≤ p) (h3 : p < 6) : P x p :=
  fin6 (P := P x) (fun p => fin64 (P := fun x => P x (p.1 : Nat)) (fun x => h x p) h0 h1) h2 h3
theorem fin22 {P : Int → Int → Prop} (h : ∀ x : Fin 64, ∀ p : Fin 64, P (x.1 : Nat) (p.1 : Nat)) {x p : Int} (h0 : 0 ≤ x) (h1 : x < 64) (h2 : 0 ≤ p) (h3 : p < 64) : P x p :=
  fin64 (P := P x) (fun p => fin64 (P := fun x => P x (p.1 : Nat)) (fun x => h x p) h0 h1) h2 h3
theorem b_get {x p : Int} (h0 : 0 ≤ x) (h1 : x < 64) (h2 : 0 ≤ p) (h3 : p < 6) : iAnd (iShr x p) 1 = bt x p :=
  fin2 (P := fun x p => iAnd (iShr x p) 1 = bt x p) (by decide +kernel) h0 h1 h2 h3
theorem b_clr {x p : Int} (h0 : 0 ≤ x) (h1 : x < 64) (h2 : 0 ≤ p) (h3 : p < 6) : iAnd x (iXor (iShl 1 p) (-1)) = clr x p ∧ 0 ≤ clr x p ∧ clr x p < 64 ∧ (bt x p = 1 → pcn (clr x p) = pcn x - 1) :=
  fin2 (P := fun x p => iAnd x (iXor (iShl 1 p) (-1)) = clr x p ∧ 0 ≤ clr x p ∧ clr x p < 64 ∧ (bt x p = 1 → pcn (clr x p) = pcn x - 1)) (by decide +kernel) h0 h1 h2 h3
theorem b_set {x p : Int} (h0 : 0 ≤ x) (h1 : x < 64) (h2 : 0 ≤ p) (h3 : p < 6) : iOr x (iShl 1 p) = (if bt x p = 1 then x else x + p2 p) ∧ iOr x 0 = x :=
  fin2 (P := fun x p => iOr x (iShl 1 p) = (if bt x p = 1 then x else x + p2 p) ∧ iOr x 0 = x) (by decide +kernel) h0 h1 h2 h3
theorem b_bt {x p : Int} (h0 : 0 ≤ x) (h1 : x < 64) (h2 : 0 ≤ p) (h3 : p < 6) : (bt x p = 0 ∨ bt x p = 1) ∧ (pcn x = 0 → x = 0) ∧ 0 ≤ pcn x ∧ pcn x ≤ 6 ∧ bt 0 p = 0 ∧ (bt x p = 1 → 1 ≤ pcn x) :=
  fin2 (P := fun x p => (bt x p = 0 ∨ bt x p = 1) ∧ (pcn x = 0 → x = 0) ∧ 0 ≤ pcn x ∧ pcn x ≤ 6 ∧ bt 0 p = 0 ∧ (bt x p = 1 → 1 ≤ pcn x)) (by decide +kernel) h0 h1 h2 h3
/-- those of the first that are not of the second -/
def anN (x y : Int) : Int := iAnd x (iXor y (-1))
theorem b_anN {x y : Int} (h0 : 0 ≤ x) (h1 : x < 64) (h2 : 0 ≤ y) (h3 : y < 64) : 0 ≤ anN x y ∧ anN x y < 64 ∧ (∀ p : Fin 6, bt (anN x y) (p.1 : Nat) = bt x (p.1 : Nat) * (1 - bt y (p.1 : Nat))) :=
  fin22 (P := fun x y => 0 ≤ anN x y ∧ anN x y < 64 ∧ (∀ p : Fin 6, bt (anN x y) (p.1 : Nat) = bt x (p.1 : Nat) * (1 - bt y (p.1 : Nat)))) (by decide +kernel) h0 h1 h2 h3
theorem b_or {x y : Int} (h0 : 0 ≤ x) (h1 : x < 64) (h2 : 0 ≤ y) (h3 : y < 64) : 0 ≤ iOr x y ∧ iOr x y < 64 ∧ (∀ p : Fin 6, bt (iOr x y) (p.1 : Nat) = bt x (p.1 : Nat) + bt y (p.1 : Nat) - bt x (p.1 : Nat) * bt y (p.1 : Nat)) :=
  fin22 (P := fun x y => 0 ≤ iOr x y ∧ iOr x y < 64 ∧ (∀ p : Fin 6, bt (iOr x y) (p.1 : Nat) = bt x (p.1 : Nat) + bt y (p.1 : Nat) - bt x (p.1 : Nat) * bt y (p.1 : Nat))) (by decide +kernel) h0 h1 h2 h3
