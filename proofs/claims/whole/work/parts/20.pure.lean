/-! ===== arithmetic ===== -/
theorem wr_id {x : Int} (h1 : -2147483648 ≤ x) (h2 : x ≤ 2147483647) : wr x = x := by
  unfold wr
  rw [Int.bmod_def]
  split <;> omega
theorem td_e {a b : Int} (h : 0 ≤ a) : a.tdiv b = a / b := Int.tdiv_eq_ediv_of_nonneg h
theorem tm_e {a b : Int} (h : 0 ≤ a) : a.tmod b = a % b := Int.tmod_eq_emod_of_nonneg h
theorem mulb {a b A B : Int} (ha : 0 ≤ a) (hA : a ≤ A) (hb : 0 ≤ b) (hB : b ≤ B) : 0 ≤ a * b ∧ a * b ≤ A * B := ⟨Int.mul_nonneg ha hb, Int.mul_le_mul hA hB hb (Int.le_trans ha hA)⟩
theorem up_s {mi : Mi} {o : Nat} {k v : Int} : up mi o k v o k = v := by simp [up]
theorem up_k {mi : Mi} {o : Nat} {k v j : Int} (h : ¬ j = k) : up mi o k v o j = mi o j := by simp [up, h]
theorem up_a {mi : Mi} {o a : Nat} {k v : Int} (h : ¬ a = o) : up mi o k v a = mi a := up_o h
theorem up_f {mi : Mi} {o : Nat} {k v : Int} : up mi o k v o = fun j => if j = k then v else mi o j := by funext j; simp [up]
-- #def AR wr_id, td_e, tm_e, pu_n, pu_s, up_s, up_k, up_a, ↓reduceIte, Int.reduceLT, Int.reduceLE, Int.reduceEq, Int.reduceNeg, Int.reduceAdd, Int.reduceSub, Int.reduceMul, Int.reduceMod, Int.reduceDiv, Int.cast_ofNat_Int, not_true_eq_false, not_false_eq_true, Int.reduceTDiv, Int.reduceTMod
theorem isL_i {v : Int} : isL (some (pI v)) = false := rfl
theorem isL_r {r : Option Nat ⊕ Nat} : isL (some (.inr (.inr r))) = false := rfl
theorem isL_n : isL none = false := rfl
theorem i01a {c : Prop} [Decidable c] : (0 : Int) ≤ if c then 1 else 0 := by split <;> decide
theorem i01b {c : Prop} [Decidable c] : (if c then (1 : Int) else 0) ≤ 1 := by split <;> decide
-- #def DI (disch := first | assumption | exact isL_i | exact isL_r | exact isL_n | exact i01a | exact i01b | omega)
/-! ===== what the reference says, over its row of numbers ===== -/
def plc (kind home v extra tick : Int) : Int := if kind = 1 then home / 6 * 6 + (home % 6 + tick) % 6 else if kind = 3 then (home + v * tick) % 24 else if kind = 4 then home / 6 * 6 + (home % 6 + tick / 2) % 6 else if kind = 6 then (home + v * tick + extra) % 24 else home
/-- where thing p is on a tick -/
def atF (s : Int → Int) (p t : Int) : Int := plc (s (18 + p)) (s (30 + p)) (s (24 + p)) (s (36 + 4 * p + t % 4)) t
theorem plc_in {kind home v extra tick : Int} (h1 : 0 ≤ home) (h2 : home ≤ 23) : 0 ≤ plc kind home v extra tick ∧ plc kind home v extra tick ≤ 23 := by
  unfold plc
  repeat' split
  all_goals omega
abbrev dimP (s : Int → Int) (hz p t : Int) : Prop := ¬ s (18 + p) = 5 ∧ atF s p t / 6 < hz
/-- one test of a view, and what a clause counts -/
def tst (fb : Int → Int) (x : Int) : Bool := if x / 8 % 4 = 0 then decide (fb (x % 8) < x / 32) else if x / 8 % 4 = 1 then decide (fb (x % 8) = x / 32) else decide (x / 32 < fb (x % 8))
def amt (x : Int) : Int := if -200 < x then -10 - x else x + 200
def stp (fb : Int → Int) (x : Int) (st : List Bool) : List Bool :=
  if 0 ≤ x then tst fb x :: st
  else if x = -1 then (match st with
    | b :: q => (!b) :: q
    | [] => [])
  else if -10 < x then (match st with
    | b :: c :: q => (if x = -2 then c && b else c || b) :: q
    | _ => [])
  else []
def adF (x : Int) (st : List Bool) : Int := if x ≤ -10 ∧ st.head? = some true then amt x else 0
def evS (fb : Int → Int) : List Int → List Bool → Int → Int
  | [], _, a => a
  | x :: r, st, a => evS fb r (stp fb x st) (a + adF x st)
/-- steps that a view can have: each finds what it needs -/
def wfS : List Int → Nat → Prop
  | [], k => k = 0
  | x :: r, k => x ≤ 3200 ∧ (if 0 ≤ x then x % 8 < 6 ∧ x / 8 % 4 < 3 ∧ k < 13 ∧ wfS r (k + 1)
    else if x = -1 then 1 ≤ k ∧ wfS r k
    else if -10 < x then -3 ≤ x ∧ 2 ≤ k ∧ wfS r (k - 1)
    else k = 1 ∧ (-109 ≤ x ∨ -299 ≤ x ∧ x ≤ -200) ∧ wfS r 0)
def seg (s : Int → Int) (a : Int) : Nat → List Int
  | 0 => []
  | n + 1 => s a :: seg s (a + 1) n
def bi (b : Bool) : Int := if b = true then 1 else 0
def manyF (s : Int → Int) : Int := if s 17 = -1 then 0 else s (214 + s 17)
def stepsF (s : Int → Int) : List Int := seg s (219 + 140 * s 17) (manyF s).toNat
def fbF (s : Int → Int) (p t : Int) : Int → Int := fun k => if k = 0 then p else if k = 1 then s (18 + p) else if k = 2 then s (24 + p) else if k = 3 then atF s p t else if k = 4 then t % 10 else s 8
def baseF (s : Int → Int) (p t : Int) : Int := evS (fbF s p t) (stepsF s) [] 0
def mx0 (x : Int) : Int := if x < 0 then 0 else x
def wthF (kind v cell base : Int) : Int :=
  if kind = 1 then 5 + base else if kind = 2 then (4 + base).tdiv 2 else if kind = 3 then base + v
  else if kind = 4 then (5 + base) * (if cell % 6 = 0 then 2 else 1) else if kind = 5 then (4 + base).tdiv 2 + v else if kind = 6 then base + v + 1 else 4 + base
def worthF (s : Int → Int) (p t : Int) : Int := mx0 (wthF (s (18 + p)) (s (24 + p)) (atF s p t) (baseF s p t))
def brt (c k : Int) : Int := if k = 1 then (if c < 6 then c else c - 6) else if k = 2 then (if c % 6 = 5 then c else c + 1) else if k = 3 then (if 17 < c then c else c + 6) else if k = 4 then (if c % 6 = 0 then c else c - 1) else c
/-- what the reference keeps of the things, in its ranges -/
def WfT (s : Int → Int) : Prop :=
  (∀ p : Int, 0 ≤ p → p < 6 → (0 ≤ s (18 + p) ∧ s (18 + p) ≤ 6) ∧ (0 ≤ s (24 + p) ∧ s (24 + p) ≤ 9) ∧ (0 ≤ s (30 + p) ∧ s (30 + p) ≤ 23)) ∧
  (∀ k : Int, 36 ≤ k → k < 60 → 0 ≤ s k ∧ s k ≤ 9)
/-- the numbers that the reference keeps, in their ranges -/
def WfN (s : Int → Int) : Prop :=
  ((0 ≤ s 0 ∧ s 0 ≤ 9999) ∧ (0 ≤ s 1 ∧ s 1 ≤ 23) ∧ (0 ≤ s 8 ∧ s 8 ≤ 99) ∧ (0 ≤ s 9 ∧ s 9 ≤ 9999) ∧ (0 ≤ s 10 ∧ s 10 ≤ 9999999) ∧ (0 ≤ s 11 ∧ s 11 ≤ 6) ∧ (0 ≤ s 12 ∧ s 12 ≤ 5) ∧ (0 ≤ s 13 ∧ s 13 ≤ 5) ∧ (0 ≤ s 14 ∧ s 14 ≤ 8) ∧ (0 ≤ s 15 ∧ s 15 ≤ 8) ∧ (0 ≤ s 16 ∧ s 16 ≤ 100)) ∧
  (∀ p : Int, 0 ≤ p → p < 6 → (0 ≤ s (2 + p) ∧ s (2 + p) ≤ 1)) ∧
  WfT s ∧
  (-1 ≤ s 17 ∧ s 17 ≤ 4 ∧ s 17 < s 12)
/-- the newest view, as the reference keeps it -/
def WfV (s : Int → Int) : Prop := (0 ≤ manyF s ∧ manyF s ≤ 140) ∧ wfS (stepsF s) 0 ∧
  (s 17 ≠ -1 → (0 ≤ s (199 + s 17) ∧ s (199 + s 17) ≤ 99) ∧ (0 ≤ s (204 + s 17) ∧ s (204 + s 17) ≤ 99) ∧ (0 ≤ s (209 + s 17) ∧ s (209 + s 17) ≤ 99))
theorem atF_in {s : Int → Int} {p t : Int} (h0 : 0 ≤ s (30 + p)) (h6 : s (30 + p) ≤ 23) : 0 ≤ atF s p t ∧ atF s p t ≤ 23 := plc_in h0 h6
def stkM (f : Int → Int) : List Bool → Prop
  | [] => True
  | b :: r => f r.length = bi b ∧ stkM f r
theorem stkM_up {mi : Mi} {o : Nat} {k v : Int} : ∀ (r : List Bool), (r.length : Int) ≤ k → stkM (mi o) r → stkM (up mi o k v o) r := by
  intro r
  induction r with
  | nil => intro _ _; trivial
  | cons b r ih =>
    intro h hs
    simp only [List.length_cons] at h
    refine ⟨?_, ih (by omega) hs.2⟩
    rw [up_k (by omega)]
    exact hs.1
theorem bi_01 (b : Bool) : bi b = 0 ∨ bi b = 1 := by cases b <;> simp [bi]
/-- all cells but those listed stay -/
def Sc (l : List Nat) (mi mi' : Mi) : Prop := ∀ a : Nat, ¬ a ∈ l → mi' a = mi a
theorem Sc.rf {l : List Nat} {mi : Mi} : Sc l mi mi := fun _ _ => rfl
theorem Sc.tr {l : List Nat} {mi mi' mi'' : Mi} (h : Sc l mi mi') (h' : Sc l mi' mi'') : Sc l mi mi'' := fun a ha => (h' a ha).trans (h a ha)
theorem Sc.wk {l l' : List Nat} {mi mi' : Mi} (h : Sc l mi mi') (hl : ∀ a ∈ l, a ∈ l') : Sc l' mi mi' := fun a ha => h a (fun hc => ha (hl a hc))
theorem sc_up {l : List Nat} {mi : Mi} {o : Nat} {k v : Int} (h : o ∈ l) : Sc l mi (up mi o k v) := fun a ha => up_o (fun he => ha (he ▸ h))
theorem ifb {b : Bool} {α : Sort _} {x y : α} : (if b = true then x else y) = (if bi b = 1 then x else y) := by cases b <;> rfl
theorem atF_wf {s : Int → Int} (hT : WfT s) {p t : Int} (h0 : 0 ≤ p) (h6 : p < 6) : 0 ≤ atF s p t ∧ atF s p t ≤ 23 := by
  have h := (hT.1 p h0 h6).2.2
  exact plc_in h.1 h.2
