/-! ===== clauses ===== -/
def smN (h : Int → Int) : List Int → Int → Nat
  | [], _ => 0
  | c :: r, i => if h i = c then smN h r (i + 1) + 1 else 0
def sqF (h : Int → Int) : List Int → Int → Int × Bool
  | [], i => (i, true)
  | c :: r, i => if h i = c then sqF h r (i + 1) else (i, false)
abbrev ClR : Type := Int × Option (Nat × Int × List Int)
/-- from behind a word and its blank -/
def nuF (h : Int → Int) (w : Nat) (i : Int) : ClR := match nmF h i with
  | (j, none) => (j, none)
  | (j, some n) => if w < 3 then (j, some (w, n, [])) else if h j = 32 then (match rd h 404 2 0 (j + 1) with
    | some (k, some L) => (k, some (w, n, L))
    | some (k, none) => (k, none)
    | none => (j, none)) else (j, none)
def wsF (h : Int → Int) (w : Nat) (ws : List Int) (i : Int) : ClR := match sqF h ws i with
  | (j, true) => nuF h w j
  | (j, false) => (j, none)
def clF (h : Int → Int) (i : Int) : ClR :=
  if h i = 99 then wsF h 0 [99, 111, 105, 110, 32] i
  else if h i = 97 then wsF h 1 [97, 100, 100, 115, 32] i
  else if h i = 104 then wsF h 2 [104, 97, 122, 101, 32] i
  else if h i = 100 then (if h (i + 1) = 101 then wsF h 3 [101, 97, 114, 32] (i + 1) else wsF h 4 [117, 108, 108, 32] (i + 1))
  else (i, none)
def wdL : Nat → List Int
  | 0 => [99, 111, 105, 110]
  | 1 => [97, 100, 100, 115]
  | 2 => [104, 97, 122, 101]
  | 3 => [100, 101, 97, 114]
  | _ => [100, 117, 108, 108]
def mxN (a b : Nat) : Nat := if a < b then b else a
/-- the words one after another, from u on; the longest beginning so far -/
def wdC (h : Int → Int) (i : Int) : Nat → Nat → Nat → Int × Option Nat
  | 0, _, l => (i + l, none)
  | m + 1, u, l => if smN h (wdL u) i = 4 then (i + 4, some u) else wdC h i m (u + 1) (mxN l (smN h (wdL u) i))
def clC (h : Int → Int) (i : Int) : ClR := match wdC h i 5 0 0 with
  | (j, none) => (j, none)
  | (j, some w) => if h j = 32 then nuF h w (j + 1) else (j, none)
theorem smN_le {h : Int → Int} : ∀ (W : List Int) (i : Int), smN h W i ≤ W.length := by
  intro W
  induction W with
  | nil => intro i; exact Nat.le_refl _
  | cons c W ih =>
    intro i
    simp only [smN, List.length_cons]
    split
    · have := ih (i + 1); omega
    · omega
theorem sq_sm {h : Int → Int} : ∀ (W : List Int) (i : Int), sqF h (W ++ [32]) i = if smN h W i = W.length then (if h (i + W.length) = 32 then (i + W.length + 1, true) else (i + W.length, false)) else (i + smN h W i, false) := by
  intro W
  induction W with
  | nil =>
    intro i
    simp [sqF, smN]
  | cons c W ih =>
    intro i
    simp only [List.cons_append, sqF, smN, List.length_cons]
    have hl := smN_le (h := h) W (i + 1)
    by_cases e : h i = c
    · rw [if_pos e, if_pos e, ih (i + 1)]
      by_cases f : smN h W (i + 1) = W.length
      · rw [if_pos f, if_pos (show smN h W (i + 1) + 1 = W.length + 1 by omega), show i + 1 + (W.length : Int) = i + ((W.length + 1 : Nat) : Int) by omega]
      · rw [if_neg f, if_neg (show ¬ smN h W (i + 1) + 1 = W.length + 1 by omega), show i + 1 + (smN h W (i + 1) : Int) = i + ((smN h W (i + 1) + 1 : Nat) : Int) by omega]
    · rw [if_neg e, if_neg e, if_neg (by omega)]
      simp
theorem sm_0 {h : Int → Int} {c i : Int} {W : List Int} (e : ¬ h i = c) : smN h (c :: W) i = 0 := if_neg e
theorem mx_0 {l : Nat} : mxN l 0 = l := by unfold mxN; rw [if_neg (by omega)]
theorem mx_1 {l : Nat} : mxN 0 l = l := by unfold mxN; split <;> omega
def clK (h : Int → Int) (x : Int × Option Nat) : ClR := match x with
  | (j, none) => (j, none)
  | (j, some w) => if h j = 32 then nuF h w (j + 1) else (j, none)
/-- one word alone can be meant -/
theorem cl_one {h : Int → Int} {i : Int} {w : Nat} {W : List Int} (hl : W.length = 4) (s : Nat) (hs : s = smN h W i) (x : Int × Option Nat) (hx : x = if s = 4 then (i + 4, some w) else (i + s, none)) : clK h x = wsF h w (W ++ [32]) i := by
  unfold wsF
  rw [sq_sm, hl, ← hs, hx]
  by_cases c : s = 4
  · rw [if_pos c, if_pos c]
    rw [show (i + ((4 : Nat) : Int)) = i + 4 by omega]
    by_cases c2 : h (i + 4) = 32
    · rw [if_pos c2]
      show (if h (i + 4) = 32 then _ else _) = _
      rw [if_pos c2]
    · rw [if_neg c2]
      show (if h (i + 4) = 32 then _ else _) = _
      rw [if_neg c2]
  · rw [if_neg c, if_neg c]
    rfl
theorem ws_d {h : Int → Int} {i : Int} {w : Nat} {W : List Int} (hd : h i = 100) : wsF h w (100 :: W) i = wsF h w W (i + 1) := by
  unfold wsF
  simp only [sqF]
  rw [if_pos hd]
theorem cl_eq {h : Int → Int} {i : Int} : clC h i = clF h i := by
  show clK h (wdC h i 5 0 0) = _
  unfold clF
  by_cases c0 : h i = 99
  · rw [if_pos c0]
    have s1 : smN h (wdL 1) i = 0 := sm_0 (by omega)
    have s2 : smN h (wdL 2) i = 0 := sm_0 (by omega)
    have s3 : smN h (wdL 3) i = 0 := sm_0 (by omega)
    have s4 : smN h (wdL 4) i = 0 := sm_0 (by omega)
    refine cl_one (W := wdL 0) rfl _ rfl _ ?_
    simp only [wdC, s1, s2, s3, s4, mx_0, mx_1, Nat.reduceAdd, Nat.zero_add, if_neg (show ¬ (0 : Nat) = 4 by decide), if_neg (show ¬ (1 : Nat) = 4 by decide)]
  · rw [if_neg c0]
    have s0 : smN h (wdL 0) i = 0 := sm_0 c0
    by_cases c1 : h i = 97
    · rw [if_pos c1]
      have s2 : smN h (wdL 2) i = 0 := sm_0 (by omega)
      have s3 : smN h (wdL 3) i = 0 := sm_0 (by omega)
      have s4 : smN h (wdL 4) i = 0 := sm_0 (by omega)
      refine cl_one (W := wdL 1) rfl _ rfl _ ?_
      simp only [wdC, s0, s2, s3, s4, mx_0, mx_1, Nat.reduceAdd, Nat.zero_add, if_neg (show ¬ (0 : Nat) = 4 by decide), if_neg (show ¬ (1 : Nat) = 4 by decide)]
    · rw [if_neg c1]
      have s1 : smN h (wdL 1) i = 0 := sm_0 c1
      by_cases c2 : h i = 104
      · rw [if_pos c2]
        have s3 : smN h (wdL 3) i = 0 := sm_0 (by omega)
        have s4 : smN h (wdL 4) i = 0 := sm_0 (by omega)
        refine cl_one (W := wdL 2) rfl _ rfl _ ?_
        simp only [wdC, s0, s1, s3, s4, mx_0, mx_1, Nat.reduceAdd, Nat.zero_add, if_neg (show ¬ (0 : Nat) = 4 by decide), if_neg (show ¬ (1 : Nat) = 4 by decide)]
      · rw [if_neg c2]
        have s2 : smN h (wdL 2) i = 0 := sm_0 c2
        by_cases c3 : h i = 100
        · rw [if_pos c3]
          by_cases c4 : h (i + 1) = 101
          · rw [if_pos c4, ← ws_d c3]
            have e4 : smN h (wdL 4) i = 1 := by
              show (if h i = 100 then smN h [117, 108, 108] (i + 1) + 1 else 0) = 1
              rw [if_pos c3, sm_0 (by omega)]
            have e3 : 2 ≤ smN h (wdL 3) i := by
              show 2 ≤ (if h i = 100 then (if h (i + 1) = 101 then smN h [97, 114] (i + 1 + 1) + 1 else 0) + 1 else 0)
              rw [if_pos c3, if_pos c4]; omega
            refine cl_one (W := wdL 3) rfl _ rfl _ ?_
            have : mxN (smN h (wdL 3) i) 1 = smN h (wdL 3) i := by unfold mxN; rw [if_neg (by omega)]
            simp only [wdC, s0, s1, s2, e4, mx_0, mx_1, this, Nat.reduceAdd, Nat.zero_add, if_neg (show ¬ (0 : Nat) = 4 by decide), if_neg (show ¬ (1 : Nat) = 4 by decide)]
          · rw [if_neg c4, ← ws_d c3]
            have e3 : smN h (wdL 3) i = 1 := by
              show (if h i = 100 then smN h [101, 97, 114] (i + 1) + 1 else 0) = 1
              rw [if_pos c3, sm_0 c4]
            have e4 : 1 ≤ smN h (wdL 4) i := by
              show 1 ≤ (if h i = 100 then smN h [117, 108, 108] (i + 1) + 1 else 0)
              rw [if_pos c3]; omega
            refine cl_one (W := wdL 4) rfl _ rfl _ ?_
            have : mxN 1 (smN h (wdL 4) i) = smN h (wdL 4) i := by unfold mxN; split <;> omega
            simp only [wdC, s0, s1, s2, e3, mx_0, mx_1, this, Nat.reduceAdd, Nat.zero_add, if_neg (show ¬ (0 : Nat) = 4 by decide), if_neg (show ¬ (1 : Nat) = 4 by decide)]
        · rw [if_neg c3]
          have s3 : smN h (wdL 3) i = 0 := sm_0 c3
          have s4 : smN h (wdL 4) i = 0 := sm_0 c3
          simp only [wdC, s0, s1, s2, s3, s4, mx_0, Nat.reduceAdd, Nat.zero_add, if_neg (show ¬ (0 : Nat) = 4 by decide), if_neg (show ¬ (1 : Nat) = 4 by decide)]
          simp [clK]
