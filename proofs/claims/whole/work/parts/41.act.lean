/-! ===== act ===== -/
def shA (k n x : Int) : Int := if k = 1 ∨ k = 4 then wr (wr (x * 3) + n) else if k = 5 then iXor (wr (x + n)) n else wr (x + n)
def shB (k : Int) : List Int := if k = 1 ∨ k = 4 then [11, 1] else if k = 5 then [51, 1] else [1]
def skA (k n v x : Int) : Int := if k = 2 ∨ k = 5 then wr (-(wr (shA k n x - v))) else if k = 6 then wr (wr (shA k n x - v) + v) else wr (shA k n x - v)
def skB (k : Int) : List Int := if k = 2 ∨ k = 5 then 21 :: 2 :: shB k else if k = 6 then 61 :: 2 :: shB k else 2 :: shB k
def tlA (k n v x : Int) : Int := if k = 3 ∨ k = 6 then iXor (wr (skA k n v x * 2)) 7 else if k = 4 then wr (wr (skA k n v (wr (x - 1)) * 2) + shA k n 2) else wr (skA k n v x * 2)
def tlB (k : Int) : List Int := if k = 3 ∨ k = 6 then 31 :: 3 :: skB k else if k = 4 then 41 :: 3 :: (skB k ++ shB k) else 3 :: skB k
def actA (k n v g x : Int) : Int := if g = 0 then shA k n x else if g = 1 then skA k n v x else tlA k n v x
def actB (k g : Int) : List Int := if g = 0 then shB k else if g = 1 then skB k else tlB k
/-- the bodies that ran are these -/
def TRm (L : List Int) (mi : Mi) : Prop := mi 46 19 = L.length ∧ ∀ i : Nat, i < L.length → mi 54 i = L.getD i 0
def ScA (mi mi' : Mi) : Prop := Sc [46, 54] mi mi' ∧ ∀ j : Int, ¬ j = 19 → mi' 46 j = mi 46 j
theorem ScA.rf {mi : Mi} : ScA mi mi := ⟨Sc.rf, fun _ _ => rfl⟩
theorem ScA.tr {mi mi' mi'' : Mi} (h : ScA mi mi') (h' : ScA mi' mi'') : ScA mi mi'' := ⟨h.1.tr h'.1, fun j hj => (h'.2 j hj).trans (h.2 j hj)⟩
def KNV (k n v : Int) (mi : Mi) : Prop := mi 46 20 = k ∧ mi 46 21 = n ∧ mi 46 22 = v
theorem KNV.sc {k n v : Int} {mi mi' : Mi} (h : KNV k n v mi) (hs : ScA mi mi') : KNV k n v mi' := ⟨(hs.2 20 (by decide)).trans h.1, (hs.2 21 (by decide)).trans h.2.1, (hs.2 22 (by decide)).trans h.2.2⟩
theorem shB_len {k : Int} : (shB k).length ≤ 2 := by
  unfold shB
  repeat' split
  all_goals decide
theorem skB_len {k : Int} : (skB k).length ≤ 4 := by
  have := shB_len (k := k)
  unfold skB; repeat' split
  all_goals (simp only [List.length_cons]; omega)
theorem gD_l {L l : List Int} {i : Nat} (h : i < L.length) : (L ++ l).getD i 0 = L.getD i 0 := by
  rw [List.getD_eq_getElem?_getD, List.getD_eq_getElem?_getD, List.getElem?_append_left h]
theorem gD_r {L : List Int} {w : Int} : (L ++ [w]).getD L.length 0 = w := by
  rw [List.getD_eq_getElem?_getD, List.getElem?_append_right (Nat.le_refl _), Nat.sub_self]
  rfl
theorem k7 {k : Int} (h0 : 0 ≤ k) (h6 : k ≤ 6) : k = 0 ∨ k = 1 ∨ k = 2 ∨ k = 3 ∨ k = 4 ∨ k = 5 ∨ k = 6 := by omega
section MO
variable {d : Nat} {G : Gh} {mi : Mi} {K : Option PV → Gh → Mi → Prop} {p t v w a b c k n g q x : Int}
theorem m_ranBody {L : List Int} (hG : ShM G) (hL : TRm L mi) (h20 : L.length < 20) (hK : ∀ mi', TRm (L ++ [w]) mi' → ScA mi mi' → K none G mi') : OkC d 65 [pR (some 46), pI w] G mi K := by
  obtain ⟨⟨k46, k47, l47, k48, l48, k49, l49, k50, l50, k51, l51⟩, ⟨k52, l52, k53, l53, k54, l54⟩, ⟨g1, g2, g3, g11, g12, g15, g16, g18⟩⟩ := id hG
  have h19 := hL.1
  rw [E65]
  simp (disch := first | assumption | exact isL_i | exact isL_r | exact isL_n | exact i01a | exact i01b | omega) only [K65_0, K65_1, K65_4, K65_6, K65_9, K65_10, K65_13, K65_14, K65_17, K65_18, K65_19, K65_20, K65_20i, K65_21, K65_24, K65_25, K65_26, K65_29, g1, g2, g3, g11, g12, g15, g16, g18, wr_id, td_e, tm_e, pu_n, pu_s, up_s, up_k, up_a, ↓reduceIte, Int.reduceLT, Int.reduceLE, Int.reduceEq, Int.reduceNeg, Int.reduceAdd, Int.reduceSub, Int.reduceMul, Int.reduceMod, Int.reduceDiv, Int.cast_ofNat_Int, not_true_eq_false, not_false_eq_true, Int.reduceTDiv, Int.reduceTMod, if_pos, if_neg]
  refine hK _ ⟨?_, fun i hi => ?_⟩ ⟨(Sc.rf.u (by decide)).u (by decide), fun j hj => ?_⟩
  · rw [up_s, h19]; simp
  · rw [up_a (by decide)]
    rw [List.length_append, List.length_singleton] at hi
    by_cases hi2 : i < L.length
    · rw [up_k (by omega), hL.2 i hi2, gD_l hi2]
    · have : i = L.length := by omega
      subst this
      rw [h19, up_s, gD_r]
  · rw [up_k hj, up_a (by decide)]
theorem m_plainShows {L : List Int} (hG : ShM G) (hk : KNV k n v mi) (hL : TRm L mi) (h20 : L.length < 20) (hK : ∀ mi', TRm (L ++ [1]) mi' → ScA mi mi' → K (some (pI (wr (x + n)))) G mi') : OkC (d + 1) 67 [pR (some 46), pI x] G mi K := by
  obtain ⟨⟨k46, k47, l47, k48, l48, k49, l49, k50, l50, k51, l51⟩, ⟨k52, l52, k53, l53, k54, l54⟩, ⟨g1, g2, g3, g11, g12, g15, g16, g18⟩⟩ := id hG
  rw [E67]
  simp (disch := first | assumption | exact isL_i | exact isL_r | exact isL_n | exact i01a | exact i01b | omega) only [K67_0, K67_1, g1, g2, g3, g11, g12, g15, g16, g18, wr_id, td_e, tm_e, pu_n, pu_s, up_s, up_k, up_a, ↓reduceIte, Int.reduceLT, Int.reduceLE, Int.reduceEq, Int.reduceNeg, Int.reduceAdd, Int.reduceSub, Int.reduceMul, Int.reduceMod, Int.reduceDiv, Int.cast_ofNat_Int, not_true_eq_false, not_false_eq_true, Int.reduceTDiv, Int.reduceTMod, if_pos, if_neg]
  rw [K67_2 k46]
  refine m_ranBody hG hL h20 fun m1 h1 s1 => ?_
  obtain ⟨-, e2, -⟩ := hk.sc s1
  simp (disch := first | assumption | exact isL_i | exact isL_r | exact isL_n | exact i01a | exact i01b | omega) only [K67_5, K67_6, K67_7, K67_10, K67_11, g1, g2, g3, g11, g12, g15, g16, g18, pu_n, pu_s, e2]
  exact hK m1 h1 s1
theorem m_showsActs {L : List Int} (hG : ShM G) (hk : KNV k n v mi) (h0 : 0 ≤ k) (h6 : k ≤ 6) (hL : TRm L mi) (h20 : L.length < 18) (hK : ∀ mi', TRm (L ++ shB k) mi' → ScA mi mi' → K (some (pI (shA k n x))) G mi') : OkC (d + 2) 68 [pR (some 46), pI x] G mi K := by
  obtain ⟨⟨k46, k47, l47, k48, l48, k49, l49, k50, l50, k51, l51⟩, ⟨k52, l52, k53, l53, k54, l54⟩, ⟨g1, g2, g3, g11, g12, g15, g16, g18⟩⟩ := id hG
  obtain ⟨e1, e2, e3⟩ := hk
  rw [E68]
  rw [K68_0]
  by_cases c1 : k = 1 ∨ k = 4
  · unfold shA shB at hK
    rw [if_pos c1, if_pos c1] at hK
    have hu : undP k 1 := by omega
    simp (disch := first | assumption | exact isL_i | exact isL_r | exact isL_n | exact i01a | exact i01b | omega) only [K68_1, K68_4, K68_5, K68_8, K68_11, K68_12, g1, g2, g3, g11, g12, g15, g16, g18, wr_id, td_e, tm_e, pu_n, pu_s, up_s, up_k, up_a, ↓reduceIte, Int.reduceLT, Int.reduceLE, Int.reduceEq, Int.reduceNeg, Int.reduceAdd, Int.reduceSub, Int.reduceMul, Int.reduceMod, Int.reduceDiv, Int.cast_ofNat_Int, not_true_eq_false, not_false_eq_true, Int.reduceTDiv, Int.reduceTMod, e1, m_isUnder, if_pos hu, if_pos, if_neg]
    rw [K68_14 k46]
    refine m_ranBody hG hL (by omega) fun m1 h1 s1 => ?_
    simp (disch := first | assumption | exact isL_i | exact isL_r | exact isL_n | exact i01a | exact i01b | omega) only [K68_17, K68_18, K68_19, K68_20, g1, g2, g3, g11, g12, g15, g16, g18, pu_n, pu_s]
    rw [K68_21 k46]
    refine m_plainShows hG (KNV.sc ⟨e1, e2, e3⟩ s1) h1 (by rw [List.length_append]; simp only [List.length_singleton]; omega) fun m2 h2 s2 => ?_
    simp (disch := first | assumption | exact isL_i | exact isL_r | exact isL_n | exact i01a | exact i01b | omega) only [K68_24, K68_25, K68_26, K68_29, K68_30, K68_33, K68_34, K68_36, K68_39, K68_40, K68_41, K68_44, K68_45, K68_48, K68_49, K68_50, K68_51, K68_52, K68_55, g1, g2, g3, g11, g12, g15, g16, g18, pu_n, pu_s]
    exact hK m2 (by rw [List.append_assoc] at h2; exact h2) (s1.tr s2)
  · unfold shA shB at hK
    rw [if_neg c1, if_neg c1] at hK
    have hu : ¬ undP k 1 := by omega
    by_cases c5 : k = 5
    · rw [if_pos c5, if_pos c5] at hK
      simp (disch := first | assumption | exact isL_i | exact isL_r | exact isL_n | exact i01a | exact i01b | omega) only [K68_1, K68_4, K68_5, K68_8, K68_11, K68_12, K68_14, K68_17, K68_18, K68_19, K68_20, K68_21, K68_24, K68_25, K68_26, K68_29, K68_30, K68_33, K68_34, g1, g2, g3, g11, g12, g15, g16, g18, wr_id, td_e, tm_e, pu_n, pu_s, up_s, up_k, up_a, ↓reduceIte, Int.reduceLT, Int.reduceLE, Int.reduceEq, Int.reduceNeg, Int.reduceAdd, Int.reduceSub, Int.reduceMul, Int.reduceMod, Int.reduceDiv, Int.cast_ofNat_Int, not_true_eq_false, not_false_eq_true, Int.reduceTDiv, Int.reduceTMod, e1, m_isUnder, if_neg hu, if_pos, if_neg]
      rw [K68_36 k46]
      refine m_ranBody hG hL (by omega) fun m1 h1 s1 => ?_
      simp (disch := first | assumption | exact isL_i | exact isL_r | exact isL_n | exact i01a | exact i01b | omega) only [K68_39, K68_40, g1, g2, g3, g11, g12, g15, g16, g18, pu_n, pu_s]
      rw [K68_41 k46]
      refine m_plainShows hG (KNV.sc ⟨e1, e2, e3⟩ s1) h1 (by rw [List.length_append]; simp only [List.length_singleton]; omega) fun m2 h2 s2 => ?_
      obtain ⟨-, f2, -⟩ := (KNV.sc ⟨e1, e2, e3⟩ s1).sc s2
      simp (disch := first | assumption | exact isL_i | exact isL_r | exact isL_n | exact i01a | exact i01b | omega) only [K68_44, K68_45, K68_48, K68_49, K68_50, K68_51, K68_52, K68_55, g1, g2, g3, g11, g12, g15, g16, g18, pu_n, pu_s, f2]
      exact hK m2 (by rw [List.append_assoc] at h2; exact h2) (s1.tr s2)
    · rw [if_neg c5, if_neg c5] at hK
      simp (disch := first | assumption | exact isL_i | exact isL_r | exact isL_n | exact i01a | exact i01b | omega) only [K68_1, K68_4, K68_5, K68_8, K68_11, K68_12, K68_14, K68_17, K68_18, K68_19, K68_20, K68_21, K68_24, K68_25, K68_26, K68_29, K68_30, K68_33, K68_34, K68_50, K68_51, g1, g2, g3, g11, g12, g15, g16, g18, wr_id, td_e, tm_e, pu_n, pu_s, up_s, up_k, up_a, ↓reduceIte, Int.reduceLT, Int.reduceLE, Int.reduceEq, Int.reduceNeg, Int.reduceAdd, Int.reduceSub, Int.reduceMul, Int.reduceMod, Int.reduceDiv, Int.cast_ofNat_Int, not_true_eq_false, not_false_eq_true, Int.reduceTDiv, Int.reduceTMod, e1, m_isUnder, if_neg hu, if_pos, if_neg]
      rw [K68_52 k46]
      refine m_plainShows hG ⟨e1, e2, e3⟩ hL (by omega) fun m2 h2 s2 => ?_
      simp (disch := first | assumption | exact isL_i | exact isL_r | exact isL_n | exact i01a | exact i01b | omega) only [K68_55, g1, g2, g3, g11, g12, g15, g16, g18, pu_n, pu_s]
      exact hK m2 h2 s2
theorem m_plainShakes {L : List Int} (hG : ShM G) (hk : KNV k n v mi) (h0 : 0 ≤ k) (h6 : k ≤ 6) (hL : TRm L mi) (h20 : L.length < 17) (hK : ∀ mi', TRm (L ++ 2 :: shB k) mi' → ScA mi mi' → K (some (pI (wr (shA k n x - v)))) G mi') : OkC (d + 3) 69 [pR (some 46), pI x] G mi K := by
  obtain ⟨⟨k46, k47, l47, k48, l48, k49, l49, k50, l50, k51, l51⟩, ⟨k52, l52, k53, l53, k54, l54⟩, ⟨g1, g2, g3, g11, g12, g15, g16, g18⟩⟩ := id hG
  rw [E69]
  simp (disch := first | assumption | exact isL_i | exact isL_r | exact isL_n | exact i01a | exact i01b | omega) only [K69_0, K69_1, g1, g2, g3, g11, g12, g15, g16, g18, wr_id, td_e, tm_e, pu_n, pu_s, up_s, up_k, up_a, ↓reduceIte, Int.reduceLT, Int.reduceLE, Int.reduceEq, Int.reduceNeg, Int.reduceAdd, Int.reduceSub, Int.reduceMul, Int.reduceMod, Int.reduceDiv, Int.cast_ofNat_Int, not_true_eq_false, not_false_eq_true, Int.reduceTDiv, Int.reduceTMod, if_pos, if_neg]
  rw [K69_2 k46]
  refine m_ranBody hG hL (by omega) fun m1 h1 s1 => ?_
  simp (disch := first | assumption | exact isL_i | exact isL_r | exact isL_n | exact i01a | exact i01b | omega) only [K69_5, K69_6, g1, g2, g3, g11, g12, g15, g16, g18, pu_n, pu_s]
  rw [K69_7 k46]
  refine m_showsActs hG (hk.sc s1) h0 h6 h1 (by rw [List.length_append]; simp only [List.length_singleton]; omega) fun m2 h2 s2 => ?_
  obtain ⟨-, -, f3⟩ := (hk.sc s1).sc s2
  simp (disch := first | assumption | exact isL_i | exact isL_r | exact isL_n | exact i01a | exact i01b | omega) only [K69_10, K69_11, K69_14, K69_15, g1, g2, g3, g11, g12, g15, g16, g18, pu_n, pu_s, f3]
  exact hK m2 (by rw [List.append_assoc] at h2; exact h2) (s1.tr s2)
theorem m_shakesActs {L : List Int} (hG : ShM G) (hk : KNV k n v mi) (h0 : 0 ≤ k) (h6 : k ≤ 6) (hL : TRm L mi) (h20 : L.length < 16) (hK : ∀ mi', TRm (L ++ skB k) mi' → ScA mi mi' → K (some (pI (skA k n v x))) G mi') : OkC (d + 4) 70 [pR (some 46), pI x] G mi K := by
  obtain ⟨⟨k46, k47, l47, k48, l48, k49, l49, k50, l50, k51, l51⟩, ⟨k52, l52, k53, l53, k54, l54⟩, ⟨g1, g2, g3, g11, g12, g15, g16, g18⟩⟩ := id hG
  obtain ⟨e1, e2, e3⟩ := hk
  rw [E70]
  rw [K70_0]
  by_cases c1 : k = 2 ∨ k = 5
  · unfold skA skB at hK
    rw [if_pos c1, if_pos c1] at hK
    have hu : undP k 2 := by omega
    simp (disch := first | assumption | exact isL_i | exact isL_r | exact isL_n | exact i01a | exact i01b | omega) only [K70_1, K70_4, K70_5, K70_8, K70_11, K70_12, g1, g2, g3, g11, g12, g15, g16, g18, wr_id, td_e, tm_e, pu_n, pu_s, up_s, up_k, up_a, ↓reduceIte, Int.reduceLT, Int.reduceLE, Int.reduceEq, Int.reduceNeg, Int.reduceAdd, Int.reduceSub, Int.reduceMul, Int.reduceMod, Int.reduceDiv, Int.cast_ofNat_Int, not_true_eq_false, not_false_eq_true, Int.reduceTDiv, Int.reduceTMod, e1, m_isUnder, if_pos hu, if_pos, if_neg]
    rw [K70_14 k46]
    refine m_ranBody hG hL (by omega) fun m1 h1 s1 => ?_
    simp (disch := first | assumption | exact isL_i | exact isL_r | exact isL_n | exact i01a | exact i01b | omega) only [K70_17, K70_18, g1, g2, g3, g11, g12, g15, g16, g18, pu_n, pu_s]
    rw [K70_19 k46]
    refine m_plainShakes hG (KNV.sc ⟨e1, e2, e3⟩ s1) h0 h6 h1 (by rw [List.length_append]; simp only [List.length_singleton]; omega) fun m2 h2 s2 => ?_
    simp (disch := first | assumption | exact isL_i | exact isL_r | exact isL_n | exact i01a | exact i01b | omega) only [K70_22, K70_23, g1, g2, g3, g11, g12, g15, g16, g18, pu_n, pu_s]
    exact hK m2 (by rw [List.append_assoc] at h2; exact h2) (s1.tr s2)
  · unfold skA skB at hK
    rw [if_neg c1, if_neg c1] at hK
    have hu : ¬ undP k 2 := by omega
    by_cases c6 : k = 6
    · rw [if_pos c6, if_pos c6] at hK
      simp (disch := first | assumption | exact isL_i | exact isL_r | exact isL_n | exact i01a | exact i01b | omega) only [K70_1, K70_4, K70_5, K70_8, K70_11, K70_12, K70_14, K70_17, K70_18, K70_19, K70_22, K70_23, K70_24, K70_25, K70_28, K70_30, K70_33, K70_34, g1, g2, g3, g11, g12, g15, g16, g18, wr_id, td_e, tm_e, pu_n, pu_s, up_s, up_k, up_a, ↓reduceIte, Int.reduceLT, Int.reduceLE, Int.reduceEq, Int.reduceNeg, Int.reduceAdd, Int.reduceSub, Int.reduceMul, Int.reduceMod, Int.reduceDiv, Int.cast_ofNat_Int, not_true_eq_false, not_false_eq_true, Int.reduceTDiv, Int.reduceTMod, e1, m_isUnder, if_neg hu, if_pos, if_neg]
      rw [K70_36 k46]
      refine m_ranBody hG hL (by omega) fun m1 h1 s1 => ?_
      simp (disch := first | assumption | exact isL_i | exact isL_r | exact isL_n | exact i01a | exact i01b | omega) only [K70_39, K70_40, g1, g2, g3, g11, g12, g15, g16, g18, pu_n, pu_s]
      rw [K70_41 k46]
      refine m_plainShakes hG (KNV.sc ⟨e1, e2, e3⟩ s1) h0 h6 h1 (by rw [List.length_append]; simp only [List.length_singleton]; omega) fun m2 h2 s2 => ?_
      obtain ⟨-, -, f3⟩ := (KNV.sc ⟨e1, e2, e3⟩ s1).sc s2
      simp (disch := first | assumption | exact isL_i | exact isL_r | exact isL_n | exact i01a | exact i01b | omega) only [K70_44, K70_45, K70_48, K70_49, K70_50, K70_51, K70_52, K70_55, g1, g2, g3, g11, g12, g15, g16, g18, pu_n, pu_s, f3]
      exact hK m2 (by rw [List.append_assoc] at h2; exact h2) (s1.tr s2)
    · rw [if_neg c6, if_neg c6] at hK
      simp (disch := first | assumption | exact isL_i | exact isL_r | exact isL_n | exact i01a | exact i01b | omega) only [K70_1, K70_4, K70_5, K70_8, K70_11, K70_12, K70_14, K70_17, K70_18, K70_19, K70_22, K70_23, K70_24, K70_25, K70_28, K70_30, K70_33, K70_34, K70_50, K70_51, g1, g2, g3, g11, g12, g15, g16, g18, wr_id, td_e, tm_e, pu_n, pu_s, up_s, up_k, up_a, ↓reduceIte, Int.reduceLT, Int.reduceLE, Int.reduceEq, Int.reduceNeg, Int.reduceAdd, Int.reduceSub, Int.reduceMul, Int.reduceMod, Int.reduceDiv, Int.cast_ofNat_Int, not_true_eq_false, not_false_eq_true, Int.reduceTDiv, Int.reduceTMod, e1, m_isUnder, if_neg hu, if_pos, if_neg]
      rw [K70_52 k46]
      refine m_plainShakes hG ⟨e1, e2, e3⟩ h0 h6 hL (by omega) fun m2 h2 s2 => ?_
      simp (disch := first | assumption | exact isL_i | exact isL_r | exact isL_n | exact i01a | exact i01b | omega) only [K70_55, g1, g2, g3, g11, g12, g15, g16, g18, pu_n, pu_s]
      exact hK m2 h2 s2
theorem m_plainTelling {L : List Int} (hG : ShM G) (hk : KNV k n v mi) (h0 : 0 ≤ k) (h6 : k ≤ 6) (hL : TRm L mi) (h20 : L.length < 15) (hK : ∀ mi', TRm (L ++ 3 :: skB k) mi' → ScA mi mi' → K (some (pI (wr (skA k n v x * 2)))) G mi') : OkC (d + 5) 71 [pR (some 46), pI x] G mi K := by
  obtain ⟨⟨k46, k47, l47, k48, l48, k49, l49, k50, l50, k51, l51⟩, ⟨k52, l52, k53, l53, k54, l54⟩, ⟨g1, g2, g3, g11, g12, g15, g16, g18⟩⟩ := id hG
  rw [E71]
  simp (disch := first | assumption | exact isL_i | exact isL_r | exact isL_n | exact i01a | exact i01b | omega) only [K71_0, K71_1, g1, g2, g3, g11, g12, g15, g16, g18, wr_id, td_e, tm_e, pu_n, pu_s, up_s, up_k, up_a, ↓reduceIte, Int.reduceLT, Int.reduceLE, Int.reduceEq, Int.reduceNeg, Int.reduceAdd, Int.reduceSub, Int.reduceMul, Int.reduceMod, Int.reduceDiv, Int.cast_ofNat_Int, not_true_eq_false, not_false_eq_true, Int.reduceTDiv, Int.reduceTMod, if_pos, if_neg]
  rw [K71_2 k46]
  refine m_ranBody hG hL (by omega) fun m1 h1 s1 => ?_
  simp (disch := first | assumption | exact isL_i | exact isL_r | exact isL_n | exact i01a | exact i01b | omega) only [K71_5, K71_6, g1, g2, g3, g11, g12, g15, g16, g18, pu_n, pu_s]
  rw [K71_7 k46]
  refine m_shakesActs hG (hk.sc s1) h0 h6 h1 (by rw [List.length_append]; simp only [List.length_singleton]; omega) fun m2 h2 s2 => ?_
  simp (disch := first | assumption | exact isL_i | exact isL_r | exact isL_n | exact i01a | exact i01b | omega) only [K71_10, K71_11, K71_12, g1, g2, g3, g11, g12, g15, g16, g18, pu_n, pu_s]
  exact hK m2 (by rw [List.append_assoc] at h2; exact h2) (s1.tr s2)
theorem m_tellsActs (hG : ShM G) (hk : KNV k n v mi) (h0 : 0 ≤ k) (h6 : k ≤ 6) (hL : TRm [] mi) (hK : ∀ mi', TRm (tlB k) mi' → ScA mi mi' → K (some (pI (tlA k n v x))) G mi') : OkC (d + 6) 72 [pR (some 46), pI x] G mi K := by
  obtain ⟨⟨k46, k47, l47, k48, l48, k49, l49, k50, l50, k51, l51⟩, ⟨k52, l52, k53, l53, k54, l54⟩, ⟨g1, g2, g3, g11, g12, g15, g16, g18⟩⟩ := id hG
  obtain ⟨e1, e2, e3⟩ := hk
  rw [E72]
  rw [K72_0]
  by_cases c1 : k = 3 ∨ k = 6
  · unfold tlA tlB at hK
    rw [if_pos c1, if_pos c1] at hK
    have hu : undP k 3 := by omega
    simp (disch := first | assumption | exact isL_i | exact isL_r | exact isL_n | exact i01a | exact i01b | omega) only [K72_1, K72_4, K72_5, K72_8, K72_11, K72_12, g1, g2, g3, g11, g12, g15, g16, g18, wr_id, td_e, tm_e, pu_n, pu_s, up_s, up_k, up_a, ↓reduceIte, Int.reduceLT, Int.reduceLE, Int.reduceEq, Int.reduceNeg, Int.reduceAdd, Int.reduceSub, Int.reduceMul, Int.reduceMod, Int.reduceDiv, Int.cast_ofNat_Int, not_true_eq_false, not_false_eq_true, Int.reduceTDiv, Int.reduceTMod, e1, m_isUnder, if_pos hu, if_pos, if_neg]
    rw [K72_14 k46]
    refine m_ranBody hG hL (by decide) fun m1 h1 s1 => ?_
    simp (disch := first | assumption | exact isL_i | exact isL_r | exact isL_n | exact i01a | exact i01b | omega) only [K72_17, K72_18, g1, g2, g3, g11, g12, g15, g16, g18, pu_n, pu_s]
    rw [K72_19 k46]
    refine m_plainTelling hG (KNV.sc ⟨e1, e2, e3⟩ s1) h0 h6 h1 (by decide) fun m2 h2 s2 => ?_
    simp (disch := first | assumption | exact isL_i | exact isL_r | exact isL_n | exact i01a | exact i01b | omega) only [K72_22, K72_24, K72_25, g1, g2, g3, g11, g12, g15, g16, g18, pu_n, pu_s]
    exact hK m2 h2 (s1.tr s2)
  · unfold tlA tlB at hK
    rw [if_neg c1, if_neg c1] at hK
    have hu : ¬ undP k 3 := by omega
    by_cases c6 : k = 4
    · rw [if_pos c6, if_pos c6] at hK
      simp (disch := first | assumption | exact isL_i | exact isL_r | exact isL_n | exact i01a | exact i01b | omega) only [K72_1, K72_4, K72_5, K72_8, K72_11, K72_12, K72_14, K72_17, K72_18, K72_19, K72_22, K72_24, K72_25, K72_26, K72_27, K72_30, K72_31, K72_34, K72_35, g1, g2, g3, g11, g12, g15, g16, g18, wr_id, td_e, tm_e, pu_n, pu_s, up_s, up_k, up_a, ↓reduceIte, Int.reduceLT, Int.reduceLE, Int.reduceEq, Int.reduceNeg, Int.reduceAdd, Int.reduceSub, Int.reduceMul, Int.reduceMod, Int.reduceDiv, Int.cast_ofNat_Int, not_true_eq_false, not_false_eq_true, Int.reduceTDiv, Int.reduceTMod, e1, m_isUnder, if_neg hu, if_pos, if_neg]
      rw [K72_37 k46]
      refine m_ranBody hG hL (by decide) fun m1 h1 s1 => ?_
      simp (disch := first | assumption | exact isL_i | exact isL_r | exact isL_n | exact i01a | exact i01b | omega) only [K72_40, K72_41, K72_42, K72_43, g1, g2, g3, g11, g12, g15, g16, g18, pu_n, pu_s]
      rw [K72_44 k46]
      refine m_plainTelling hG (KNV.sc ⟨e1, e2, e3⟩ s1) h0 h6 h1 (by decide) fun m2 h2 s2 => ?_
      have hk2 := (KNV.sc ⟨e1, e2, e3⟩ s1).sc s2
      have hlen := skB_len (k := k)
      simp (disch := first | assumption | exact isL_i | exact isL_r | exact isL_n | exact i01a | exact i01b | omega) only [K72_47, K72_48, K72_49, K72_50, g1, g2, g3, g11, g12, g15, g16, g18, pu_n, pu_s]
      rw [K72_51 k46]
      refine m_showsActs hG hk2 h0 h6 h2 (by simp only [List.nil_append, List.length_append, List.length_cons, List.length_nil]; omega) fun m3 h3 s3 => ?_
      simp (disch := first | assumption | exact isL_i | exact isL_r | exact isL_n | exact i01a | exact i01b | omega) only [K72_54, K72_55, K72_56, K72_57, K72_58, K72_61, g1, g2, g3, g11, g12, g15, g16, g18, pu_n, pu_s]
      exact hK m3 h3 ((s1.tr s2).tr s3)
    · rw [if_neg c6, if_neg c6] at hK
      simp (disch := first | assumption | exact isL_i | exact isL_r | exact isL_n | exact i01a | exact i01b | omega) only [K72_1, K72_4, K72_5, K72_8, K72_11, K72_12, K72_14, K72_17, K72_18, K72_19, K72_22, K72_24, K72_25, K72_26, K72_27, K72_30, K72_31, K72_34, K72_35, K72_56, K72_57, g1, g2, g3, g11, g12, g15, g16, g18, wr_id, td_e, tm_e, pu_n, pu_s, up_s, up_k, up_a, ↓reduceIte, Int.reduceLT, Int.reduceLE, Int.reduceEq, Int.reduceNeg, Int.reduceAdd, Int.reduceSub, Int.reduceMul, Int.reduceMod, Int.reduceDiv, Int.cast_ofNat_Int, not_true_eq_false, not_false_eq_true, Int.reduceTDiv, Int.reduceTMod, e1, m_isUnder, if_neg hu, if_pos, if_neg]
      rw [K72_58 k46]
      refine m_plainTelling hG ⟨e1, e2, e3⟩ h0 h6 hL (by decide) fun m2 h2 s2 => ?_
      simp (disch := first | assumption | exact isL_i | exact isL_r | exact isL_n | exact i01a | exact i01b | omega) only [K72_61, g1, g2, g3, g11, g12, g15, g16, g18, pu_n, pu_s]
      exact hK m2 h2 s2
/-- what an act leaves -/
def ScC (mi mi' : Mi) : Prop := Sc [46, 54] mi mi' ∧ ∀ j : Int, j < 19 → mi' 46 j = mi 46 j
theorem m_act (hG : ShM G) (hS : WfG (mi 47)) (hK : ∀ mi', (if isT (mi 47) p ∧ (0 ≤ g ∧ g ≤ 2) then TRm (actB (mi 47 (18 + p)) g) mi' else TRm [] mi') → ScC mi mi' → K (some (pI (if isT (mi 47) p ∧ (0 ≤ g ∧ g ≤ 2) then actA (mi 47 (18 + p)) p (mi 47 (24 + p)) g x else 0))) G mi') : OkC (d + 7) 73 [pR (some 46), pI p, pI g, pI x] G mi K := by
  obtain ⟨⟨k46, k47, l47, k48, l48, k49, l49, k50, l50, k51, l51⟩, ⟨k52, l52, k53, l53, k54, l54⟩, ⟨g1, g2, g3, g11, g12, g15, g16, g18⟩⟩ := id hG
  obtain ⟨hT, hV, ⟨h1, h4⟩, ⟨hn, hn'⟩⟩ := id hS
  rw [E73]
  have t0 : ∀ mi' : Mi, mi' 46 19 = 0 → TRm [] mi' := fun mi' h => ⟨h, fun i hi => absurd hi (Nat.not_lt_zero i)⟩
  by_cases hp : isT (mi 47) p
  · by_cases hg : 0 ≤ g ∧ g ≤ 2
    · simp only [if_pos (And.intro hp hg)] at hK
      obtain ⟨⟨a1, a2⟩, -, -⟩ := hT.1 p hp.1 (by omega)
      have hkn : KNV (mi 47 (18 + p)) p (mi 47 (24 + p)) (up (up (up (up mi 46 19 0) 46 20 (mi 47 (18 + p))) 46 21 p) 46 22 (mi 47 (24 + p))) := by
        refine ⟨?_, ?_, ?_⟩
        all_goals simp (disch := decide) only [up_k, up_s]
      have hsc : ScC mi (up (up (up (up mi 46 19 0) 46 20 (mi 47 (18 + p))) 46 21 p) 46 22 (mi 47 (24 + p))) := ⟨(((Sc.rf.u (by decide)).u (by decide)).u (by decide)).u (by decide), fun j hj => by simp (disch := omega) only [up_k]⟩
      have ht0 : TRm [] (up (up (up (up mi 46 19 0) 46 20 (mi 47 (18 + p))) 46 21 p) 46 22 (mi 47 (24 + p))) := t0 _ (by simp (disch := decide) only [up_k, up_s])
      have hfin : ∀ mi', ScA (up (up (up (up mi 46 19 0) 46 20 (mi 47 (18 + p))) 46 21 p) 46 22 (mi 47 (24 + p))) mi' → ScC mi mi' := fun mi' hs => ⟨hsc.1.tr hs.1, fun j hj => (hs.2 j (by omega)).trans (hsc.2 j hj)⟩
      simp (disch := first | assumption | exact isL_i | exact isL_r | exact isL_n | exact i01a | exact i01b | omega | (simp (disch := decide) only [up_a, up_s, up_k]; first | assumption | omega)) only [K73_0, K73_1, K73_2, K73_5, K73_6, K73_7, K73_10, K73_13, K73_14, K73_15, K73_16, K73_19, K73_22, K73_23, K73_24, K73_25, K73_26, K73_29, K73_31, K73_32, K73_33, K73_34, K73_37, K73_38, K73_39, K73_42, K73_43, K73_44, K73_47, K73_49, K73_50, K73_51, K73_52, g1, g2, g3, g11, g12, g15, g16, g18, wr_id, td_e, tm_e, pu_n, pu_s, up_s, up_k, up_a, ↓reduceIte, Int.reduceLT, Int.reduceLE, Int.reduceEq, Int.reduceNeg, Int.reduceAdd, Int.reduceSub, Int.reduceMul, Int.reduceMod, Int.reduceDiv, Int.cast_ofNat_Int, not_true_eq_false, not_false_eq_true, Int.reduceTDiv, Int.reduceTMod, m_isThing, m_in, if_pos, if_neg]
      unfold actA actB at hK
      by_cases c0 : g = 0
      · simp only [if_pos c0] at hK
        simp (disch := first | assumption | exact isL_i | exact isL_r | exact isL_n | exact i01a | exact i01b | omega | (simp (disch := decide) only [up_a, up_s, up_k]; first | assumption | omega)) only [K73_55, K73_56, K73_59, K73_60, g1, g2, g3, g11, g12, g15, g16, g18, wr_id, td_e, tm_e, pu_n, pu_s, up_s, up_k, up_a, ↓reduceIte, Int.reduceLT, Int.reduceLE, Int.reduceEq, Int.reduceNeg, Int.reduceAdd, Int.reduceSub, Int.reduceMul, Int.reduceMod, Int.reduceDiv, Int.cast_ofNat_Int, not_true_eq_false, not_false_eq_true, Int.reduceTDiv, Int.reduceTMod, if_pos, if_neg]
        rw [K73_61 k46]
        refine m_showsActs hG hkn a1 a2 ht0 (by decide) fun m2 h2 s2 => ?_
        simp (disch := first | assumption | exact isL_i | exact isL_r | exact isL_n | exact i01a | exact i01b | omega | (simp (disch := decide) only [up_a, up_s, up_k]; first | assumption | omega)) only [K73_64, K73_85, pu_n, pu_s]
        exact hK m2 h2 (hfin _ s2)
      · simp only [if_neg c0] at hK
        by_cases c1 : g = 1
        · simp only [if_pos c1] at hK
          simp (disch := first | assumption | exact isL_i | exact isL_r | exact isL_n | exact i01a | exact i01b | omega | (simp (disch := decide) only [up_a, up_s, up_k]; first | assumption | omega)) only [K73_55, K73_56, K73_67, K73_68, K73_69, K73_72, K73_73, g1, g2, g3, g11, g12, g15, g16, g18, wr_id, td_e, tm_e, pu_n, pu_s, up_s, up_k, up_a, ↓reduceIte, Int.reduceLT, Int.reduceLE, Int.reduceEq, Int.reduceNeg, Int.reduceAdd, Int.reduceSub, Int.reduceMul, Int.reduceMod, Int.reduceDiv, Int.cast_ofNat_Int, not_true_eq_false, not_false_eq_true, Int.reduceTDiv, Int.reduceTMod, if_pos, if_neg]
          rw [K73_74 k46]
          refine m_shakesActs hG hkn a1 a2 ht0 (by decide) fun m2 h2 s2 => ?_
          simp (disch := first | assumption | exact isL_i | exact isL_r | exact isL_n | exact i01a | exact i01b | omega | (simp (disch := decide) only [up_a, up_s, up_k]; first | assumption | omega)) only [K73_77, K73_85, pu_n, pu_s]
          exact hK m2 h2 (hfin _ s2)
        · simp only [if_neg c1] at hK
          simp (disch := first | assumption | exact isL_i | exact isL_r | exact isL_n | exact i01a | exact i01b | omega | (simp (disch := decide) only [up_a, up_s, up_k]; first | assumption | omega)) only [K73_55, K73_56, K73_67, K73_68, K73_69, K73_80, K73_81, g1, g2, g3, g11, g12, g15, g16, g18, wr_id, td_e, tm_e, pu_n, pu_s, up_s, up_k, up_a, ↓reduceIte, Int.reduceLT, Int.reduceLE, Int.reduceEq, Int.reduceNeg, Int.reduceAdd, Int.reduceSub, Int.reduceMul, Int.reduceMod, Int.reduceDiv, Int.cast_ofNat_Int, not_true_eq_false, not_false_eq_true, Int.reduceTDiv, Int.reduceTMod, if_pos, if_neg]
          rw [K73_82 k46]
          refine m_tellsActs hG hkn a1 a2 ht0 fun m2 h2 s2 => ?_
          simp (disch := first | assumption | exact isL_i | exact isL_r | exact isL_n | exact i01a | exact i01b | omega | (simp (disch := decide) only [up_a, up_s, up_k]; first | assumption | omega)) only [K73_85, pu_n, pu_s]
          exact hK m2 h2 (hfin _ s2)
    · simp only [if_neg (fun h : isT (mi 47) p ∧ (0 ≤ g ∧ g ≤ 2) => hg h.2)] at hK
      simp (disch := first | assumption | exact isL_i | exact isL_r | exact isL_n | exact i01a | exact i01b | omega | (simp (disch := decide) only [up_a, up_s, up_k]; first | assumption | omega)) only [K73_0, K73_1, K73_2, K73_5, K73_6, K73_7, K73_10, K73_13, K73_14, K73_15, K73_16, K73_19, K73_22, K73_23, g1, g2, g3, g11, g12, g15, g16, g18, wr_id, td_e, tm_e, pu_n, pu_s, up_s, up_k, up_a, ↓reduceIte, Int.reduceLT, Int.reduceLE, Int.reduceEq, Int.reduceNeg, Int.reduceAdd, Int.reduceSub, Int.reduceMul, Int.reduceMod, Int.reduceDiv, Int.cast_ofNat_Int, not_true_eq_false, not_false_eq_true, Int.reduceTDiv, Int.reduceTMod, m_isThing, m_in, if_pos, if_neg]
      exact hK _ (t0 _ up_s) ⟨sc_up (by decide), fun j hj => up_k (by omega)⟩
  · simp only [if_neg (fun h : isT (mi 47) p ∧ (0 ≤ g ∧ g ≤ 2) => hp h.1)] at hK
    simp (disch := first | assumption | exact isL_i | exact isL_r | exact isL_n | exact i01a | exact i01b | omega | (simp (disch := decide) only [up_a, up_s, up_k]; first | assumption | omega)) only [K73_0, K73_1, K73_2, K73_5, K73_6, K73_7, K73_10, K73_13, K73_14, K73_15, K73_16, K73_19, K73_22, K73_23, g1, g2, g3, g11, g12, g15, g16, g18, wr_id, td_e, tm_e, pu_n, pu_s, up_s, up_k, up_a, ↓reduceIte, Int.reduceLT, Int.reduceLE, Int.reduceEq, Int.reduceNeg, Int.reduceAdd, Int.reduceSub, Int.reduceMul, Int.reduceMod, Int.reduceDiv, Int.cast_ofNat_Int, not_true_eq_false, not_false_eq_true, Int.reduceTDiv, Int.reduceTMod, m_isThing, m_in, if_pos, if_neg]
    exact hK _ (t0 _ up_s) ⟨sc_up (by decide), fun j hj => up_k (by omega)⟩
end MO
