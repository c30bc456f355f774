/-! ===== odds, mean, done ===== -/
theorem wl_id {x : Int} (h1 : -9223372036854775808 ≤ x) (h2 : x ≤ 9223372036854775807) : wl x = x := by
  unfold wl
  rw [Int.bmod_def]
  split <;> omega
abbrev nO : Int := -9223372036854775808
def oddL (s : Int → Int) (n : Nat) (q : Int) : Nat → Int → Int → Int
  | 0, _, u => u
  | m + 1, h, u => oddL s n q m (h + 1) (if q ≤ (bstL s h n).2 then u + 1 else u)
def oOdds (s : Int → Int) (n q w : Int) : Int := if (0 ≤ n ∧ n ≤ 3) ∧ (0 ≤ q ∧ q ≤ 9999) ∧ (0 ≤ w ∧ w ≤ 1) then (if w = 0 then oddL s n.toNat q 4 0 0 else 4) / euF 6 (oddL s n.toNat q 4 0 0) 4 else nO
theorem oddL_bd {s : Int → Int} {n : Nat} {q : Int} : ∀ (m : Nat) (h u : Int), u ≤ oddL s n q m h u ∧ oddL s n q m h u ≤ u + m := by
  intro m
  induction m with
  | zero => intro h u; simp [oddL]
  | succ m ih =>
    intro h u
    simp only [oddL]
    by_cases c : q ≤ (bstL s h n).2
    · rw [if_pos c]; have := ih (h + 1) (u + 1); omega
    · rw [if_neg c]; have := ih (h + 1) u; omega
def meanL (s : Int → Int) : Nat → Int → Int × Int → Int × Int
  | 0, _, b => b
  | m + 1, p, b => meanL s m (p + 1) (if s (2 + p) = 0 then (b.1 + worthF s p (s 0), b.2 + 1) else b)
def oMean (s : Int → Int) (w : Int) : Int := if (0 ≤ w ∧ w ≤ 1) ∧ ¬ (meanL s (s 11).toNat 0 (0, 0)).2 = 0 then (if w = 0 then (meanL s (s 11).toNat 0 (0, 0)).1 else (meanL s (s 11).toNat 0 (0, 0)).2) / euF 6 (meanL s (s 11).toNat 0 (0, 0)).1 (meanL s (s 11).toNat 0 (0, 0)).2 else nO
theorem meanL_bd {s : Int → Int} (hV : WfV s) (hT : WfT s) : ∀ (m : Nat) (p : Int) (b : Int × Int), 0 ≤ p → p + m ≤ 6 → (b.1 ≤ (meanL s m p b).1 ∧ (meanL s m p b).1 ≤ b.1 + 30000 * m) ∧ (b.2 ≤ (meanL s m p b).2 ∧ (meanL s m p b).2 ≤ b.2 + m) := by
  intro m
  induction m with
  | zero => intro p b h0 h6; simp [meanL]
  | succ m ih =>
    intro p b h0 h6
    have hw := worthF_bd hV hT (p := p) (t := s 0) h0 (by omega)
    simp only [meanL]
    by_cases c : s (2 + p) = 0
    · rw [if_pos c]; have := ih (p + 1) (b.1 + worthF s p (s 0), b.2 + 1) (by omega) (by omega); dsimp only at this; omega
    · rw [if_neg c]; have := ih (p + 1) b (by omega) (by omega); omega
/-- a plan's rows, one after another: all, and what is gained -/
def planL (s0 : Int → Int) (hz : Int) : Nat → Int → (Int → Int) × Int → (Int → Int) × Int
  | 0, _, b => b
  | m + 1, k, b => planL s0 hz m (k + 1) (gs b.1 hz (s0 (75 + k)), b.2 + gaT b.1 hz (s0 (75 + k)))
def oDone (s : Int → Int) (w : Int) : Int := if 0 ≤ w ∧ w ≤ 2 then (if w = 0 then (planL s (hazF s) (s 14).toNat 0 (s, 0)).2 else if w = 1 then (planL s (hazF s) (s 14).toNat 0 (s, 0)).1 1 else if s 8 < s 14 then 0 else s 8 - s 14) else -1
section MO
variable {d : Nat} {G : Gh} {mi : Mi} {K : Option PV → Gh → Mi → Prop} {p t v w a b c k n g q : Int}
theorem m_odds_lp (hG : ShM G) {s : Int → Int} {n : Nat} (hS : WfG s) (ht : 0 ≤ s 0) (htt : s 0 ≤ 9999) (hc : 0 ≤ s 1) (hc' : s 1 ≤ 23) (hn5 : n ≤ 5) (hw : 0 ≤ w) (hw' : w ≤ 1) : ∀ (m : Nat) (mi : Mi) (h u : Int), h + m = 4 → 0 ≤ h → 0 ≤ u → u ≤ h → mi 47 = s → mi 46 5 = h →
    (∀ mi', mi' 47 = s → ScM mi mi' → K (some (pL ((if w = 0 then oddL s n q m h u else 4) / euF 6 (oddL s n q m h u) 4))) G mi') →
    Ok (d + 5) 59 41 [some (pR (some 46)), some (pI n), some (pI q), some (pI w), some (pL u), none] [] G mi K := by
  obtain ⟨⟨k46, k47, l47, k48, l48, k49, l49, k50, l50, k51, l51⟩, ⟨k52, l52, k53, l53, k54, l54⟩, ⟨g1, g2, g3, g11, g12, g15, g16, g18⟩⟩ := id hG
  intro m
  induction m with
  | zero =>
    intro mi h u hh h0 u0 u1 hs h5 hK
    have hK := hK mi hs ScM.rf
    simp only [oddL] at hK
    rw [K59_41]
    simp (disch := first | assumption | exact isL_i | exact isL_r | exact isL_n | exact i01a | exact i01b | omega) only [K59_42, K59_45, K59_46, K59_85, K59_87, K59_90, K59_91, K59_94, g1, g2, g3, g11, g12, g15, g16, g18, wr_id, td_e, tm_e, pu_n, pu_s, up_s, up_k, up_a, ↓reduceIte, Int.reduceLT, Int.reduceLE, Int.reduceEq, Int.reduceNeg, Int.reduceAdd, Int.reduceSub, Int.reduceMul, Int.reduceMod, Int.reduceDiv, Int.cast_ofNat_Int, not_true_eq_false, not_false_eq_true, Int.reduceTDiv, Int.reduceTMod, if_pos, if_neg, m_lowest]
    exact hK
  | succ m ih =>
    intro mi h u hh h0 u0 u1 hs h5 hK
    simp only [oddL] at hK
    rw [K59_41]
    simp (disch := first | assumption | exact isL_i | exact isL_r | exact isL_n | exact i01a | exact i01b | omega) only [K59_42, K59_45, K59_46, K59_49, K59_50, g1, g2, g3, g11, g12, g15, g16, g18, wr_id, td_e, tm_e, pu_n, pu_s, up_s, up_k, up_a, ↓reduceIte, Int.reduceLT, Int.reduceLE, Int.reduceEq, Int.reduceNeg, Int.reduceAdd, Int.reduceSub, Int.reduceMul, Int.reduceMod, Int.reduceDiv, Int.cast_ofNat_Int, not_true_eq_false, not_false_eq_true, Int.reduceTDiv, Int.reduceTMod, if_pos, if_neg]
    rw [K59_51 k46]
    refine m_looksFor (n := n) hG (by rw [hs]; exact hS) (by rw [hs]; exact ht) (by rw [hs]; exact htt) (by rw [hs]; exact hc) (by rw [hs]; exact hc') hn5 fun m1 f1 f2 f3 f4 => ?_
    rw [hs, h5] at f1
    have f14 : m1 46 14 = (bstL s h n).2 := by
      have := congrArg Prod.snd (f1.trans (bestL_b hS hc hc' n _ 0)); exact this
    rw [hs] at f2
    have hsc : ScM mi m1 := ⟨f4.wk (by decide), f3 4 (by decide) (by decide), f3 19 (by decide) (by decide)⟩
    have h55 : m1 46 5 = h := by rw [f3 5 (by decide) (by decide)]; exact h5
    by_cases hb : q ≤ (bstL s h n).2
    · rw [if_pos hb] at hK
      simp (disch := first | assumption | exact isL_i | exact isL_r | exact isL_n | exact i01a | exact i01b | omega) only [K59_54, K59_56, K59_57, K59_60, K59_61, K59_64, K59_65, K59_68, K59_69, K59_70, K59_72, K59_73, K59_73i, K59_74, K59_77, K59_78, K59_79, K59_82, g1, g2, g3, g11, g12, g15, g16, g18, wr_id, td_e, tm_e, pu_n, pu_s, up_s, up_k, up_a, ↓reduceIte, Int.reduceLT, Int.reduceLE, Int.reduceEq, Int.reduceNeg, Int.reduceAdd, Int.reduceSub, Int.reduceMul, Int.reduceMod, Int.reduceDiv, Int.cast_ofNat_Int, not_true_eq_false, not_false_eq_true, Int.reduceTDiv, Int.reduceTMod, wl_id, if_pos, if_neg, f14, h55]
      exact ih _ (h + 1) _ (by omega) (by omega) (by omega) (by omega) (by rw [up_a (by decide)]; exact f2) (by rw [up_s]) (fun mi' g1 g2 => hK mi' g1 ((hsc.tr (ScM.u46 (by decide) (by decide))).tr g2))
    · rw [if_neg hb] at hK
      simp (disch := first | assumption | exact isL_i | exact isL_r | exact isL_n | exact i01a | exact i01b | omega) only [K59_54, K59_56, K59_57, K59_60, K59_61, K59_64, K59_65, K59_68, K59_69, K59_70, K59_72, K59_73, K59_73i, K59_74, K59_77, K59_78, K59_79, K59_82, g1, g2, g3, g11, g12, g15, g16, g18, wr_id, td_e, tm_e, pu_n, pu_s, up_s, up_k, up_a, ↓reduceIte, Int.reduceLT, Int.reduceLE, Int.reduceEq, Int.reduceNeg, Int.reduceAdd, Int.reduceSub, Int.reduceMul, Int.reduceMod, Int.reduceDiv, Int.cast_ofNat_Int, not_true_eq_false, not_false_eq_true, Int.reduceTDiv, Int.reduceTMod, wl_id, if_pos, if_neg, f14, h55, Int.add_zero]
      exact ih _ (h + 1) _ (by omega) (by omega) (by omega) (by omega) (by rw [up_a (by decide)]; exact f2) (by rw [up_s]) (fun mi' g1 g2 => hK mi' g1 ((hsc.tr (ScM.u46 (by decide) (by decide))).tr g2))
theorem m_odds (hG : ShM G) (hS : WfG (mi 47)) (ht : 0 ≤ mi 47 0) (htt : mi 47 0 ≤ 9999) (hc : 0 ≤ mi 47 1) (hc' : mi 47 1 ≤ 23) (hK : ∀ mi', mi' 47 = mi 47 → ScM mi mi' → K (some (pL (oOdds (mi 47) n q w))) G mi') : OkC (d + 5) 59 [pR (some 46), pI n, pI q, pI w] G mi K := by
  obtain ⟨⟨k46, k47, l47, k48, l48, k49, l49, k50, l50, k51, l51⟩, ⟨k52, l52, k53, l53, k54, l54⟩, ⟨g1, g2, g3, g11, g12, g15, g16, g18⟩⟩ := id hG
  rw [E59]
  unfold oOdds at hK
  by_cases h1 : 0 ≤ n ∧ n ≤ 3
  · by_cases h2 : 0 ≤ q ∧ q ≤ 9999
    · by_cases h3 : 0 ≤ w ∧ w ≤ 1
      · rw [if_pos ⟨h1, h2, h3⟩] at hK
        simp (disch := first | assumption | exact isL_i | exact isL_r | exact isL_n | exact i01a | exact i01b | omega) only [K59_0, K59_1, K59_2, K59_3, K59_6, K59_9, K59_10, K59_11, K59_14, K59_17, K59_20, K59_21, K59_22, K59_23, K59_26, K59_29, K59_32, K59_33, K59_34, K59_36, K59_37, K59_38, g1, g2, g3, g11, g12, g15, g16, g18, wr_id, td_e, tm_e, pu_n, pu_s, up_s, up_k, up_a, ↓reduceIte, Int.reduceLT, Int.reduceLE, Int.reduceEq, Int.reduceNeg, Int.reduceAdd, Int.reduceSub, Int.reduceMul, Int.reduceMod, Int.reduceDiv, Int.cast_ofNat_Int, not_true_eq_false, not_false_eq_true, Int.reduceTDiv, Int.reduceTMod, m_in, if_pos, if_neg]
        obtain ⟨m, rfl⟩ := Int.eq_ofNat_of_zero_le h1.1
        rw [Int.toNat_natCast] at hK
        exact m_odds_lp (n := m) hG (s := mi 47) hS ht htt hc hc' (by omega) h3.1 h3.2 4 _ 0 0 (by decide) (by decide) (by decide) (by decide) (by rw [up_a (by decide)]) (by rw [up_s]) (fun mi' g1 g2 => hK mi' g1 ((ScM.u46 (by decide) (by decide)).tr g2))
      · rw [if_neg (fun h => h3 h.2.2)] at hK
        simp (disch := first | assumption | exact isL_i | exact isL_r | exact isL_n | exact i01a | exact i01b | omega) only [K59_0, K59_1, K59_2, K59_3, K59_6, K59_9, K59_10, K59_11, K59_14, K59_17, K59_20, K59_21, K59_22, K59_23, K59_26, K59_29, K59_32, g1, g2, g3, g11, g12, g15, g16, g18, wr_id, td_e, tm_e, pu_n, pu_s, up_s, up_k, up_a, ↓reduceIte, Int.reduceLT, Int.reduceLE, Int.reduceEq, Int.reduceNeg, Int.reduceAdd, Int.reduceSub, Int.reduceMul, Int.reduceMod, Int.reduceDiv, Int.cast_ofNat_Int, not_true_eq_false, not_false_eq_true, Int.reduceTDiv, Int.reduceTMod, m_in, if_pos, if_neg]
        exact hK _ rfl ScM.rf
    · rw [if_neg (fun h => h2 h.2.1)] at hK
      simp (disch := first | assumption | exact isL_i | exact isL_r | exact isL_n | exact i01a | exact i01b | omega) only [K59_0, K59_1, K59_2, K59_3, K59_6, K59_9, K59_10, K59_11, K59_14, K59_17, K59_20, K59_21, K59_22, K59_23, K59_26, K59_29, K59_32, g1, g2, g3, g11, g12, g15, g16, g18, wr_id, td_e, tm_e, pu_n, pu_s, up_s, up_k, up_a, ↓reduceIte, Int.reduceLT, Int.reduceLE, Int.reduceEq, Int.reduceNeg, Int.reduceAdd, Int.reduceSub, Int.reduceMul, Int.reduceMod, Int.reduceDiv, Int.cast_ofNat_Int, not_true_eq_false, not_false_eq_true, Int.reduceTDiv, Int.reduceTMod, m_in, if_pos, if_neg]
      exact hK _ rfl ScM.rf
  · rw [if_neg (fun h => h1 h.1)] at hK
    simp (disch := first | assumption | exact isL_i | exact isL_r | exact isL_n | exact i01a | exact i01b | omega) only [K59_0, K59_1, K59_2, K59_3, K59_6, K59_9, K59_10, K59_11, K59_14, K59_17, K59_20, K59_21, K59_22, K59_23, K59_26, K59_29, K59_32, g1, g2, g3, g11, g12, g15, g16, g18, wr_id, td_e, tm_e, pu_n, pu_s, up_s, up_k, up_a, ↓reduceIte, Int.reduceLT, Int.reduceLE, Int.reduceEq, Int.reduceNeg, Int.reduceAdd, Int.reduceSub, Int.reduceMul, Int.reduceMod, Int.reduceDiv, Int.cast_ofNat_Int, not_true_eq_false, not_false_eq_true, Int.reduceTDiv, Int.reduceTMod, m_in, if_pos, if_neg]
    exact hK _ rfl ScM.rf
theorem m_mean_lp (hG : ShM G) {s : Int → Int} (hS : WfG s) (ht : 0 ≤ s 0) (htt : s 0 ≤ 9999) : ∀ (m : Nat) (mi : Mi) (p u l : Int) (x7 : Option PV), isL x7 = false → p + m = s 11 → 0 ≤ p → 0 ≤ u → u + 30000 * m ≤ 180000 → 0 ≤ l → l ≤ p → mi 47 = s →
    (∀ mi', mi' 47 = s → ScM mi mi' → K (some (pL (if (0 ≤ w ∧ w ≤ 1) ∧ ¬ (meanL s m p (u, l)).2 = 0 then (if w = 0 then (meanL s m p (u, l)).1 else (meanL s m p (u, l)).2) / euF 6 (meanL s m p (u, l)).1 (meanL s m p (u, l)).2 else nO))) G mi') →
    Ok (d + 5) 60 8 [some (pR (some 46)), some (pI w), some (pL u), none, some (pL l), none, some (pI p), x7] [] G mi K := by
  obtain ⟨⟨k46, k47, l47, k48, l48, k49, l49, k50, l50, k51, l51⟩, ⟨k52, l52, k53, l53, k54, l54⟩, ⟨g1, g2, g3, g11, g12, g15, g16, g18⟩⟩ := id hG
  obtain ⟨hT, hV, ⟨h1, h4⟩, ⟨hn, hn'⟩⟩ := id hS
  intro m
  induction m with
  | zero =>
    intro mi p u l x7 q7 hp h0 u0 u1 l0 l1 hs hK
    have hK : K (some (pL (if (0 ≤ w ∧ w ≤ 1) ∧ ¬ l = 0 then (if w = 0 then u else l) / euF 6 u l else nO))) G mi := hK mi hs ScM.rf
    rw [K60_8]
    by_cases h3 : 0 ≤ w ∧ w ≤ 1
    · by_cases hl : l = 0
      · rw [if_neg (show ¬ ((0 ≤ w ∧ w ≤ 1) ∧ ¬ l = 0) from fun h => h.2 hl)] at hK
        simp (disch := first | assumption | exact isL_i | exact isL_r | exact isL_n | exact i01a | exact i01b | omega) only [K60_10, K60_11, K60_14, K60_16, K60_17, K60_85, K60_86, K60_87, K60_88, K60_91, K60_94, K60_96, K60_97, K60_98, K60_101, K60_104, K60_107, K60_108, K60_110, K60_111, K60_114, g1, g2, g3, g11, g12, g15, g16, g18, wr_id, td_e, tm_e, pu_n, pu_s, up_s, up_k, up_a, ↓reduceIte, Int.reduceLT, Int.reduceLE, Int.reduceEq, Int.reduceNeg, Int.reduceAdd, Int.reduceSub, Int.reduceMul, Int.reduceMod, Int.reduceDiv, Int.cast_ofNat_Int, not_true_eq_false, not_false_eq_true, Int.reduceTDiv, Int.reduceTMod, cmpL, if_pos, if_neg, m_in, hs]
        exact hK
      · rw [if_pos (show (0 ≤ w ∧ w ≤ 1) ∧ ¬ l = 0 from ⟨h3, hl⟩)] at hK
        have hcm : ¬ cmpL l 0 = 0 := by unfold cmpL; rw [if_neg (by omega), if_neg (by omega)]; decide
        simp (disch := first | assumption | exact isL_i | exact isL_r | exact isL_n | exact i01a | exact i01b | omega) only [K60_10, K60_11, K60_14, K60_16, K60_17, K60_85, K60_86, K60_87, K60_88, K60_91, K60_94, K60_96, K60_97, K60_98, K60_101, K60_104, K60_107, K60_108, K60_110, K60_111, K60_114, g1, g2, g3, g11, g12, g15, g16, g18, wr_id, td_e, tm_e, pu_n, pu_s, up_s, up_k, up_a, ↓reduceIte, Int.reduceLT, Int.reduceLE, Int.reduceEq, Int.reduceNeg, Int.reduceAdd, Int.reduceSub, Int.reduceMul, Int.reduceMod, Int.reduceDiv, Int.cast_ofNat_Int, not_true_eq_false, not_false_eq_true, Int.reduceTDiv, Int.reduceTMod, if_pos, if_neg, m_in, m_lowest, hs]
        exact hK
    · rw [if_neg (show ¬ ((0 ≤ w ∧ w ≤ 1) ∧ ¬ l = 0) from fun h => h3 h.1)] at hK
      simp (disch := first | assumption | exact isL_i | exact isL_r | exact isL_n | exact i01a | exact i01b | omega) only [K60_10, K60_11, K60_14, K60_16, K60_17, K60_85, K60_86, K60_87, K60_88, K60_91, K60_94, K60_96, K60_97, K60_98, K60_101, K60_104, K60_107, K60_108, K60_110, K60_111, K60_114, g1, g2, g3, g11, g12, g15, g16, g18, wr_id, td_e, tm_e, pu_n, pu_s, up_s, up_k, up_a, ↓reduceIte, Int.reduceLT, Int.reduceLE, Int.reduceEq, Int.reduceNeg, Int.reduceAdd, Int.reduceSub, Int.reduceMul, Int.reduceMod, Int.reduceDiv, Int.cast_ofNat_Int, not_true_eq_false, not_false_eq_true, Int.reduceTDiv, Int.reduceTMod, if_pos, if_neg, m_in, hs]
      exact hK
  | succ m ih =>
    intro mi p u l x7 q7 hp h0 u0 u1 l0 l1 hs hK
    have hw := worthF_bd hV hT (p := p) (t := s 0) h0 (by omega)
    simp only [meanL] at hK
    rw [K60_8]
    by_cases hb : s (2 + p) = 0
    · rw [if_pos hb] at hK
      simp (disch := first | assumption | exact isL_i | exact isL_r | exact isL_n | exact i01a | exact i01b | omega) only [K60_10, K60_11, K60_14, K60_16, K60_17, K60_20, K60_21, K60_24, K60_25, K60_27, K60_28, K60_29, K60_32, K60_33, K60_36, K60_37, K60_39, K60_40, K60_42, K60_45, K60_46, K60_48, K60_49, K60_52, K60_53, g1, g2, g3, g11, g12, g15, g16, g18, wr_id, td_e, tm_e, pu_n, pu_s, up_s, up_k, up_a, ↓reduceIte, Int.reduceLT, Int.reduceLE, Int.reduceEq, Int.reduceNeg, Int.reduceAdd, Int.reduceSub, Int.reduceMul, Int.reduceMod, Int.reduceDiv, Int.cast_ofNat_Int, not_true_eq_false, not_false_eq_true, Int.reduceTDiv, Int.reduceTMod, if_pos, if_neg, hs]
      rw [K60_54 k46]
      refine m_worthOf hG (by rw [hs]; exact hT) (by rw [hs]; exact hV) (by rw [hs]; exact h1) (by rw [hs]; exact h4) h0 (by omega) ht (by omega) fun m1 hsc => ?_
      rw [hs]
      simp (disch := first | assumption | exact isL_i | exact isL_r | exact isL_n | exact i01a | exact i01b | omega) only [K60_57, K60_58, K60_61, K60_62, K60_63, K60_64, K60_66, K60_68, K60_71, K60_72, K60_75, K60_76, K60_77, K60_79, K60_82, g1, g2, g3, g11, g12, g15, g16, g18, wr_id, td_e, tm_e, pu_n, pu_s, up_s, up_k, up_a, ↓reduceIte, Int.reduceLT, Int.reduceLE, Int.reduceEq, Int.reduceNeg, Int.reduceAdd, Int.reduceSub, Int.reduceMul, Int.reduceMod, Int.reduceDiv, Int.cast_ofNat_Int, not_true_eq_false, not_false_eq_true, Int.reduceTDiv, Int.reduceTMod, wl_id, if_pos, if_neg]
      exact ih m1 (p + 1) _ _ _ isL_i (by omega) (by omega) (by omega) (by omega) (by omega) (by omega) (by rw [hsc 47 (by decide)]; exact hs) (fun mi' g1 g2 => hK mi' g1 ((ScM.sc (hsc.wk (by decide))).tr g2))
    · rw [if_neg hb] at hK
      simp (disch := first | assumption | exact isL_i | exact isL_r | exact isL_n | exact i01a | exact i01b | omega) only [K60_10, K60_11, K60_14, K60_16, K60_17, K60_20, K60_21, K60_24, K60_25, K60_27, K60_28, K60_29, K60_32, K60_33, K60_36, K60_37, K60_39, K60_40, K60_42, K60_45, K60_46, K60_48, K60_49, K60_52, K60_53, K60_54, K60_57, K60_58, K60_61, K60_62, K60_63, K60_64, K60_66, K60_68, K60_71, K60_72, K60_75, K60_76, K60_77, K60_79, K60_82, g1, g2, g3, g11, g12, g15, g16, g18, wr_id, td_e, tm_e, pu_n, pu_s, up_s, up_k, up_a, ↓reduceIte, Int.reduceLT, Int.reduceLE, Int.reduceEq, Int.reduceNeg, Int.reduceAdd, Int.reduceSub, Int.reduceMul, Int.reduceMod, Int.reduceDiv, Int.cast_ofNat_Int, not_true_eq_false, not_false_eq_true, Int.reduceTDiv, Int.reduceTMod, wl_id, if_pos, if_neg, hs, Int.add_zero]
      exact ih mi (p + 1) _ _ _ isL_i (by omega) (by omega) (by omega) (by omega) (by omega) (by omega) hs hK
theorem m_mean (hG : ShM G) (hS : WfG (mi 47)) (ht : 0 ≤ mi 47 0) (htt : mi 47 0 ≤ 9999) (hK : ∀ mi', mi' 47 = mi 47 → ScM mi mi' → K (some (pL (oMean (mi 47) w))) G mi') : OkC (d + 5) 60 [pR (some 46), pI w] G mi K := by
  obtain ⟨⟨k46, k47, l47, k48, l48, k49, l49, k50, l50, k51, l51⟩, ⟨k52, l52, k53, l53, k54, l54⟩, ⟨g1, g2, g3, g11, g12, g15, g16, g18⟩⟩ := id hG
  obtain ⟨hT, hV, ⟨h1, h4⟩, ⟨hn, hn'⟩⟩ := id hS
  rw [E60]
  simp (disch := first | assumption | exact isL_i | exact isL_r | exact isL_n | exact i01a | exact i01b | omega) only [K60_0, K60_1, K60_2, K60_3, K60_5, K60_6, g1, g2, g3, g11, g12, g15, g16, g18, wr_id, td_e, tm_e, pu_n, pu_s, up_s, up_k, up_a, ↓reduceIte, Int.reduceLT, Int.reduceLE, Int.reduceEq, Int.reduceNeg, Int.reduceAdd, Int.reduceSub, Int.reduceMul, Int.reduceMod, Int.reduceDiv, Int.cast_ofNat_Int, not_true_eq_false, not_false_eq_true, Int.reduceTDiv, Int.reduceTMod, if_pos, if_neg]
  exact m_mean_lp hG hS ht htt (mi 47 11).toNat mi 0 0 0 none isL_n (by omega) (by decide) (by decide) (by omega) (by decide) (by decide) rfl hK
theorem m_done_lp (hG : ShM G) {s : Int → Int} {hz : Int} (hS : WfG s) (hL : ∀ j : Int, 0 ≤ j → j < 8 → 0 ≤ s (75 + j)) (h14 : 0 ≤ s 14) (h14' : s 14 ≤ 8) (h8 : 0 ≤ s 8) (h8' : s 8 ≤ 99) (ht : 0 ≤ s 0) (htt : s 0 ≤ 9999) : ∀ (m : Nat) (mi : Mi) (k : Int) (b : (Int → Int) × Int) (x4 : Option PV), isL x4 = false → k + m = s 14 → 0 ≤ k → mi 47 = b.1 → Stat s b.1 → (∀ j : Int, j < 0 → b.1 j = s j) → b.1 0 = s 0 + k → (0 ≤ b.1 1 ∧ b.1 1 ≤ 23) → (0 ≤ b.2 ∧ b.2 ≤ 180000 * k) → (∀ j : Int, 0 ≤ j → j < 8 → mi 49 j = s j) → mi 46 5 = hz → (0 ≤ w ∧ w ≤ 2) →
    (∀ mi', mi' 47 = s → ScM mi mi' → K (some (pI (if w = 0 then (planL s hz m k b).2 else if w = 1 then (planL s hz m k b).1 1 else if s 8 < s 14 then 0 else s 8 - s 14))) G mi') →
    Ok (d + 5) 62 23 [some (pR (some 46)), some (pI w), some (pI b.2), some (pI k), x4] [] G mi K := by
  obtain ⟨⟨k46, k47, l47, k48, l48, k49, l49, k50, l50, k51, l51⟩, ⟨k52, l52, k53, l53, k54, l54⟩, ⟨g1, g2, g3, g11, g12, g15, g16, g18⟩⟩ := id hG
  intro m
  induction m with
  | zero =>
    intro mi k b x4 q4 hk h0 hs hst hneg hb0 hb1 hb2 hf h5 hw hK
    simp only [planL] at hK
    rw [K62_23]
    have e14 : mi 47 14 = s 14 := by rw [hs]; exact hst 14 (by decide)
    have e1 : mi 47 1 = b.1 1 := by rw [hs]
    simp (disch := first | assumption | exact isL_i | exact isL_r | exact isL_n | exact i01a | exact i01b | omega) only [K62_24, K62_25, K62_28, K62_30, K62_31, K62_56, K62_57, K62_60, K62_61, K62_62, K62_63, g1, g2, g3, g11, g12, g15, g16, g18, wr_id, td_e, tm_e, pu_n, pu_s, up_s, up_k, up_a, ↓reduceIte, Int.reduceLT, Int.reduceLE, Int.reduceEq, Int.reduceNeg, Int.reduceAdd, Int.reduceSub, Int.reduceMul, Int.reduceMod, Int.reduceDiv, Int.cast_ofNat_Int, not_true_eq_false, not_false_eq_true, Int.reduceTDiv, Int.reduceTMod, if_pos, if_neg, e14, e1]
    rw [K62_64 k46]
    refine m_goesBack' hG (s := s) (by rw [hs]; exact hst) hf (fun j hj => by rw [hs]; exact hneg j hj) fun m2 h2 hs2 => ?_
    have hK := hK m2 h2 (ScM.sc (hs2.wk (by decide)))
    have f8 : m2 47 8 = s 8 := by rw [h2]
    have f14 : m2 47 14 = s 14 := by rw [h2]
    by_cases c0 : w = 0
    · rw [if_pos c0] at hK
      by_cases c8 : s 8 < s 14
      all_goals simp (disch := first | assumption | exact isL_i | exact isL_r | exact isL_n | exact i01a | exact i01b | omega) only [K62_67, K62_68, K62_71, K62_73, K62_74, K62_75, K62_78, K62_80, K62_81, K62_84, K62_85, K62_88, K62_89, K62_92, K62_94, K62_95, K62_96, K62_99, K62_101, K62_102, K62_103, K62_105, K62_106, K62_109, K62_110, K62_113, K62_114, K62_115, K62_118, K62_119, K62_122, K62_124, g1, g2, g3, g11, g12, g15, g16, g18, wr_id, td_e, tm_e, pu_n, pu_s, up_s, up_k, up_a, ↓reduceIte, Int.reduceLT, Int.reduceLE, Int.reduceEq, Int.reduceNeg, Int.reduceAdd, Int.reduceSub, Int.reduceMul, Int.reduceMod, Int.reduceDiv, Int.cast_ofNat_Int, not_true_eq_false, not_false_eq_true, Int.reduceTDiv, Int.reduceTMod, if_pos, if_neg, f8, f14]
      all_goals exact hK
    · rw [if_neg c0] at hK
      by_cases c1 : w = 1
      · rw [if_pos c1] at hK
        by_cases c8 : s 8 < s 14
        all_goals simp (disch := first | assumption | exact isL_i | exact isL_r | exact isL_n | exact i01a | exact i01b | omega) only [K62_67, K62_68, K62_71, K62_73, K62_74, K62_75, K62_78, K62_80, K62_81, K62_84, K62_85, K62_88, K62_89, K62_92, K62_94, K62_95, K62_96, K62_99, K62_101, K62_102, K62_103, K62_105, K62_106, K62_109, K62_110, K62_113, K62_114, K62_115, K62_118, K62_119, K62_122, K62_124, g1, g2, g3, g11, g12, g15, g16, g18, wr_id, td_e, tm_e, pu_n, pu_s, up_s, up_k, up_a, ↓reduceIte, Int.reduceLT, Int.reduceLE, Int.reduceEq, Int.reduceNeg, Int.reduceAdd, Int.reduceSub, Int.reduceMul, Int.reduceMod, Int.reduceDiv, Int.cast_ofNat_Int, not_true_eq_false, not_false_eq_true, Int.reduceTDiv, Int.reduceTMod, if_pos, if_neg, f8, f14]
        all_goals exact hK
      · rw [if_neg c1] at hK
        by_cases c8 : s 8 < s 14
        · rw [if_pos c8] at hK
          simp (disch := first | assumption | exact isL_i | exact isL_r | exact isL_n | exact i01a | exact i01b | omega) only [K62_67, K62_68, K62_71, K62_73, K62_74, K62_75, K62_78, K62_80, K62_81, K62_84, K62_85, K62_88, K62_89, K62_92, K62_94, K62_95, K62_96, K62_99, K62_101, K62_102, K62_103, K62_105, K62_106, K62_109, K62_110, K62_113, K62_114, K62_115, K62_118, K62_119, K62_122, K62_124, g1, g2, g3, g11, g12, g15, g16, g18, wr_id, td_e, tm_e, pu_n, pu_s, up_s, up_k, up_a, ↓reduceIte, Int.reduceLT, Int.reduceLE, Int.reduceEq, Int.reduceNeg, Int.reduceAdd, Int.reduceSub, Int.reduceMul, Int.reduceMod, Int.reduceDiv, Int.cast_ofNat_Int, not_true_eq_false, not_false_eq_true, Int.reduceTDiv, Int.reduceTMod, if_pos, if_neg, f8, f14]
          exact hK
        · rw [if_neg c8] at hK
          simp (disch := first | assumption | exact isL_i | exact isL_r | exact isL_n | exact i01a | exact i01b | omega) only [K62_67, K62_68, K62_71, K62_73, K62_74, K62_75, K62_78, K62_80, K62_81, K62_84, K62_85, K62_88, K62_89, K62_92, K62_94, K62_95, K62_96, K62_99, K62_101, K62_102, K62_103, K62_105, K62_106, K62_109, K62_110, K62_113, K62_114, K62_115, K62_118, K62_119, K62_122, K62_124, g1, g2, g3, g11, g12, g15, g16, g18, wr_id, td_e, tm_e, pu_n, pu_s, up_s, up_k, up_a, ↓reduceIte, Int.reduceLT, Int.reduceLE, Int.reduceEq, Int.reduceNeg, Int.reduceAdd, Int.reduceSub, Int.reduceMul, Int.reduceMod, Int.reduceDiv, Int.cast_ofNat_Int, not_true_eq_false, not_false_eq_true, Int.reduceTDiv, Int.reduceTMod, if_pos, if_neg, f8, f14]
          exact hK
  | succ m ih =>
    intro mi k b x4 q4 hk h0 hs hst hneg hb0 hb1 hb2 hf h5 hw hK
    simp only [planL] at hK
    have hS' := hS.st hst
    have hg := gaT_bd hS' (hz := hz) (k := s (75 + k))
    have e14 : mi 47 14 = s 14 := by rw [hs]; exact hst 14 (by decide)
    have e75 : mi 47 (75 + k) = s (75 + k) := by rw [hs]; exact hst (75 + k) (by omega)
    rw [K62_23]
    simp (disch := first | assumption | exact isL_i | exact isL_r | exact isL_n | exact i01a | exact i01b | omega) only [K62_24, K62_25, K62_28, K62_30, K62_31, K62_34, K62_35, K62_36, K62_37, K62_40, K62_42, K62_43, K62_44, g1, g2, g3, g11, g12, g15, g16, g18, wr_id, td_e, tm_e, pu_n, pu_s, up_s, up_k, up_a, ↓reduceIte, Int.reduceLT, Int.reduceLE, Int.reduceEq, Int.reduceNeg, Int.reduceAdd, Int.reduceSub, Int.reduceMul, Int.reduceMod, Int.reduceDiv, Int.cast_ofNat_Int, not_true_eq_false, not_false_eq_true, Int.reduceTDiv, Int.reduceTMod, if_pos, if_neg, e14, e75]
    rw [K62_45 k46]
    refine m_goes hG (g := s (75 + k)) (by rw [hs]; exact hS'.1) (by rw [hs]; exact hS'.2.1) (by rw [hs]; exact hS'.2.2.1.1) (by rw [hs]; exact hS'.2.2.1.2) (by rw [hs]; exact hS'.2.2.2.1) (by rw [hs]; exact hS'.2.2.2.2) (by rw [hs]; omega) (by rw [hs]; omega) (by rw [hs]; exact hb1.1) (by rw [hs]; exact hb1.2) fun m1 hm hsc => ?_
    rw [hs, h5] at hm
    rw [hs, h5]
    simp (disch := first | assumption | exact isL_i | exact isL_r | exact isL_n | exact i01a | exact i01b | omega) only [K62_48, K62_49, K62_50, K62_53, g1, g2, g3, g11, g12, g15, g16, g18, wr_id, td_e, tm_e, pu_n, pu_s, up_s, up_k, up_a, ↓reduceIte, Int.reduceLT, Int.reduceLE, Int.reduceEq, Int.reduceNeg, Int.reduceAdd, Int.reduceSub, Int.reduceMul, Int.reduceMod, Int.reduceDiv, Int.cast_ofNat_Int, not_true_eq_false, not_false_eq_true, Int.reduceTDiv, Int.reduceTMod, if_pos, if_neg]
    exact ih m1 (k + 1) (gs b.1 hz (s (75 + k)), b.2 + gaT b.1 hz (s (75 + k))) x4 q4 (by omega) (by omega) hm (hst.tr (gs_st hS'.2.2.2.2)) (fun j hj => (gs_neg hj).trans (hneg j hj)) (by show gs b.1 hz (s (75 + k)) 0 = _; rw [gs_0]; omega) (gs_1 hb1.1 hb1.2) ⟨by dsimp only; omega, by dsimp only; omega⟩ (fun j a b => by rw [hsc 49 (by decide)]; exact hf j a b) (by rw [hsc 46 (by decide)]; exact h5) hw (fun mi' g1 g2 => hK mi' g1 ((ScM.sc (hsc.wk (by decide))).tr g2))
theorem m_done (hG : ShM G) (hS : WfG (mi 47)) (hL : ∀ j : Int, 0 ≤ j → j < 8 → 0 ≤ mi 47 (75 + j)) (h14 : 0 ≤ mi 47 14) (h14' : mi 47 14 ≤ 8) (h8 : 0 ≤ mi 47 8) (h8' : mi 47 8 ≤ 99) (ht : 0 ≤ mi 47 0) (htt : mi 47 0 ≤ 9999) (hc : 0 ≤ mi 47 1) (hc' : mi 47 1 ≤ 23) (hK : ∀ mi', mi' 47 = mi 47 → ScM mi mi' → K (some (pI (oDone (mi 47) w))) G mi') : OkC (d + 5) 62 [pR (some 46), pI w] G mi K := by
  obtain ⟨⟨k46, k47, l47, k48, l48, k49, l49, k50, l50, k51, l51⟩, ⟨k52, l52, k53, l53, k54, l54⟩, ⟨g1, g2, g3, g11, g12, g15, g16, g18⟩⟩ := id hG
  obtain ⟨hT, hV, ⟨h1, h4⟩, ⟨hn, hn'⟩⟩ := id hS
  rw [E62]
  unfold oDone at hK
  by_cases hw : 0 ≤ w ∧ w ≤ 2
  · rw [if_pos hw] at hK
    simp (disch := first | assumption | exact isL_i | exact isL_r | exact isL_n | exact i01a | exact i01b | omega) only [K62_0, K62_1, K62_2, K62_3, K62_6, K62_9, K62_10, K62_11, K62_12, K62_15, g1, g2, g3, g11, g12, g15, g16, g18, wr_id, td_e, tm_e, pu_n, pu_s, up_s, up_k, up_a, ↓reduceIte, Int.reduceLT, Int.reduceLE, Int.reduceEq, Int.reduceNeg, Int.reduceAdd, Int.reduceSub, Int.reduceMul, Int.reduceMod, Int.reduceDiv, Int.cast_ofNat_Int, not_true_eq_false, not_false_eq_true, Int.reduceTDiv, Int.reduceTMod, if_pos, if_neg, m_in, m_asItIs']
    rw [K62_16 k46]
    refine m_keeps' hG fun m1 hm hsc => ?_
    simp (disch := first | assumption | exact isL_i | exact isL_r | exact isL_n | exact i01a | exact i01b | omega) only [K62_19, K62_20, K62_21, K62_22, g1, g2, g3, g11, g12, g15, g16, g18, wr_id, td_e, tm_e, pu_n, pu_s, up_s, up_k, up_a, ↓reduceIte, Int.reduceLT, Int.reduceLE, Int.reduceEq, Int.reduceNeg, Int.reduceAdd, Int.reduceSub, Int.reduceMul, Int.reduceMod, Int.reduceDiv, Int.cast_ofNat_Int, not_true_eq_false, not_false_eq_true, Int.reduceTDiv, Int.reduceTMod, if_pos, if_neg]
    have e47 : m1 47 = mi 47 := by rw [hsc 47 (by decide), up_a (by decide)]
    exact m_done_lp hG (s := mi 47) (hz := hazF (mi 47)) hS hL h14 h14' h8 h8' ht htt (mi 47 14).toNat m1 0 (mi 47, 0) none isL_n (by omega) (by decide) e47 Stat.rf (fun _ _ => rfl) (by dsimp only; omega) ⟨hc, hc'⟩ ⟨by dsimp only; omega, by dsimp only; omega⟩ (fun j a b => by rw [hm j a b, up_a (by decide)]) (by rw [hsc 46 (by decide), up_s]) hw (fun mi' g1 g2 => hK mi' g1 (((ScM.u46 (by decide) (by decide)).tr (ScM.sc (hsc.wk (by decide)))).tr g2))
  · rw [if_neg hw] at hK
    simp (disch := first | assumption | exact isL_i | exact isL_r | exact isL_n | exact i01a | exact i01b | omega) only [K62_0, K62_1, K62_2, K62_3, K62_6, K62_9, K62_10, K62_11, K62_12, K62_15, K62_16, K62_19, K62_20, K62_21, K62_22, K62_23, K62_24, K62_25, K62_28, K62_30, K62_31, K62_34, K62_35, K62_36, K62_37, K62_40, K62_42, K62_43, K62_44, K62_45, K62_48, K62_49, K62_50, K62_53, K62_56, K62_57, K62_60, K62_61, K62_62, K62_63, K62_64, K62_67, K62_68, K62_71, K62_73, K62_74, K62_75, K62_78, K62_80, K62_81, K62_84, K62_85, K62_88, K62_89, K62_92, K62_94, K62_95, K62_96, K62_99, K62_101, K62_102, K62_103, K62_105, K62_106, K62_109, K62_110, K62_113, K62_114, K62_115, K62_118, K62_119, K62_122, K62_124, g1, g2, g3, g11, g12, g15, g16, g18, wr_id, td_e, tm_e, pu_n, pu_s, up_s, up_k, up_a, ↓reduceIte, Int.reduceLT, Int.reduceLE, Int.reduceEq, Int.reduceNeg, Int.reduceAdd, Int.reduceSub, Int.reduceMul, Int.reduceMod, Int.reduceDiv, Int.cast_ofNat_Int, not_true_eq_false, not_false_eq_true, Int.reduceTDiv, Int.reduceTMod, m_in, if_pos, if_neg]
    exact hK _ rfl ScM.rf
end MO
