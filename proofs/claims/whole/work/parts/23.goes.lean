section MO
variable {d : Nat} {G : Gh} {mi : Mi} {K : Option PV → Gh → Mi → Prop} {p t v w a b : Int}
theorem m_goes_lp (hG : ShM G) {s : Int → Int} {hz t c g : Int} (hT : WfT s) (hV : WfV s) (h1 : -1 ≤ s 17) (h4 : s 17 ≤ 4) (hn : s 11 ≤ 6) (ht : 0 ≤ t) (htt : t ≤ 20000) : ∀ (k : Nat) (mi : Mi) (p a : Int) (x4 : Option PV), isL x4 = false → p + k = s 11 → 0 ≤ p → mi 47 = gsp s hz t c p → mi 46 5 = hz → 0 ≤ a → a + 30000 * k ≤ 2000000000 →
    (∀ mi', mi' 47 = gsp s hz t c (s 11) → Sc [47, 50, 51] mi mi' → K (some (pI (a + gaR s hz t c k p))) G mi') → Ok (d + 3) 43 37 [some (pR (some 46)), some (pI g), some (pI a), some (pI p), x4] [] G mi K := by
  obtain ⟨⟨k46, k47, l47, k48, l48, k49, l49, k50, l50, k51, l51⟩, ⟨k52, l52, k53, l53, k54, l54⟩, ⟨g1, g2, g3, g11, g12, g15, g16, g18⟩⟩ := id hG
  intro k
  induction k with
  | zero =>
    intro mi p a x4 q4 hp h0 hs hz5 ha ha' hK
    have e11 : mi 47 11 = s 11 := by rw [hs]; exact gsp_st (by omega) 11 (by omega)
    rw [K43_37]
    simp (disch := first | assumption | exact isL_i | exact isL_r | exact isL_n | exact i01a | exact i01b | omega) only [K43_38, K43_39, K43_42, K43_44, K43_45, K43_154, K43_155, g1, g2, g3, g11, g12, g15, g16, g18, wr_id, td_e, tm_e, pu_n, pu_s, up_s, up_k, up_a, ↓reduceIte, Int.reduceLT, Int.reduceLE, Int.reduceEq, Int.reduceNeg, Int.reduceAdd, Int.reduceSub, Int.reduceMul, Int.reduceMod, Int.reduceDiv, Int.cast_ofNat_Int, not_true_eq_false, not_false_eq_true, Int.reduceTDiv, Int.reduceTMod, if_pos, if_neg, e11]
    have := hK mi (by rw [hs]; congr 1; omega) Sc.rf
    simp only [gaR, Int.add_zero] at this
    exact this
  | succ k ih =>
    intro mi p a x4 q4 hp h0 hs hz5 ha ha' hK
    have hst : Stat s (mi 47) := by rw [hs]; exact gsp_st (by omega)
    have e11 : mi 47 11 = s 11 := hst 11 (by omega)
    have e17 : mi 47 17 = s 17 := hst 17 (by omega)
    have e0 : mi 47 0 = t := by rw [hs]; rfl
    have e1 : mi 47 1 = c := by rw [hs]; rfl
    have ep : mi 47 (2 + p) = s (2 + p) := by rw [hs]; unfold gsp; rw [if_neg (by omega), if_neg (by omega), if_neg (by omega)]
    have hT' : WfT (mi 47) := st_T hst hT
    have hV' : WfV (mi 47) := st_V hst h1 hV
    have eat : atF (mi 47) p t = atF s p t := st_at hst h0
    have edim : dimP (mi 47) (mi 46 5) p t = dimP s hz p t := by rw [hz5]; exact st_dim hst h0
    have ew : worthF (mi 47) p t = worthF s p t := st_worth hst h1 h0
    have hwb := worthF_bd hV hT (t := t) h0 (by omega)
    have hnx : ∀ (v : Int), v = (if seesP s hz p t c then 1 else s (2 + p)) → ∀ m1 : Mi, m1 47 = mi 47 → up m1 47 (2 + p) v 47 = gsp s hz t c (p + 1) := by
      intro v hv m1 hm
      rw [up_f, hm, hs]
      funext j
      unfold gsp
      by_cases hj : j = 2 + p
      · subst hj
        rw [if_pos rfl, hv]
        have e2 : 2 + p - 2 = p := by omega
        by_cases hse : seesP s hz p t c
        · rw [if_pos hse, if_neg (by omega), if_neg (by omega), if_pos ⟨by omega, by omega, by rw [e2]; exact hse⟩]
        · rw [if_neg hse, if_neg (by omega), if_neg (by omega), if_neg (fun h => hse (by have h' := h.2.2; rw [e2] at h'; exact h'))]
      · rw [if_neg hj]
        by_cases j0 : j = 0
        · rw [if_pos j0, if_pos j0]
        · rw [if_neg j0, if_neg j0]
          by_cases j1 : j = 1
          · rw [if_pos j1, if_pos j1]
          · rw [if_neg j1, if_neg j1]
            by_cases hse : 2 ≤ j ∧ j < 2 + p ∧ seesP s hz (j - 2) t c
            · rw [if_pos hse, if_pos ⟨hse.1, by omega, hse.2.2⟩]
            · rw [if_neg hse, if_neg (fun h => hse ⟨h.1, by omega, h.2.2⟩)]
    simp only [gaR] at hK
    rw [K43_37]
    simp (disch := first | assumption | exact isL_i | exact isL_r | exact isL_n | exact i01a | exact i01b | omega) only [K43_38, K43_39, K43_42, K43_44, K43_45, K43_48, K43_49, K43_52, K43_53, K43_54, K43_55, K43_56, K43_59, K43_60, K43_61, K43_62, K43_65, K43_66, K43_67, K43_70, K43_71, K43_74, K43_75, K43_76, K43_79, K43_80, K43_81, K43_82, K43_85, K43_86, K43_87, K43_90, K43_93, K43_94, K43_97, g1, g2, g3, g11, g12, g15, g16, g18, wr_id, td_e, tm_e, pu_n, pu_s, up_s, up_k, up_a, ↓reduceIte, Int.reduceLT, Int.reduceLE, Int.reduceEq, Int.reduceNeg, Int.reduceAdd, Int.reduceSub, Int.reduceMul, Int.reduceMod, Int.reduceDiv, Int.cast_ofNat_Int, not_true_eq_false, not_false_eq_true, Int.reduceTDiv, Int.reduceTMod, if_pos, if_neg, e11, e0, e1, ep, m_isAt, m_isDim, eat, edim]
    have J0 : ¬ seesP s hz p t c → Ok (d + 3) 43 98 [some (pR (some 46)), some (pI g), some (pI a), some (pI p), x4] [pI 0] G mi K := by
      intro hse
      rw [if_neg hse, Int.zero_add] at hK
      simp (disch := first | assumption | exact isL_i | exact isL_r | exact isL_n | exact i01a | exact i01b | omega) only [K43_98, K43_100, K43_101, K43_103, K43_106, K43_107, K43_108, K43_109, K43_112, K43_113, K43_114, K43_117, K43_120, K43_121, K43_122, K43_123, K43_124, K43_127, K43_128, K43_129, K43_130, K43_132, K43_135, K43_136, K43_139, K43_140, K43_143, K43_144, K43_145, K43_146, K43_147, K43_148, K43_151, g1, g2, g3, g11, g12, g15, g16, g18, wr_id, td_e, tm_e, pu_n, pu_s, up_s, up_k, up_a, ↓reduceIte, Int.reduceLT, Int.reduceLE, Int.reduceEq, Int.reduceNeg, Int.reduceAdd, Int.reduceSub, Int.reduceMul, Int.reduceMod, Int.reduceDiv, Int.cast_ofNat_Int, not_true_eq_false, not_false_eq_true, Int.reduceTDiv, Int.reduceTMod, if_pos, if_neg, Int.add_zero, ep]
      refine ih _ (p + 1) a _ isL_i (by omega) (by omega) (hnx _ (by rw [if_neg hse]) mi rfl) (by rw [up_a (by decide)]; exact hz5) ha (by omega) (fun mi' hm hsc => hK mi' hm (((Sc.rf.u (by decide)).tr hsc)))
    have J1 : seesP s hz p t c → Ok (d + 3) 43 98 [some (pR (some 46)), some (pI g), some (pI a), some (pI p), x4] [pI 1] G mi K := by
      intro hse
      rw [if_pos hse] at hK
      simp (disch := first | assumption | exact isL_i | exact isL_r | exact isL_n | exact i01a | exact i01b | omega) only [K43_98, K43_100, K43_101, K43_103, K43_106, K43_107, K43_108, K43_109, K43_112, K43_113, K43_114, g1, g2, g3, g11, g12, g15, g16, g18, wr_id, td_e, tm_e, pu_n, pu_s, up_s, up_k, up_a, ↓reduceIte, Int.reduceLT, Int.reduceLE, Int.reduceEq, Int.reduceNeg, Int.reduceAdd, Int.reduceSub, Int.reduceMul, Int.reduceMod, Int.reduceDiv, Int.cast_ofNat_Int, not_true_eq_false, not_false_eq_true, Int.reduceTDiv, Int.reduceTMod, if_pos, if_neg, e0]
      refine m_worthOf hG hT' hV' (by omega) (by omega) h0 (by omega) ht htt fun m1 hsc => ?_
      have f47 : m1 47 = mi 47 := hsc 47 (by decide)
      simp (disch := first | assumption | exact isL_i | exact isL_r | exact isL_n | exact i01a | exact i01b | omega) only [K43_117, K43_120, K43_121, K43_122, K43_123, K43_124, K43_127, K43_128, K43_129, K43_130, K43_132, K43_135, K43_136, K43_139, K43_140, K43_143, K43_144, K43_145, K43_146, K43_147, K43_148, K43_151, g1, g2, g3, g11, g12, g15, g16, g18, wr_id, td_e, tm_e, pu_n, pu_s, up_s, up_k, up_a, ↓reduceIte, Int.reduceLT, Int.reduceLE, Int.reduceEq, Int.reduceNeg, Int.reduceAdd, Int.reduceSub, Int.reduceMul, Int.reduceMod, Int.reduceDiv, Int.cast_ofNat_Int, not_true_eq_false, not_false_eq_true, Int.reduceTDiv, Int.reduceTMod, if_pos, if_neg, ew]
      refine ih _ (p + 1) _ _ isL_i (by omega) (by omega) (hnx _ (by rw [if_pos hse]) m1 f47) (by rw [up_a (by decide), hsc 46 (by decide)]; exact hz5) (by omega) (by omega) (fun mi' hm hs2 => ?_)
      rw [Int.add_assoc]
      exact hK mi' hm (((hsc.wk (by decide)).u (by decide)).tr hs2)
    by_cases c1 : s (2 + p) = 0
    · rw [if_neg (fun h => h c1)]
      by_cases c2 : atF s p t = c
      · rw [if_neg (fun h => h c2)]
        by_cases c3 : dimP s hz p t
        · rw [if_pos c3, if_pos (by decide)]
          exact J0 (fun h => h.2.2 c3)
        · rw [if_neg c3, if_neg (by decide)]
          exact J1 ⟨c1, c2, c3⟩
      · rw [if_pos c2]
        exact J0 (fun h => c2 h.2.1)
    · rw [if_pos c1]
      exact J0 (fun h => c1 h.1)
theorem m_goes (hG : ShM G) {g : Int} (hT : WfT (mi 47)) (hV : WfV (mi 47)) (h1 : -1 ≤ mi 47 17) (h4 : mi 47 17 ≤ 4) (hn : 0 ≤ mi 47 11) (hn' : mi 47 11 ≤ 6) (ht : 0 ≤ mi 47 0) (htt : mi 47 0 ≤ 19999) (hc : 0 ≤ mi 47 1) (hc' : mi 47 1 ≤ 23)
    (hK : ∀ mi', mi' 47 = gs (mi 47) (mi 46 5) g → Sc [47, 50, 51] mi mi' → K (some (pI (gaT (mi 47) (mi 46 5) g))) G mi') : OkC (d + 3) 43 [pR (some 46), pI g] G mi K := by
  obtain ⟨⟨k46, k47, l47, k48, l48, k49, l49, k50, l50, k51, l51⟩, ⟨k52, l52, k53, l53, k54, l54⟩, ⟨g1, g2, g3, g11, g12, g15, g16, g18⟩⟩ := id hG
  rw [E43]
  by_cases hg : g = 5
  · simp (disch := first | assumption | exact isL_i | exact isL_r | exact isL_n | exact i01a | exact i01b | omega) only [K43_0, K43_1, K43_4, K43_5, K43_6, K43_7, K43_8, K43_9, K43_10, K43_11, K43_12, K43_15, K43_16, g1, g2, g3, g11, g12, g15, g16, g18, wr_id, td_e, tm_e, pu_n, pu_s, up_s, up_k, up_a, ↓reduceIte, Int.reduceLT, Int.reduceLE, Int.reduceEq, Int.reduceNeg, Int.reduceAdd, Int.reduceSub, Int.reduceMul, Int.reduceMod, Int.reduceDiv, Int.cast_ofNat_Int, not_true_eq_false, not_false_eq_true, Int.reduceTDiv, Int.reduceTMod, if_pos, if_neg]
    unfold gs gaT at hK
    rw [if_pos hg, if_pos hg] at hK
    exact hK _ up_f (sc_up (by decide))
  · unfold gs gaT at hK
    rw [if_neg hg, if_neg hg] at hK
    simp (disch := first | assumption | exact isL_i | exact isL_r | exact isL_n | exact i01a | exact i01b | omega) only [K43_0, K43_1, K43_4, K43_5, K43_6, K43_7, K43_8, K43_9, K43_10, K43_11, K43_12, K43_15, K43_16, K43_17, K43_18, K43_21, K43_22, K43_23, K43_26, K43_27, K43_28, K43_29, K43_32, K43_33, K43_34, K43_35, K43_36, g1, g2, g3, g11, g12, g15, g16, g18, wr_id, td_e, tm_e, pu_n, pu_s, up_s, up_k, up_a, ↓reduceIte, Int.reduceLT, Int.reduceLE, Int.reduceEq, Int.reduceNeg, Int.reduceAdd, Int.reduceSub, Int.reduceMul, Int.reduceMod, Int.reduceDiv, Int.cast_ofNat_Int, not_true_eq_false, not_false_eq_true, Int.reduceTDiv, Int.reduceTMod, if_pos, if_neg, m_brought]
    have hst : Stat (mi 47) (up (up mi 47 0 (mi 47 0 + 1)) 47 1 (brt (mi 47 1) g) 47) := by
      intro j hj
      rw [up_k (by omega), up_k (by omega)]
    refine m_goes_lp hG (s := mi 47) (hz := mi 46 5) (t := mi 47 0 + 1) (c := brt (mi 47 1) g) hT hV h1 h4 hn' (by omega) (by omega) (mi 47 11).toNat _ 0 0 none isL_n (by omega) (by omega) ?_ ?_ (by omega) (by omega) (fun mi' hm hsc => ?_)
    · rw [up_f, up_f]
      funext j
      unfold gsp
      dsimp only
      by_cases j0 : j = 0
      · rw [if_neg (by omega), if_pos j0, if_pos j0]
      · by_cases j1 : j = 1
        · rw [if_pos j1, if_neg j0, if_pos j1]
        · rw [if_neg j1, if_neg j0, if_neg j0, if_neg j1, if_neg (by omega)]
    · simp (disch := decide) only [up_a]
    · rw [Int.zero_add]
      exact hK mi' hm (((Sc.rf.u (by decide)).u (by decide)).tr hsc)
end MO
