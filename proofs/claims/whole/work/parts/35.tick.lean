/-! ===== tick ===== -/
def gainM (s : Int → Int) (m : Int) : Int := if 9999999 < s 10 + m then 9999999 else s 10 + m
def oTick (s : Int → Int) (k : Int) : Int × (Int → Int) := if 0 ≤ k ∧ k ≤ 4 then (if s 8 = 0 ∨ s 0 = 9999 then (-3, s) else (gaT s (hazF s) k, sH (sH (gs s (hazF s) k) 10 (gainM s (gaT s (hazF s) k))) 8 (s 8 - 1))) else (-1, s)
section MO
variable {d : Nat} {G : Gh} {mi : Mi} {K : Option PV → Gh → Mi → Prop} {p t v w a b c k n g : Int}
theorem m_tick (hG : ShM G) (hS : WfG (mi 47)) (h8 : 0 ≤ mi 47 8) (h8' : mi 47 8 ≤ 99) (ht : 0 ≤ mi 47 0) (htt : mi 47 0 ≤ 9999) (hc : 0 ≤ mi 47 1) (hc' : mi 47 1 ≤ 23) (hg : 0 ≤ mi 47 10) (hg' : mi 47 10 ≤ 9999999) (hK : ∀ mi', mi' 47 = (oTick (mi 47) k).2 → ScM mi mi' → K (some (pI (oTick (mi 47) k).1)) G mi') : OkC (d + 4) 44 [pR (some 46), pI k] G mi K := by
  obtain ⟨⟨k46, k47, l47, k48, l48, k49, l49, k50, l50, k51, l51⟩, ⟨k52, l52, k53, l53, k54, l54⟩, ⟨g1, g2, g3, g11, g12, g15, g16, g18⟩⟩ := id hG
  obtain ⟨hT, hV, ⟨h1, h4⟩, ⟨hn, hn'⟩⟩ := id hS
  rw [E44]
  unfold oTick at hK
  by_cases hk : 0 ≤ k ∧ k ≤ 4
  · rw [if_pos hk] at hK
    by_cases c1 : mi 47 8 = 0
    · rw [if_pos (Or.inl c1)] at hK
      simp (disch := first | assumption | exact isL_i | exact isL_r | exact isL_n | exact i01a | exact i01b | omega) only [K44_0, K44_1, K44_2, K44_3, K44_6, K44_9, K44_10, K44_11, K44_12, K44_15, K44_17, K44_18, K44_21, K44_22, K44_25, K44_26, K44_27, K44_30, K44_33, K44_35, K44_36, K44_37, K44_40, K44_41, K44_42, K44_45, K44_46, K44_47, K44_50, K44_52, K44_53, K44_56, K44_58, K44_59, K44_60, K44_61, K44_63, K44_66, K44_68, K44_71, K44_72, K44_75, K44_77, K44_78, K44_79, K44_80, K44_81, K44_82, K44_85, K44_87, K44_88, K44_89, K44_90, K44_91, K44_92, K44_93, g1, g2, g3, g11, g12, g15, g16, g18, wr_id, td_e, tm_e, pu_n, pu_s, up_s, up_k, up_a, ↓reduceIte, Int.reduceLT, Int.reduceLE, Int.reduceEq, Int.reduceNeg, Int.reduceAdd, Int.reduceSub, Int.reduceMul, Int.reduceMod, Int.reduceDiv, Int.cast_ofNat_Int, not_true_eq_false, not_false_eq_true, Int.reduceTDiv, Int.reduceTMod, m_in, if_pos, if_neg]
      exact hK _ rfl ScM.rf
    · by_cases c2 : mi 47 0 = 9999
      · rw [if_pos (Or.inr c2)] at hK
        simp (disch := first | assumption | exact isL_i | exact isL_r | exact isL_n | exact i01a | exact i01b | omega) only [K44_0, K44_1, K44_2, K44_3, K44_6, K44_9, K44_10, K44_11, K44_12, K44_15, K44_17, K44_18, K44_21, K44_22, K44_25, K44_26, K44_27, K44_30, K44_33, K44_35, K44_36, K44_37, K44_40, K44_41, K44_42, K44_45, K44_46, K44_47, K44_50, K44_52, K44_53, K44_56, K44_58, K44_59, K44_60, K44_61, K44_63, K44_66, K44_68, K44_71, K44_72, K44_75, K44_77, K44_78, K44_79, K44_80, K44_81, K44_82, K44_85, K44_87, K44_88, K44_89, K44_90, K44_91, K44_92, K44_93, g1, g2, g3, g11, g12, g15, g16, g18, wr_id, td_e, tm_e, pu_n, pu_s, up_s, up_k, up_a, ↓reduceIte, Int.reduceLT, Int.reduceLE, Int.reduceEq, Int.reduceNeg, Int.reduceAdd, Int.reduceSub, Int.reduceMul, Int.reduceMod, Int.reduceDiv, Int.cast_ofNat_Int, not_true_eq_false, not_false_eq_true, Int.reduceTDiv, Int.reduceTMod, m_in, if_pos, if_neg]
        exact hK _ rfl ScM.rf
      · rw [if_neg (fun h => h.elim c1 c2)] at hK
        have hb := gaT_bd hS (hz := hazF (mi 47)) (k := k)
        have st := gs_st (s := mi 47) (hz := hazF (mi 47)) (k := k) hn'
        simp (disch := first | assumption | exact isL_i | exact isL_r | exact isL_n | exact i01a | exact i01b | omega) only [K44_0, K44_1, K44_2, K44_3, K44_6, K44_9, K44_10, K44_11, K44_12, K44_15, K44_17, K44_18, K44_21, K44_22, K44_25, K44_26, K44_27, K44_30, K44_33, K44_35, K44_36, K44_37, K44_40, K44_41, K44_42, K44_45, K44_46, K44_47, K44_50, K44_52, K44_53, K44_56, K44_58, K44_59, K44_60, K44_61, K44_63, K44_66, K44_68, K44_71, K44_72, K44_75, K44_77, K44_78, K44_79, K44_80, K44_81, K44_82, K44_85, K44_87, K44_88, K44_89, K44_90, K44_91, K44_92, K44_93, g1, g2, g3, g11, g12, g15, g16, g18, wr_id, td_e, tm_e, pu_n, pu_s, up_s, up_k, up_a, ↓reduceIte, Int.reduceLT, Int.reduceLE, Int.reduceEq, Int.reduceNeg, Int.reduceAdd, Int.reduceSub, Int.reduceMul, Int.reduceMod, Int.reduceDiv, Int.cast_ofNat_Int, not_true_eq_false, not_false_eq_true, Int.reduceTDiv, Int.reduceTMod, m_in, m_asItIs', if_pos, if_neg]
        refine m_goes hG (by rw [up_a (by decide)]; exact hT) (by rw [up_a (by decide)]; exact hV) h1 h4 hn hn' ht (by rw [up_a (by decide)]; omega) hc hc' fun m1 hm hsc => ?_
        rw [up_a (by decide), up_s] at hm
        rw [up_a (by decide), up_s]
        have e10 : m1 47 10 = mi 47 10 := by rw [hm]; exact st 10 (by decide)
        have e8 : m1 47 8 = mi 47 8 := by rw [hm]; exact st 8 (by decide)
        have hscm : ScM mi m1 := (ScM.u46 (mi := mi) (v := hazF (mi 47)) (k := 5) (by decide) (by decide)).tr (ScM.sc (hsc.wk (by decide)))
        unfold gainM at hK
        by_cases c3 : 9999999 < mi 47 10 + gaT (mi 47) (hazF (mi 47)) k
        · rw [if_pos c3] at hK
          simp (disch := first | assumption | exact isL_i | exact isL_r | exact isL_n | exact i01a | exact i01b | omega) only [K44_0, K44_1, K44_2, K44_3, K44_6, K44_9, K44_10, K44_11, K44_12, K44_15, K44_17, K44_18, K44_21, K44_22, K44_25, K44_26, K44_27, K44_30, K44_33, K44_35, K44_36, K44_37, K44_40, K44_41, K44_42, K44_45, K44_46, K44_47, K44_50, K44_52, K44_53, K44_56, K44_58, K44_59, K44_60, K44_61, K44_63, K44_66, K44_68, K44_71, K44_72, K44_75, K44_77, K44_78, K44_79, K44_80, K44_81, K44_82, K44_85, K44_87, K44_88, K44_89, K44_90, K44_91, K44_92, K44_93, g1, g2, g3, g11, g12, g15, g16, g18, wr_id, td_e, tm_e, pu_n, pu_s, up_s, up_k, up_a, ↓reduceIte, Int.reduceLT, Int.reduceLE, Int.reduceEq, Int.reduceNeg, Int.reduceAdd, Int.reduceSub, Int.reduceMul, Int.reduceMod, Int.reduceDiv, Int.cast_ofNat_Int, not_true_eq_false, not_false_eq_true, Int.reduceTDiv, Int.reduceTMod, if_pos, if_neg, e10, e8]
          exact hK _ (by rw [up_sH, up_sH, hm]) ((hscm.tr ScM.u47).tr ScM.u47)
        · rw [if_neg c3] at hK
          simp (disch := first | assumption | exact isL_i | exact isL_r | exact isL_n | exact i01a | exact i01b | omega) only [K44_0, K44_1, K44_2, K44_3, K44_6, K44_9, K44_10, K44_11, K44_12, K44_15, K44_17, K44_18, K44_21, K44_22, K44_25, K44_26, K44_27, K44_30, K44_33, K44_35, K44_36, K44_37, K44_40, K44_41, K44_42, K44_45, K44_46, K44_47, K44_50, K44_52, K44_53, K44_56, K44_58, K44_59, K44_60, K44_61, K44_63, K44_66, K44_68, K44_71, K44_72, K44_75, K44_77, K44_78, K44_79, K44_80, K44_81, K44_82, K44_85, K44_87, K44_88, K44_89, K44_90, K44_91, K44_92, K44_93, g1, g2, g3, g11, g12, g15, g16, g18, wr_id, td_e, tm_e, pu_n, pu_s, up_s, up_k, up_a, ↓reduceIte, Int.reduceLT, Int.reduceLE, Int.reduceEq, Int.reduceNeg, Int.reduceAdd, Int.reduceSub, Int.reduceMul, Int.reduceMod, Int.reduceDiv, Int.cast_ofNat_Int, not_true_eq_false, not_false_eq_true, Int.reduceTDiv, Int.reduceTMod, if_pos, if_neg, e10, e8]
          exact hK _ (by rw [up_sH, up_sH, hm]) ((hscm.tr ScM.u47).tr ScM.u47)
  · rw [if_neg hk] at hK
    simp (disch := first | assumption | exact isL_i | exact isL_r | exact isL_n | exact i01a | exact i01b | omega) only [K44_0, K44_1, K44_2, K44_3, K44_6, K44_9, K44_10, K44_11, K44_12, K44_15, K44_17, K44_18, K44_21, K44_22, K44_25, K44_26, K44_27, K44_30, K44_33, K44_35, K44_36, K44_37, K44_40, K44_41, K44_42, K44_45, K44_46, K44_47, K44_50, K44_52, K44_53, K44_56, K44_58, K44_59, K44_60, K44_61, K44_63, K44_66, K44_68, K44_71, K44_72, K44_75, K44_77, K44_78, K44_79, K44_80, K44_81, K44_82, K44_85, K44_87, K44_88, K44_89, K44_90, K44_91, K44_92, K44_93, g1, g2, g3, g11, g12, g15, g16, g18, wr_id, td_e, tm_e, pu_n, pu_s, up_s, up_k, up_a, ↓reduceIte, Int.reduceLT, Int.reduceLE, Int.reduceEq, Int.reduceNeg, Int.reduceAdd, Int.reduceSub, Int.reduceMul, Int.reduceMod, Int.reduceDiv, Int.cast_ofNat_Int, not_true_eq_false, not_false_eq_true, Int.reduceTDiv, Int.reduceTMod, m_in, if_pos, if_neg]
    exact hK _ rfl ScM.rf
end MO
