/-! ===== thing, then, trace, image, undo, count ===== -/
def oThing (s : Int → Int) (k v c : Int) : Int × (Int → Int) := if (0 ≤ k ∧ k ≤ 6) ∧ isC c then (if 0 ≤ v ∧ v ≤ 9 then (if s 11 = 6 then (-4, s) else
  (s 11, sH (sH (sH (sH (sH (sH (sH (sH (sH s (18 + s 11) k) (24 + s 11) v) (30 + s 11) c) (2 + s 11) 0) (36 + 4 * s 11) 0) (36 + 4 * s 11 + 1) 0) (36 + 4 * s 11 + 2) 0) (36 + 4 * s 11 + 3) 0) 11 (s 11 + 1))) else (-2, s)) else (-1, s)
def oThen (s : Int → Int) (p n k : Int) : Int := if isT s p ∧ (0 ≤ n ∧ n ≤ 60) then (if k = 0 then atF s p (s 0 + n) else if k = 1 then (if dimP s (hazF s) p (s 0 + n) then 1 else 0) else if k = 2 then baseF s p (s 0 + n) else if k = 3 then worthF s p (s 0 + n) else -999999) else -999999
/-- numbers out of the row's range -/
def WfZ (s : Int → Int) : Prop := ∀ j : Int, j < 0 ∨ 919 ≤ j → s j = 0
section MO
variable {d : Nat} {G : Gh} {mi : Mi} {K : Option PV → Gh → Mi → Prop} {p t v w a b c k n g q : Int}
theorem m_thing (hG : ShM G) (hn : 0 ≤ mi 47 11) (hn' : mi 47 11 ≤ 6) (hK : ∀ mi', mi' 47 = (oThing (mi 47) k v c).2 → ScM mi mi' → K (some (pI (oThing (mi 47) k v c).1)) G mi') : OkC (d + 3) 30 [pR (some 46), pI k, pI v, pI c] G mi K := by
  obtain ⟨⟨k46, k47, l47, k48, l48, k49, l49, k50, l50, k51, l51⟩, ⟨k52, l52, k53, l53, k54, l54⟩, ⟨g1, g2, g3, g11, g12, g15, g16, g18⟩⟩ := id hG
  rw [E30]
  unfold oThing at hK
  by_cases h1 : 0 ≤ k ∧ k ≤ 6
  · by_cases hc : isC c
    · rw [if_pos ⟨h1, hc⟩] at hK
      by_cases hv : 0 ≤ v ∧ v ≤ 9
      · rw [if_pos hv] at hK
        by_cases c3 : mi 47 11 = 6
        · rw [if_pos c3] at hK
          simp (disch := first | assumption | exact isL_i | exact isL_r | exact isL_n | exact i01a | exact i01b | omega) only [K30_0, K30_1, K30_2, K30_4, K30_7, K30_10, K30_11, K30_14, K30_17, K30_18, K30_19, K30_20, K30_21, K30_23, K30_26, K30_29, K30_31, K30_32, K30_33, K30_36, K30_38, K30_39, K30_41, K30_44, K30_46, K30_47, K30_48, K30_51, K30_53, K30_54, K30_56, K30_57, K30_60, K30_62, K30_64, K30_65, K30_66, K30_67, K30_68, K30_71, K30_73, K30_75, K30_76, K30_77, K30_78, K30_79, K30_82, K30_84, K30_86, K30_87, K30_88, K30_89, K30_90, K30_93, K30_94, K30_96, K30_97, K30_98, K30_99, K30_100, K30_102, K30_104, K30_105, K30_108, K30_109, K30_112, K30_114, K30_115, K30_117, K30_118, K30_119, K30_121, K30_122, K30_123, K30_124, K30_127, K30_130, K30_131, K30_134, K30_136, K30_137, K30_138, K30_139, K30_140, K30_141, K30_143, g1, g2, g3, g11, g12, g15, g16, g18, wr_id, td_e, tm_e, pu_n, pu_s, up_s, up_k, up_a, ↓reduceIte, Int.reduceLT, Int.reduceLE, Int.reduceEq, Int.reduceNeg, Int.reduceAdd, Int.reduceSub, Int.reduceMul, Int.reduceMod, Int.reduceDiv, Int.cast_ofNat_Int, not_true_eq_false, not_false_eq_true, Int.reduceTDiv, Int.reduceTMod, m_in, m_isCell, if_pos, if_neg]
          exact hK _ rfl ScM.rf
        · rw [if_neg c3] at hK
          simp (disch := first | assumption | exact isL_i | exact isL_r | exact isL_n | exact i01a | exact i01b | omega) only [K30_0, K30_1, K30_2, K30_4, K30_7, K30_10, K30_11, K30_14, K30_17, K30_18, K30_19, K30_20, K30_21, K30_23, K30_26, K30_29, K30_31, K30_32, K30_33, K30_36, K30_38, K30_39, K30_41, K30_44, K30_46, K30_47, K30_48, K30_51, K30_53, K30_54, K30_56, K30_57, K30_60, K30_62, K30_64, K30_65, K30_66, K30_67, K30_68, K30_71, K30_73, K30_75, K30_76, K30_77, K30_78, K30_79, K30_82, K30_84, K30_86, K30_87, K30_88, K30_89, K30_90, K30_93, K30_94, K30_96, K30_97, K30_98, K30_99, K30_100, K30_102, K30_104, K30_105, K30_108, K30_109, K30_112, K30_114, K30_115, K30_117, K30_118, K30_119, K30_121, K30_122, K30_123, K30_124, K30_127, K30_130, K30_131, K30_134, K30_136, K30_137, K30_138, K30_139, K30_140, K30_141, K30_143, g1, g2, g3, g11, g12, g15, g16, g18, wr_id, td_e, tm_e, pu_n, pu_s, up_s, up_k, up_a, ↓reduceIte, Int.reduceLT, Int.reduceLE, Int.reduceEq, Int.reduceNeg, Int.reduceAdd, Int.reduceSub, Int.reduceMul, Int.reduceMod, Int.reduceDiv, Int.cast_ofNat_Int, not_true_eq_false, not_false_eq_true, Int.reduceTDiv, Int.reduceTMod, m_in, m_isCell, if_pos, if_neg, Int.add_zero]
          exact hK _ (by simp only [up_sH]) (((((((((ScM.u47.tr ScM.u47).tr ScM.u47).tr ScM.u47).tr ScM.u47).tr ScM.u47).tr ScM.u47).tr ScM.u47).tr ScM.u47))
      · rw [if_neg hv] at hK
        simp (disch := first | assumption | exact isL_i | exact isL_r | exact isL_n | exact i01a | exact i01b | omega) only [K30_0, K30_1, K30_2, K30_4, K30_7, K30_10, K30_11, K30_14, K30_17, K30_18, K30_19, K30_20, K30_21, K30_23, K30_26, K30_29, K30_31, K30_32, K30_33, K30_36, K30_38, K30_39, K30_41, K30_44, K30_46, K30_47, K30_48, K30_51, K30_53, K30_54, K30_56, K30_57, K30_60, K30_62, K30_64, K30_65, K30_66, K30_67, K30_68, K30_71, K30_73, K30_75, K30_76, K30_77, K30_78, K30_79, K30_82, K30_84, K30_86, K30_87, K30_88, K30_89, K30_90, K30_93, K30_94, K30_96, K30_97, K30_98, K30_99, K30_100, K30_102, K30_104, K30_105, K30_108, K30_109, K30_112, K30_114, K30_115, K30_117, K30_118, K30_119, K30_121, K30_122, K30_123, K30_124, K30_127, K30_130, K30_131, K30_134, K30_136, K30_137, K30_138, K30_139, K30_140, K30_141, K30_143, g1, g2, g3, g11, g12, g15, g16, g18, wr_id, td_e, tm_e, pu_n, pu_s, up_s, up_k, up_a, ↓reduceIte, Int.reduceLT, Int.reduceLE, Int.reduceEq, Int.reduceNeg, Int.reduceAdd, Int.reduceSub, Int.reduceMul, Int.reduceMod, Int.reduceDiv, Int.cast_ofNat_Int, not_true_eq_false, not_false_eq_true, Int.reduceTDiv, Int.reduceTMod, m_in, m_isCell, if_pos, if_neg]
        exact hK _ rfl ScM.rf
    · rw [if_neg (fun h => hc h.2)] at hK
      simp (disch := first | assumption | exact isL_i | exact isL_r | exact isL_n | exact i01a | exact i01b | omega) only [K30_0, K30_1, K30_2, K30_4, K30_7, K30_10, K30_11, K30_14, K30_17, K30_18, K30_19, K30_20, K30_21, K30_23, K30_26, K30_29, K30_31, K30_32, K30_33, K30_36, K30_38, K30_39, K30_41, K30_44, K30_46, K30_47, K30_48, K30_51, K30_53, K30_54, K30_56, K30_57, K30_60, K30_62, K30_64, K30_65, K30_66, K30_67, K30_68, K30_71, K30_73, K30_75, K30_76, K30_77, K30_78, K30_79, K30_82, K30_84, K30_86, K30_87, K30_88, K30_89, K30_90, K30_93, K30_94, K30_96, K30_97, K30_98, K30_99, K30_100, K30_102, K30_104, K30_105, K30_108, K30_109, K30_112, K30_114, K30_115, K30_117, K30_118, K30_119, K30_121, K30_122, K30_123, K30_124, K30_127, K30_130, K30_131, K30_134, K30_136, K30_137, K30_138, K30_139, K30_140, K30_141, K30_143, g1, g2, g3, g11, g12, g15, g16, g18, wr_id, td_e, tm_e, pu_n, pu_s, up_s, up_k, up_a, ↓reduceIte, Int.reduceLT, Int.reduceLE, Int.reduceEq, Int.reduceNeg, Int.reduceAdd, Int.reduceSub, Int.reduceMul, Int.reduceMod, Int.reduceDiv, Int.cast_ofNat_Int, not_true_eq_false, not_false_eq_true, Int.reduceTDiv, Int.reduceTMod, m_in, m_isCell, if_pos, if_neg]
      exact hK _ rfl ScM.rf
  · rw [if_neg (fun h => h1 h.1)] at hK
    simp (disch := first | assumption | exact isL_i | exact isL_r | exact isL_n | exact i01a | exact i01b | omega) only [K30_0, K30_1, K30_2, K30_4, K30_7, K30_10, K30_11, K30_14, K30_17, K30_18, K30_19, K30_20, K30_21, K30_23, K30_26, K30_29, K30_31, K30_32, K30_33, K30_36, K30_38, K30_39, K30_41, K30_44, K30_46, K30_47, K30_48, K30_51, K30_53, K30_54, K30_56, K30_57, K30_60, K30_62, K30_64, K30_65, K30_66, K30_67, K30_68, K30_71, K30_73, K30_75, K30_76, K30_77, K30_78, K30_79, K30_82, K30_84, K30_86, K30_87, K30_88, K30_89, K30_90, K30_93, K30_94, K30_96, K30_97, K30_98, K30_99, K30_100, K30_102, K30_104, K30_105, K30_108, K30_109, K30_112, K30_114, K30_115, K30_117, K30_118, K30_119, K30_121, K30_122, K30_123, K30_124, K30_127, K30_130, K30_131, K30_134, K30_136, K30_137, K30_138, K30_139, K30_140, K30_141, K30_143, g1, g2, g3, g11, g12, g15, g16, g18, wr_id, td_e, tm_e, pu_n, pu_s, up_s, up_k, up_a, ↓reduceIte, Int.reduceLT, Int.reduceLE, Int.reduceEq, Int.reduceNeg, Int.reduceAdd, Int.reduceSub, Int.reduceMul, Int.reduceMod, Int.reduceDiv, Int.cast_ofNat_Int, not_true_eq_false, not_false_eq_true, Int.reduceTDiv, Int.reduceTMod, m_in, if_pos, if_neg]
    exact hK _ rfl ScM.rf
theorem m_then (hG : ShM G) (hS : WfG (mi 47)) (ht : 0 ≤ mi 47 0) (htt : mi 47 0 ≤ 9999) (hK : ∀ mi', mi' 47 = mi 47 → ScM mi mi' → K (some (pI (oThen (mi 47) p n k))) G mi') : OkC (d + 5) 32 [pR (some 46), pI p, pI n, pI k] G mi K := by
  obtain ⟨⟨k46, k47, l47, k48, l48, k49, l49, k50, l50, k51, l51⟩, ⟨k52, l52, k53, l53, k54, l54⟩, ⟨g1, g2, g3, g11, g12, g15, g16, g18⟩⟩ := id hG
  obtain ⟨hT, hV, ⟨h1, h4⟩, ⟨hn, hn'⟩⟩ := id hS
  rw [E32]
  unfold oThen at hK
  by_cases hp : isT (mi 47) p
  · by_cases hn6 : 0 ≤ n ∧ n ≤ 60
    · rw [if_pos ⟨hp, hn6⟩] at hK
      have e47 : up mi 46 5 (hazF (mi 47)) 47 = mi 47 := up_a (by decide)
      have hsc : ScM mi (up mi 46 5 (hazF (mi 47))) := ScM.u46 (by decide) (by decide)
      have hT' : WfT (up mi 46 5 (hazF (mi 47)) 47) := by rw [e47]; exact hT
      simp (disch := first | assumption | exact isL_i | exact isL_r | exact isL_n | exact i01a | exact i01b | omega) only [K32_0, K32_1, K32_2, K32_5, K32_8, K32_9, K32_10, K32_12, K32_15, K32_18, K32_20, K32_21, K32_22, K32_25, K32_26, K32_29, K32_30, K32_31, K32_32, K32_33, g1, g2, g3, g11, g12, g15, g16, g18, wr_id, td_e, tm_e, pu_n, pu_s, up_s, up_k, up_a, ↓reduceIte, Int.reduceLT, Int.reduceLE, Int.reduceEq, Int.reduceNeg, Int.reduceAdd, Int.reduceSub, Int.reduceMul, Int.reduceMod, Int.reduceDiv, Int.cast_ofNat_Int, not_true_eq_false, not_false_eq_true, Int.reduceTDiv, Int.reduceTMod, m_isThing, m_in, m_asItIs', if_pos, if_neg]
      by_cases c0 : k = 0
      · rw [if_pos c0] at hK
        simp (disch := first | assumption | exact isL_i | exact isL_r | exact isL_n | exact i01a | exact i01b | omega) only [K32_35, K32_36, K32_68, K32_69, K32_70, K32_72, K32_75, K32_76, K32_77, K32_78, K32_80, K32_83, K32_86, K32_87, K32_90, K32_91, K32_92, K32_93, K32_94, K32_96, K32_99, K32_100, K32_101, K32_102, K32_104, K32_107, K32_108, K32_110, g1, g2, g3, g11, g12, g15, g16, g18, wr_id, td_e, tm_e, pu_n, pu_s, up_s, up_k, up_a, ↓reduceIte, Int.reduceLT, Int.reduceLE, Int.reduceEq, Int.reduceNeg, Int.reduceAdd, Int.reduceSub, Int.reduceMul, Int.reduceMod, Int.reduceDiv, Int.cast_ofNat_Int, not_true_eq_false, not_false_eq_true, Int.reduceTDiv, Int.reduceTMod, m_isAt, if_pos, if_neg]
        exact hK _ e47 hsc
      · rw [if_neg c0] at hK
        by_cases c1 : k = 1
        · rw [if_pos c1] at hK
          rw [K32_35, K32_36]
          simp (disch := first | assumption | exact isL_i | exact isL_r | exact isL_n | exact i01a | exact i01b | omega) only [K32_68, K32_69, K32_70, K32_72, K32_75, K32_76, K32_77, K32_78, K32_80, K32_83, K32_86, K32_87, K32_90, K32_91, K32_92, K32_93, K32_94, K32_96, K32_99, K32_100, K32_101, K32_102, K32_104, K32_107, K32_108, K32_110, g1, g2, g3, g11, g12, g15, g16, g18, wr_id, td_e, tm_e, pu_n, pu_s, up_s, up_k, up_a, ↓reduceIte, Int.reduceLT, Int.reduceLE, Int.reduceEq, Int.reduceNeg, Int.reduceAdd, Int.reduceSub, Int.reduceMul, Int.reduceMod, Int.reduceDiv, Int.cast_ofNat_Int, not_true_eq_false, not_false_eq_true, Int.reduceTDiv, Int.reduceTMod, m_isDim, if_pos, if_neg]
          by_cases hd : dimP (mi 47) (hazF (mi 47)) p (mi 47 0 + n)
          · rw [if_pos hd] at hK
            rw [if_pos hd, if_neg (by decide)]
            exact hK _ e47 hsc
          · rw [if_neg hd] at hK
            rw [if_neg hd, if_pos rfl]
            exact hK _ e47 hsc
        · rw [if_neg c1] at hK
          by_cases c2 : k = 2
          · rw [if_pos c2] at hK
            simp (disch := first | assumption | exact isL_i | exact isL_r | exact isL_n | exact i01a | exact i01b | omega) only [K32_35, K32_36, K32_68, K32_69, K32_70, K32_72, K32_75, K32_76, K32_77, K32_78, K32_80, K32_83, K32_86, K32_87, K32_90, K32_91, K32_92, K32_93, K32_94, g1, g2, g3, g11, g12, g15, g16, g18, wr_id, td_e, tm_e, pu_n, pu_s, up_s, up_k, up_a, ↓reduceIte, Int.reduceLT, Int.reduceLE, Int.reduceEq, Int.reduceNeg, Int.reduceAdd, Int.reduceSub, Int.reduceMul, Int.reduceMod, Int.reduceDiv, Int.cast_ofNat_Int, not_true_eq_false, not_false_eq_true, Int.reduceTDiv, Int.reduceTMod, if_pos, if_neg]
            rw [K32_96 k46]
            refine m_baseOf hG hT' (by rw [e47]; exact hV) (by rw [e47]; exact h1) (by rw [e47]; exact h4) hp.1 (by omega) (by omega) (by omega) fun m1 hs1 => ?_
            rw [e47]
            simp (disch := first | assumption | exact isL_i | exact isL_r | exact isL_n | exact i01a | exact i01b | omega) only [K32_99, K32_100, K32_101, K32_102, K32_104, K32_107, K32_108, K32_110, wr_id, td_e, tm_e, pu_n, pu_s, up_s, up_k, up_a, ↓reduceIte, Int.reduceLT, Int.reduceLE, Int.reduceEq, Int.reduceNeg, Int.reduceAdd, Int.reduceSub, Int.reduceMul, Int.reduceMod, Int.reduceDiv, Int.cast_ofNat_Int, not_true_eq_false, not_false_eq_true, Int.reduceTDiv, Int.reduceTMod]
            exact hK m1 (by rw [hs1 47 (by decide), e47]) (hsc.tr (ScM.sc (hs1.wk (by decide))))
          · rw [if_neg c2] at hK
            by_cases c3 : k = 3
            · rw [if_pos c3] at hK
              simp (disch := first | assumption | exact isL_i | exact isL_r | exact isL_n | exact i01a | exact i01b | omega) only [K32_35, K32_36, K32_68, K32_69, K32_70, K32_72, K32_75, K32_76, K32_77, K32_78, K32_80, K32_83, K32_86, K32_87, K32_90, K32_91, K32_92, K32_93, K32_94, K32_96, K32_99, K32_100, K32_101, K32_102, g1, g2, g3, g11, g12, g15, g16, g18, wr_id, td_e, tm_e, pu_n, pu_s, up_s, up_k, up_a, ↓reduceIte, Int.reduceLT, Int.reduceLE, Int.reduceEq, Int.reduceNeg, Int.reduceAdd, Int.reduceSub, Int.reduceMul, Int.reduceMod, Int.reduceDiv, Int.cast_ofNat_Int, not_true_eq_false, not_false_eq_true, Int.reduceTDiv, Int.reduceTMod, if_pos, if_neg]
              rw [K32_104 k46]
              refine m_worthOf hG hT' (by rw [e47]; exact hV) (by rw [e47]; exact h1) (by rw [e47]; exact h4) hp.1 (by omega) (by omega) (by omega) fun m1 hs1 => ?_
              rw [e47]
              simp (disch := first | assumption | exact isL_i | exact isL_r | exact isL_n | exact i01a | exact i01b | omega) only [K32_107, K32_108, K32_110, wr_id, td_e, tm_e, pu_n, pu_s, up_s, up_k, up_a, ↓reduceIte, Int.reduceLT, Int.reduceLE, Int.reduceEq, Int.reduceNeg, Int.reduceAdd, Int.reduceSub, Int.reduceMul, Int.reduceMod, Int.reduceDiv, Int.cast_ofNat_Int, not_true_eq_false, not_false_eq_true, Int.reduceTDiv, Int.reduceTMod]
              exact hK m1 (by rw [hs1 47 (by decide), e47]) (hsc.tr (ScM.sc (hs1.wk (by decide))))
            · rw [if_neg c3] at hK
              simp (disch := first | assumption | exact isL_i | exact isL_r | exact isL_n | exact i01a | exact i01b | omega) only [K32_35, K32_36, K32_68, K32_69, K32_70, K32_72, K32_75, K32_76, K32_77, K32_78, K32_80, K32_83, K32_86, K32_87, K32_90, K32_91, K32_92, K32_93, K32_94, K32_96, K32_99, K32_100, K32_101, K32_102, K32_104, K32_107, K32_108, K32_110, g1, g2, g3, g11, g12, g15, g16, g18, wr_id, td_e, tm_e, pu_n, pu_s, up_s, up_k, up_a, ↓reduceIte, Int.reduceLT, Int.reduceLE, Int.reduceEq, Int.reduceNeg, Int.reduceAdd, Int.reduceSub, Int.reduceMul, Int.reduceMod, Int.reduceDiv, Int.cast_ofNat_Int, not_true_eq_false, not_false_eq_true, Int.reduceTDiv, Int.reduceTMod, if_pos, if_neg]
              exact hK _ e47 hsc
    · rw [if_neg (fun h => hn6 h.2)] at hK
      simp (disch := first | assumption | exact isL_i | exact isL_r | exact isL_n | exact i01a | exact i01b | omega) only [K32_0, K32_1, K32_2, K32_5, K32_8, K32_9, K32_10, K32_12, K32_15, K32_18, K32_20, g1, g2, g3, g11, g12, g15, g16, g18, wr_id, td_e, tm_e, pu_n, pu_s, up_s, up_k, up_a, ↓reduceIte, Int.reduceLT, Int.reduceLE, Int.reduceEq, Int.reduceNeg, Int.reduceAdd, Int.reduceSub, Int.reduceMul, Int.reduceMod, Int.reduceDiv, Int.cast_ofNat_Int, not_true_eq_false, not_false_eq_true, Int.reduceTDiv, Int.reduceTMod, m_isThing, m_in, if_pos, if_neg]
      exact hK _ rfl ScM.rf
  · rw [if_neg (fun h => hp h.1)] at hK
    simp (disch := first | assumption | exact isL_i | exact isL_r | exact isL_n | exact i01a | exact i01b | omega) only [K32_0, K32_1, K32_2, K32_5, K32_8, K32_9, K32_10, K32_12, K32_15, K32_18, K32_20, g1, g2, g3, g11, g12, g15, g16, g18, wr_id, td_e, tm_e, pu_n, pu_s, up_s, up_k, up_a, ↓reduceIte, Int.reduceLT, Int.reduceLE, Int.reduceEq, Int.reduceNeg, Int.reduceAdd, Int.reduceSub, Int.reduceMul, Int.reduceMod, Int.reduceDiv, Int.cast_ofNat_Int, not_true_eq_false, not_false_eq_true, Int.reduceTDiv, Int.reduceTMod, m_isThing, m_in, if_pos, if_neg]
    exact hK _ rfl ScM.rf
theorem m_trace (hG : ShM G) (h0 : 0 ≤ mi 46 19) (h1 : mi 46 19 ≤ 20) : OkC (d + 3) 74 [pR (some 46), pI k] G mi K = K (some (pI (if 0 ≤ k ∧ k < mi 46 19 then mi 54 k else -1))) G mi := by
  obtain ⟨⟨k46, k47, l47, k48, l48, k49, l49, k50, l50, k51, l51⟩, ⟨k52, l52, k53, l53, k54, l54⟩, ⟨g1, g2, g3, g11, g12, g15, g16, g18⟩⟩ := id hG
  rw [E74]
  by_cases h20 : mi 46 19 = 20
  · by_cases hk : 0 ≤ k ∧ k < 20
    · simp (disch := first | assumption | exact isL_i | exact isL_r | exact isL_n | exact i01a | exact i01b | omega) only [K74_0, K74_1, K74_2, K74_3, K74_6, K74_8, K74_11, K74_12, K74_15, K74_18, K74_20, K74_21, K74_22, K74_25, K74_28, K74_29, K74_32, K74_33, K74_34, K74_37, K74_38, g1, g2, g3, g11, g12, g15, g16, g18, wr_id, td_e, tm_e, pu_n, pu_s, up_s, up_k, up_a, ↓reduceIte, Int.reduceLT, Int.reduceLE, Int.reduceEq, Int.reduceNeg, Int.reduceAdd, Int.reduceSub, Int.reduceMul, Int.reduceMod, Int.reduceDiv, Int.cast_ofNat_Int, not_true_eq_false, not_false_eq_true, Int.reduceTDiv, Int.reduceTMod, m_in, if_pos, if_neg, h20]
    · simp (disch := first | assumption | exact isL_i | exact isL_r | exact isL_n | exact i01a | exact i01b | omega) only [K74_0, K74_1, K74_2, K74_3, K74_6, K74_8, K74_11, K74_12, K74_15, K74_18, K74_20, K74_21, K74_22, K74_25, K74_28, K74_29, K74_32, K74_33, K74_34, K74_37, K74_38, g1, g2, g3, g11, g12, g15, g16, g18, wr_id, td_e, tm_e, pu_n, pu_s, up_s, up_k, up_a, ↓reduceIte, Int.reduceLT, Int.reduceLE, Int.reduceEq, Int.reduceNeg, Int.reduceAdd, Int.reduceSub, Int.reduceMul, Int.reduceMod, Int.reduceDiv, Int.cast_ofNat_Int, not_true_eq_false, not_false_eq_true, Int.reduceTDiv, Int.reduceTMod, m_in, if_pos, if_neg, h20]
  · by_cases hk : 0 ≤ k ∧ k < mi 46 19
    · simp (disch := first | assumption | exact isL_i | exact isL_r | exact isL_n | exact i01a | exact i01b | omega) only [K74_0, K74_1, K74_2, K74_3, K74_6, K74_8, K74_11, K74_12, K74_15, K74_18, K74_20, K74_21, K74_22, K74_25, K74_28, K74_29, K74_32, K74_33, K74_34, K74_37, K74_38, g1, g2, g3, g11, g12, g15, g16, g18, wr_id, td_e, tm_e, pu_n, pu_s, up_s, up_k, up_a, ↓reduceIte, Int.reduceLT, Int.reduceLE, Int.reduceEq, Int.reduceNeg, Int.reduceAdd, Int.reduceSub, Int.reduceMul, Int.reduceMod, Int.reduceDiv, Int.cast_ofNat_Int, not_true_eq_false, not_false_eq_true, Int.reduceTDiv, Int.reduceTMod, m_in, if_pos, if_neg]
    · simp (disch := first | assumption | exact isL_i | exact isL_r | exact isL_n | exact i01a | exact i01b | omega) only [K74_0, K74_1, K74_2, K74_3, K74_6, K74_8, K74_11, K74_12, K74_15, K74_18, K74_20, K74_21, K74_22, K74_25, K74_28, K74_29, K74_32, K74_33, K74_34, K74_37, K74_38, g1, g2, g3, g11, g12, g15, g16, g18, wr_id, td_e, tm_e, pu_n, pu_s, up_s, up_k, up_a, ↓reduceIte, Int.reduceLT, Int.reduceLE, Int.reduceEq, Int.reduceNeg, Int.reduceAdd, Int.reduceSub, Int.reduceMul, Int.reduceMod, Int.reduceDiv, Int.cast_ofNat_Int, not_true_eq_false, not_false_eq_true, Int.reduceTDiv, Int.reduceTMod, m_in, if_pos, if_neg]
theorem m_count (hG : ShM G) : OkC (d + 3) 78 [pR (some 46), pI k] G mi K = K (some (pI (if k = 6 then mi 46 19 else if 0 ≤ k ∧ k ≤ 5 then mi 47 (11 + k) else -1))) G mi := by
  obtain ⟨⟨k46, k47, l47, k48, l48, k49, l49, k50, l50, k51, l51⟩, ⟨k52, l52, k53, l53, k54, l54⟩, ⟨g1, g2, g3, g11, g12, g15, g16, g18⟩⟩ := id hG
  rw [E78]
  by_cases c6 : k = 6
  · simp (disch := first | assumption | exact isL_i | exact isL_r | exact isL_n | exact i01a | exact i01b | omega) only [K78_0, K78_1, K78_3, K78_6, K78_7, K78_10, K78_13, K78_14, K78_15, K78_16, K78_19, K78_22, K78_23, K78_26, K78_28, K78_29, K78_30, K78_31, K78_34, K78_35, g1, g2, g3, g11, g12, g15, g16, g18, wr_id, td_e, tm_e, pu_n, pu_s, up_s, up_k, up_a, ↓reduceIte, Int.reduceLT, Int.reduceLE, Int.reduceEq, Int.reduceNeg, Int.reduceAdd, Int.reduceSub, Int.reduceMul, Int.reduceMod, Int.reduceDiv, Int.cast_ofNat_Int, not_true_eq_false, not_false_eq_true, Int.reduceTDiv, Int.reduceTMod, m_in, if_pos, if_neg]
  · by_cases hk : 0 ≤ k ∧ k ≤ 5
    · simp (disch := first | assumption | exact isL_i | exact isL_r | exact isL_n | exact i01a | exact i01b | omega) only [K78_0, K78_1, K78_3, K78_6, K78_7, K78_10, K78_13, K78_14, K78_15, K78_16, K78_19, K78_22, K78_23, K78_26, K78_28, K78_29, K78_30, K78_31, K78_34, K78_35, g1, g2, g3, g11, g12, g15, g16, g18, wr_id, td_e, tm_e, pu_n, pu_s, up_s, up_k, up_a, ↓reduceIte, Int.reduceLT, Int.reduceLE, Int.reduceEq, Int.reduceNeg, Int.reduceAdd, Int.reduceSub, Int.reduceMul, Int.reduceMod, Int.reduceDiv, Int.cast_ofNat_Int, not_true_eq_false, not_false_eq_true, Int.reduceTDiv, Int.reduceTMod, m_in, if_pos, if_neg]
    · simp (disch := first | assumption | exact isL_i | exact isL_r | exact isL_n | exact i01a | exact i01b | omega) only [K78_0, K78_1, K78_3, K78_6, K78_7, K78_10, K78_13, K78_14, K78_15, K78_16, K78_19, K78_22, K78_23, K78_26, K78_28, K78_29, K78_30, K78_31, K78_34, K78_35, g1, g2, g3, g11, g12, g15, g16, g18, wr_id, td_e, tm_e, pu_n, pu_s, up_s, up_k, up_a, ↓reduceIte, Int.reduceLT, Int.reduceLE, Int.reduceEq, Int.reduceNeg, Int.reduceAdd, Int.reduceSub, Int.reduceMul, Int.reduceMod, Int.reduceDiv, Int.cast_ofNat_Int, not_true_eq_false, not_false_eq_true, Int.reduceTDiv, Int.reduceTMod, m_in, if_pos, if_neg]
theorem m_image_lp (hG : ShM G) {s z : Int → Int} : ∀ (m : Nat) (mi : Mi) (k : Int), k + m = 919 → 0 ≤ k → mi 47 = s → mi 48 = (fun j => if 0 ≤ j ∧ j < k then s j else z j) →
    (∀ mi', mi' 47 = s → mi' 48 = (fun j => if 0 ≤ j ∧ j < 919 then s j else z j) → mi' 46 = (fun j => if j = 4 then 1 else mi 46 j) → Sc [46, 48] mi mi' → K (some (pI (s 11))) G mi') →
    Ok (d + 3) 76 2 [some (pR (some 46)), some (pI k)] [] G mi K := by
  obtain ⟨⟨k46, k47, l47, k48, l48, k49, l49, k50, l50, k51, l51⟩, ⟨k52, l52, k53, l53, k54, l54⟩, ⟨g1, g2, g3, g11, g12, g15, g16, g18⟩⟩ := id hG
  intro m
  induction m with
  | zero =>
    intro mi k hk h0 hs hz hK
    have hk9 : k = 919 := by omega
    rw [K76_2]
    simp (disch := first | assumption | exact isL_i | exact isL_r | exact isL_n | exact i01a | exact i01b | omega) only [K76_3, K76_6, K76_27, K76_28, K76_29, K76_32, K76_33, K76_36, K76_38, K76_39, g1, g2, g3, g11, g12, g15, g16, g18, wr_id, td_e, tm_e, pu_n, pu_s, up_s, up_k, up_a, ↓reduceIte, Int.reduceLT, Int.reduceLE, Int.reduceEq, Int.reduceNeg, Int.reduceAdd, Int.reduceSub, Int.reduceMul, Int.reduceMod, Int.reduceDiv, Int.cast_ofNat_Int, not_true_eq_false, not_false_eq_true, Int.reduceTDiv, Int.reduceTMod, if_pos, if_neg, hs]
    exact hK _ (by rw [up_a (by decide)]; exact hs) (by rw [up_a (by decide), hz, hk9]) up_f (sc_up (by decide))
  | succ m ih =>
    intro mi k hk h0 hs hz hK
    rw [K76_2]
    simp (disch := first | assumption | exact isL_i | exact isL_r | exact isL_n | exact i01a | exact i01b | omega) only [K76_3, K76_6, K76_9, K76_10, K76_13, K76_14, K76_15, K76_18, K76_19, K76_20, K76_21, K76_24, g1, g2, g3, g11, g12, g15, g16, g18, wr_id, td_e, tm_e, pu_n, pu_s, up_s, up_k, up_a, ↓reduceIte, Int.reduceLT, Int.reduceLE, Int.reduceEq, Int.reduceNeg, Int.reduceAdd, Int.reduceSub, Int.reduceMul, Int.reduceMod, Int.reduceDiv, Int.cast_ofNat_Int, not_true_eq_false, not_false_eq_true, Int.reduceTDiv, Int.reduceTMod, if_pos, if_neg, hs]
    refine ih _ (k + 1) (by omega) (by omega) (by rw [up_a (by decide)]; exact hs) ?_ (fun mi' g1 g2 g3 g4 => hK mi' g1 g2 (by rw [g3, up_a (by decide)]) ((sc_up (by decide)).tr g4))
    rw [up_f, hz]
    funext j
    by_cases hj : j = k
    · rw [if_pos hj, if_pos (by omega), hj]
    · rw [if_neg hj]
      dsimp only
      by_cases hj2 : 0 ≤ j ∧ j < k
      · rw [if_pos hj2, if_pos (by omega)]
      · rw [if_neg hj2, if_neg (by omega)]
theorem z_all {s z : Int → Int} (hs : WfZ s) (hz : WfZ z) : (fun j => if 0 ≤ j ∧ j < 919 then s j else z j) = s := by
  funext j
  by_cases h : 0 ≤ j ∧ j < 919
  · rw [if_pos h]
  · rw [if_neg h, hs j (by omega), hz j (by omega)]
theorem z_no {s z : Int → Int} : (fun j : Int => if 0 ≤ j ∧ j < 0 then s j else z j) = z := by
  funext j
  rw [if_neg (by omega)]
theorem m_image (hG : ShM G) (hz : WfZ (mi 47)) (hz' : WfZ (mi 48)) (hK : ∀ mi', mi' 47 = mi 47 → mi' 48 = mi 47 → mi' 46 = (fun j => if j = 4 then 1 else mi 46 j) → Sc [46, 48] mi mi' → K (some (pI (mi 47 11))) G mi') : OkC (d + 3) 76 [pR (some 46)] G mi K := by
  obtain ⟨⟨k46, k47, l47, k48, l48, k49, l49, k50, l50, k51, l51⟩, ⟨k52, l52, k53, l53, k54, l54⟩, ⟨g1, g2, g3, g11, g12, g15, g16, g18⟩⟩ := id hG
  rw [E76]
  simp (disch := first | assumption | exact isL_i | exact isL_r | exact isL_n | exact i01a | exact i01b | omega) only [K76_0, K76_1, g1, g2, g3, g11, g12, g15, g16, g18, wr_id, td_e, tm_e, pu_n, pu_s, up_s, up_k, up_a, ↓reduceIte, Int.reduceLT, Int.reduceLE, Int.reduceEq, Int.reduceNeg, Int.reduceAdd, Int.reduceSub, Int.reduceMul, Int.reduceMod, Int.reduceDiv, Int.cast_ofNat_Int, not_true_eq_false, not_false_eq_true, Int.reduceTDiv, Int.reduceTMod, if_pos, if_neg]
  exact m_image_lp hG (s := mi 47) (z := mi 48) 919 mi 0 (by decide) (by decide) rfl z_no.symm (fun mi' g1 g2 g3 g4 => hK mi' g1 (by rw [g2, z_all hz hz']) g3 g4)
theorem m_undo_lp (hG : ShM G) {s z : Int → Int} : ∀ (m : Nat) (mi : Mi) (k : Int), k + m = 919 → 0 ≤ k → mi 48 = s → mi 47 = (fun j => if 0 ≤ j ∧ j < k then s j else z j) →
    (∀ mi', mi' 47 = (fun j => if 0 ≤ j ∧ j < 919 then s j else z j) → Sc [47] mi mi' → K (some (pI (s 11))) G mi') →
    Ok (d + 3) 77 12 [some (pR (some 46)), some (pI k)] [] G mi K := by
  obtain ⟨⟨k46, k47, l47, k48, l48, k49, l49, k50, l50, k51, l51⟩, ⟨k52, l52, k53, l53, k54, l54⟩, ⟨g1, g2, g3, g11, g12, g15, g16, g18⟩⟩ := id hG
  intro m
  induction m with
  | zero =>
    intro mi k hk h0 hs hz hK
    have hk9 : k = 919 := by omega
    have e11 : mi 47 11 = s 11 := by rw [hz, hk9]; rfl
    rw [K77_12]
    simp (disch := first | assumption | exact isL_i | exact isL_r | exact isL_n | exact i01a | exact i01b | omega) only [K77_13, K77_16, K77_37, K77_38, K77_41, K77_43, K77_44, g1, g2, g3, g11, g12, g15, g16, g18, wr_id, td_e, tm_e, pu_n, pu_s, up_s, up_k, up_a, ↓reduceIte, Int.reduceLT, Int.reduceLE, Int.reduceEq, Int.reduceNeg, Int.reduceAdd, Int.reduceSub, Int.reduceMul, Int.reduceMod, Int.reduceDiv, Int.cast_ofNat_Int, not_true_eq_false, not_false_eq_true, Int.reduceTDiv, Int.reduceTMod, if_pos, if_neg, e11]
    exact hK _ (by rw [hz, hk9]) Sc.rf
  | succ m ih =>
    intro mi k hk h0 hs hz hK
    rw [K77_12]
    simp (disch := first | assumption | exact isL_i | exact isL_r | exact isL_n | exact i01a | exact i01b | omega) only [K77_13, K77_16, K77_19, K77_20, K77_23, K77_24, K77_25, K77_28, K77_29, K77_30, K77_31, K77_34, g1, g2, g3, g11, g12, g15, g16, g18, wr_id, td_e, tm_e, pu_n, pu_s, up_s, up_k, up_a, ↓reduceIte, Int.reduceLT, Int.reduceLE, Int.reduceEq, Int.reduceNeg, Int.reduceAdd, Int.reduceSub, Int.reduceMul, Int.reduceMod, Int.reduceDiv, Int.cast_ofNat_Int, not_true_eq_false, not_false_eq_true, Int.reduceTDiv, Int.reduceTMod, if_pos, if_neg, hs]
    refine ih _ (k + 1) (by omega) (by omega) (by rw [up_a (by decide)]; exact hs) ?_ (fun mi' g1 g2 => hK mi' g1 ((sc_up (by decide)).tr g2))
    rw [up_f, hz]
    funext j
    by_cases hj : j = k
    · rw [if_pos hj, if_pos (by omega), hj]
    · rw [if_neg hj]
      dsimp only
      by_cases hj2 : 0 ≤ j ∧ j < k
      · rw [if_pos hj2, if_pos (by omega)]
      · rw [if_neg hj2, if_neg (by omega)]
theorem m_undo (hG : ShM G) (hz : WfZ (mi 47)) (hz' : WfZ (mi 48)) (hK : ∀ mi', mi' 47 = (if mi 46 4 = 0 then mi 47 else mi 48) → Sc [47] mi mi' → K (some (pI (if mi 46 4 = 0 then -3 else mi 48 11))) G mi') : OkC (d + 3) 77 [pR (some 46)] G mi K := by
  obtain ⟨⟨k46, k47, l47, k48, l48, k49, l49, k50, l50, k51, l51⟩, ⟨k52, l52, k53, l53, k54, l54⟩, ⟨g1, g2, g3, g11, g12, g15, g16, g18⟩⟩ := id hG
  rw [E77]
  by_cases h4 : mi 46 4 = 0
  · simp only [if_pos h4] at hK
    simp (disch := first | assumption | exact isL_i | exact isL_r | exact isL_n | exact i01a | exact i01b | omega) only [K77_0, K77_1, K77_4, K77_7, K77_9, g1, g2, g3, g11, g12, g15, g16, g18, wr_id, td_e, tm_e, pu_n, pu_s, up_s, up_k, up_a, ↓reduceIte, Int.reduceLT, Int.reduceLE, Int.reduceEq, Int.reduceNeg, Int.reduceAdd, Int.reduceSub, Int.reduceMul, Int.reduceMod, Int.reduceDiv, Int.cast_ofNat_Int, not_true_eq_false, not_false_eq_true, Int.reduceTDiv, Int.reduceTMod, if_pos, if_neg]
    exact hK mi rfl Sc.rf
  · simp only [if_neg h4] at hK
    simp (disch := first | assumption | exact isL_i | exact isL_r | exact isL_n | exact i01a | exact i01b | omega) only [K77_0, K77_1, K77_4, K77_7, K77_9, K77_10, K77_11, g1, g2, g3, g11, g12, g15, g16, g18, wr_id, td_e, tm_e, pu_n, pu_s, up_s, up_k, up_a, ↓reduceIte, Int.reduceLT, Int.reduceLE, Int.reduceEq, Int.reduceNeg, Int.reduceAdd, Int.reduceSub, Int.reduceMul, Int.reduceMod, Int.reduceDiv, Int.cast_ofNat_Int, not_true_eq_false, not_false_eq_true, Int.reduceTDiv, Int.reduceTMod, if_pos, if_neg]
    exact m_undo_lp hG (s := mi 48) (z := mi 47) 919 mi 0 (by decide) (by decide) rfl z_no.symm (fun mi' g1 g2 => hK mi' (by rw [g1, z_all hz' hz]) g2)
end MO
