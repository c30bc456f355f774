/-! ===== the reference: its cells are 46 (the object) and 47 .. 54 ===== -/
def ShM (G : Gh) : Prop := ((gK G 46).1 = 13 ∧ (gK G 47).1 = 20 ∧ (gK G 47).2 = 919 ∧ (gK G 48).1 = 20 ∧ (gK G 48).2 = 919 ∧ (gK G 49).1 = 20 ∧ (gK G 49).2 = 8 ∧ (gK G 50).1 = 20 ∧ (gK G 50).2 = 6 ∧ (gK G 51).1 = 21 ∧ (gK G 51).2 = 64) ∧
  ((gK G 52).1 = 20 ∧ (gK G 52).2 = 6 ∧ (gK G 53).1 = 20 ∧ (gK G 53).2 = 6 ∧ (gK G 54).1 = 20 ∧ (gK G 54).2 = 20) ∧
  (gR G 46 1 = some 47 ∧ gR G 46 2 = some 48 ∧ gR G 46 3 = some 49 ∧ gR G 46 11 = some 50 ∧ gR G 46 12 = some 51 ∧ gR G 46 15 = some 52 ∧ gR G 46 16 = some 53 ∧ gR G 46 18 = some 54)
-- #def MG obtain ⟨⟨k46, k47, l47, k48, l48, k49, l49, k50, l50, k51, l51⟩, ⟨k52, l52, k53, l53, k54, l54⟩, ⟨g1, g2, g3, g11, g12, g15, g16, g18⟩⟩ := id hG
-- #def SM g1, g2, g3, g11, g12, g15, g16, g18
section MO
variable {d : Nat} {G : Gh} {mi : Mi} {K : Option PV → Gh → Mi → Prop} {p t v w a b : Int}
theorem m_in : OkC d 1 [pI v, pI a, pI b] G mi K = K (some (pI (if a ≤ v ∧ v ≤ b then 1 else 0))) G mi := by
  rw [E1]
  simp (disch := first | assumption | exact isL_i | exact isL_r | exact isL_n | exact i01a | exact i01b | omega) only [K1_0, K1_1, K1_2, K1_5, K1_6, K1_7, K1_10, K1_11, K1_14, K1_15, wr_id, td_e, tm_e, pu_n, pu_s, up_s, up_k, up_a, ↓reduceIte, Int.reduceLT, Int.reduceLE, Int.reduceEq, Int.reduceNeg, Int.reduceAdd, Int.reduceSub, Int.reduceMul, Int.reduceMod, Int.reduceDiv, Int.cast_ofNat_Int, not_true_eq_false, not_false_eq_true, Int.reduceTDiv, Int.reduceTMod]
  repeat' split
  all_goals first | rfl | (exfalso; omega)
theorem m_isCell : OkC (d + 1) 3 [pI v] G mi K = K (some (pI (if 0 ≤ v ∧ v ≤ 23 then 1 else 0))) G mi := by
  rw [E3]
  simp (disch := first | assumption | exact isL_i | exact isL_r | exact isL_n | exact i01a | exact i01b | omega) only [K3_0, K3_1, K3_2, K3_4, K3_7, wr_id, td_e, tm_e, pu_n, pu_s, up_s, up_k, up_a, ↓reduceIte, Int.reduceLT, Int.reduceLE, Int.reduceEq, Int.reduceNeg, Int.reduceAdd, Int.reduceSub, Int.reduceMul, Int.reduceMod, Int.reduceDiv, Int.cast_ofNat_Int, not_true_eq_false, not_false_eq_true, Int.reduceTDiv, Int.reduceTMod, m_in]
theorem m_size : OkC d 2 [pI v] G mi K = K (some (pI (if v < 0 then wr (-v) else v))) G mi := by
  rw [E2]
  simp (disch := first | assumption | exact isL_i | exact isL_r | exact isL_n | exact i01a | exact i01b | omega) only [K2_0, K2_1, K2_4, K2_5, K2_6, K2_9, K2_10, wr_id, td_e, tm_e, pu_n, pu_s, up_s, up_k, up_a, ↓reduceIte, Int.reduceLT, Int.reduceLE, Int.reduceEq, Int.reduceNeg, Int.reduceAdd, Int.reduceSub, Int.reduceMul, Int.reduceMod, Int.reduceDiv, Int.cast_ofNat_Int, not_true_eq_false, not_false_eq_true, Int.reduceTDiv, Int.reduceTMod]
  repeat' split
  all_goals first | rfl | (exfalso; omega)
theorem m_isThing (hG : ShM G) (hn : 0 ≤ mi 47 11) (hn' : mi 47 11 ≤ 6) : OkC (d + 1) 5 [pR (some 46), pI v] G mi K = K (some (pI (if 0 ≤ v ∧ v < mi 47 11 then 1 else 0))) G mi := by
  obtain ⟨⟨k46, k47, l47, k48, l48, k49, l49, k50, l50, k51, l51⟩, ⟨k52, l52, k53, l53, k54, l54⟩, ⟨g1, g2, g3, g11, g12, g15, g16, g18⟩⟩ := id hG
  rw [E5]
  simp (disch := first | assumption | exact isL_i | exact isL_r | exact isL_n | exact i01a | exact i01b | omega) only [K5_0, K5_1, K5_2, K5_3, K5_6, K5_8, K5_9, K5_10, K5_11, K5_14, g1, g2, g3, g11, g12, g15, g16, g18, wr_id, td_e, tm_e, pu_n, pu_s, up_s, up_k, up_a, ↓reduceIte, Int.reduceLT, Int.reduceLE, Int.reduceEq, Int.reduceNeg, Int.reduceAdd, Int.reduceSub, Int.reduceMul, Int.reduceMod, Int.reduceDiv, Int.cast_ofNat_Int, not_true_eq_false, not_false_eq_true, Int.reduceTDiv, Int.reduceTMod, m_in, Int.le_sub_one_iff]
theorem m_isAt (hG : ShM G) (hT : WfT (mi 47)) (h0 : 0 ≤ p) (h6 : p < 6) (ht : 0 ≤ t) (htt : t ≤ 20000) : OkC d 26 [pR (some 46), pI p, pI t] G mi K = K (some (pI (atF (mi 47) p t))) G mi := by
  obtain ⟨⟨k46, k47, l47, k48, l48, k49, l49, k50, l50, k51, l51⟩, ⟨k52, l52, k53, l53, k54, l54⟩, ⟨g1, g2, g3, g11, g12, g15, g16, g18⟩⟩ := id hG
  obtain ⟨-, ⟨hB, hB'⟩, ⟨hA, hA'⟩⟩ := hT.1 p h0 h6
  obtain ⟨hC, hC'⟩ := hT.2 (36 + 4 * p + t % 4) (by omega) (by omega)
  obtain ⟨f1, f2⟩ := mulb hB hB' ht htt
  rw [E26]
  simp (disch := first | assumption | exact isL_i | exact isL_r | exact isL_n | exact i01a | exact i01b | omega) only [K26_0, K26_1, K26_4, K26_6, K26_7, K26_8, K26_9, K26_10, K26_11, K26_14, K26_16, K26_17, K26_18, K26_19, K26_56, K26_57, K26_59, K26_60, K26_62, K26_63, K26_64, K26_66, K26_67, K26_68, K26_69, K26_71, K26_72, K26_73, K26_74, K26_75, K26_76, K26_79, K26_81, K26_82, K26_83, K26_84, K26_85, K26_86, K26_87, K26_89, K26_90, K26_91, K26_92, K26_94, K26_95, K26_97, K26_98, K26_99, K26_101, K26_102, K26_103, K26_104, K26_105, K26_106, K26_108, K26_109, K26_110, K26_111, K26_112, K26_113, K26_116, K26_118, K26_119, K26_120, K26_121, K26_122, K26_123, K26_124, K26_125, K26_128, K26_130, K26_131, K26_132, K26_133, K26_134, K26_135, K26_136, K26_137, K26_138, K26_139, K26_140, K26_142, K26_143, K26_144, K26_145, g1, g2, g3, g11, g12, g15, g16, g18, wr_id, td_e, tm_e, pu_n, pu_s, up_s, up_k, up_a, ↓reduceIte, Int.reduceLT, Int.reduceLE, Int.reduceEq, Int.reduceNeg, Int.reduceAdd, Int.reduceSub, Int.reduceMul, Int.reduceMod, Int.reduceDiv, Int.cast_ofNat_Int, not_true_eq_false, not_false_eq_true, Int.reduceTDiv, Int.reduceTMod]
  unfold atF plc
  repeat' split
  all_goals first | rfl | (exfalso; omega)
theorem m_isDim (hG : ShM G) (hT : WfT (mi 47)) (h0 : 0 ≤ p) (h6 : p < 6) (ht : 0 ≤ t) (htt : t ≤ 20000) : OkC (d + 1) 27 [pR (some 46), pI p, pI t] G mi K = K (some (pI (if dimP (mi 47) (mi 46 5) p t then 1 else 0))) G mi := by
  obtain ⟨⟨k46, k47, l47, k48, l48, k49, l49, k50, l50, k51, l51⟩, ⟨k52, l52, k53, l53, k54, l54⟩, ⟨g1, g2, g3, g11, g12, g15, g16, g18⟩⟩ := id hG
  have hat := atF_wf hT (t := t) h0 h6
  rw [E27]
  simp (disch := first | assumption | exact isL_i | exact isL_r | exact isL_n | exact i01a | exact i01b | omega) only [K27_0, K27_1, K27_4, K27_6, K27_7, K27_8, K27_9, K27_10, K27_13, K27_14, K27_15, K27_16, K27_19, K27_21, K27_22, K27_23, K27_26, K27_29, K27_30, K27_33, K27_34, g1, g2, g3, g11, g12, g15, g16, g18, wr_id, td_e, tm_e, pu_n, pu_s, up_s, up_k, up_a, ↓reduceIte, Int.reduceLT, Int.reduceLE, Int.reduceEq, Int.reduceNeg, Int.reduceAdd, Int.reduceSub, Int.reduceMul, Int.reduceMod, Int.reduceDiv, Int.cast_ofNat_Int, not_true_eq_false, not_false_eq_true, Int.reduceTDiv, Int.reduceTMod, m_isAt]
  repeat' split
  all_goals first | rfl | (exfalso; omega)
theorem m_tellsOf (hG : ShM G) (h1 : -1 ≤ mi 47 17) (h4 : mi 47 17 ≤ 4) (hw : 0 ≤ w) (hww : w ≤ 900) : OkC d 24 [pR (some 46), pI w, pI v] G mi K = K (some (pI (if mi 47 17 = -1 then v else mi 47 (w + mi 47 17)))) G mi := by
  obtain ⟨⟨k46, k47, l47, k48, l48, k49, l49, k50, l50, k51, l51⟩, ⟨k52, l52, k53, l53, k54, l54⟩, ⟨g1, g2, g3, g11, g12, g15, g16, g18⟩⟩ := id hG
  rw [E24]
  by_cases h : mi 47 17 = -1
  all_goals simp (disch := first | assumption | exact isL_i | exact isL_r | exact isL_n | exact i01a | exact i01b | omega) only [K24_0, K24_1, K24_4, K24_6, K24_7, K24_8, K24_11, K24_12, K24_15, K24_16, K24_19, K24_20, K24_21, K24_24, K24_26, K24_27, K24_28, K24_29, g1, g2, g3, g11, g12, g15, g16, g18, wr_id, td_e, tm_e, pu_n, pu_s, up_s, up_k, up_a, ↓reduceIte, Int.reduceLT, Int.reduceLE, Int.reduceEq, Int.reduceNeg, Int.reduceAdd, Int.reduceSub, Int.reduceMul, Int.reduceMod, Int.reduceDiv, Int.cast_ofNat_Int, not_true_eq_false, not_false_eq_true, Int.reduceTDiv, Int.reduceTMod, if_pos, if_neg]
theorem m_far (ha : 0 ≤ a) (ha' : a ≤ 23) (hb : 0 ≤ b) (hb' : b ≤ 23) : OkC (d + 1) 4 [pI a, pI b] G mi K = K (some (pI ((a / 6 - b / 6).natAbs + (a % 6 - b % 6).natAbs))) G mi := by
  rw [E4]
  simp (disch := first | assumption | exact isL_i | exact isL_r | exact isL_n | exact i01a | exact i01b | omega) only [K4_0, K4_1, K4_3, K4_4, K4_5, K4_7, K4_8, K4_9, K4_12, K4_13, K4_15, K4_16, K4_17, K4_19, K4_20, K4_21, K4_24, K4_25, wr_id, td_e, tm_e, pu_n, pu_s, up_s, up_k, up_a, ↓reduceIte, Int.reduceLT, Int.reduceLE, Int.reduceEq, Int.reduceNeg, Int.reduceAdd, Int.reduceSub, Int.reduceMul, Int.reduceMod, Int.reduceDiv, Int.cast_ofNat_Int, not_true_eq_false, not_false_eq_true, Int.reduceTDiv, Int.reduceTMod, m_size]
  repeat' split
  all_goals (congr 3; omega)
theorem m_brought (h0 : 0 ≤ a) (h1 : a ≤ 23) : OkC d 42 [pI a, pI v] G mi K = K (some (pI (brt a v))) G mi := by
  rw [E42]
  simp (disch := first | assumption | exact isL_i | exact isL_r | exact isL_n | exact i01a | exact i01b | omega) only [K42_0, K42_1, K42_32, K42_33, K42_35, K42_38, K42_39, K42_42, K42_43, K42_45, K42_46, K42_47, K42_48, K42_50, K42_51, K42_52, K42_55, K42_56, K42_59, K42_60, K42_61, K42_62, K42_63, K42_64, K42_66, K42_69, K42_70, K42_73, K42_74, K42_76, K42_77, K42_78, K42_79, K42_81, K42_82, K42_85, K42_86, K42_89, K42_90, K42_91, K42_92, K42_93, K42_94, wr_id, td_e, tm_e, pu_n, pu_s, up_s, up_k, up_a, ↓reduceIte, Int.reduceLT, Int.reduceLE, Int.reduceEq, Int.reduceNeg, Int.reduceAdd, Int.reduceSub, Int.reduceMul, Int.reduceMod, Int.reduceDiv, Int.cast_ofNat_Int, not_true_eq_false, not_false_eq_true, Int.reduceTDiv, Int.reduceTMod]
  unfold brt
  repeat' split
  all_goals first | rfl | (exfalso; omega)
theorem m_base_lp (hG : ShM G) {s fb : Int → Int} {m fr : Int} : ∀ (n : Nat) (mi : Mi) (st : List Bool) (a i tp : Int) (x8 x9 x10 x11 : Option PV), isL x8 = false → isL x9 = false → isL x10 = false → isL x11 = false → mi 47 = s → (∀ k : Int, 0 ≤ k → k < 6 → mi 50 k = fb k) → stkM (mi 51) st → tp = st.length → st.length ≤ 13 → wfS (seg s i n) st.length → fr + m = i + n → 0 ≤ i → i + n ≤ 919 → 300 * n - 100000 ≤ a → a ≤ 100000 - 300 * n → (∀ mi', Sc [51] mi mi' → K (some (pI (evS fb (seg s i n) st a))) G mi') →
    Ok d 28 108 [some (pR (some 46)), some (pI p), some (pI t), some (pI a), some (pI m), some (pI fr), some (pI tp), some (pI i), x8, x9, x10, x11] [] G mi K := by
  obtain ⟨⟨k46, k47, l47, k48, l48, k49, l49, k50, l50, k51, l51⟩, ⟨k52, l52, k53, l53, k54, l54⟩, ⟨g1, g2, g3, g11, g12, g15, g16, g18⟩⟩ := id hG
  intro n
  induction n with
  | zero =>
    intro mi st a i tp x8 x9 x10 x11 q8 q9 q10 q11 hs hb hk htp hl hw hfr hi hi' ha ha' hK
    rw [K28_108]
    simp (disch := first | assumption | exact isL_i | exact isL_r | exact isL_n | exact i01a | exact i01b | omega) only [K28_110, K28_112, K28_114, K28_115, K28_118, K28_119, K28_122, K28_124, K28_125, K28_127, K28_129, K28_132, K28_133, K28_136, K28_138, K28_140, K28_141, K28_142, K28_144, K28_146, K28_148, K28_149, K28_150, K28_151, K28_153, K28_155, K28_157, K28_158, K28_160, K28_161, K28_164, K28_166, K28_168, K28_171, K28_173, K28_175, K28_178, K28_179, K28_182, K28_183, K28_186, K28_188, K28_189, K28_192, K28_194, K28_196, K28_199, K28_200, K28_203, K28_204, K28_207, K28_209, K28_211, K28_214, K28_215, K28_218, K28_219, K28_220, K28_223, K28_226, K28_228, K28_229, K28_232, K28_233, K28_236, K28_238, K28_239, K28_240, K28_241, K28_244, K28_246, K28_247, K28_248, K28_249, K28_252, K28_253, K28_256, K28_257, K28_258, K28_261, K28_263, K28_265, K28_268, K28_271, K28_272, K28_275, K28_277, K28_278, K28_279, K28_281, K28_283, K28_286, K28_287, K28_290, K28_292, K28_293, K28_294, K28_295, K28_298, K28_299, K28_302, K28_304, K28_305, K28_308, K28_309, K28_312, K28_313, K28_316, K28_317, K28_320, K28_322, K28_323, K28_324, K28_325, K28_328, K28_329, K28_332, K28_334, K28_335, K28_338, K28_339, K28_342, K28_343, K28_344, K28_347, K28_348, K28_350, K28_351, K28_354, K28_355, K28_356, K28_358, K28_359, K28_361, K28_364, K28_366, K28_369, K28_372, K28_374, K28_376, K28_377, K28_380, K28_381, K28_382, K28_383, K28_384, K28_386, K28_389, K28_391, K28_394, K28_397, K28_400, K28_402, K28_403, K28_406, K28_407, K28_408, K28_409, K28_412, K28_415, K28_416, g1, g2, g3, g11, g12, g15, g16, g18, wr_id, td_e, tm_e, pu_n, pu_s, up_s, up_k, up_a, ↓reduceIte, Int.reduceLT, Int.reduceLE, Int.reduceEq, Int.reduceNeg, Int.reduceAdd, Int.reduceSub, Int.reduceMul, Int.reduceMod, Int.reduceDiv, Int.cast_ofNat_Int, not_true_eq_false, not_false_eq_true, Int.reduceTDiv, Int.reduceTMod, if_pos, if_neg]
    exact hK mi Sc.rf
  | succ n ih =>
    intro mi st a i tp x8 x9 x10 x11 q8 q9 q10 q11 hs hb hk htp hl hw hfr hi hi' ha ha' hK
    simp only [seg, wfS] at hw
    simp only [seg, evS] at hK
    obtain ⟨hx, hw⟩ := hw
    have hsi : mi 47 i = s i := by rw [hs]
    by_cases h0 : 0 ≤ s i
    · rw [if_pos h0] at hw
      obtain ⟨w1, w2, w3, w4⟩ := hw
      have e50 : mi 50 (s i % 8) = fb (s i % 8) := hb _ (by omega) (by omega)
      have J : ∀ (b : Bool) (y9 y10 y11 : Option PV), isL y9 = false → isL y10 = false → isL y11 = false → tst fb (s i) = b → Ok d 28 219 [some (pR (some 46)), some (pI p), some (pI t), some (pI a), some (pI m), some (pI fr), some (pI tp), some (pI i), some (pI (s i)), y9, y10, y11] [pI (bi b), pI tp, pR (some 51)] G mi K := by
        intro b y9 y10 y11 r9 r10 r11 hbb
        have hbi := bi_01 b
        simp (disch := first | assumption | exact isL_i | exact isL_r | exact isL_n | exact i01a | exact i01b | omega) only [K28_219, K28_220, K28_223, K28_409, K28_412, g1, g2, g3, g11, g12, g15, g16, g18, wr_id, td_e, tm_e, pu_n, pu_s, up_s, up_k, up_a, ↓reduceIte, Int.reduceLT, Int.reduceLE, Int.reduceEq, Int.reduceNeg, Int.reduceAdd, Int.reduceSub, Int.reduceMul, Int.reduceMod, Int.reduceDiv, Int.cast_ofNat_Int, not_true_eq_false, not_false_eq_true, Int.reduceTDiv, Int.reduceTMod]
        refine ih _ (tst fb (s i) :: st) a (i + 1) _ _ _ _ _ isL_i r9 r10 r11 ?_ ?_ ?_ ?_ ?_ w4 (by omega) (by omega) (by omega) (by omega) (by omega) ?_
        · rw [up_a (by decide), hs]
        · intro k k0 k6
          rw [up_a (by decide)]; exact hb k k0 k6
        · exact ⟨by rw [hbb, htp, up_s], stkM_up st (by omega) hk⟩
        · simp only [List.length_cons]; omega
        · simp only [List.length_cons]; omega
        · intro mi' hsc
          have e1 : stp fb (s i) st = tst fb (s i) :: st := by simp only [stp, if_pos h0]
          have e2 : adF (s i) st = 0 := by unfold adF; rw [if_neg (by omega)]
          rw [e1, e2, Int.add_zero] at hK
          exact hK mi' (Sc.tr (sc_up (by decide)) hsc)
      have J1 := J true
      have J0 := J false
      simp only [bi, ↓reduceIte, Bool.false_eq_true] at J1 J0
      have ht0 : tst fb (s i) = if s i / 8 % 4 = 0 then decide (fb (s i % 8) < s i / 32) else if s i / 8 % 4 = 1 then decide (fb (s i % 8) = s i / 32) else decide (s i / 32 < fb (s i % 8)) := rfl
      rw [K28_108]
      simp (disch := first | assumption | exact isL_i | exact isL_r | exact isL_n | exact i01a | exact i01b | omega) only [K28_110, K28_112, K28_114, K28_115, K28_118, K28_119, K28_122, K28_124, K28_125, K28_127, K28_129, K28_132, K28_133, K28_136, K28_138, K28_140, K28_141, K28_142, K28_144, K28_146, K28_148, K28_149, K28_150, K28_151, K28_153, K28_155, K28_157, K28_158, K28_160, K28_161, K28_164, K28_166, K28_168, K28_171, K28_173, K28_175, K28_178, K28_179, K28_182, K28_183, K28_186, K28_188, K28_189, K28_192, K28_194, K28_196, K28_199, K28_200, K28_203, K28_204, K28_207, K28_209, K28_211, K28_214, K28_215, K28_218, g1, g2, g3, g11, g12, g15, g16, g18, wr_id, td_e, tm_e, pu_n, pu_s, up_s, up_k, up_a, ↓reduceIte, Int.reduceLT, Int.reduceLE, Int.reduceEq, Int.reduceNeg, Int.reduceAdd, Int.reduceSub, Int.reduceMul, Int.reduceMod, Int.reduceDiv, Int.cast_ofNat_Int, not_true_eq_false, not_false_eq_true, Int.reduceTDiv, Int.reduceTMod, if_pos, if_neg, hsi, e50]
      repeat' split
      all_goals first
        | exact J1 _ _ _ isL_i isL_i isL_i (by rw [ht0]; simp (disch := omega) only [if_pos, if_neg]; exact decide_eq_true (by omega))
        | exact J0 _ _ _ isL_i isL_i isL_i (by rw [ht0]; simp (disch := omega) only [if_pos, if_neg]; exact decide_eq_false (by omega))
    · rw [if_neg h0] at hw
      by_cases h1 : s i = -1
      · rw [if_pos h1] at hw
        obtain ⟨w1, w2⟩ := hw
        cases st with
        | nil => simp at w1
        | cons b q =>
          have e2 : adF (s i) (b :: q) = 0 := by unfold adF; rw [if_neg (by omega)]
          have e1 : stp fb (s i) (b :: q) = (!b) :: q := by simp only [stp, if_neg h0, if_pos h1]
          rw [e1, e2, Int.add_zero] at hK
          have e3 : tp - 1 = (q.length : Int) := by simp only [List.length_cons] at htp; omega
          have e4 : mi 51 q.length = bi b := hk.1
          simp only [List.length_cons] at hl
          rw [K28_108]
          cases b
          all_goals simp only [bi, ↓reduceIte, Bool.false_eq_true] at e4
          all_goals simp (disch := first | assumption | exact isL_i | exact isL_r | exact isL_n | exact i01a | exact i01b | omega) only [K28_110, K28_112, K28_114, K28_115, K28_118, K28_119, K28_122, K28_124, K28_125, K28_127, K28_129, K28_226, K28_228, K28_229, K28_232, K28_233, K28_236, K28_238, K28_239, K28_240, K28_241, K28_244, K28_246, K28_247, K28_248, K28_249, K28_252, K28_253, K28_256, K28_257, K28_258, K28_409, K28_412, g1, g2, g3, g11, g12, g15, g16, g18, wr_id, td_e, tm_e, pu_n, pu_s, up_s, up_k, up_a, ↓reduceIte, Int.reduceLT, Int.reduceLE, Int.reduceEq, Int.reduceNeg, Int.reduceAdd, Int.reduceSub, Int.reduceMul, Int.reduceMod, Int.reduceDiv, Int.cast_ofNat_Int, not_true_eq_false, not_false_eq_true, Int.reduceTDiv, Int.reduceTMod, if_pos, if_neg, hsi, h1, e3, e4]
          · refine ih _ (true :: q) a (i + 1) _ _ _ _ _ isL_i q9 q10 q11 ?_ ?_ ?_ htp ?_ w2 (by omega) (by omega) (by omega) (by omega) (by omega) (fun mi' hsc => hK mi' (Sc.tr (sc_up (by decide)) hsc))
            · rw [up_a (by decide), hs]
            · intro k k0 k6
              rw [up_a (by decide)]; exact hb k k0 k6
            · exact ⟨by rw [up_s]; rfl, stkM_up q (Int.le_refl _) hk.2⟩
            · simp only [List.length_cons]; omega
          · refine ih _ (false :: q) a (i + 1) _ _ _ _ _ isL_i q9 q10 q11 ?_ ?_ ?_ htp ?_ w2 (by omega) (by omega) (by omega) (by omega) (by omega) (fun mi' hsc => hK mi' (Sc.tr (sc_up (by decide)) hsc))
            · rw [up_a (by decide), hs]
            · intro k k0 k6
              rw [up_a (by decide)]; exact hb k k0 k6
            · exact ⟨by rw [up_s]; rfl, stkM_up q (Int.le_refl _) hk.2⟩
            · simp only [List.length_cons]; omega
      · rw [if_neg h1] at hw
        by_cases h2 : -10 < s i
        · rw [if_pos h2] at hw
          obtain ⟨w0, w1, w2⟩ := hw
          have e2 : adF (s i) st = 0 := by unfold adF; rw [if_neg (by omega)]
          match st, w1, hk, htp, hl, w2, hK, e2 with
          | [], w1, _, _, _, _, _, _ => simp at w1
          | [_], w1, _, _, _, _, _, _ => simp at w1
          | b :: c :: q, w1, hk, htp, hl, w2, hK, e2 =>
            have e1 : stp fb (s i) (b :: c :: q) = (if s i = -2 then c && b else c || b) :: q := by simp only [stp, if_neg h0, if_neg h1, if_pos h2]
            rw [e1, e2, Int.add_zero] at hK
            have e3 : tp + -1 = (q.length : Int) + 1 := by simp only [List.length_cons] at htp; omega
            have e4 : mi 51 ((q.length : Int) + 1) = bi b := hk.1
            have e5 : mi 51 q.length = bi c := hk.2.1
            simp only [List.length_cons] at hl
            have J : ∀ (v : Int), v = bi (if s i = -2 then c && b else c || b) → 0 ≤ v → v ≤ 1 → Ok d 28 343 [some (pR (some 46)), some (pI p), some (pI t), some (pI a), some (pI m), some (pI fr), some (pI (q.length + 1)), some (pI i), some (pI (s i)), x9, x10, x11] [pI v, pI q.length, pR (some 51)] G mi K := by
              intro v hv v0 v1
              simp (disch := first | assumption | exact isL_i | exact isL_r | exact isL_n | exact i01a | exact i01b | omega) only [K28_343, K28_344, K28_409, K28_412, g1, g2, g3, g11, g12, g15, g16, g18, wr_id, td_e, tm_e, pu_n, pu_s, up_s, up_k, up_a, ↓reduceIte, Int.reduceLT, Int.reduceLE, Int.reduceEq, Int.reduceNeg, Int.reduceAdd, Int.reduceSub, Int.reduceMul, Int.reduceMod, Int.reduceDiv, Int.cast_ofNat_Int, not_true_eq_false, not_false_eq_true, Int.reduceTDiv, Int.reduceTMod]
              refine ih _ (_ :: q) a (i + 1) _ _ _ _ _ isL_i q9 q10 q11 ?_ ?_ ?_ ?_ ?_ w2 (by omega) (by omega) (by omega) (by omega) (by omega) (fun mi' hsc => hK mi' (Sc.tr (sc_up (by decide)) hsc))
              · rw [up_a (by decide), hs]
              · intro k k0 k6
                rw [up_a (by decide)]; exact hb k k0 k6
              · exact ⟨by rw [up_s, hv], stkM_up q (Int.le_refl _) hk.2.2⟩
              · simp only [List.length_cons]; omega
              · simp only [List.length_cons]; omega
            rw [K28_108]
            by_cases h3 : s i = -2
            · simp only [if_pos h3] at J
              cases b <;> cases c
              all_goals simp only [bi, ↓reduceIte, Bool.false_eq_true] at e4 e5
              all_goals simp (disch := first | assumption | exact isL_i | exact isL_r | exact isL_n | exact i01a | exact i01b | omega) only [K28_110, K28_112, K28_114, K28_115, K28_118, K28_119, K28_122, K28_124, K28_125, K28_127, K28_129, K28_226, K28_228, K28_229, K28_261, K28_263, K28_265, K28_268, K28_271, K28_272, K28_275, K28_277, K28_278, K28_279, K28_281, K28_283, K28_286, K28_287, K28_290, K28_292, K28_293, K28_294, K28_295, K28_298, K28_299, K28_302, K28_304, K28_305, K28_308, K28_309, K28_312, K28_313, K28_316, K28_317, K28_320, K28_322, K28_323, K28_324, K28_325, K28_328, K28_329, K28_332, K28_334, K28_335, K28_338, K28_339, K28_342, g1, g2, g3, g11, g12, g15, g16, g18, wr_id, td_e, tm_e, pu_n, pu_s, up_s, up_k, up_a, ↓reduceIte, Int.reduceLT, Int.reduceLE, Int.reduceEq, Int.reduceNeg, Int.reduceAdd, Int.reduceSub, Int.reduceMul, Int.reduceMod, Int.reduceDiv, Int.cast_ofNat_Int, not_true_eq_false, not_false_eq_true, Int.reduceTDiv, Int.reduceTMod, if_pos, if_neg, hsi, e3, e4, e5, Int.add_sub_cancel]
              all_goals exact J _ rfl (by decide) (by decide)
            · simp only [if_neg h3] at J
              cases b <;> cases c
              all_goals simp only [bi, ↓reduceIte, Bool.false_eq_true] at e4 e5
              all_goals simp (disch := first | assumption | exact isL_i | exact isL_r | exact isL_n | exact i01a | exact i01b | omega) only [K28_110, K28_112, K28_114, K28_115, K28_118, K28_119, K28_122, K28_124, K28_125, K28_127, K28_129, K28_226, K28_228, K28_229, K28_261, K28_263, K28_265, K28_268, K28_271, K28_272, K28_275, K28_277, K28_278, K28_279, K28_281, K28_283, K28_286, K28_287, K28_290, K28_292, K28_293, K28_294, K28_295, K28_298, K28_299, K28_302, K28_304, K28_305, K28_308, K28_309, K28_312, K28_313, K28_316, K28_317, K28_320, K28_322, K28_323, K28_324, K28_325, K28_328, K28_329, K28_332, K28_334, K28_335, K28_338, K28_339, K28_342, g1, g2, g3, g11, g12, g15, g16, g18, wr_id, td_e, tm_e, pu_n, pu_s, up_s, up_k, up_a, ↓reduceIte, Int.reduceLT, Int.reduceLE, Int.reduceEq, Int.reduceNeg, Int.reduceAdd, Int.reduceSub, Int.reduceMul, Int.reduceMod, Int.reduceDiv, Int.cast_ofNat_Int, not_true_eq_false, not_false_eq_true, Int.reduceTDiv, Int.reduceTMod, if_pos, if_neg, hsi, e3, e4, e5, Int.add_sub_cancel]
              all_goals exact J _ rfl (by decide) (by decide)
        · rw [if_neg h2] at hw
          obtain ⟨w0, w1, w2⟩ := hw
          match st, w0, hk, htp, hK with
          | [], w0, _, _, _ => simp at w0
          | _ :: _ :: _, w0, _, _, _ => simp at w0
          | [b], w0, hk, htp, hK =>
            have e1 : stp fb (s i) [b] = [] := by simp only [stp, if_neg h0, if_neg h1, if_neg h2]
            have e2 : adF (s i) [b] = if b = true then amt (s i) else 0 := by
              unfold adF
              cases b
              · rw [if_neg (by simp)]; rfl
              · rw [if_pos ⟨by omega, rfl⟩]; rfl
            rw [e1, e2] at hK
            have e4 : mi 51 0 = bi b := hk.1
            have hfin : ∀ (a' : Int) (y8 y9 y10 y11 : Option PV), isL y8 = false → isL y9 = false → isL y10 = false → isL y11 = false → a' = a + (if b = true then amt (s i) else 0) → 300 * (n : Int) - 100000 ≤ a' → a' ≤ 100000 - 300 * n → Ok d 28 108 [some (pR (some 46)), some (pI p), some (pI t), some (pI a'), some (pI m), some (pI fr), some (pI 0), some (pI (i + 1)), y8, y9, y10, y11] [] G mi K := by
              intro a' y8 y9 y10 y11 r8 r9 r10 r11 haa b1 b2
              exact ih _ [] a' (i + 1) 0 _ _ _ _ r8 r9 r10 r11 hs hb trivial rfl (by decide) w2 (by omega) (by omega) (by omega) b1 b2 (fun mi' hsc => haa ▸ hK mi' hsc)
            rw [K28_108]
            cases b
            · simp only [bi, ↓reduceIte, Bool.false_eq_true] at e4 hfin
              simp (disch := first | assumption | exact isL_i | exact isL_r | exact isL_n | exact i01a | exact i01b | omega) only [K28_110, K28_112, K28_114, K28_115, K28_118, K28_119, K28_122, K28_124, K28_125, K28_127, K28_129, K28_226, K28_228, K28_229, K28_261, K28_263, K28_265, K28_347, K28_348, K28_350, K28_351, K28_354, K28_355, K28_356, K28_358, K28_359, K28_361, K28_364, K28_366, K28_369, K28_372, K28_374, K28_376, K28_377, K28_380, K28_381, K28_382, K28_383, K28_384, K28_386, K28_389, K28_391, K28_394, K28_397, K28_400, K28_402, K28_403, K28_406, K28_407, K28_408, K28_409, K28_412, K28_415, K28_416, g1, g2, g3, g11, g12, g15, g16, g18, wr_id, td_e, tm_e, pu_n, pu_s, up_s, up_k, up_a, ↓reduceIte, Int.reduceLT, Int.reduceLE, Int.reduceEq, Int.reduceNeg, Int.reduceAdd, Int.reduceSub, Int.reduceMul, Int.reduceMod, Int.reduceDiv, Int.cast_ofNat_Int, not_true_eq_false, not_false_eq_true, Int.reduceTDiv, Int.reduceTMod, if_pos, if_neg, hsi, e4, Int.add_zero, Int.sub_zero]
              exact hfin _ _ _ _ _ isL_i isL_i q10 q11 (by omega) (by omega) (by omega)
            · simp only [bi, ↓reduceIte] at e4 hfin
              by_cases h3 : -200 < s i
              · simp (disch := first | assumption | exact isL_i | exact isL_r | exact isL_n | exact i01a | exact i01b | omega) only [K28_110, K28_112, K28_114, K28_115, K28_118, K28_119, K28_122, K28_124, K28_125, K28_127, K28_129, K28_226, K28_228, K28_229, K28_261, K28_263, K28_265, K28_347, K28_348, K28_350, K28_351, K28_354, K28_355, K28_356, K28_358, K28_359, K28_361, K28_364, K28_366, K28_369, K28_372, K28_374, K28_376, K28_377, K28_380, K28_381, K28_382, K28_383, K28_384, K28_386, K28_389, K28_391, K28_394, K28_397, K28_400, K28_402, K28_403, K28_406, K28_407, K28_408, K28_409, K28_412, K28_415, K28_416, g1, g2, g3, g11, g12, g15, g16, g18, wr_id, td_e, tm_e, pu_n, pu_s, up_s, up_k, up_a, ↓reduceIte, Int.reduceLT, Int.reduceLE, Int.reduceEq, Int.reduceNeg, Int.reduceAdd, Int.reduceSub, Int.reduceMul, Int.reduceMod, Int.reduceDiv, Int.cast_ofNat_Int, not_true_eq_false, not_false_eq_true, Int.reduceTDiv, Int.reduceTMod, if_pos, if_neg, hsi, e4, Int.add_zero, Int.sub_zero]
                exact hfin _ _ _ _ _ isL_i isL_i q10 q11 (by unfold amt; rw [if_pos h3]) (by omega) (by omega)
              · simp (disch := first | assumption | exact isL_i | exact isL_r | exact isL_n | exact i01a | exact i01b | omega) only [K28_110, K28_112, K28_114, K28_115, K28_118, K28_119, K28_122, K28_124, K28_125, K28_127, K28_129, K28_226, K28_228, K28_229, K28_261, K28_263, K28_265, K28_347, K28_348, K28_350, K28_351, K28_354, K28_355, K28_356, K28_358, K28_359, K28_361, K28_364, K28_366, K28_369, K28_372, K28_374, K28_376, K28_377, K28_380, K28_381, K28_382, K28_383, K28_384, K28_386, K28_389, K28_391, K28_394, K28_397, K28_400, K28_402, K28_403, K28_406, K28_407, K28_408, K28_409, K28_412, K28_415, K28_416, g1, g2, g3, g11, g12, g15, g16, g18, wr_id, td_e, tm_e, pu_n, pu_s, up_s, up_k, up_a, ↓reduceIte, Int.reduceLT, Int.reduceLE, Int.reduceEq, Int.reduceNeg, Int.reduceAdd, Int.reduceSub, Int.reduceMul, Int.reduceMod, Int.reduceDiv, Int.cast_ofNat_Int, not_true_eq_false, not_false_eq_true, Int.reduceTDiv, Int.reduceTMod, if_pos, if_neg, hsi, e4, Int.add_zero, Int.sub_zero]
                exact hfin _ _ _ _ _ isL_i isL_i q10 q11 (by unfold amt; rw [if_neg h3]; omega) (by omega) (by omega)
end MO
