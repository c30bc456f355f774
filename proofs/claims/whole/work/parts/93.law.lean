/-! ===== the law: one call after another; printed by wip/whole/gen/genlaw.py ===== -/
theorem cmpL_s {r : Int} : cmpL r r = 0 := by unfold cmpL; rw [if_neg (Int.lt_irrefl r), if_pos rfl]
section LW
variable {d : Nat} {G : Gh} {mi : Mi} {K : Option PV → Gh → Mi → Prop} {i : Int}
theorem lw_feed (hI : LwI G mi) (h0 : 0 ≤ i) (h3 : i + 3 < gL G) (hL : gL G ≤ 2048)
    (J : ∀ G' mi', LwI G' mi' → gN G' ≤ gN G + 6 → gS G' ≤ gS G + 230 → gL G' = gL G → gX G' = gX G → Ok (d + 417) 217 1080 [some (pE 0), some (pR (some 0)), some (pR (some 46)), some (pI i)] [] G' mi' K) : Ok (d + 417) 217 176 [some (pE 0), some (pR (some 0)), some (pR (some 46)), some (pI i)] [] G mi K := by
  obtain ⟨⟨hN, hC, hG, hB1, hB19⟩, ⟨hR, hW⟩, -⟩ := id hI
  simp (disch := first | assumption | exact isL_i | exact isL_r | exact isL_n | exact i01a | exact i01b | omega) only [K217_176, K217_177, K217_178, K217_179, K217_180, K217_181, K217_181s, wr_id, td_e, tm_e, pu_n, pu_s, up_s, up_k, up_a, ↓reduceIte, Int.reduceLT, Int.reduceLE, Int.reduceEq, Int.reduceNeg, Int.reduceAdd, Int.reduceSub, Int.reduceMul, Int.reduceMod, Int.reduceDiv, Int.cast_ofNat_Int, not_true_eq_false, not_false_eq_true, Int.reduceTDiv, Int.reduceTMod]
  rw [K217_182 hC.2.2.1.1]
  refine c_feed (d := d + 411) hC hR hW fun m1 hR1 hs1 => ?_
  have e47 : m1 47 = mi 47 := hs1 47 (by decide)
  have hW1 : WfA (m1 47) := by rw [e47]; exact hW
  obtain ⟨⟨⟨z0, z1, z8, z9, z10, z11, z12, z13, z14, z15, z16⟩, hh01, hT, hz17⟩, hWV, hWD, hWB, hWP, hWT, hWZ, hWF, hWK⟩ := id hW1
  simp (disch := first | assumption | exact isL_i | exact isL_r | exact isL_n | exact i01a | exact i01b | omega) only [K217_185, K217_186, K217_187, K217_188, K217_189, K217_190, K217_190s, wr_id, td_e, tm_e, pu_n, pu_s, up_s, up_k, up_a, ↓reduceIte, Int.reduceLT, Int.reduceLE, Int.reduceEq, Int.reduceNeg, Int.reduceAdd, Int.reduceSub, Int.reduceMul, Int.reduceMod, Int.reduceDiv, Int.cast_ofNat_Int, not_true_eq_false, not_false_eq_true, Int.reduceTDiv, Int.reduceTMod, pu_s]
  rw [K217_191 hG.1.1]
  refine m_feed (d := d + 413) hG z16.1 z16.2 fun m2 e2 hs2 => ?_
  rw [e47] at e2 ⊢
  rw [pu_s, K217_194, if_pos rfl]
  exact J _ _ (hI.nx0 hs1 hR1 (wf_feed hW) e2 hs2) (by omega) (by omega) rfl rfl
theorem lw_view (hI : LwI G mi) (h0 : 0 ≤ i) (h3 : i + 3 < gL G) (hL : gL G ≤ 2048)
    (J : ∀ G' mi', LwI G' mi' → gN G' ≤ gN G + 6 → gS G' ≤ gS G + 230 → gL G' = gL G → gX G' = gX G → Ok (d + 417) 217 1080 [some (pE 0), some (pR (some 0)), some (pR (some 46)), some (pI i)] [] G' mi' K) : Ok (d + 417) 217 199 [some (pE 0), some (pR (some 0)), some (pR (some 46)), some (pI i)] [] G mi K := by
  obtain ⟨⟨hN, hC, hG, hB1, hB19⟩, ⟨hR, hW⟩, -⟩ := id hI
  simp (disch := first | assumption | exact isL_i | exact isL_r | exact isL_n | exact i01a | exact i01b | omega) only [K217_199, wr_id, td_e, tm_e, pu_n, pu_s, up_s, up_k, up_a, ↓reduceIte, Int.reduceLT, Int.reduceLE, Int.reduceEq, Int.reduceNeg, Int.reduceAdd, Int.reduceSub, Int.reduceMul, Int.reduceMod, Int.reduceDiv, Int.cast_ofNat_Int, not_true_eq_false, not_false_eq_true, Int.reduceTDiv, Int.reduceTMod]
  rw [K217_200 hC.2.2.1.1]
  refine c_view (d := d) hC hN hB1 hR hW fun G1 m1 hX hn1 hs1 h27 h191 hB hR1 hm1 => ?_
  have e47 : m1 47 = mi 47 := hm1 47 (by omega) (by decide)
  have hG1 : ShM G1 := hG.x hX hN
  have eL : gL G1 = gL G := hX.1.2.1
  have eX : gX G1 = gX G := hX.1.2.2
  have hW1 : WfA (m1 47) := by rw [e47]; exact hW
  obtain ⟨⟨⟨z0, z1, z8, z9, z10, z11, z12, z13, z14, z15, z16⟩, hh01, hT, hz17⟩, hWV, hWD, hWB, hWP, hWT, hWZ, hWF, hWK⟩ := id hW1
  have h3 : i + 3 < gL G1 := by rw [eL]; exact h3
  simp (disch := first | assumption | exact isL_i | exact isL_r | exact isL_n | exact i01a | exact i01b | omega) only [K217_203, wr_id, td_e, tm_e, pu_n, pu_s, up_s, up_k, up_a, ↓reduceIte, Int.reduceLT, Int.reduceLE, Int.reduceEq, Int.reduceNeg, Int.reduceAdd, Int.reduceSub, Int.reduceMul, Int.reduceMod, Int.reduceDiv, Int.cast_ofNat_Int, not_true_eq_false, not_false_eq_true, Int.reduceTDiv, Int.reduceTMod, pu_s, eX]
  rw [K217_204 hG1.1.1]
  refine m_view (d := d) hG1 z12.1 z12.2 z16.1 z16.2 hWT fun m2 e2 hs2 => ?_
  rw [e47] at e2 ⊢
  rw [pu_s, K217_207, if_pos rfl]
  exact J _ _ (hI.nx hX h27 h191 hB hm1 (hR1 _ e2) (wf_view hW e2) rfl hs2) (by omega) (by omega) eL eX
theorem lw_thing (hI : LwI G mi) (h0 : 0 ≤ i) (h3 : i + 3 < gL G) (hL : gL G ≤ 2048)
    (J : ∀ G' mi', LwI G' mi' → gN G' ≤ gN G + 6 → gS G' ≤ gS G + 230 → gL G' = gL G → gX G' = gX G → Ok (d + 417) 217 1080 [some (pE 0), some (pR (some 0)), some (pR (some 46)), some (pI i)] [] G' mi' K) : Ok (d + 417) 217 212 [some (pE 0), some (pR (some 0)), some (pR (some 46)), some (pI i)] [] G mi K := by
  obtain ⟨⟨hN, hC, hG, hB1, hB19⟩, ⟨hR, hW⟩, -⟩ := id hI
  simp (disch := first | assumption | exact isL_i | exact isL_r | exact isL_n | exact i01a | exact i01b | omega) only [K217_212, K217_213, K217_214, K217_215, K217_216, K217_217, K217_217s, K217_218, K217_219, K217_220, K217_221, K217_222, K217_222s, K217_223, K217_224, K217_225, K217_226, K217_227, K217_227s, wr_id, td_e, tm_e, pu_n, pu_s, up_s, up_k, up_a, ↓reduceIte, Int.reduceLT, Int.reduceLE, Int.reduceEq, Int.reduceNeg, Int.reduceAdd, Int.reduceSub, Int.reduceMul, Int.reduceMod, Int.reduceDiv, Int.cast_ofNat_Int, not_true_eq_false, not_false_eq_true, Int.reduceTDiv, Int.reduceTMod]
  rw [K217_228 hC.2.2.1.1]
  refine c_thing (d := d + 411) hC hN hB1 hR hW fun G1 m1 hX hn1 hs1 h27 h191 hB hR1 hm1 => ?_
  have e47 : m1 47 = mi 47 := hm1 47 (by omega) (by decide)
  have hG1 : ShM G1 := hG.x hX hN
  have eL : gL G1 = gL G := hX.1.2.1
  have eX : gX G1 = gX G := hX.1.2.2
  have hW1 : WfA (m1 47) := by rw [e47]; exact hW
  obtain ⟨⟨⟨z0, z1, z8, z9, z10, z11, z12, z13, z14, z15, z16⟩, hh01, hT, hz17⟩, hWV, hWD, hWB, hWP, hWT, hWZ, hWF, hWK⟩ := id hW1
  have h3 : i + 3 < gL G1 := by rw [eL]; exact h3
  simp (disch := first | assumption | exact isL_i | exact isL_r | exact isL_n | exact i01a | exact i01b | omega) only [K217_231, K217_232, K217_233, K217_234, K217_235, K217_236, K217_236s, K217_237, K217_238, K217_239, K217_240, K217_241, K217_241s, K217_242, K217_243, K217_244, K217_245, K217_246, K217_246s, wr_id, td_e, tm_e, pu_n, pu_s, up_s, up_k, up_a, ↓reduceIte, Int.reduceLT, Int.reduceLE, Int.reduceEq, Int.reduceNeg, Int.reduceAdd, Int.reduceSub, Int.reduceMul, Int.reduceMod, Int.reduceDiv, Int.cast_ofNat_Int, not_true_eq_false, not_false_eq_true, Int.reduceTDiv, Int.reduceTMod, pu_s, eX]
  rw [K217_247 hG1.1.1]
  refine m_thing (d := d + 413) hG1 z11.1 z11.2 fun m2 e2 hs2 => ?_
  rw [e47] at e2 ⊢
  rw [pu_s, K217_250, if_pos rfl]
  exact J _ _ (hI.nx hX h27 h191 hB hm1 hR1 (wf_thing hW) e2 hs2) (by omega) (by omega) eL eX
theorem lw_of (hI : LwI G mi) (h0 : 0 ≤ i) (h3 : i + 3 < gL G) (hL : gL G ≤ 2048)
    (J : ∀ G' mi', LwI G' mi' → gN G' ≤ gN G + 6 → gS G' ≤ gS G + 230 → gL G' = gL G → gX G' = gX G → Ok (d + 417) 217 1080 [some (pE 0), some (pR (some 0)), some (pR (some 46)), some (pI i)] [] G' mi' K) : Ok (d + 417) 217 255 [some (pE 0), some (pR (some 0)), some (pR (some 46)), some (pI i)] [] G mi K := by
  obtain ⟨⟨hN, hC, hG, hB1, hB19⟩, ⟨hR, hW⟩, -⟩ := id hI
  simp (disch := first | assumption | exact isL_i | exact isL_r | exact isL_n | exact i01a | exact i01b | omega) only [K217_255, K217_256, K217_257, K217_258, K217_259, K217_260, K217_260s, K217_261, K217_262, K217_263, K217_264, K217_265, K217_265s, wr_id, td_e, tm_e, pu_n, pu_s, up_s, up_k, up_a, ↓reduceIte, Int.reduceLT, Int.reduceLE, Int.reduceEq, Int.reduceNeg, Int.reduceAdd, Int.reduceSub, Int.reduceMul, Int.reduceMod, Int.reduceDiv, Int.cast_ofNat_Int, not_true_eq_false, not_false_eq_true, Int.reduceTDiv, Int.reduceTMod]
  have hW1 := hW
  obtain ⟨⟨⟨z0, z1, z8, z9, z10, z11, z12, z13, z14, z15, z16⟩, hh01, hT, hz17⟩, hWV, hWD, hWB, hWP, hWT, hWZ, hWF, hWK⟩ := id hW1
  rw [K217_266 hC.2.2.1.1, c_of (d := d + 411) hC hR hW]
  simp (disch := first | assumption | exact isL_i | exact isL_r | exact isL_n | exact i01a | exact i01b | omega) only [K217_269, K217_270, K217_271, K217_272, K217_273, K217_274, K217_274s, K217_275, K217_276, K217_277, K217_278, K217_279, K217_279s, wr_id, td_e, tm_e, pu_n, pu_s, up_s, up_k, up_a, ↓reduceIte, Int.reduceLT, Int.reduceLE, Int.reduceEq, Int.reduceNeg, Int.reduceAdd, Int.reduceSub, Int.reduceMul, Int.reduceMod, Int.reduceDiv, Int.cast_ofNat_Int, not_true_eq_false, not_false_eq_true, Int.reduceTDiv, Int.reduceTMod, pu_s]
  rw [K217_280 hG.1.1]
  refine m_of (d := d + 413) hG z11.1 z11.2 fun m2 e2 hs2 => ?_
  rw [pu_s, K217_283, if_pos rfl]
  exact J _ _ (hI.nx0 Sc.rf hR hW e2 hs2) (by omega) (by omega) rfl rfl
theorem lw_then (hI : LwI G mi) (h0 : 0 ≤ i) (h3 : i + 3 < gL G) (hL : gL G ≤ 2048)
    (J : ∀ G' mi', LwI G' mi' → gN G' ≤ gN G + 6 → gS G' ≤ gS G + 230 → gL G' = gL G → gX G' = gX G → Ok (d + 417) 217 1080 [some (pE 0), some (pR (some 0)), some (pR (some 46)), some (pI i)] [] G' mi' K) : Ok (d + 417) 217 288 [some (pE 0), some (pR (some 0)), some (pR (some 46)), some (pI i)] [] G mi K := by
  obtain ⟨⟨hN, hC, hG, hB1, hB19⟩, ⟨hR, hW⟩, -⟩ := id hI
  simp (disch := first | assumption | exact isL_i | exact isL_r | exact isL_n | exact i01a | exact i01b | omega) only [K217_288, K217_289, K217_290, K217_291, K217_292, K217_293, K217_293s, K217_294, K217_295, K217_296, K217_297, K217_298, K217_298s, K217_299, K217_300, K217_301, K217_302, K217_303, K217_303s, wr_id, td_e, tm_e, pu_n, pu_s, up_s, up_k, up_a, ↓reduceIte, Int.reduceLT, Int.reduceLE, Int.reduceEq, Int.reduceNeg, Int.reduceAdd, Int.reduceSub, Int.reduceMul, Int.reduceMod, Int.reduceDiv, Int.cast_ofNat_Int, not_true_eq_false, not_false_eq_true, Int.reduceTDiv, Int.reduceTMod]
  rw [K217_304 hC.2.2.1.1]
  refine c_then (d := d + 411) hC hR hW fun m1 hR1 hs1 => ?_
  have e47 : m1 47 = mi 47 := hs1 47 (by decide)
  have hW1 : WfA (m1 47) := by rw [e47]; exact hW
  obtain ⟨⟨⟨z0, z1, z8, z9, z10, z11, z12, z13, z14, z15, z16⟩, hh01, hT, hz17⟩, hWV, hWD, hWB, hWP, hWT, hWZ, hWF, hWK⟩ := id hW1
  simp (disch := first | assumption | exact isL_i | exact isL_r | exact isL_n | exact i01a | exact i01b | omega) only [K217_307, K217_308, K217_309, K217_310, K217_311, K217_312, K217_312s, K217_313, K217_314, K217_315, K217_316, K217_317, K217_317s, K217_318, K217_319, K217_320, K217_321, K217_322, K217_322s, wr_id, td_e, tm_e, pu_n, pu_s, up_s, up_k, up_a, ↓reduceIte, Int.reduceLT, Int.reduceLE, Int.reduceEq, Int.reduceNeg, Int.reduceAdd, Int.reduceSub, Int.reduceMul, Int.reduceMod, Int.reduceDiv, Int.cast_ofNat_Int, not_true_eq_false, not_false_eq_true, Int.reduceTDiv, Int.reduceTMod, pu_s]
  rw [K217_323 hG.1.1]
  refine m_then (d := d + 411) hG hW1.g z0.1 z0.2 fun m2 e2 hs2 => ?_
  rw [e47] at e2 ⊢
  rw [pu_s, K217_326, if_pos rfl]
  exact J _ _ (hI.nx0 hs1 hR1 hW e2 hs2) (by omega) (by omega) rfl rfl
theorem lw_row (hI : LwI G mi) (h0 : 0 ≤ i) (h3 : i + 3 < gL G) (hL : gL G ≤ 2048)
    (J : ∀ G' mi', LwI G' mi' → gN G' ≤ gN G + 6 → gS G' ≤ gS G + 230 → gL G' = gL G → gX G' = gX G → Ok (d + 417) 217 1080 [some (pE 0), some (pR (some 0)), some (pR (some 46)), some (pI i)] [] G' mi' K) : Ok (d + 417) 217 331 [some (pE 0), some (pR (some 0)), some (pR (some 46)), some (pI i)] [] G mi K := by
  obtain ⟨⟨hN, hC, hG, hB1, hB19⟩, ⟨hR, hW⟩, -⟩ := id hI
  simp (disch := first | assumption | exact isL_i | exact isL_r | exact isL_n | exact i01a | exact i01b | omega) only [K217_331, K217_332, K217_333, K217_334, K217_335, K217_336, K217_336s, K217_337, K217_338, K217_339, K217_340, K217_341, K217_341s, K217_342, K217_343, K217_344, K217_345, K217_346, K217_346s, wr_id, td_e, tm_e, pu_n, pu_s, up_s, up_k, up_a, ↓reduceIte, Int.reduceLT, Int.reduceLE, Int.reduceEq, Int.reduceNeg, Int.reduceAdd, Int.reduceSub, Int.reduceMul, Int.reduceMod, Int.reduceDiv, Int.cast_ofNat_Int, not_true_eq_false, not_false_eq_true, Int.reduceTDiv, Int.reduceTMod]
  rw [K217_347 hC.2.2.1.1]
  refine c_row (d := d + 411) hC hR hW fun m1 hR1 hs1 => ?_
  have e47 : m1 47 = mi 47 := hs1 47 (by decide)
  have hW1 : WfA (m1 47) := by rw [e47]; exact hW
  obtain ⟨⟨⟨z0, z1, z8, z9, z10, z11, z12, z13, z14, z15, z16⟩, hh01, hT, hz17⟩, hWV, hWD, hWB, hWP, hWT, hWZ, hWF, hWK⟩ := id hW1
  simp (disch := first | assumption | exact isL_i | exact isL_r | exact isL_n | exact i01a | exact i01b | omega) only [K217_350, K217_351, K217_352, K217_353, K217_354, K217_355, K217_355s, K217_356, K217_357, K217_358, K217_359, K217_360, K217_360s, K217_361, K217_362, K217_363, K217_364, K217_365, K217_365s, wr_id, td_e, tm_e, pu_n, pu_s, up_s, up_k, up_a, ↓reduceIte, Int.reduceLT, Int.reduceLE, Int.reduceEq, Int.reduceNeg, Int.reduceAdd, Int.reduceSub, Int.reduceMul, Int.reduceMod, Int.reduceDiv, Int.cast_ofNat_Int, not_true_eq_false, not_false_eq_true, Int.reduceTDiv, Int.reduceTMod, pu_s]
  rw [K217_366 hG.1.1]
  refine m_row (d := d + 413) hG z11.1 z11.2 fun m2 e2 hs2 => ?_
  rw [e47] at e2 ⊢
  rw [pu_s, K217_369, if_pos rfl]
  exact J _ _ (hI.nx0 hs1 hR1 (wf_row hW) e2 hs2) (by omega) (by omega) rfl rfl
theorem lw_move (hI : LwI G mi) (h0 : 0 ≤ i) (h3 : i + 3 < gL G) (hL : gL G ≤ 2048)
    (J : ∀ G' mi', LwI G' mi' → gN G' ≤ gN G + 6 → gS G' ≤ gS G + 230 → gL G' = gL G → gX G' = gX G → Ok (d + 417) 217 1080 [some (pE 0), some (pR (some 0)), some (pR (some 46)), some (pI i)] [] G' mi' K) : Ok (d + 417) 217 374 [some (pE 0), some (pR (some 0)), some (pR (some 46)), some (pI i)] [] G mi K := by
  obtain ⟨⟨hN, hC, hG, hB1, hB19⟩, ⟨hR, hW⟩, -⟩ := id hI
  simp (disch := first | assumption | exact isL_i | exact isL_r | exact isL_n | exact i01a | exact i01b | omega) only [K217_374, K217_375, K217_376, K217_377, K217_378, K217_379, K217_379s, K217_380, K217_381, K217_382, K217_383, K217_384, K217_384s, wr_id, td_e, tm_e, pu_n, pu_s, up_s, up_k, up_a, ↓reduceIte, Int.reduceLT, Int.reduceLE, Int.reduceEq, Int.reduceNeg, Int.reduceAdd, Int.reduceSub, Int.reduceMul, Int.reduceMod, Int.reduceDiv, Int.cast_ofNat_Int, not_true_eq_false, not_false_eq_true, Int.reduceTDiv, Int.reduceTMod]
  rw [K217_385 hC.2.2.1.1]
  refine c_move (d := d + 411) hC hR hW fun m1 hR1 hs1 => ?_
  have e47 : m1 47 = mi 47 := hs1 47 (by decide)
  have hW1 : WfA (m1 47) := by rw [e47]; exact hW
  obtain ⟨⟨⟨z0, z1, z8, z9, z10, z11, z12, z13, z14, z15, z16⟩, hh01, hT, hz17⟩, hWV, hWD, hWB, hWP, hWT, hWZ, hWF, hWK⟩ := id hW1
  simp (disch := first | assumption | exact isL_i | exact isL_r | exact isL_n | exact i01a | exact i01b | omega) only [K217_388, K217_389, K217_390, K217_391, K217_392, K217_393, K217_393s, K217_394, K217_395, K217_396, K217_397, K217_398, K217_398s, wr_id, td_e, tm_e, pu_n, pu_s, up_s, up_k, up_a, ↓reduceIte, Int.reduceLT, Int.reduceLE, Int.reduceEq, Int.reduceNeg, Int.reduceAdd, Int.reduceSub, Int.reduceMul, Int.reduceMod, Int.reduceDiv, Int.cast_ofNat_Int, not_true_eq_false, not_false_eq_true, Int.reduceTDiv, Int.reduceTMod, pu_s]
  rw [K217_399 hG.1.1]
  refine m_move (d := d + 413) hG z11.1 z11.2 fun m2 e2 hs2 => ?_
  rw [e47] at e2 ⊢
  rw [pu_s, K217_402, if_pos rfl]
  exact J _ _ (hI.nx0 hs1 hR1 (wf_move hW) e2 hs2) (by omega) (by omega) rfl rfl
theorem lw_had (hI : LwI G mi) (h0 : 0 ≤ i) (h3 : i + 3 < gL G) (hL : gL G ≤ 2048)
    (J : ∀ G' mi', LwI G' mi' → gN G' ≤ gN G + 6 → gS G' ≤ gS G + 230 → gL G' = gL G → gX G' = gX G → Ok (d + 417) 217 1080 [some (pE 0), some (pR (some 0)), some (pR (some 46)), some (pI i)] [] G' mi' K) : Ok (d + 417) 217 407 [some (pE 0), some (pR (some 0)), some (pR (some 46)), some (pI i)] [] G mi K := by
  obtain ⟨⟨hN, hC, hG, hB1, hB19⟩, ⟨hR, hW⟩, -⟩ := id hI
  by_cases hc : gX G (i + 2) = 0
  · simp (disch := first | assumption | exact isL_i | exact isL_r | exact isL_n | exact i01a | exact i01b | omega) only [K217_407, K217_408, K217_409, K217_410, K217_411, K217_412, K217_412s, K217_413, K217_414, K217_415, K217_416, K217_417, K217_417s, K217_418, K217_425, wr_id, td_e, tm_e, pu_n, pu_s, up_s, up_k, up_a, ↓reduceIte, Int.reduceLT, Int.reduceLE, Int.reduceEq, Int.reduceNeg, Int.reduceAdd, Int.reduceSub, Int.reduceMul, Int.reduceMod, Int.reduceDiv, Int.cast_ofNat_Int, not_true_eq_false, not_false_eq_true, Int.reduceTDiv, Int.reduceTMod, hc, if_pos, if_neg]
    rw [K217_426 hC.2.2.1.1]
    refine c_had (d := d + 411) (v := 0) hC hR hW (by decide) (by decide) fun m1 hR1 hs1 => ?_
    have e47 : m1 47 = mi 47 := hs1 47 (by decide)
    have hW1 : WfA (m1 47) := by rw [e47]; exact hW
    obtain ⟨⟨⟨z0, z1, z8, z9, z10, z11, z12, z13, z14, z15, z16⟩, hh01, hT, hz17⟩, hWV, hWD, hWB, hWP, hWT, hWZ, hWF, hWK⟩ := id hW1
    simp (disch := first | assumption | exact isL_i | exact isL_r | exact isL_n | exact i01a | exact i01b | omega) only [K217_429, K217_430, K217_431, K217_432, K217_433, K217_434, K217_434s, K217_435, K217_436, K217_437, K217_438, K217_439, K217_439s, K217_440, K217_447, wr_id, td_e, tm_e, pu_n, pu_s, up_s, up_k, up_a, ↓reduceIte, Int.reduceLT, Int.reduceLE, Int.reduceEq, Int.reduceNeg, Int.reduceAdd, Int.reduceSub, Int.reduceMul, Int.reduceMod, Int.reduceDiv, Int.cast_ofNat_Int, not_true_eq_false, not_false_eq_true, Int.reduceTDiv, Int.reduceTMod, pu_s, hc, if_pos, if_neg]
    rw [K217_448 hG.1.1]
    refine m_had (d := d + 413) hG z11.1 z11.2 fun m2 e2 hs2 => ?_
    rw [e47] at e2 ⊢
    rw [pu_s, K217_451, if_pos rfl]
    exact J _ _ (hI.nx0 hs1 hR1 (wf_had hW) e2 hs2) (by omega) (by omega) rfl rfl
  · simp (disch := first | assumption | exact isL_i | exact isL_r | exact isL_n | exact i01a | exact i01b | omega) only [K217_407, K217_408, K217_409, K217_410, K217_411, K217_412, K217_412s, K217_413, K217_414, K217_415, K217_416, K217_417, K217_417s, K217_418, K217_421, K217_422, wr_id, td_e, tm_e, pu_n, pu_s, up_s, up_k, up_a, ↓reduceIte, Int.reduceLT, Int.reduceLE, Int.reduceEq, Int.reduceNeg, Int.reduceAdd, Int.reduceSub, Int.reduceMul, Int.reduceMod, Int.reduceDiv, Int.cast_ofNat_Int, not_true_eq_false, not_false_eq_true, Int.reduceTDiv, Int.reduceTMod, hc, if_pos, if_neg]
    rw [K217_426 hC.2.2.1.1]
    refine c_had (d := d + 411) (v := 1) hC hR hW (by decide) (by decide) fun m1 hR1 hs1 => ?_
    have e47 : m1 47 = mi 47 := hs1 47 (by decide)
    have hW1 : WfA (m1 47) := by rw [e47]; exact hW
    obtain ⟨⟨⟨z0, z1, z8, z9, z10, z11, z12, z13, z14, z15, z16⟩, hh01, hT, hz17⟩, hWV, hWD, hWB, hWP, hWT, hWZ, hWF, hWK⟩ := id hW1
    simp (disch := first | assumption | exact isL_i | exact isL_r | exact isL_n | exact i01a | exact i01b | omega) only [K217_429, K217_430, K217_431, K217_432, K217_433, K217_434, K217_434s, K217_435, K217_436, K217_437, K217_438, K217_439, K217_439s, K217_440, K217_443, K217_444, wr_id, td_e, tm_e, pu_n, pu_s, up_s, up_k, up_a, ↓reduceIte, Int.reduceLT, Int.reduceLE, Int.reduceEq, Int.reduceNeg, Int.reduceAdd, Int.reduceSub, Int.reduceMul, Int.reduceMod, Int.reduceDiv, Int.cast_ofNat_Int, not_true_eq_false, not_false_eq_true, Int.reduceTDiv, Int.reduceTMod, pu_s, hc, if_pos, if_neg]
    rw [K217_448 hG.1.1]
    refine m_had (d := d + 413) hG z11.1 z11.2 fun m2 e2 hs2 => ?_
    rw [e47] at e2 ⊢
    rw [pu_s, K217_451, if_pos rfl]
    exact J _ _ (hI.nx0 hs1 hR1 (wf_had hW) e2 hs2) (by omega) (by omega) rfl rfl
theorem lw_point (hI : LwI G mi) (h0 : 0 ≤ i) (h3 : i + 3 < gL G) (hL : gL G ≤ 2048)
    (J : ∀ G' mi', LwI G' mi' → gN G' ≤ gN G + 6 → gS G' ≤ gS G + 230 → gL G' = gL G → gX G' = gX G → Ok (d + 417) 217 1080 [some (pE 0), some (pR (some 0)), some (pR (some 46)), some (pI i)] [] G' mi' K) : Ok (d + 417) 217 456 [some (pE 0), some (pR (some 0)), some (pR (some 46)), some (pI i)] [] G mi K := by
  obtain ⟨⟨hN, hC, hG, hB1, hB19⟩, ⟨hR, hW⟩, -⟩ := id hI
  simp (disch := first | assumption | exact isL_i | exact isL_r | exact isL_n | exact i01a | exact i01b | omega) only [K217_456, K217_457, K217_458, K217_459, K217_460, K217_461, K217_461s, wr_id, td_e, tm_e, pu_n, pu_s, up_s, up_k, up_a, ↓reduceIte, Int.reduceLT, Int.reduceLE, Int.reduceEq, Int.reduceNeg, Int.reduceAdd, Int.reduceSub, Int.reduceMul, Int.reduceMod, Int.reduceDiv, Int.cast_ofNat_Int, not_true_eq_false, not_false_eq_true, Int.reduceTDiv, Int.reduceTMod]
  rw [K217_462 hC.2.2.1.1]
  refine c_point (d := d + 411) hC hR hW fun m1 hR1 hs1 => ?_
  have e47 : m1 47 = mi 47 := hs1 47 (by decide)
  have hW1 : WfA (m1 47) := by rw [e47]; exact hW
  obtain ⟨⟨⟨z0, z1, z8, z9, z10, z11, z12, z13, z14, z15, z16⟩, hh01, hT, hz17⟩, hWV, hWD, hWB, hWP, hWT, hWZ, hWF, hWK⟩ := id hW1
  simp (disch := first | assumption | exact isL_i | exact isL_r | exact isL_n | exact i01a | exact i01b | omega) only [K217_465, K217_466, K217_467, K217_468, K217_469, K217_470, K217_470s, wr_id, td_e, tm_e, pu_n, pu_s, up_s, up_k, up_a, ↓reduceIte, Int.reduceLT, Int.reduceLE, Int.reduceEq, Int.reduceNeg, Int.reduceAdd, Int.reduceSub, Int.reduceMul, Int.reduceMod, Int.reduceDiv, Int.cast_ofNat_Int, not_true_eq_false, not_false_eq_true, Int.reduceTDiv, Int.reduceTMod, pu_s]
  rw [K217_471 hG.1.1]
  refine m_point (d := d + 413) hG fun m2 e2 hs2 => ?_
  rw [e47] at e2 ⊢
  rw [pu_s, K217_474, if_pos rfl]
  exact J _ _ (hI.nx0 hs1 hR1 (wf_point hW) e2 hs2) (by omega) (by omega) rfl rfl
theorem lw_told (hI : LwI G mi) (h0 : 0 ≤ i) (h3 : i + 3 < gL G) (hL : gL G ≤ 2048)
    (J : ∀ G' mi', LwI G' mi' → gN G' ≤ gN G + 6 → gS G' ≤ gS G + 230 → gL G' = gL G → gX G' = gX G → Ok (d + 417) 217 1080 [some (pE 0), some (pR (some 0)), some (pR (some 46)), some (pI i)] [] G' mi' K) : Ok (d + 417) 217 479 [some (pE 0), some (pR (some 0)), some (pR (some 46)), some (pI i)] [] G mi K := by
  obtain ⟨⟨hN, hC, hG, hB1, hB19⟩, ⟨hR, hW⟩, -⟩ := id hI
  simp (disch := first | assumption | exact isL_i | exact isL_r | exact isL_n | exact i01a | exact i01b | omega) only [K217_479, K217_480, K217_481, K217_482, K217_483, K217_484, K217_484s, wr_id, td_e, tm_e, pu_n, pu_s, up_s, up_k, up_a, ↓reduceIte, Int.reduceLT, Int.reduceLE, Int.reduceEq, Int.reduceNeg, Int.reduceAdd, Int.reduceSub, Int.reduceMul, Int.reduceMod, Int.reduceDiv, Int.cast_ofNat_Int, not_true_eq_false, not_false_eq_true, Int.reduceTDiv, Int.reduceTMod]
  have hW1 := hW
  obtain ⟨⟨⟨z0, z1, z8, z9, z10, z11, z12, z13, z14, z15, z16⟩, hh01, hT, hz17⟩, hWV, hWD, hWB, hWP, hWT, hWZ, hWF, hWK⟩ := id hW1
  rw [K217_485 hC.2.2.1.1, c_told (d := d + 411) hC hR hW]
  simp (disch := first | assumption | exact isL_i | exact isL_r | exact isL_n | exact i01a | exact i01b | omega) only [K217_488, K217_489, K217_490, K217_491, K217_492, K217_493, K217_493s, wr_id, td_e, tm_e, pu_n, pu_s, up_s, up_k, up_a, ↓reduceIte, Int.reduceLT, Int.reduceLE, Int.reduceEq, Int.reduceNeg, Int.reduceAdd, Int.reduceSub, Int.reduceMul, Int.reduceMod, Int.reduceDiv, Int.cast_ofNat_Int, not_true_eq_false, not_false_eq_true, Int.reduceTDiv, Int.reduceTMod, pu_s]
  rw [K217_494 hG.1.1, m_told (d := d + 413) hG hWV hz17.1 hz17.2.1 z8.1 z8.2 z11.1 z11.2 hh01 (fun p h0 h1 => (hWZ p h0 h1).1)]
  rw [pu_s, K217_497, if_pos rfl]
  exact J _ _ (hI.nx0 Sc.rf hR hW rfl ScM.rf) (by omega) (by omega) rfl rfl
theorem lw_pay (hI : LwI G mi) (h0 : 0 ≤ i) (h3 : i + 3 < gL G) (hL : gL G ≤ 2048)
    (J : ∀ G' mi', LwI G' mi' → gN G' ≤ gN G + 6 → gS G' ≤ gS G + 230 → gL G' = gL G → gX G' = gX G → Ok (d + 417) 217 1080 [some (pE 0), some (pR (some 0)), some (pR (some 46)), some (pI i)] [] G' mi' K) : Ok (d + 417) 217 502 [some (pE 0), some (pR (some 0)), some (pR (some 46)), some (pI i)] [] G mi K := by
  obtain ⟨⟨hN, hC, hG, hB1, hB19⟩, ⟨hR, hW⟩, -⟩ := id hI
  simp (disch := first | assumption | exact isL_i | exact isL_r | exact isL_n | exact i01a | exact i01b | omega) only [K217_502, wr_id, td_e, tm_e, pu_n, pu_s, up_s, up_k, up_a, ↓reduceIte, Int.reduceLT, Int.reduceLE, Int.reduceEq, Int.reduceNeg, Int.reduceAdd, Int.reduceSub, Int.reduceMul, Int.reduceMod, Int.reduceDiv, Int.cast_ofNat_Int, not_true_eq_false, not_false_eq_true, Int.reduceTDiv, Int.reduceTMod]
  rw [K217_503 hC.2.2.1.1]
  refine c_pay (d := d + 411) hC hR hW fun m1 hR1 hs1 => ?_
  have e47 : m1 47 = mi 47 := hs1 47 (by decide)
  have hW1 : WfA (m1 47) := by rw [e47]; exact hW
  obtain ⟨⟨⟨z0, z1, z8, z9, z10, z11, z12, z13, z14, z15, z16⟩, hh01, hT, hz17⟩, hWV, hWD, hWB, hWP, hWT, hWZ, hWF, hWK⟩ := id hW1
  simp (disch := first | assumption | exact isL_i | exact isL_r | exact isL_n | exact i01a | exact i01b | omega) only [K217_506, wr_id, td_e, tm_e, pu_n, pu_s, up_s, up_k, up_a, ↓reduceIte, Int.reduceLT, Int.reduceLE, Int.reduceEq, Int.reduceNeg, Int.reduceAdd, Int.reduceSub, Int.reduceMul, Int.reduceMod, Int.reduceDiv, Int.cast_ofNat_Int, not_true_eq_false, not_false_eq_true, Int.reduceTDiv, Int.reduceTMod, pu_s]
  rw [K217_507 hG.1.1]
  refine m_pay (d := d + 413) hG hWV hz17.1 hz17.2.1 z8.1 z8.2 z9.1 z9.2 fun m2 e2 hs2 => ?_
  rw [e47] at e2 ⊢
  rw [pu_s, K217_510, if_pos rfl]
  exact J _ _ (hI.nx0 hs1 hR1 (wf_pay hW) e2 hs2) (by omega) (by omega) rfl rfl
theorem lw_tick (hI : LwI G mi) (h0 : 0 ≤ i) (h3 : i + 3 < gL G) (hL : gL G ≤ 2048)
    (J : ∀ G' mi', LwI G' mi' → gN G' ≤ gN G + 6 → gS G' ≤ gS G + 230 → gL G' = gL G → gX G' = gX G → Ok (d + 417) 217 1080 [some (pE 0), some (pR (some 0)), some (pR (some 46)), some (pI i)] [] G' mi' K) : Ok (d + 417) 217 515 [some (pE 0), some (pR (some 0)), some (pR (some 46)), some (pI i)] [] G mi K := by
  obtain ⟨⟨hN, hC, hG, hB1, hB19⟩, ⟨hR, hW⟩, -⟩ := id hI
  simp (disch := first | assumption | exact isL_i | exact isL_r | exact isL_n | exact i01a | exact i01b | omega) only [K217_515, K217_516, K217_517, K217_518, K217_519, K217_520, K217_520s, wr_id, td_e, tm_e, pu_n, pu_s, up_s, up_k, up_a, ↓reduceIte, Int.reduceLT, Int.reduceLE, Int.reduceEq, Int.reduceNeg, Int.reduceAdd, Int.reduceSub, Int.reduceMul, Int.reduceMod, Int.reduceDiv, Int.cast_ofNat_Int, not_true_eq_false, not_false_eq_true, Int.reduceTDiv, Int.reduceTMod]
  rw [K217_521 hC.2.2.1.1]
  refine c_tick (d := d + 404) hC hR hW fun m1 hR1 hs1 => ?_
  have e47 : m1 47 = mi 47 := hs1 47 (by decide)
  have hW1 : WfA (m1 47) := by rw [e47]; exact hW
  obtain ⟨⟨⟨z0, z1, z8, z9, z10, z11, z12, z13, z14, z15, z16⟩, hh01, hT, hz17⟩, hWV, hWD, hWB, hWP, hWT, hWZ, hWF, hWK⟩ := id hW1
  simp (disch := first | assumption | exact isL_i | exact isL_r | exact isL_n | exact i01a | exact i01b | omega) only [K217_524, K217_525, K217_526, K217_527, K217_528, K217_529, K217_529s, wr_id, td_e, tm_e, pu_n, pu_s, up_s, up_k, up_a, ↓reduceIte, Int.reduceLT, Int.reduceLE, Int.reduceEq, Int.reduceNeg, Int.reduceAdd, Int.reduceSub, Int.reduceMul, Int.reduceMod, Int.reduceDiv, Int.cast_ofNat_Int, not_true_eq_false, not_false_eq_true, Int.reduceTDiv, Int.reduceTMod, pu_s]
  rw [K217_530 hG.1.1]
  refine m_tick (d := d + 412) hG hW1.g z8.1 z8.2 z0.1 z0.2 z1.1 z1.2 z10.1 z10.2 fun m2 e2 hs2 => ?_
  rw [e47] at e2 ⊢
  rw [pu_s, K217_533, if_pos rfl]
  exact J _ _ (hI.nx0 hs1 hR1 (wf_tick hW) e2 hs2) (by omega) (by omega) rfl rfl
theorem lw_pass (hI : LwI G mi) (h0 : 0 ≤ i) (h3 : i + 3 < gL G) (hL : gL G ≤ 2048)
    (J : ∀ G' mi', LwI G' mi' → gN G' ≤ gN G + 6 → gS G' ≤ gS G + 230 → gL G' = gL G → gX G' = gX G → Ok (d + 417) 217 1080 [some (pE 0), some (pR (some 0)), some (pR (some 46)), some (pI i)] [] G' mi' K) : Ok (d + 417) 217 538 [some (pE 0), some (pR (some 0)), some (pR (some 46)), some (pI i)] [] G mi K := by
  obtain ⟨⟨hN, hC, hG, hB1, hB19⟩, ⟨hR, hW⟩, -⟩ := id hI
  simp (disch := first | assumption | exact isL_i | exact isL_r | exact isL_n | exact i01a | exact i01b | omega) only [K217_538, K217_539, K217_540, K217_541, K217_542, K217_543, K217_543s, wr_id, td_e, tm_e, pu_n, pu_s, up_s, up_k, up_a, ↓reduceIte, Int.reduceLT, Int.reduceLE, Int.reduceEq, Int.reduceNeg, Int.reduceAdd, Int.reduceSub, Int.reduceMul, Int.reduceMod, Int.reduceDiv, Int.cast_ofNat_Int, not_true_eq_false, not_false_eq_true, Int.reduceTDiv, Int.reduceTMod]
  rw [K217_544 hC.2.2.1.1]
  refine c_pass (d := d + 411) hC hR hW fun m1 hR1 hs1 => ?_
  have e47 : m1 47 = mi 47 := hs1 47 (by decide)
  have hW1 : WfA (m1 47) := by rw [e47]; exact hW
  obtain ⟨⟨⟨z0, z1, z8, z9, z10, z11, z12, z13, z14, z15, z16⟩, hh01, hT, hz17⟩, hWV, hWD, hWB, hWP, hWT, hWZ, hWF, hWK⟩ := id hW1
  simp (disch := first | assumption | exact isL_i | exact isL_r | exact isL_n | exact i01a | exact i01b | omega) only [K217_547, K217_548, K217_549, K217_550, K217_551, K217_552, K217_552s, wr_id, td_e, tm_e, pu_n, pu_s, up_s, up_k, up_a, ↓reduceIte, Int.reduceLT, Int.reduceLE, Int.reduceEq, Int.reduceNeg, Int.reduceAdd, Int.reduceSub, Int.reduceMul, Int.reduceMod, Int.reduceDiv, Int.cast_ofNat_Int, not_true_eq_false, not_false_eq_true, Int.reduceTDiv, Int.reduceTMod, pu_s]
  rw [K217_553 hG.1.1]
  refine m_pass (d := d + 413) hG z0.1 z0.2 z8.1 z8.2 fun m2 e2 hs2 => ?_
  rw [e47] at e2 ⊢
  rw [pu_s, K217_556, if_pos rfl]
  exact J _ _ (hI.nx0 hs1 hR1 (wf_pass hW) e2 hs2) (by omega) (by omega) rfl rfl
theorem lw_look (hI : LwI G mi) (h0 : 0 ≤ i) (h3 : i + 3 < gL G) (hL : gL G ≤ 2048)
    (J : ∀ G' mi', LwI G' mi' → gN G' ≤ gN G + 6 → gS G' ≤ gS G + 230 → gL G' = gL G → gX G' = gX G → Ok (d + 417) 217 1080 [some (pE 0), some (pR (some 0)), some (pR (some 46)), some (pI i)] [] G' mi' K) : Ok (d + 417) 217 561 [some (pE 0), some (pR (some 0)), some (pR (some 46)), some (pI i)] [] G mi K := by
  obtain ⟨⟨hN, hC, hG, hB1, hB19⟩, ⟨hR, hW⟩, -⟩ := id hI
  simp (disch := first | assumption | exact isL_i | exact isL_r | exact isL_n | exact i01a | exact i01b | omega) only [K217_561, K217_562, K217_563, K217_564, K217_565, K217_566, K217_566s, K217_567, K217_568, K217_569, K217_570, K217_571, K217_571s, wr_id, td_e, tm_e, pu_n, pu_s, up_s, up_k, up_a, ↓reduceIte, Int.reduceLT, Int.reduceLE, Int.reduceEq, Int.reduceNeg, Int.reduceAdd, Int.reduceSub, Int.reduceMul, Int.reduceMod, Int.reduceDiv, Int.cast_ofNat_Int, not_true_eq_false, not_false_eq_true, Int.reduceTDiv, Int.reduceTMod]
  rw [K217_572 hC.2.2.1.1]
  refine c_look (d := d + 404) hC hR hW fun m1 hR1 hs1 => ?_
  have e47 : m1 47 = mi 47 := hs1 47 (by decide)
  have hW1 : WfA (m1 47) := by rw [e47]; exact hW
  obtain ⟨⟨⟨z0, z1, z8, z9, z10, z11, z12, z13, z14, z15, z16⟩, hh01, hT, hz17⟩, hWV, hWD, hWB, hWP, hWT, hWZ, hWF, hWK⟩ := id hW1
  simp (disch := first | assumption | exact isL_i | exact isL_r | exact isL_n | exact i01a | exact i01b | omega) only [K217_575, K217_576, K217_577, K217_578, K217_579, K217_580, K217_580s, K217_581, K217_582, K217_583, K217_584, K217_585, K217_585s, wr_id, td_e, tm_e, pu_n, pu_s, up_s, up_k, up_a, ↓reduceIte, Int.reduceLT, Int.reduceLE, Int.reduceEq, Int.reduceNeg, Int.reduceAdd, Int.reduceSub, Int.reduceMul, Int.reduceMod, Int.reduceDiv, Int.cast_ofNat_Int, not_true_eq_false, not_false_eq_true, Int.reduceTDiv, Int.reduceTMod, pu_s]
  rw [K217_586 hG.1.1]
  refine m_look (d := d + 411) hG hW1.g z0.1 z0.2 z1.1 z1.2 fun m2 e2 hs2 => ?_
  rw [e47] at e2 ⊢
  rw [pu_s, K217_589, if_pos rfl]
  exact J _ _ (hI.nx0 hs1 hR1 hW e2 hs2) (by omega) (by omega) rfl rfl
theorem lw_aim (hI : LwI G mi) (h0 : 0 ≤ i) (h3 : i + 3 < gL G) (hL : gL G ≤ 2048)
    (J : ∀ G' mi', LwI G' mi' → gN G' ≤ gN G + 6 → gS G' ≤ gS G + 230 → gL G' = gL G → gX G' = gX G → Ok (d + 417) 217 1080 [some (pE 0), some (pR (some 0)), some (pR (some 46)), some (pI i)] [] G' mi' K) : Ok (d + 417) 217 594 [some (pE 0), some (pR (some 0)), some (pR (some 46)), some (pI i)] [] G mi K := by
  obtain ⟨⟨hN, hC, hG, hB1, hB19⟩, ⟨hR, hW⟩, -⟩ := id hI
  simp (disch := first | assumption | exact isL_i | exact isL_r | exact isL_n | exact i01a | exact i01b | omega) only [K217_594, K217_595, K217_596, K217_597, K217_598, K217_599, K217_599s, K217_600, K217_601, K217_602, K217_603, K217_604, K217_604s, wr_id, td_e, tm_e, pu_n, pu_s, up_s, up_k, up_a, ↓reduceIte, Int.reduceLT, Int.reduceLE, Int.reduceEq, Int.reduceNeg, Int.reduceAdd, Int.reduceSub, Int.reduceMul, Int.reduceMod, Int.reduceDiv, Int.cast_ofNat_Int, not_true_eq_false, not_false_eq_true, Int.reduceTDiv, Int.reduceTMod]
  rw [K217_605 hC.2.2.1.1]
  refine c_aim (d := d + 404) hC hR hW fun m1 hR1 hs1 => ?_
  have e47 : m1 47 = mi 47 := hs1 47 (by decide)
  have hW1 : WfA (m1 47) := by rw [e47]; exact hW
  obtain ⟨⟨⟨z0, z1, z8, z9, z10, z11, z12, z13, z14, z15, z16⟩, hh01, hT, hz17⟩, hWV, hWD, hWB, hWP, hWT, hWZ, hWF, hWK⟩ := id hW1
  simp (disch := first | assumption | exact isL_i | exact isL_r | exact isL_n | exact i01a | exact i01b | omega) only [K217_608, K217_609, K217_610, K217_611, K217_612, K217_613, K217_613s, K217_614, K217_615, K217_616, K217_617, K217_618, K217_618s, wr_id, td_e, tm_e, pu_n, pu_s, up_s, up_k, up_a, ↓reduceIte, Int.reduceLT, Int.reduceLE, Int.reduceEq, Int.reduceNeg, Int.reduceAdd, Int.reduceSub, Int.reduceMul, Int.reduceMod, Int.reduceDiv, Int.cast_ofNat_Int, not_true_eq_false, not_false_eq_true, Int.reduceTDiv, Int.reduceTMod, pu_s]
  rw [K217_619 hG.1.1]
  refine m_aim (d := d + 411) hG hW1.g z0.1 z0.2 fun m2 e2 hs2 => ?_
  rw [e47] at e2 ⊢
  rw [pu_s, K217_622, if_pos rfl]
  exact J _ _ (hI.nx0 hs1 hR1 hW e2 hs2) (by omega) (by omega) rfl rfl
theorem lw_soon (hI : LwI G mi) (h0 : 0 ≤ i) (h3 : i + 3 < gL G) (hL : gL G ≤ 2048)
    (J : ∀ G' mi', LwI G' mi' → gN G' ≤ gN G + 6 → gS G' ≤ gS G + 230 → gL G' = gL G → gX G' = gX G → Ok (d + 417) 217 1080 [some (pE 0), some (pR (some 0)), some (pR (some 46)), some (pI i)] [] G' mi' K) : Ok (d + 417) 217 627 [some (pE 0), some (pR (some 0)), some (pR (some 46)), some (pI i)] [] G mi K := by
  obtain ⟨⟨hN, hC, hG, hB1, hB19⟩, ⟨hR, hW⟩, -⟩ := id hI
  simp (disch := first | assumption | exact isL_i | exact isL_r | exact isL_n | exact i01a | exact i01b | omega) only [K217_627, K217_628, K217_629, K217_630, K217_631, K217_632, K217_632s, wr_id, td_e, tm_e, pu_n, pu_s, up_s, up_k, up_a, ↓reduceIte, Int.reduceLT, Int.reduceLE, Int.reduceEq, Int.reduceNeg, Int.reduceAdd, Int.reduceSub, Int.reduceMul, Int.reduceMod, Int.reduceDiv, Int.cast_ofNat_Int, not_true_eq_false, not_false_eq_true, Int.reduceTDiv, Int.reduceTMod]
  have hW1 := hW
  obtain ⟨⟨⟨z0, z1, z8, z9, z10, z11, z12, z13, z14, z15, z16⟩, hh01, hT, hz17⟩, hWV, hWD, hWB, hWP, hWT, hWZ, hWF, hWK⟩ := id hW1
  rw [K217_633 hC.2.2.1.1, c_soon (d := d + 411) hC hR hW]
  simp (disch := first | assumption | exact isL_i | exact isL_r | exact isL_n | exact i01a | exact i01b | omega) only [K217_636, K217_637, K217_638, K217_639, K217_640, K217_641, K217_641s, wr_id, td_e, tm_e, pu_n, pu_s, up_s, up_k, up_a, ↓reduceIte, Int.reduceLT, Int.reduceLE, Int.reduceEq, Int.reduceNeg, Int.reduceAdd, Int.reduceSub, Int.reduceMul, Int.reduceMod, Int.reduceDiv, Int.cast_ofNat_Int, not_true_eq_false, not_false_eq_true, Int.reduceTDiv, Int.reduceTMod, pu_s]
  rw [K217_642 hG.1.1]
  refine m_soon (d := d + 413) hG hT hz17.1 hz17.2.1 z11.1 z11.2 z0.1 z0.2 z1.1 z1.2 fun m2 e2 hs2 => ?_
  rw [pu_s, K217_645, if_pos rfl]
  exact J _ _ (hI.nx0 Sc.rf hR hW e2 hs2) (by omega) (by omega) rfl rfl
theorem lw_order (hI : LwI G mi) (h0 : 0 ≤ i) (h3 : i + 3 < gL G) (hL : gL G ≤ 2048)
    (J : ∀ G' mi', LwI G' mi' → gN G' ≤ gN G + 6 → gS G' ≤ gS G + 230 → gL G' = gL G → gX G' = gX G → Ok (d + 417) 217 1080 [some (pE 0), some (pR (some 0)), some (pR (some 46)), some (pI i)] [] G' mi' K) : Ok (d + 417) 217 650 [some (pE 0), some (pR (some 0)), some (pR (some 46)), some (pI i)] [] G mi K := by
  obtain ⟨⟨hN, hC, hG, hB1, hB19⟩, ⟨hR, hW⟩, -⟩ := id hI
  simp (disch := first | assumption | exact isL_i | exact isL_r | exact isL_n | exact i01a | exact i01b | omega) only [K217_650, K217_651, K217_652, K217_653, K217_654, K217_655, K217_655s, wr_id, td_e, tm_e, pu_n, pu_s, up_s, up_k, up_a, ↓reduceIte, Int.reduceLT, Int.reduceLE, Int.reduceEq, Int.reduceNeg, Int.reduceAdd, Int.reduceSub, Int.reduceMul, Int.reduceMod, Int.reduceDiv, Int.cast_ofNat_Int, not_true_eq_false, not_false_eq_true, Int.reduceTDiv, Int.reduceTMod]
  rw [K217_656 hC.2.2.1.1]
  refine c_order (d := d + 402) (bo := mi 53) hC hR hW fun m1 hR1 hs1 => ?_
  have e47 : m1 47 = mi 47 := hs1 47 (by decide)
  have e53 : m1 53 = mi 53 := hs1 53 (by decide)
  have hW1 : WfA (m1 47) := by rw [e47]; exact hW
  obtain ⟨⟨⟨z0, z1, z8, z9, z10, z11, z12, z13, z14, z15, z16⟩, hh01, hT, hz17⟩, hWV, hWD, hWB, hWP, hWT, hWZ, hWF, hWK⟩ := id hW1
  simp (disch := first | assumption | exact isL_i | exact isL_r | exact isL_n | exact i01a | exact i01b | omega) only [K217_659, K217_660, K217_661, K217_662, K217_663, K217_664, K217_664s, wr_id, td_e, tm_e, pu_n, pu_s, up_s, up_k, up_a, ↓reduceIte, Int.reduceLT, Int.reduceLE, Int.reduceEq, Int.reduceNeg, Int.reduceAdd, Int.reduceSub, Int.reduceMul, Int.reduceMod, Int.reduceDiv, Int.cast_ofNat_Int, not_true_eq_false, not_false_eq_true, Int.reduceTDiv, Int.reduceTMod, pu_s]
  rw [K217_665 hG.1.1]
  refine m_order (d := d + 406) hG hT hz17.1 hz17.2.1 z11.1 z11.2 z0.1 z0.2 z1.1 z1.2 hh01 (fun p h0 h1 => (hWZ p h0 h1).1) fun m2 e2 hs2 => ?_
  rw [e47] at e2
  rw [e47, e53]
  rw [pu_s, K217_668, if_pos rfl]
  exact J _ _ (hI.nx0 hs1 hR1 hW e2 hs2) (by omega) (by omega) rfl rfl
theorem lw_stood (hI : LwI G mi) (h0 : 0 ≤ i) (h3 : i + 3 < gL G) (hL : gL G ≤ 2048)
    (J : ∀ G' mi', LwI G' mi' → gN G' ≤ gN G + 6 → gS G' ≤ gS G + 230 → gL G' = gL G → gX G' = gX G → Ok (d + 417) 217 1080 [some (pE 0), some (pR (some 0)), some (pR (some 46)), some (pI i)] [] G' mi' K) : Ok (d + 417) 217 673 [some (pE 0), some (pR (some 0)), some (pR (some 46)), some (pI i)] [] G mi K := by
  obtain ⟨⟨hN, hC, hG, hB1, hB19⟩, ⟨hR, hW⟩, -⟩ := id hI
  simp (disch := first | assumption | exact isL_i | exact isL_r | exact isL_n | exact i01a | exact i01b | omega) only [K217_673, K217_674, K217_675, K217_676, K217_677, K217_678, K217_678s, K217_679, K217_680, K217_681, K217_682, K217_683, K217_683s, K217_684, K217_685, K217_686, K217_687, K217_688, K217_688s, wr_id, td_e, tm_e, pu_n, pu_s, up_s, up_k, up_a, ↓reduceIte, Int.reduceLT, Int.reduceLE, Int.reduceEq, Int.reduceNeg, Int.reduceAdd, Int.reduceSub, Int.reduceMul, Int.reduceMod, Int.reduceDiv, Int.cast_ofNat_Int, not_true_eq_false, not_false_eq_true, Int.reduceTDiv, Int.reduceTMod]
  rw [K217_689 hC.2.2.1.1]
  refine c_stood (d := d + 411) hC hR hW fun m1 hR1 hs1 => ?_
  have e47 : m1 47 = mi 47 := hs1 47 (by decide)
  have hW1 : WfA (m1 47) := by rw [e47]; exact hW
  obtain ⟨⟨⟨z0, z1, z8, z9, z10, z11, z12, z13, z14, z15, z16⟩, hh01, hT, hz17⟩, hWV, hWD, hWB, hWP, hWT, hWZ, hWF, hWK⟩ := id hW1
  simp (disch := first | assumption | exact isL_i | exact isL_r | exact isL_n | exact i01a | exact i01b | omega) only [K217_692, K217_693, K217_694, K217_695, K217_696, K217_697, K217_697s, K217_698, K217_699, K217_700, K217_701, K217_702, K217_702s, K217_703, K217_704, K217_705, K217_706, K217_707, K217_707s, wr_id, td_e, tm_e, pu_n, pu_s, up_s, up_k, up_a, ↓reduceIte, Int.reduceLT, Int.reduceLE, Int.reduceEq, Int.reduceNeg, Int.reduceAdd, Int.reduceSub, Int.reduceMul, Int.reduceMod, Int.reduceDiv, Int.cast_ofNat_Int, not_true_eq_false, not_false_eq_true, Int.reduceTDiv, Int.reduceTMod, pu_s]
  rw [K217_708 hG.1.1]
  refine m_stood (d := d + 413) hG z11.1 z11.2 z13.1 z13.2 fun m2 e2 hs2 => ?_
  rw [e47] at e2 ⊢
  rw [pu_s, K217_711, if_pos rfl]
  exact J _ _ (hI.nx0 hs1 hR1 (wf_stood hW) e2 hs2) (by omega) (by omega) rfl rfl
theorem lw_from (hI : LwI G mi) (h0 : 0 ≤ i) (h3 : i + 3 < gL G) (hL : gL G ≤ 2048)
    (J : ∀ G' mi', LwI G' mi' → gN G' ≤ gN G + 6 → gS G' ≤ gS G + 230 → gL G' = gL G → gX G' = gX G → Ok (d + 417) 217 1080 [some (pE 0), some (pR (some 0)), some (pR (some 46)), some (pI i)] [] G' mi' K) : Ok (d + 417) 217 716 [some (pE 0), some (pR (some 0)), some (pR (some 46)), some (pI i)] [] G mi K := by
  obtain ⟨⟨hN, hC, hG, hB1, hB19⟩, ⟨hR, hW⟩, -⟩ := id hI
  simp (disch := first | assumption | exact isL_i | exact isL_r | exact isL_n | exact i01a | exact i01b | omega) only [K217_716, K217_717, K217_718, K217_719, K217_720, K217_721, K217_721s, wr_id, td_e, tm_e, pu_n, pu_s, up_s, up_k, up_a, ↓reduceIte, Int.reduceLT, Int.reduceLE, Int.reduceEq, Int.reduceNeg, Int.reduceAdd, Int.reduceSub, Int.reduceMul, Int.reduceMod, Int.reduceDiv, Int.cast_ofNat_Int, not_true_eq_false, not_false_eq_true, Int.reduceTDiv, Int.reduceTMod]
  have hW1 := hW
  obtain ⟨⟨⟨z0, z1, z8, z9, z10, z11, z12, z13, z14, z15, z16⟩, hh01, hT, hz17⟩, hWV, hWD, hWB, hWP, hWT, hWZ, hWF, hWK⟩ := id hW1
  rw [K217_722 hC.2.2.1.1, c_from (d := d + 411) hC hR hW]
  simp (disch := first | assumption | exact isL_i | exact isL_r | exact isL_n | exact i01a | exact i01b | omega) only [K217_725, K217_726, K217_727, K217_728, K217_729, K217_730, K217_730s, wr_id, td_e, tm_e, pu_n, pu_s, up_s, up_k, up_a, ↓reduceIte, Int.reduceLT, Int.reduceLE, Int.reduceEq, Int.reduceNeg, Int.reduceAdd, Int.reduceSub, Int.reduceMul, Int.reduceMod, Int.reduceDiv, Int.cast_ofNat_Int, not_true_eq_false, not_false_eq_true, Int.reduceTDiv, Int.reduceTMod, pu_s]
  rw [K217_731 hG.1.1]
  refine m_from (d := d + 413) hG hT hWD z11.1 z11.2 z0.1 z0.2 fun m2 e2 hs2 => ?_
  rw [pu_s, K217_734, if_pos rfl]
  exact J _ _ (hI.nx0 Sc.rf hR hW e2 hs2) (by omega) (by omega) rfl rfl
theorem lw_firm (hI : LwI G mi) (h0 : 0 ≤ i) (h3 : i + 3 < gL G) (hL : gL G ≤ 2048)
    (J : ∀ G' mi', LwI G' mi' → gN G' ≤ gN G + 6 → gS G' ≤ gS G + 230 → gL G' = gL G → gX G' = gX G → Ok (d + 417) 217 1080 [some (pE 0), some (pR (some 0)), some (pR (some 46)), some (pI i)] [] G' mi' K) : Ok (d + 417) 217 739 [some (pE 0), some (pR (some 0)), some (pR (some 46)), some (pI i)] [] G mi K := by
  obtain ⟨⟨hN, hC, hG, hB1, hB19⟩, ⟨hR, hW⟩, -⟩ := id hI
  simp (disch := first | assumption | exact isL_i | exact isL_r | exact isL_n | exact i01a | exact i01b | omega) only [K217_739, K217_740, K217_741, K217_742, K217_743, K217_744, K217_744s, K217_745, K217_746, K217_747, K217_748, K217_749, K217_749s, wr_id, td_e, tm_e, pu_n, pu_s, up_s, up_k, up_a, ↓reduceIte, Int.reduceLT, Int.reduceLE, Int.reduceEq, Int.reduceNeg, Int.reduceAdd, Int.reduceSub, Int.reduceMul, Int.reduceMod, Int.reduceDiv, Int.cast_ofNat_Int, not_true_eq_false, not_false_eq_true, Int.reduceTDiv, Int.reduceTMod]
  have hW1 := hW
  obtain ⟨⟨⟨z0, z1, z8, z9, z10, z11, z12, z13, z14, z15, z16⟩, hh01, hT, hz17⟩, hWV, hWD, hWB, hWP, hWT, hWZ, hWF, hWK⟩ := id hW1
  rw [K217_750 hC.2.2.1.1, c_firm (d := d + 411) hC hR hW]
  simp (disch := first | assumption | exact isL_i | exact isL_r | exact isL_n | exact i01a | exact i01b | omega) only [K217_753, K217_754, K217_755, K217_756, K217_757, K217_758, K217_758s, K217_759, K217_760, K217_761, K217_762, K217_763, K217_763s, wr_id, td_e, tm_e, pu_n, pu_s, up_s, up_k, up_a, ↓reduceIte, Int.reduceLT, Int.reduceLE, Int.reduceEq, Int.reduceNeg, Int.reduceAdd, Int.reduceSub, Int.reduceMul, Int.reduceMod, Int.reduceDiv, Int.cast_ofNat_Int, not_true_eq_false, not_false_eq_true, Int.reduceTDiv, Int.reduceTMod, pu_s]
  rw [K217_764 hG.1.1]
  refine m_firm (d := d + 413) hG hT hWD z11.1 z11.2 z0.1 z0.2 fun m2 e2 hs2 => ?_
  rw [pu_s, K217_767, if_pos rfl]
  exact J _ _ (hI.nx0 Sc.rf hR hW e2 hs2) (by omega) (by omega) rfl rfl
theorem lw_odds (hI : LwI G mi) (h0 : 0 ≤ i) (h3 : i + 3 < gL G) (hL : gL G ≤ 2048)
    (J : ∀ G' mi', LwI G' mi' → gN G' ≤ gN G + 6 → gS G' ≤ gS G + 230 → gL G' = gL G → gX G' = gX G → Ok (d + 417) 217 1080 [some (pE 0), some (pR (some 0)), some (pR (some 46)), some (pI i)] [] G' mi' K) : Ok (d + 417) 217 772 [some (pE 0), some (pR (some 0)), some (pR (some 46)), some (pI i)] [] G mi K := by
  obtain ⟨⟨hN, hC, hG, hB1, hB19⟩, ⟨hR, hW⟩, -⟩ := id hI
  simp (disch := first | assumption | exact isL_i | exact isL_r | exact isL_n | exact i01a | exact i01b | omega) only [K217_772, K217_773, K217_774, K217_775, K217_776, K217_777, K217_777s, K217_778, K217_779, K217_780, K217_781, K217_782, K217_782s, K217_783, K217_784, K217_785, K217_786, K217_787, K217_787s, wr_id, td_e, tm_e, pu_n, pu_s, up_s, up_k, up_a, ↓reduceIte, Int.reduceLT, Int.reduceLE, Int.reduceEq, Int.reduceNeg, Int.reduceAdd, Int.reduceSub, Int.reduceMul, Int.reduceMod, Int.reduceDiv, Int.cast_ofNat_Int, not_true_eq_false, not_false_eq_true, Int.reduceTDiv, Int.reduceTMod]
  rw [K217_788 hC.2.2.1.1]
  refine c_odds (d := d + 404) hC hR hW fun m1 hR1 hs1 => ?_
  have e47 : m1 47 = mi 47 := hs1 47 (by decide)
  have hW1 : WfA (m1 47) := by rw [e47]; exact hW
  obtain ⟨⟨⟨z0, z1, z8, z9, z10, z11, z12, z13, z14, z15, z16⟩, hh01, hT, hz17⟩, hWV, hWD, hWB, hWP, hWT, hWZ, hWF, hWK⟩ := id hW1
  simp (disch := first | assumption | exact isL_i | exact isL_r | exact isL_n | exact i01a | exact i01b | omega) only [K217_791, K217_792, K217_793, K217_794, K217_795, K217_796, K217_796s, K217_797, K217_798, K217_799, K217_800, K217_801, K217_801s, K217_802, K217_803, K217_804, K217_805, K217_806, K217_806s, wr_id, td_e, tm_e, pu_n, pu_s, up_s, up_k, up_a, ↓reduceIte, Int.reduceLT, Int.reduceLE, Int.reduceEq, Int.reduceNeg, Int.reduceAdd, Int.reduceSub, Int.reduceMul, Int.reduceMod, Int.reduceDiv, Int.cast_ofNat_Int, not_true_eq_false, not_false_eq_true, Int.reduceTDiv, Int.reduceTMod, pu_s]
  rw [K217_807 hG.1.1]
  refine m_odds (d := d + 411) hG hW1.g z0.1 z0.2 z1.1 z1.2 fun m2 e2 hs2 => ?_
  rw [e47] at e2 ⊢
  rw [pu_s, K217_810, cmpL_s, K217_811, if_pos rfl]
  exact J _ _ (hI.nx0 hs1 hR1 hW e2 hs2) (by omega) (by omega) rfl rfl
theorem lw_mean (hI : LwI G mi) (h0 : 0 ≤ i) (h3 : i + 3 < gL G) (hL : gL G ≤ 2048)
    (J : ∀ G' mi', LwI G' mi' → gN G' ≤ gN G + 6 → gS G' ≤ gS G + 230 → gL G' = gL G → gX G' = gX G → Ok (d + 417) 217 1080 [some (pE 0), some (pR (some 0)), some (pR (some 46)), some (pI i)] [] G' mi' K) : Ok (d + 417) 217 816 [some (pE 0), some (pR (some 0)), some (pR (some 46)), some (pI i)] [] G mi K := by
  obtain ⟨⟨hN, hC, hG, hB1, hB19⟩, ⟨hR, hW⟩, -⟩ := id hI
  simp (disch := first | assumption | exact isL_i | exact isL_r | exact isL_n | exact i01a | exact i01b | omega) only [K217_816, K217_817, K217_818, K217_819, K217_820, K217_821, K217_821s, wr_id, td_e, tm_e, pu_n, pu_s, up_s, up_k, up_a, ↓reduceIte, Int.reduceLT, Int.reduceLE, Int.reduceEq, Int.reduceNeg, Int.reduceAdd, Int.reduceSub, Int.reduceMul, Int.reduceMod, Int.reduceDiv, Int.cast_ofNat_Int, not_true_eq_false, not_false_eq_true, Int.reduceTDiv, Int.reduceTMod]
  rw [K217_822 hC.2.2.1.1]
  refine c_mean (d := d + 411) hC hR hW fun m1 hR1 hs1 => ?_
  have e47 : m1 47 = mi 47 := hs1 47 (by decide)
  have hW1 : WfA (m1 47) := by rw [e47]; exact hW
  obtain ⟨⟨⟨z0, z1, z8, z9, z10, z11, z12, z13, z14, z15, z16⟩, hh01, hT, hz17⟩, hWV, hWD, hWB, hWP, hWT, hWZ, hWF, hWK⟩ := id hW1
  simp (disch := first | assumption | exact isL_i | exact isL_r | exact isL_n | exact i01a | exact i01b | omega) only [K217_825, K217_826, K217_827, K217_828, K217_829, K217_830, K217_830s, wr_id, td_e, tm_e, pu_n, pu_s, up_s, up_k, up_a, ↓reduceIte, Int.reduceLT, Int.reduceLE, Int.reduceEq, Int.reduceNeg, Int.reduceAdd, Int.reduceSub, Int.reduceMul, Int.reduceMod, Int.reduceDiv, Int.cast_ofNat_Int, not_true_eq_false, not_false_eq_true, Int.reduceTDiv, Int.reduceTMod, pu_s]
  rw [K217_831 hG.1.1]
  refine m_mean (d := d + 411) hG hW1.g z0.1 z0.2 fun m2 e2 hs2 => ?_
  rw [e47] at e2 ⊢
  rw [pu_s, K217_834, cmpL_s, K217_835, if_pos rfl]
  exact J _ _ (hI.nx0 hs1 hR1 hW e2 hs2) (by omega) (by omega) rfl rfl
theorem lw_plan (hI : LwI G mi) (h0 : 0 ≤ i) (h3 : i + 3 < gL G) (hL : gL G ≤ 2048)
    (J : ∀ G' mi', LwI G' mi' → gN G' ≤ gN G + 6 → gS G' ≤ gS G + 230 → gL G' = gL G → gX G' = gX G → Ok (d + 417) 217 1080 [some (pE 0), some (pR (some 0)), some (pR (some 46)), some (pI i)] [] G' mi' K) : Ok (d + 417) 217 840 [some (pE 0), some (pR (some 0)), some (pR (some 46)), some (pI i)] [] G mi K := by
  obtain ⟨⟨hN, hC, hG, hB1, hB19⟩, ⟨hR, hW⟩, -⟩ := id hI
  simp (disch := first | assumption | exact isL_i | exact isL_r | exact isL_n | exact i01a | exact i01b | omega) only [K217_840, K217_841, K217_842, K217_843, K217_844, K217_845, K217_845s, wr_id, td_e, tm_e, pu_n, pu_s, up_s, up_k, up_a, ↓reduceIte, Int.reduceLT, Int.reduceLE, Int.reduceEq, Int.reduceNeg, Int.reduceAdd, Int.reduceSub, Int.reduceMul, Int.reduceMod, Int.reduceDiv, Int.cast_ofNat_Int, not_true_eq_false, not_false_eq_true, Int.reduceTDiv, Int.reduceTMod]
  rw [K217_846 hC.2.2.1.1]
  refine c_plan (d := d + 411) hC hR hW fun m1 hR1 hs1 => ?_
  have e47 : m1 47 = mi 47 := hs1 47 (by decide)
  have hW1 : WfA (m1 47) := by rw [e47]; exact hW
  obtain ⟨⟨⟨z0, z1, z8, z9, z10, z11, z12, z13, z14, z15, z16⟩, hh01, hT, hz17⟩, hWV, hWD, hWB, hWP, hWT, hWZ, hWF, hWK⟩ := id hW1
  simp (disch := first | assumption | exact isL_i | exact isL_r | exact isL_n | exact i01a | exact i01b | omega) only [K217_849, K217_850, K217_851, K217_852, K217_853, K217_854, K217_854s, wr_id, td_e, tm_e, pu_n, pu_s, up_s, up_k, up_a, ↓reduceIte, Int.reduceLT, Int.reduceLE, Int.reduceEq, Int.reduceNeg, Int.reduceAdd, Int.reduceSub, Int.reduceMul, Int.reduceMod, Int.reduceDiv, Int.cast_ofNat_Int, not_true_eq_false, not_false_eq_true, Int.reduceTDiv, Int.reduceTMod, pu_s]
  rw [K217_855 hG.1.1]
  refine m_plan (d := d + 413) hG z14.1 z14.2 fun m2 e2 hs2 => ?_
  rw [e47] at e2 ⊢
  rw [pu_s, K217_858, if_pos rfl]
  exact J _ _ (hI.nx0 hs1 hR1 (wf_plan hW) e2 hs2) (by omega) (by omega) rfl rfl
theorem lw_done (hI : LwI G mi) (h0 : 0 ≤ i) (h3 : i + 3 < gL G) (hL : gL G ≤ 2048)
    (J : ∀ G' mi', LwI G' mi' → gN G' ≤ gN G + 6 → gS G' ≤ gS G + 230 → gL G' = gL G → gX G' = gX G → Ok (d + 417) 217 1080 [some (pE 0), some (pR (some 0)), some (pR (some 46)), some (pI i)] [] G' mi' K) : Ok (d + 417) 217 863 [some (pE 0), some (pR (some 0)), some (pR (some 46)), some (pI i)] [] G mi K := by
  obtain ⟨⟨hN, hC, hG, hB1, hB19⟩, ⟨hR, hW⟩, -⟩ := id hI
  simp (disch := first | assumption | exact isL_i | exact isL_r | exact isL_n | exact i01a | exact i01b | omega) only [K217_863, K217_864, K217_865, K217_866, K217_867, K217_868, K217_868s, wr_id, td_e, tm_e, pu_n, pu_s, up_s, up_k, up_a, ↓reduceIte, Int.reduceLT, Int.reduceLE, Int.reduceEq, Int.reduceNeg, Int.reduceAdd, Int.reduceSub, Int.reduceMul, Int.reduceMod, Int.reduceDiv, Int.cast_ofNat_Int, not_true_eq_false, not_false_eq_true, Int.reduceTDiv, Int.reduceTMod]
  rw [K217_869 hC.2.2.1.1]
  refine c_done (d := d + 404) hC hR hW fun m1 hR1 hs1 => ?_
  have e47 : m1 47 = mi 47 := hs1 47 (by decide)
  have hW1 : WfA (m1 47) := by rw [e47]; exact hW
  obtain ⟨⟨⟨z0, z1, z8, z9, z10, z11, z12, z13, z14, z15, z16⟩, hh01, hT, hz17⟩, hWV, hWD, hWB, hWP, hWT, hWZ, hWF, hWK⟩ := id hW1
  simp (disch := first | assumption | exact isL_i | exact isL_r | exact isL_n | exact i01a | exact i01b | omega) only [K217_872, K217_873, K217_874, K217_875, K217_876, K217_877, K217_877s, wr_id, td_e, tm_e, pu_n, pu_s, up_s, up_k, up_a, ↓reduceIte, Int.reduceLT, Int.reduceLE, Int.reduceEq, Int.reduceNeg, Int.reduceAdd, Int.reduceSub, Int.reduceMul, Int.reduceMod, Int.reduceDiv, Int.cast_ofNat_Int, not_true_eq_false, not_false_eq_true, Int.reduceTDiv, Int.reduceTMod, pu_s]
  rw [K217_878 hG.1.1]
  refine m_done (d := d + 411) hG hW1.g (fun j h0 h1 => (hWP j h0 h1).1) z14.1 z14.2 z8.1 z8.2 z0.1 z0.2 z1.1 z1.2 fun m2 e2 hs2 => ?_
  rw [e47] at e2 ⊢
  rw [pu_s, K217_881, if_pos rfl]
  exact J _ _ (hI.nx0 hs1 hR1 hW e2 hs2) (by omega) (by omega) rfl rfl
theorem lw_book (hI : LwI G mi) (h0 : 0 ≤ i) (h3 : i + 3 < gL G) (hL : gL G ≤ 2048)
    (J : ∀ G' mi', LwI G' mi' → gN G' ≤ gN G + 6 → gS G' ≤ gS G + 230 → gL G' = gL G → gX G' = gX G → Ok (d + 417) 217 1080 [some (pE 0), some (pR (some 0)), some (pR (some 46)), some (pI i)] [] G' mi' K) : Ok (d + 417) 217 886 [some (pE 0), some (pR (some 0)), some (pR (some 46)), some (pI i)] [] G mi K := by
  obtain ⟨⟨hN, hC, hG, hB1, hB19⟩, ⟨hR, hW⟩, -⟩ := id hI
  simp (disch := first | assumption | exact isL_i | exact isL_r | exact isL_n | exact i01a | exact i01b | omega) only [K217_886, K217_887, K217_888, K217_889, K217_890, K217_891, K217_891s, K217_892, K217_893, K217_894, K217_895, K217_896, K217_896s, wr_id, td_e, tm_e, pu_n, pu_s, up_s, up_k, up_a, ↓reduceIte, Int.reduceLT, Int.reduceLE, Int.reduceEq, Int.reduceNeg, Int.reduceAdd, Int.reduceSub, Int.reduceMul, Int.reduceMod, Int.reduceDiv, Int.cast_ofNat_Int, not_true_eq_false, not_false_eq_true, Int.reduceTDiv, Int.reduceTMod]
  rw [K217_897 hC.2.2.1.1]
  refine c_book (d := d + 411) hC hR hW fun m1 hR1 hs1 => ?_
  have e47 : m1 47 = mi 47 := hs1 47 (by decide)
  have hW1 : WfA (m1 47) := by rw [e47]; exact hW
  obtain ⟨⟨⟨z0, z1, z8, z9, z10, z11, z12, z13, z14, z15, z16⟩, hh01, hT, hz17⟩, hWV, hWD, hWB, hWP, hWT, hWZ, hWF, hWK⟩ := id hW1
  simp (disch := first | assumption | exact isL_i | exact isL_r | exact isL_n | exact i01a | exact i01b | omega) only [K217_900, K217_901, K217_902, K217_903, K217_904, K217_905, K217_905s, K217_906, K217_907, K217_908, K217_909, K217_910, K217_910s, wr_id, td_e, tm_e, pu_n, pu_s, up_s, up_k, up_a, ↓reduceIte, Int.reduceLT, Int.reduceLE, Int.reduceEq, Int.reduceNeg, Int.reduceAdd, Int.reduceSub, Int.reduceMul, Int.reduceMod, Int.reduceDiv, Int.cast_ofNat_Int, not_true_eq_false, not_false_eq_true, Int.reduceTDiv, Int.reduceTMod, pu_s]
  rw [K217_911 hG.1.1]
  refine m_book (d := d + 413) hG z11.1 z11.2 z15.1 z15.2 fun m2 e2 hs2 => ?_
  rw [e47] at e2 ⊢
  rw [pu_s, K217_914, if_pos rfl]
  exact J _ _ (hI.nx0 hs1 hR1 (wf_book hW) e2 hs2) (by omega) (by omega) rfl rfl
theorem lw_looked (hI : LwI G mi) (h0 : 0 ≤ i) (h3 : i + 3 < gL G) (hL : gL G ≤ 2048)
    (J : ∀ G' mi', LwI G' mi' → gN G' ≤ gN G + 6 → gS G' ≤ gS G + 230 → gL G' = gL G → gX G' = gX G → Ok (d + 417) 217 1080 [some (pE 0), some (pR (some 0)), some (pR (some 46)), some (pI i)] [] G' mi' K) : Ok (d + 417) 217 919 [some (pE 0), some (pR (some 0)), some (pR (some 46)), some (pI i)] [] G mi K := by
  obtain ⟨⟨hN, hC, hG, hB1, hB19⟩, ⟨hR, hW⟩, -⟩ := id hI
  simp (disch := first | assumption | exact isL_i | exact isL_r | exact isL_n | exact i01a | exact i01b | omega) only [K217_919, wr_id, td_e, tm_e, pu_n, pu_s, up_s, up_k, up_a, ↓reduceIte, Int.reduceLT, Int.reduceLE, Int.reduceEq, Int.reduceNeg, Int.reduceAdd, Int.reduceSub, Int.reduceMul, Int.reduceMod, Int.reduceDiv, Int.cast_ofNat_Int, not_true_eq_false, not_false_eq_true, Int.reduceTDiv, Int.reduceTMod]
  have hW1 := hW
  obtain ⟨⟨⟨z0, z1, z8, z9, z10, z11, z12, z13, z14, z15, z16⟩, hh01, hT, hz17⟩, hWV, hWD, hWB, hWP, hWT, hWZ, hWF, hWK⟩ := id hW1
  rw [K217_920 hC.2.2.1.1, c_looked (d := d + 411) hC hR hW]
  simp (disch := first | assumption | exact isL_i | exact isL_r | exact isL_n | exact i01a | exact i01b | omega) only [K217_923, wr_id, td_e, tm_e, pu_n, pu_s, up_s, up_k, up_a, ↓reduceIte, Int.reduceLT, Int.reduceLE, Int.reduceEq, Int.reduceNeg, Int.reduceAdd, Int.reduceSub, Int.reduceMul, Int.reduceMod, Int.reduceDiv, Int.cast_ofNat_Int, not_true_eq_false, not_false_eq_true, Int.reduceTDiv, Int.reduceTMod, pu_s]
  rw [K217_924 hG.1.1, m_looked (d := d + 415) hG hT hWB z0.1 z0.2]
  rw [pu_s, K217_927, if_pos rfl]
  exact J _ _ (hI.nx0 Sc.rf hR hW rfl ScM.rf) (by omega) (by omega) rfl rfl
theorem lw_act (hI : LwI G mi) (h0 : 0 ≤ i) (h3 : i + 3 < gL G) (hL : gL G ≤ 2048)
    (J : ∀ G' mi', LwI G' mi' → gN G' ≤ gN G + 6 → gS G' ≤ gS G + 230 → gL G' = gL G → gX G' = gX G → Ok (d + 417) 217 1080 [some (pE 0), some (pR (some 0)), some (pR (some 46)), some (pI i)] [] G' mi' K) : Ok (d + 417) 217 932 [some (pE 0), some (pR (some 0)), some (pR (some 46)), some (pI i)] [] G mi K := by
  obtain ⟨⟨hN, hC, hG, hB1, hB19⟩, ⟨hR, hW⟩, ⟨hw, hz, h01, h44, hI2⟩, L, hLl, hTc, hTm⟩ := id hI
  simp (disch := first | assumption | exact isL_i | exact isL_r | exact isL_n | exact i01a | exact i01b | omega) only [K217_932, K217_933, K217_934, K217_935, K217_936, K217_937, K217_937s, K217_938, K217_939, K217_940, K217_941, K217_942, K217_942s, K217_943, K217_944, K217_945, K217_946, K217_947, K217_947s, wr_id, td_e, tm_e, pu_n, pu_s, up_s, up_k, up_a, ↓reduceIte, Int.reduceLT, Int.reduceLE, Int.reduceEq, Int.reduceNeg, Int.reduceAdd, Int.reduceSub, Int.reduceMul, Int.reduceMod, Int.reduceDiv, Int.cast_ofNat_Int, not_true_eq_false, not_false_eq_true, Int.reduceTDiv, Int.reduceTMod]
  rw [K217_948 hC.2.2.1.1]
  refine c_act (d := d + 409) hC hR hW ⟨hTc.1.1, hTc.1.2.1⟩ fun m1 ht1 hs1 => ?_
  have e47 : m1 47 = mi 47 := hs1 47 (by decide)
  have hW1 : WfA (m1 47) := by rw [e47]; exact hW
  simp (disch := first | assumption | exact isL_i | exact isL_r | exact isL_n | exact i01a | exact i01b | omega) only [K217_951, K217_952, K217_953, K217_954, K217_955, K217_956, K217_956s, K217_957, K217_958, K217_959, K217_960, K217_961, K217_961s, K217_962, K217_963, K217_964, K217_965, K217_966, K217_966s, wr_id, td_e, tm_e, pu_n, pu_s, up_s, up_k, up_a, ↓reduceIte, Int.reduceLT, Int.reduceLE, Int.reduceEq, Int.reduceNeg, Int.reduceAdd, Int.reduceSub, Int.reduceMul, Int.reduceMod, Int.reduceDiv, Int.cast_ofNat_Int, not_true_eq_false, not_false_eq_true, Int.reduceTDiv, Int.reduceTMod, pu_s]
  rw [K217_967 hG.1.1]
  refine m_act (d := d + 409) hG hW1.g fun m2 ht2 hs2 => ?_
  rw [e47] at ht2 ⊢
  rw [pu_s, K217_970, if_pos rfl]
  exact J _ _ (hI.act hs1 ht1 hs2 ht2) (by omega) (by omega) rfl rfl
theorem lw_trace (hI : LwI G mi) (h0 : 0 ≤ i) (h3 : i + 3 < gL G) (hL : gL G ≤ 2048)
    (J : ∀ G' mi', LwI G' mi' → gN G' ≤ gN G + 6 → gS G' ≤ gS G + 230 → gL G' = gL G → gX G' = gX G → Ok (d + 417) 217 1080 [some (pE 0), some (pR (some 0)), some (pR (some 46)), some (pI i)] [] G' mi' K) : Ok (d + 417) 217 975 [some (pE 0), some (pR (some 0)), some (pR (some 46)), some (pI i)] [] G mi K := by
  obtain ⟨⟨hN, hC, hG, hB1, hB19⟩, ⟨hR, hW⟩, -, L, hLl, hTc, hTm⟩ := id hI
  simp (disch := first | assumption | exact isL_i | exact isL_r | exact isL_n | exact i01a | exact i01b | omega) only [K217_975, K217_976, K217_977, K217_978, K217_979, K217_980, K217_980s, wr_id, td_e, tm_e, pu_n, pu_s, up_s, up_k, up_a, ↓reduceIte, Int.reduceLT, Int.reduceLE, Int.reduceEq, Int.reduceNeg, Int.reduceAdd, Int.reduceSub, Int.reduceMul, Int.reduceMod, Int.reduceDiv, Int.cast_ofNat_Int, not_true_eq_false, not_false_eq_true, Int.reduceTDiv, Int.reduceTMod]
  rw [K217_981 hC.2.2.1.1, c_trace (d := d + 411) hC hTc hLl]
  simp (disch := first | assumption | exact isL_i | exact isL_r | exact isL_n | exact i01a | exact i01b | omega) only [K217_984, K217_985, K217_986, K217_987, K217_988, K217_989, K217_989s, wr_id, td_e, tm_e, pu_n, pu_s, up_s, up_k, up_a, ↓reduceIte, Int.reduceLT, Int.reduceLE, Int.reduceEq, Int.reduceNeg, Int.reduceAdd, Int.reduceSub, Int.reduceMul, Int.reduceMod, Int.reduceDiv, Int.cast_ofNat_Int, not_true_eq_false, not_false_eq_true, Int.reduceTDiv, Int.reduceTMod, pu_s]
  have hm19 := hTm.1
  rw [K217_990 hG.1.1, m_trace (d := d + 413) hG (by omega) (by omega), hm19]
  have e : (if 0 ≤ (gX G (i + 1)) ∧ (gX G (i + 1)) < (L.length : Int) then L.getD (gX G (i + 1)).toNat 0 else -1) = if 0 ≤ (gX G (i + 1)) ∧ (gX G (i + 1)) < (L.length : Int) then mi 54 (gX G (i + 1)) else -1 := by
    by_cases c : 0 ≤ (gX G (i + 1)) ∧ (gX G (i + 1)) < (L.length : Int)
    · rw [if_pos c, if_pos c]
      have := hTm.2 (gX G (i + 1)).toNat (by omega)
      rw [Int.toNat_of_nonneg c.1] at this
      exact this.symm
    · rw [if_neg c, if_neg c]
  rw [pu_s, K217_993, if_pos e]
  exact J _ _ hI (by omega) (by omega) rfl rfl
theorem lw_as (hI : LwI G mi) (h0 : 0 ≤ i) (h3 : i + 3 < gL G) (hL : gL G ≤ 2048)
    (J : ∀ G' mi', LwI G' mi' → gN G' ≤ gN G + 6 → gS G' ≤ gS G + 230 → gL G' = gL G → gX G' = gX G → Ok (d + 417) 217 1080 [some (pE 0), some (pR (some 0)), some (pR (some 46)), some (pI i)] [] G' mi' K) : Ok (d + 417) 217 998 [some (pE 0), some (pR (some 0)), some (pR (some 46)), some (pI i)] [] G mi K := by
  obtain ⟨⟨hN, hC, hG, hB1, hB19⟩, ⟨hR, hW⟩, -⟩ := id hI
  simp (disch := first | assumption | exact isL_i | exact isL_r | exact isL_n | exact i01a | exact i01b | omega) only [K217_998, K217_999, K217_1000, K217_1001, K217_1002, K217_1003, K217_1003s, K217_1004, K217_1005, K217_1006, K217_1007, K217_1008, K217_1008s, wr_id, td_e, tm_e, pu_n, pu_s, up_s, up_k, up_a, ↓reduceIte, Int.reduceLT, Int.reduceLE, Int.reduceEq, Int.reduceNeg, Int.reduceAdd, Int.reduceSub, Int.reduceMul, Int.reduceMod, Int.reduceDiv, Int.cast_ofNat_Int, not_true_eq_false, not_false_eq_true, Int.reduceTDiv, Int.reduceTMod]
  have hW1 := hW
  obtain ⟨⟨⟨z0, z1, z8, z9, z10, z11, z12, z13, z14, z15, z16⟩, hh01, hT, hz17⟩, hWV, hWD, hWB, hWP, hWT, hWZ, hWF, hWK⟩ := id hW1
  rw [K217_1009 hC.2.2.1.1, c_as (d := d + 411) hC hR hW]
  simp (disch := first | assumption | exact isL_i | exact isL_r | exact isL_n | exact i01a | exact i01b | omega) only [K217_1012, K217_1013, K217_1014, K217_1015, K217_1016, K217_1017, K217_1017s, K217_1018, K217_1019, K217_1020, K217_1021, K217_1022, K217_1022s, wr_id, td_e, tm_e, pu_n, pu_s, up_s, up_k, up_a, ↓reduceIte, Int.reduceLT, Int.reduceLE, Int.reduceEq, Int.reduceNeg, Int.reduceAdd, Int.reduceSub, Int.reduceMul, Int.reduceMod, Int.reduceDiv, Int.cast_ofNat_Int, not_true_eq_false, not_false_eq_true, Int.reduceTDiv, Int.reduceTMod, pu_s]
  rw [K217_1023 hG.1.1, m_as (d := d + 413) hG z11.1 z11.2]
  rw [pu_s, K217_1026, if_pos rfl]
  exact J _ _ (hI.nx0 Sc.rf hR hW rfl ScM.rf) (by omega) (by omega) rfl rfl
theorem lw_image (hI : LwI G mi) (h0 : 0 ≤ i) (h3 : i + 3 < gL G) (hL : gL G ≤ 2048)
    (J : ∀ G' mi', LwI G' mi' → gN G' ≤ gN G + 6 → gS G' ≤ gS G + 230 → gL G' = gL G → gX G' = gX G → Ok (d + 417) 217 1080 [some (pE 0), some (pR (some 0)), some (pR (some 46)), some (pI i)] [] G' mi' K) : Ok (d + 417) 217 1031 [some (pE 0), some (pR (some 0)), some (pR (some 46)), some (pI i)] [] G mi K := by
  obtain ⟨⟨hN, hC, hG, hB1, hB19⟩, ⟨hR, hW⟩, ⟨hw, hz, h01, h44, hI2⟩, L, hLl, hTc, hTm⟩ := id hI
  simp (disch := first | assumption | exact isL_i | exact isL_r | exact isL_n | exact i01a | exact i01b | omega) only [K217_1031, wr_id, td_e, tm_e, pu_n, pu_s, up_s, up_k, up_a, ↓reduceIte, Int.reduceLT, Int.reduceLE, Int.reduceEq, Int.reduceNeg, Int.reduceAdd, Int.reduceSub, Int.reduceMul, Int.reduceMod, Int.reduceDiv, Int.cast_ofNat_Int, not_true_eq_false, not_false_eq_true, Int.reduceTDiv, Int.reduceTMod]
  rw [K217_1032 hC.2.2.1.1]
  refine c_image (d := d + 411) hC hN hB1 hB19 hR hW hw fun G1 m1 hIM hR1 hR19 h0m hs1 => ?_
  have e47 : m1 47 = mi 47 := hs1 47 (by decide)
  have e48 : m1 48 = mi 48 := hs1 48 (by decide)
  have hG1 : ShM G1 := hG.x hIM.1 hN
  simp (disch := first | assumption | exact isL_i | exact isL_r | exact isL_n | exact i01a | exact i01b | omega) only [K217_1035, wr_id, td_e, tm_e, pu_n, pu_s, up_s, up_k, up_a, ↓reduceIte, Int.reduceLT, Int.reduceLE, Int.reduceEq, Int.reduceNeg, Int.reduceAdd, Int.reduceSub, Int.reduceMul, Int.reduceMod, Int.reduceDiv, Int.cast_ofNat_Int, not_true_eq_false, not_false_eq_true, Int.reduceTDiv, Int.reduceTMod, pu_s]
  rw [K217_1036 hG1.1.1]
  refine m_image (d := d + 413) hG1 (by rw [e47]; exact hW.2.2.2.2.2.2.2.1) (by rw [e48]; exact hz) fun m2 e2 e3 e4 hs2 => ?_
  rw [e47] at e2 e3 ⊢
  rw [pu_s, K217_1039, if_pos rfl]
  exact J _ _ (hI.image hIM hR1 hR19 h0m hs1 e2 e3 e4 hs2) (by have := hIM.2.1; omega) (by have := hIM.2.2.1; omega) hIM.1.1.2.1 hIM.1.1.2.2
theorem lw_undo (hI : LwI G mi) (h0 : 0 ≤ i) (h3 : i + 3 < gL G) (hL : gL G ≤ 2048)
    (J : ∀ G' mi', LwI G' mi' → gN G' ≤ gN G + 6 → gS G' ≤ gS G + 230 → gL G' = gL G → gX G' = gX G → Ok (d + 417) 217 1080 [some (pE 0), some (pR (some 0)), some (pR (some 46)), some (pI i)] [] G' mi' K) : Ok (d + 417) 217 1044 [some (pE 0), some (pR (some 0)), some (pR (some 46)), some (pI i)] [] G mi K := by
  obtain ⟨⟨hN, hC, hG, hB1, hB19⟩, ⟨hR, hW⟩, ⟨hw, hz, h01, h44, hI2⟩, L, hLl, hTc, hTm⟩ := id hI
  have hzz : WfZ (mi 47) := hW.2.2.2.2.2.2.2.1
  simp (disch := first | assumption | exact isL_i | exact isL_r | exact isL_n | exact i01a | exact i01b | omega) only [K217_1044, wr_id, td_e, tm_e, pu_n, pu_s, up_s, up_k, up_a, ↓reduceIte, Int.reduceLT, Int.reduceLE, Int.reduceEq, Int.reduceNeg, Int.reduceAdd, Int.reduceSub, Int.reduceMul, Int.reduceMod, Int.reduceDiv, Int.cast_ofNat_Int, not_true_eq_false, not_false_eq_true, Int.reduceTDiv, Int.reduceTMod]
  rw [K217_1045 hC.2.2.1.1]
  refine c_undo (d := d + 411) hC hN hB1 hB19 hR.wt h01 (fun h0m => ?_) (fun h1m G1 m1 hIM hRz h113 hs1 => ?_)
  · simp (disch := first | assumption | exact isL_i | exact isL_r | exact isL_n | exact i01a | exact i01b | omega) only [K217_1048, wr_id, td_e, tm_e, pu_n, pu_s, up_s, up_k, up_a, ↓reduceIte, Int.reduceLT, Int.reduceLE, Int.reduceEq, Int.reduceNeg, Int.reduceAdd, Int.reduceSub, Int.reduceMul, Int.reduceMod, Int.reduceDiv, Int.cast_ofNat_Int, not_true_eq_false, not_false_eq_true, Int.reduceTDiv, Int.reduceTMod, pu_s]
    have h460 : mi 46 4 = 0 := by rw [h44]; exact h0m
    rw [K217_1049 hG.1.1]
    refine m_undo (d := d + 413) hG hzz hz fun m2 e2 hs2 => ?_
    rw [if_pos h460] at e2 ⊢
    rw [pu_s, K217_1052, if_pos rfl]
    exact J _ _ (hI.nx0 Sc.rf hR hW e2 ⟨hs2.wk (by decide), by rw [hs2 46 (by decide)], by rw [hs2 46 (by decide)]⟩) (by omega) (by omega) rfl rfl
  · have e47 : m1 47 = mi 47 := hs1 47 (by decide)
    have e48 : m1 48 = mi 48 := hs1 48 (by decide)
    have e46 : m1 46 = mi 46 := hs1 46 (by decide)
    have h460 : ¬ m1 46 4 = 0 := by rw [e46, h44]; omega
    obtain ⟨hR19, hWz⟩ := hI2 h1m
    have e193 : mi 19 3 = mi 48 11 := hR19.1.1.2.1
    have hG1 : ShM G1 := hG.x hIM.1 hN
    simp (disch := first | assumption | exact isL_i | exact isL_r | exact isL_n | exact i01a | exact i01b | omega) only [K217_1048, wr_id, td_e, tm_e, pu_n, pu_s, up_s, up_k, up_a, ↓reduceIte, Int.reduceLT, Int.reduceLE, Int.reduceEq, Int.reduceNeg, Int.reduceAdd, Int.reduceSub, Int.reduceMul, Int.reduceMod, Int.reduceDiv, Int.cast_ofNat_Int, not_true_eq_false, not_false_eq_true, Int.reduceTDiv, Int.reduceTMod, pu_s]
    rw [K217_1049 hG1.1.1]
    refine m_undo (d := d + 413) hG1 (by rw [e47]; exact hzz) (by rw [e48]; exact hz) fun m2 e2 hs2 => ?_
    rw [if_neg h460, e48] at e2
    rw [if_neg h460, e48, e193]
    rw [pu_s, K217_1052, if_pos rfl]
    exact J _ _ (hI.undo hIM (hRz _ hWz hR19) hWz hs1 e2 hs2) (by have := hIM.2.1; omega) (by have := hIM.2.2.1; omega) hIM.1.1.2.1 hIM.1.1.2.2
theorem lw_count (hI : LwI G mi) (h0 : 0 ≤ i) (h3 : i + 3 < gL G) (hL : gL G ≤ 2048)
    (J : ∀ G' mi', LwI G' mi' → gN G' ≤ gN G + 6 → gS G' ≤ gS G + 230 → gL G' = gL G → gX G' = gX G → Ok (d + 417) 217 1080 [some (pE 0), some (pR (some 0)), some (pR (some 46)), some (pI i)] [] G' mi' K) : Ok (d + 417) 217 1057 [some (pE 0), some (pR (some 0)), some (pR (some 46)), some (pI i)] [] G mi K := by
  obtain ⟨⟨hN, hC, hG, hB1, hB19⟩, ⟨hR, hW⟩, -, L, hLl, hTc, hTm⟩ := id hI
  simp (disch := first | assumption | exact isL_i | exact isL_r | exact isL_n | exact i01a | exact i01b | omega) only [K217_1057, K217_1058, K217_1059, K217_1060, K217_1061, K217_1062, K217_1062s, wr_id, td_e, tm_e, pu_n, pu_s, up_s, up_k, up_a, ↓reduceIte, Int.reduceLT, Int.reduceLE, Int.reduceEq, Int.reduceNeg, Int.reduceAdd, Int.reduceSub, Int.reduceMul, Int.reduceMod, Int.reduceDiv, Int.cast_ofNat_Int, not_true_eq_false, not_false_eq_true, Int.reduceTDiv, Int.reduceTMod]
  rw [K217_1063 hC.2.2.1.1, c_count (d := d + 411) hC hR hTc]
  simp (disch := first | assumption | exact isL_i | exact isL_r | exact isL_n | exact i01a | exact i01b | omega) only [K217_1066, K217_1067, K217_1068, K217_1069, K217_1070, K217_1071, K217_1071s, wr_id, td_e, tm_e, pu_n, pu_s, up_s, up_k, up_a, ↓reduceIte, Int.reduceLT, Int.reduceLE, Int.reduceEq, Int.reduceNeg, Int.reduceAdd, Int.reduceSub, Int.reduceMul, Int.reduceMod, Int.reduceDiv, Int.cast_ofNat_Int, not_true_eq_false, not_false_eq_true, Int.reduceTDiv, Int.reduceTMod, pu_s]
  rw [K217_1072 hG.1.1, m_count (d := d + 413) hG, hTm.1]
  rw [pu_s, K217_1075, if_pos rfl]
  exact J _ _ hI (by omega) (by omega) rfl rfl
end LW
