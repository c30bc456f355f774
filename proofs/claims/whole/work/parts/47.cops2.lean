/-! ===== more plain calls of the class ===== -/
section CL
variable {d : Nat} {G : Gh} {mi : Mi} {K : Option PV → Gh → Mi → Prop} {o o' T : Nat} {s : Int → Int} {p t v w a b c k n g q x lim : Int}
theorem c_told (hC : ShC G) (hR : RS 1 s G mi) (hW : WfA s) : OkC (d + 5) 168 [pR (some 0), pI k] G mi K = K (some (pI (oTold s k))) G mi := by
  obtain ⟨⟨⟨k1, k2, k3, l3, k9, l9, k10, l10, k11, l11⟩, ⟨k12, k13, l13, k14, k15, l15, k16, k17, l17, k18, l18⟩, ⟨r10, r14, r15, r16, r113, r114, r115, r116, r22, r122, r142, r162⟩⟩, -, ⟨⟨k0, r00, r01, r02, r03⟩, ⟨k37, r372, k38, l38⟩, ⟨k39, r390, r391, r392, r393, r394, r396, r397⟩, ⟨k40, l40, k41, l41, k42, l42, k43, l43, k44, l44, k45, l45⟩⟩⟩ := id hC
  obtain ⟨⟨n2, n3, n7, n8, n9, n10, n11, n12⟩, ⟨hm1, hm2⟩, ⟨⟨t0, t1, t3⟩, ht4⟩, ⟨⟨u0, u1, u3⟩, hu4⟩, ⟨⟨p0, p1, p3⟩, hp4⟩, ⟨⟨b0, b1, b3⟩, hb4⟩⟩ := hR.o
  obtain ⟨⟨⟨z0, z1, z8, z9, z10, z11, z12, z13, z14, z15, z16⟩, hh01, hT, hz17⟩, hWV, hWD, hWB, hWP, hWT, hWZ, hWF, hWK⟩ := id hW
  obtain ⟨V, v1, v2, v3, ⟨v4, v5, v6⟩, -⟩ := hR.2.2
  have kV := v3.1
  have hcb := coinF_bd hWV
  obtain ⟨-, ⟨w1, w2⟩, -⟩ := WfV_tel hWV
  have hl : OkC (d + 4) 203 [pR (some 0)] G mi (fun r G' mi' => Ok (d + 5) 168 141 [some (pR (some 0)), some (pI k)] (pu r []) G' mi' K) = K (some (pI (lostF s))) G mi := by
    rw [E203]
    unfold lostF
    by_cases c1 : telF s 204 0 = 0
    · rw [if_pos c1]
      simp (disch := first | assumption | exact isL_i | exact isL_r | exact isL_n | exact i01a | exact i01b | omega) only [K203_0, K203_1, K203_4, K203_7, K203_10, K203_13, K203_14, K203_15, K203_18, K203_21, K203_24, K203_25, K203_28, K203_31, K203_32, K203_34, K203_35, K203_38, K203_41, K203_42, K203_45, K203_48, K168_141, K168_142, K168_143, r10, r14, r15, r16, r113, r114, r115, r116, r22, r122, r142, r162, r00, r01, r02, r03, r372, r390, r391, r392, r393, r394, r396, r397, n2, n3, n7, n8, n9, n10, n11, n12, t0, t1, t3, u0, u1, u3, p0, p1, p3, b0, b1, b3, wr_id, td_e, tm_e, pu_n, pu_s, up_s, up_k, up_a, ↓reduceIte, Int.reduceLT, Int.reduceLE, Int.reduceEq, Int.reduceNeg, Int.reduceAdd, Int.reduceSub, Int.reduceMul, Int.reduceMod, Int.reduceDiv, Int.cast_ofNat_Int, not_true_eq_false, not_false_eq_true, Int.reduceTDiv, Int.reduceTMod, v1, v4, v5, if_pos, if_neg]
    · rw [if_neg c1]
      by_cases c2 : coinF s + s 8 - 99 < 0
      · rw [if_pos c2]
        simp (disch := first | assumption | exact isL_i | exact isL_r | exact isL_n | exact i01a | exact i01b | omega) only [K203_0, K203_1, K203_4, K203_7, K203_10, K203_13, K203_14, K203_15, K203_18, K203_21, K203_24, K203_25, K203_28, K203_31, K203_32, K203_34, K203_35, K203_38, K203_41, K203_42, K203_45, K203_48, K168_141, K168_142, K168_143, r10, r14, r15, r16, r113, r114, r115, r116, r22, r122, r142, r162, r00, r01, r02, r03, r372, r390, r391, r392, r393, r394, r396, r397, n2, n3, n7, n8, n9, n10, n11, n12, t0, t1, t3, u0, u1, u3, p0, p1, p3, b0, b1, b3, wr_id, td_e, tm_e, pu_n, pu_s, up_s, up_k, up_a, ↓reduceIte, Int.reduceLT, Int.reduceLE, Int.reduceEq, Int.reduceNeg, Int.reduceAdd, Int.reduceSub, Int.reduceMul, Int.reduceMod, Int.reduceDiv, Int.cast_ofNat_Int, not_true_eq_false, not_false_eq_true, Int.reduceTDiv, Int.reduceTMod, v1, v4, v5, if_pos, if_neg]
      · rw [if_neg c2]
        by_cases c3 : coinF s + s 8 - 99 = 0
        · simp (disch := first | assumption | exact isL_i | exact isL_r | exact isL_n | exact i01a | exact i01b | omega) only [K203_0, K203_1, K203_4, K203_7, K203_10, K203_13, K203_14, K203_15, K203_18, K203_21, K203_24, K203_25, K203_28, K203_31, K203_32, K203_34, K203_35, K203_38, K203_41, K203_42, K203_45, K203_48, K168_141, K168_142, K168_143, r10, r14, r15, r16, r113, r114, r115, r116, r22, r122, r142, r162, r00, r01, r02, r03, r372, r390, r391, r392, r393, r394, r396, r397, n2, n3, n7, n8, n9, n10, n11, n12, t0, t1, t3, u0, u1, u3, p0, p1, p3, b0, b1, b3, wr_id, td_e, tm_e, pu_n, pu_s, up_s, up_k, up_a, ↓reduceIte, Int.reduceLT, Int.reduceLE, Int.reduceEq, Int.reduceNeg, Int.reduceAdd, Int.reduceSub, Int.reduceMul, Int.reduceMod, Int.reduceDiv, Int.cast_ofNat_Int, not_true_eq_false, not_false_eq_true, Int.reduceTDiv, Int.reduceTMod, v1, v4, v5, c3, if_pos, if_neg]
        · simp (disch := first | assumption | exact isL_i | exact isL_r | exact isL_n | exact i01a | exact i01b | omega) only [K203_0, K203_1, K203_4, K203_7, K203_10, K203_13, K203_14, K203_15, K203_18, K203_21, K203_24, K203_25, K203_28, K203_31, K203_32, K203_34, K203_35, K203_38, K203_41, K203_42, K203_45, K203_48, K168_141, K168_142, K168_143, r10, r14, r15, r16, r113, r114, r115, r116, r22, r122, r142, r162, r00, r01, r02, r03, r372, r390, r391, r392, r393, r394, r396, r397, n2, n3, n7, n8, n9, n10, n11, n12, t0, t1, t3, u0, u1, u3, p0, p1, p3, b0, b1, b3, wr_id, td_e, tm_e, pu_n, pu_s, up_s, up_k, up_a, ↓reduceIte, Int.reduceLT, Int.reduceLE, Int.reduceEq, Int.reduceNeg, Int.reduceAdd, Int.reduceSub, Int.reduceMul, Int.reduceMod, Int.reduceDiv, Int.cast_ofNat_Int, not_true_eq_false, not_false_eq_true, Int.reduceTDiv, Int.reduceTMod, v1, v4, v5, if_pos, if_neg]
  by_cases hk : 0 ≤ k ∧ k ≤ 9
  · have h : k = 0 ∨ k = 1 ∨ k = 2 ∨ k = 3 ∨ k = 4 ∨ k = 5 ∨ k = 6 ∨ k = 7 ∨ k = 8 ∨ k = 9 := by omega
    rcases h with rfl | rfl | rfl | rfl | rfl | rfl | rfl | rfl | rfl | rfl
    · rw [E168]
      simp (disch := first | assumption | exact isL_i | exact isL_r | exact isL_n | exact i01a | exact i01b | omega) only [K168_0, K168_1, K168_56, K168_57, K168_60, K168_63, r10, r14, r15, r16, r113, r114, r115, r116, r22, r122, r142, r162, r00, r01, r02, r03, r372, r390, r391, r392, r393, r394, r396, r397, n2, n3, n7, n8, n9, n10, n11, n12, t0, t1, t3, u0, u1, u3, p0, p1, p3, b0, b1, b3, wr_id, td_e, tm_e, pu_n, pu_s, up_s, up_k, up_a, ↓reduceIte, Int.reduceLT, Int.reduceLE, Int.reduceEq, Int.reduceNeg, Int.reduceAdd, Int.reduceSub, Int.reduceMul, Int.reduceMod, Int.reduceDiv, Int.cast_ofNat_Int, not_true_eq_false, not_false_eq_true, Int.reduceTDiv, Int.reduceTMod, oTold]
    · rw [E168]
      simp (disch := first | assumption | exact isL_i | exact isL_r | exact isL_n | exact i01a | exact i01b | omega) only [K168_0, K168_1, K168_64, K168_65, K168_68, K168_71, K168_74, r10, r14, r15, r16, r113, r114, r115, r116, r22, r122, r142, r162, r00, r01, r02, r03, r372, r390, r391, r392, r393, r394, r396, r397, n2, n3, n7, n8, n9, n10, n11, n12, t0, t1, t3, u0, u1, u3, p0, p1, p3, b0, b1, b3, wr_id, td_e, tm_e, pu_n, pu_s, up_s, up_k, up_a, ↓reduceIte, Int.reduceLT, Int.reduceLE, Int.reduceEq, Int.reduceNeg, Int.reduceAdd, Int.reduceSub, Int.reduceMul, Int.reduceMod, Int.reduceDiv, Int.cast_ofNat_Int, not_true_eq_false, not_false_eq_true, Int.reduceTDiv, Int.reduceTMod, v1, v4, oTold]
    · rw [E168]
      simp (disch := first | assumption | exact isL_i | exact isL_r | exact isL_n | exact i01a | exact i01b | omega) only [K168_0, K168_1, K168_75, K168_76, K168_79, K168_82, K168_85, r10, r14, r15, r16, r113, r114, r115, r116, r22, r122, r142, r162, r00, r01, r02, r03, r372, r390, r391, r392, r393, r394, r396, r397, n2, n3, n7, n8, n9, n10, n11, n12, t0, t1, t3, u0, u1, u3, p0, p1, p3, b0, b1, b3, wr_id, td_e, tm_e, pu_n, pu_s, up_s, up_k, up_a, ↓reduceIte, Int.reduceLT, Int.reduceLE, Int.reduceEq, Int.reduceNeg, Int.reduceAdd, Int.reduceSub, Int.reduceMul, Int.reduceMod, Int.reduceDiv, Int.cast_ofNat_Int, not_true_eq_false, not_false_eq_true, Int.reduceTDiv, Int.reduceTMod, v1, v5, oTold]
    · rw [E168]
      simp (disch := first | assumption | exact isL_i | exact isL_r | exact isL_n | exact i01a | exact i01b | omega) only [K168_0, K168_1, K168_86, K168_87, K168_90, K168_93, K168_96, r10, r14, r15, r16, r113, r114, r115, r116, r22, r122, r142, r162, r00, r01, r02, r03, r372, r390, r391, r392, r393, r394, r396, r397, n2, n3, n7, n8, n9, n10, n11, n12, t0, t1, t3, u0, u1, u3, p0, p1, p3, b0, b1, b3, wr_id, td_e, tm_e, pu_n, pu_s, up_s, up_k, up_a, ↓reduceIte, Int.reduceLT, Int.reduceLE, Int.reduceEq, Int.reduceNeg, Int.reduceAdd, Int.reduceSub, Int.reduceMul, Int.reduceMod, Int.reduceDiv, Int.cast_ofNat_Int, not_true_eq_false, not_false_eq_true, Int.reduceTDiv, Int.reduceTMod, v1, v6, oTold]
    · rw [E168]
      simp (disch := first | assumption | exact isL_i | exact isL_r | exact isL_n | exact i01a | exact i01b | omega) only [K168_0, K168_1, K168_97, K168_98, K168_101, K168_104, r10, r14, r15, r16, r113, r114, r115, r116, r22, r122, r142, r162, r00, r01, r02, r03, r372, r390, r391, r392, r393, r394, r396, r397, n2, n3, n7, n8, n9, n10, n11, n12, t0, t1, t3, u0, u1, u3, p0, p1, p3, b0, b1, b3, wr_id, td_e, tm_e, pu_n, pu_s, up_s, up_k, up_a, ↓reduceIte, Int.reduceLT, Int.reduceLE, Int.reduceEq, Int.reduceNeg, Int.reduceAdd, Int.reduceSub, Int.reduceMul, Int.reduceMod, Int.reduceDiv, Int.cast_ofNat_Int, not_true_eq_false, not_false_eq_true, Int.reduceTDiv, Int.reduceTMod, oTold]
    · rw [E168]
      simp (disch := first | assumption | exact isL_i | exact isL_r | exact isL_n | exact i01a | exact i01b | omega) only [K168_0, K168_1, K168_105, K168_106, K168_109, K168_112, r10, r14, r15, r16, r113, r114, r115, r116, r22, r122, r142, r162, r00, r01, r02, r03, r372, r390, r391, r392, r393, r394, r396, r397, n2, n3, n7, n8, n9, n10, n11, n12, t0, t1, t3, u0, u1, u3, p0, p1, p3, b0, b1, b3, wr_id, td_e, tm_e, pu_n, pu_s, up_s, up_k, up_a, ↓reduceIte, Int.reduceLT, Int.reduceLE, Int.reduceEq, Int.reduceNeg, Int.reduceAdd, Int.reduceSub, Int.reduceMul, Int.reduceMod, Int.reduceDiv, Int.cast_ofNat_Int, not_true_eq_false, not_false_eq_true, Int.reduceTDiv, Int.reduceTMod, oTold]
    · rw [E168]
      simp (disch := first | assumption | exact isL_i | exact isL_r | exact isL_n | exact i01a | exact i01b | omega) only [K168_0, K168_1, K168_113, K168_114, K168_117, K168_120, r10, r14, r15, r16, r113, r114, r115, r116, r22, r122, r142, r162, r00, r01, r02, r03, r372, r390, r391, r392, r393, r394, r396, r397, n2, n3, n7, n8, n9, n10, n11, n12, t0, t1, t3, u0, u1, u3, p0, p1, p3, b0, b1, b3, wr_id, td_e, tm_e, pu_n, pu_s, up_s, up_k, up_a, ↓reduceIte, Int.reduceLT, Int.reduceLE, Int.reduceEq, Int.reduceNeg, Int.reduceAdd, Int.reduceSub, Int.reduceMul, Int.reduceMod, Int.reduceDiv, Int.cast_ofNat_Int, not_true_eq_false, not_false_eq_true, Int.reduceTDiv, Int.reduceTMod, oTold]
    · rw [E168]
      simp (disch := first | assumption | exact isL_i | exact isL_r | exact isL_n | exact i01a | exact i01b | omega) only [K168_0, K168_1, K168_121, K168_122, K168_125, K168_128, r10, r14, r15, r16, r113, r114, r115, r116, r22, r122, r142, r162, r00, r01, r02, r03, r372, r390, r391, r392, r393, r394, r396, r397, n2, n3, n7, n8, n9, n10, n11, n12, t0, t1, t3, u0, u1, u3, p0, p1, p3, b0, b1, b3, wr_id, td_e, tm_e, pu_n, pu_s, up_s, up_k, up_a, ↓reduceIte, Int.reduceLT, Int.reduceLE, Int.reduceEq, Int.reduceNeg, Int.reduceAdd, Int.reduceSub, Int.reduceMul, Int.reduceMod, Int.reduceDiv, Int.cast_ofNat_Int, not_true_eq_false, not_false_eq_true, Int.reduceTDiv, Int.reduceTMod, oTold]
    · rw [E168]
      simp (disch := first | assumption | exact isL_i | exact isL_r | exact isL_n | exact i01a | exact i01b | omega) only [K168_0, K168_1, K168_129, K168_130, K168_133, K168_136, r10, r14, r15, r16, r113, r114, r115, r116, r22, r122, r142, r162, r00, r01, r02, r03, r372, r390, r391, r392, r393, r394, r396, r397, n2, n3, n7, n8, n9, n10, n11, n12, t0, t1, t3, u0, u1, u3, p0, p1, p3, b0, b1, b3, wr_id, td_e, tm_e, pu_n, pu_s, up_s, up_k, up_a, ↓reduceIte, Int.reduceLT, Int.reduceLE, Int.reduceEq, Int.reduceNeg, Int.reduceAdd, Int.reduceSub, Int.reduceMul, Int.reduceMod, Int.reduceDiv, Int.cast_ofNat_Int, not_true_eq_false, not_false_eq_true, Int.reduceTDiv, Int.reduceTMod, oTold]
    · rw [E168]
      simp (disch := first | assumption | exact isL_i | exact isL_r | exact isL_n | exact i01a | exact i01b | omega) only [K168_0, K168_1, K168_137, K168_138, r10, r14, r15, r16, r113, r114, r115, r116, r22, r122, r142, r162, r00, r01, r02, r03, r372, r390, r391, r392, r393, r394, r396, r397, wr_id, td_e, tm_e, pu_n, pu_s, up_s, up_k, up_a, ↓reduceIte, Int.reduceLT, Int.reduceLE, Int.reduceEq, Int.reduceNeg, Int.reduceAdd, Int.reduceSub, Int.reduceMul, Int.reduceMod, Int.reduceDiv, Int.cast_ofNat_Int, not_true_eq_false, not_false_eq_true, Int.reduceTDiv, Int.reduceTMod, oTold]
      exact hl
  · rw [E168]
    unfold oTold
    simp (disch := first | assumption | exact isL_i | exact isL_r | exact isL_n | exact i01a | exact i01b | omega) only [K168_0, K168_1, K168_142, K168_143, wr_id, td_e, tm_e, pu_n, pu_s, up_s, up_k, up_a, ↓reduceIte, Int.reduceLT, Int.reduceLE, Int.reduceEq, Int.reduceNeg, Int.reduceAdd, Int.reduceSub, Int.reduceMul, Int.reduceMod, Int.reduceDiv, Int.cast_ofNat_Int, not_true_eq_false, not_false_eq_true, Int.reduceTDiv, Int.reduceTMod, if_neg]
theorem c_pay (hC : ShC G) (hR : RS 1 s G mi) (hW : WfA s) (hK : ∀ mi', RS 1 (oPay' s).2 G mi' → Sc kL mi mi' → K (some (pI (oPay' s).1)) G mi') : OkC (d + 5) 169 [pR (some 0)] G mi K := by
  obtain ⟨⟨⟨k1, k2, k3, l3, k9, l9, k10, l10, k11, l11⟩, ⟨k12, k13, l13, k14, k15, l15, k16, k17, l17, k18, l18⟩, ⟨r10, r14, r15, r16, r113, r114, r115, r116, r22, r122, r142, r162⟩⟩, -, ⟨⟨k0, r00, r01, r02, r03⟩, ⟨k37, r372, k38, l38⟩, ⟨k39, r390, r391, r392, r393, r394, r396, r397⟩, ⟨k40, l40, k41, l41, k42, l42, k43, l43, k44, l44, k45, l45⟩⟩⟩ := id hC
  obtain ⟨⟨n2, n3, n7, n8, n9, n10, n11, n12⟩, ⟨hm1, hm2⟩, ⟨⟨t0, t1, t3⟩, ht4⟩, ⟨⟨u0, u1, u3⟩, hu4⟩, ⟨⟨p0, p1, p3⟩, hp4⟩, ⟨⟨b0, b1, b3⟩, hb4⟩⟩ := hR.o
  obtain ⟨⟨⟨z0, z1, z8, z9, z10, z11, z12, z13, z14, z15, z16⟩, hh01, hT, hz17⟩, hWV, hWD, hWB, hWP, hWT, hWZ, hWF, hWK⟩ := id hW
  obtain ⟨V, v1, v2, v3, ⟨v4, v5, v6⟩, -⟩ := hR.2.2
  have kV := v3.1
  have hcb := coinF_bd hWV
  have hV1 : ¬ V = 1 := by omega
  rw [E169]
  unfold oPay' at hK
  by_cases c0 : s 9 = 9999
  · rw [if_pos c0] at hK
    simp (disch := first | assumption | exact isL_i | exact isL_r | exact isL_n | exact i01a | exact i01b | omega) only [K169_0, K169_1, K169_4, K169_7, K169_10, K169_13, K169_15, K169_16, K169_17, K169_20, K169_20i, K169_21, K169_24, K169_25, K169_26, K169_29, K169_30, K169_33, K169_36, K169_39, K169_42, K169_43, K169_46, K169_49, K169_52, K169_53, K169_54, K169_55, K169_58, K169_60, K169_61, K169_62, K169_65, K169_68, K169_71, K169_72, K169_75, K169_78, K169_79, K169_82, K169_85, r10, r14, r15, r16, r113, r114, r115, r116, r22, r122, r142, r162, r00, r01, r02, r03, r372, r390, r391, r392, r393, r394, r396, r397, n2, n3, n7, n8, n9, n10, n11, n12, t0, t1, t3, u0, u1, u3, p0, p1, p3, b0, b1, b3, wr_id, td_e, tm_e, pu_n, pu_s, up_s, up_k, up_a, ↓reduceIte, Int.reduceLT, Int.reduceLE, Int.reduceEq, Int.reduceNeg, Int.reduceAdd, Int.reduceSub, Int.reduceMul, Int.reduceMod, Int.reduceDiv, Int.cast_ofNat_Int, not_true_eq_false, not_false_eq_true, Int.reduceTDiv, Int.reduceTMod, if_pos, if_neg]
    exact hK _ hR Sc.rf
  · rw [if_neg c0] at hK
    dsimp only at hK
    have J : ∀ x, x = (if 0 < telF s 204 0 then s 8 else 0) → 0 ≤ x → x ≤ 99 → Ok (d + 5) 169 53 [some (pR (some 0)), none] [pI x] G (up mi 1 11 (s 9 + 1)) K := by
      intro x hx x0 x1
      have ep : payF s = if 99 < x + coinF s then 99 else x + coinF s := by unfold payF; rw [← hx]
      by_cases c2 : 99 < x + coinF s
      · rw [if_pos c2] at ep
        rw [ep] at hK
        simp (disch := first | assumption | exact isL_i | exact isL_r | exact isL_n | exact i01a | exact i01b | omega) only [K169_0, K169_1, K169_4, K169_7, K169_10, K169_13, K169_15, K169_16, K169_17, K169_20, K169_20i, K169_21, K169_24, K169_25, K169_26, K169_29, K169_30, K169_33, K169_36, K169_39, K169_42, K169_43, K169_46, K169_49, K169_52, K169_53, K169_54, K169_55, K169_58, K169_60, K169_61, K169_62, K169_65, K169_68, K169_71, K169_72, K169_75, K169_78, K169_79, K169_82, K169_85, r10, r14, r15, r16, r113, r114, r115, r116, r22, r122, r142, r162, r00, r01, r02, r03, r372, r390, r391, r392, r393, r394, r396, r397, n2, n3, n7, n8, n9, n10, n11, n12, t0, t1, t3, u0, u1, u3, p0, p1, p3, b0, b1, b3, wr_id, td_e, tm_e, pu_n, pu_s, up_s, up_k, up_a, ↓reduceIte, Int.reduceLT, Int.reduceLE, Int.reduceEq, Int.reduceNeg, Int.reduceAdd, Int.reduceSub, Int.reduceMul, Int.reduceMod, Int.reduceDiv, Int.cast_ofNat_Int, not_true_eq_false, not_false_eq_true, Int.reduceTDiv, Int.reduceTMod, v1, v4, v5, if_pos, if_neg]
        refine hK _ (hR.nn hW (Sc.tr (sc_up (by decide)) (sc_up (by decide))) (fun j h0 h1 => by simp (disch := omega) only [sH_k]) ?_) (Sc.tr (sc_up (by decide)) (sc_up (by decide)))
        refine ⟨?_, ?_, ?_, ?_, ?_, ?_, ?_, ?_⟩ <;> simp (disch := omega) only [up_k, up_s, up_a, sH_k, sH_s, hadB_k, n2, n3, n7, n8, n9, n10, n11, n12]
      · rw [if_neg c2] at ep
        rw [ep] at hK
        by_cases c3 : x + coinF s = 99
        · rw [c3] at hK
          simp (disch := first | assumption | exact isL_i | exact isL_r | exact isL_n | exact i01a | exact i01b | omega) only [K169_0, K169_1, K169_4, K169_7, K169_10, K169_13, K169_15, K169_16, K169_17, K169_20, K169_20i, K169_21, K169_24, K169_25, K169_26, K169_29, K169_30, K169_33, K169_36, K169_39, K169_42, K169_43, K169_46, K169_49, K169_52, K169_53, K169_54, K169_55, K169_58, K169_60, K169_61, K169_62, K169_65, K169_68, K169_71, K169_72, K169_75, K169_78, K169_79, K169_82, K169_85, r10, r14, r15, r16, r113, r114, r115, r116, r22, r122, r142, r162, r00, r01, r02, r03, r372, r390, r391, r392, r393, r394, r396, r397, n2, n3, n7, n8, n9, n10, n11, n12, t0, t1, t3, u0, u1, u3, p0, p1, p3, b0, b1, b3, wr_id, td_e, tm_e, pu_n, pu_s, up_s, up_k, up_a, ↓reduceIte, Int.reduceLT, Int.reduceLE, Int.reduceEq, Int.reduceNeg, Int.reduceAdd, Int.reduceSub, Int.reduceMul, Int.reduceMod, Int.reduceDiv, Int.cast_ofNat_Int, not_true_eq_false, not_false_eq_true, Int.reduceTDiv, Int.reduceTMod, v1, v4, v5, c3, if_pos, if_neg]
          refine hK _ (hR.nn hW (Sc.tr (sc_up (by decide)) (sc_up (by decide))) (fun j h0 h1 => by simp (disch := omega) only [sH_k]) ?_) (Sc.tr (sc_up (by decide)) (sc_up (by decide)))
          refine ⟨?_, ?_, ?_, ?_, ?_, ?_, ?_, ?_⟩ <;> simp (disch := omega) only [up_k, up_s, up_a, sH_k, sH_s, hadB_k, n2, n3, n7, n8, n9, n10, n11, n12]
        · simp (disch := first | assumption | exact isL_i | exact isL_r | exact isL_n | exact i01a | exact i01b | omega) only [K169_0, K169_1, K169_4, K169_7, K169_10, K169_13, K169_15, K169_16, K169_17, K169_20, K169_20i, K169_21, K169_24, K169_25, K169_26, K169_29, K169_30, K169_33, K169_36, K169_39, K169_42, K169_43, K169_46, K169_49, K169_52, K169_53, K169_54, K169_55, K169_58, K169_60, K169_61, K169_62, K169_65, K169_68, K169_71, K169_72, K169_75, K169_78, K169_79, K169_82, K169_85, r10, r14, r15, r16, r113, r114, r115, r116, r22, r122, r142, r162, r00, r01, r02, r03, r372, r390, r391, r392, r393, r394, r396, r397, n2, n3, n7, n8, n9, n10, n11, n12, t0, t1, t3, u0, u1, u3, p0, p1, p3, b0, b1, b3, wr_id, td_e, tm_e, pu_n, pu_s, up_s, up_k, up_a, ↓reduceIte, Int.reduceLT, Int.reduceLE, Int.reduceEq, Int.reduceNeg, Int.reduceAdd, Int.reduceSub, Int.reduceMul, Int.reduceMod, Int.reduceDiv, Int.cast_ofNat_Int, not_true_eq_false, not_false_eq_true, Int.reduceTDiv, Int.reduceTMod, v1, v4, v5, if_pos, if_neg]
          refine hK _ (hR.nn hW (Sc.tr (sc_up (by decide)) (sc_up (by decide))) (fun j h0 h1 => by simp (disch := omega) only [sH_k]) ?_) (Sc.tr (sc_up (by decide)) (sc_up (by decide)))
          refine ⟨?_, ?_, ?_, ?_, ?_, ?_, ?_, ?_⟩ <;> simp (disch := omega) only [up_k, up_s, up_a, sH_k, sH_s, hadB_k, n2, n3, n7, n8, n9, n10, n11, n12]
    by_cases c1 : 0 < telF s 204 0
    · simp (disch := first | assumption | exact isL_i | exact isL_r | exact isL_n | exact i01a | exact i01b | omega) only [K169_0, K169_1, K169_4, K169_7, K169_10, K169_13, K169_15, K169_16, K169_17, K169_20, K169_20i, K169_21, K169_24, K169_25, K169_26, K169_29, K169_30, K169_33, K169_36, K169_39, K169_42, K169_43, K169_46, K169_49, r10, r14, r15, r16, r113, r114, r115, r116, r22, r122, r142, r162, r00, r01, r02, r03, r372, r390, r391, r392, r393, r394, r396, r397, n2, n3, n7, n8, n9, n10, n11, n12, t0, t1, t3, u0, u1, u3, p0, p1, p3, b0, b1, b3, wr_id, td_e, tm_e, pu_n, pu_s, up_s, up_k, up_a, ↓reduceIte, Int.reduceLT, Int.reduceLE, Int.reduceEq, Int.reduceNeg, Int.reduceAdd, Int.reduceSub, Int.reduceMul, Int.reduceMod, Int.reduceDiv, Int.cast_ofNat_Int, not_true_eq_false, not_false_eq_true, Int.reduceTDiv, Int.reduceTMod, v1, v4, v5, if_pos, if_neg]
      exact J _ (by rw [if_pos c1]) (by omega) (by omega)
    · simp (disch := first | assumption | exact isL_i | exact isL_r | exact isL_n | exact i01a | exact i01b | omega) only [K169_0, K169_1, K169_4, K169_7, K169_10, K169_13, K169_15, K169_16, K169_17, K169_20, K169_20i, K169_21, K169_24, K169_25, K169_26, K169_29, K169_30, K169_33, K169_36, K169_39, K169_42, K169_43, K169_46, K169_49, K169_52, r10, r14, r15, r16, r113, r114, r115, r116, r22, r122, r142, r162, r00, r01, r02, r03, r372, r390, r391, r392, r393, r394, r396, r397, n2, n3, n7, n8, n9, n10, n11, n12, t0, t1, t3, u0, u1, u3, p0, p1, p3, b0, b1, b3, wr_id, td_e, tm_e, pu_n, pu_s, up_s, up_k, up_a, ↓reduceIte, Int.reduceLT, Int.reduceLE, Int.reduceEq, Int.reduceNeg, Int.reduceAdd, Int.reduceSub, Int.reduceMul, Int.reduceMod, Int.reduceDiv, Int.cast_ofNat_Int, not_true_eq_false, not_false_eq_true, Int.reduceTDiv, Int.reduceTMod, v1, v4, v5, if_pos, if_neg]
      exact J _ (by rw [if_neg c1]) (by omega) (by omega)
theorem c_plan (hC : ShC G) (hR : RS 1 s G mi) (hW : WfA s) (hK : ∀ mi', RS 1 (oPlan s g).2 G mi' → Sc kL mi mi' → K (some (pI (oPlan s g).1)) G mi') : OkC (d + 5) 181 [pR (some 0), pI g] G mi K := by
  obtain ⟨⟨⟨k1, k2, k3, l3, k9, l9, k10, l10, k11, l11⟩, ⟨k12, k13, l13, k14, k15, l15, k16, k17, l17, k18, l18⟩, ⟨r10, r14, r15, r16, r113, r114, r115, r116, r22, r122, r142, r162⟩⟩, -, ⟨⟨k0, r00, r01, r02, r03⟩, ⟨k37, r372, k38, l38⟩, ⟨k39, r390, r391, r392, r393, r394, r396, r397⟩, ⟨k40, l40, k41, l41, k42, l42, k43, l43, k44, l44, k45, l45⟩⟩⟩ := id hC
  obtain ⟨⟨n2, n3, n7, n8, n9, n10, n11, n12⟩, ⟨hm1, hm2⟩, ⟨⟨t0, t1, t3⟩, ht4⟩, ⟨⟨u0, u1, u3⟩, hu4⟩, ⟨⟨p0, p1, p3⟩, hp4⟩, ⟨⟨b0, b1, b3⟩, hb4⟩⟩ := hR.o
  obtain ⟨⟨⟨z0, z1, z8, z9, z10, z11, z12, z13, z14, z15, z16⟩, hh01, hT, hz17⟩, hWV, hWD, hWB, hWP, hWT, hWZ, hWF, hWK⟩ := id hW
  rw [E181]
  unfold oPlan at hK
  have hN : ∀ (s' : Int → Int) (mi' : Mi), Sc [14, 15] mi mi' → (∀ j : Int, ¬ j = 14 → ¬ (75 ≤ j ∧ j < 83) → s' j = s j) → ((mi' 14 0 = 1 ∧ mi' 14 1 = 8 ∧ mi' 14 3 = s' 14) ∧ ∀ j : Int, 0 ≤ j → j < s' 14 → mi' 15 j = s' (75 + j)) → RS 1 s' G mi' := by
    intro s' mi' hsc he hP
    refine hR.w hW (hsc.wk (by decide)) (fun j hj => he j (by omega) (by omega)) ⟨?_, ?_, ?_, ?_, hP, ?_⟩
    · exact RNn.c hR.1.1 (hsc _ (by decide)) (fun j h0 h1 => he j (by omega) (by omega))
    · exact RNh.c hR.1.2.1 z11.2 (hsc _ (by decide)) (hsc _ (by decide)) (fun j hj => he j (by omega) (by omega))
    · exact RNt.c hR.1.2.2.1 z16.2 (hsc _ (by decide)) (hsc _ (by decide)) (fun j hj => he j (by omega) (by omega))
    · exact RNs.c hR.1.2.2.2.1 z13.2 (hsc _ (by decide)) (hsc _ (by decide)) (fun j hj => he j (by omega) (by omega))
    · exact RNb.c hR.1.2.2.2.2.2 z15.2 (hsc _ (by decide)) (hsc _ (by decide)) (fun j hj => he j (by omega) (by omega))
  by_cases c1 : g = -1
  · rw [if_pos c1] at hK
    dsimp only at hK
    simp (disch := first | assumption | exact isL_i | exact isL_r | exact isL_n | exact i01a | exact i01b | omega) only [K181_0, K181_1, K181_2, K181_5, K181_6, K181_9, K181_12, K181_15, K181_16, K181_17, K181_18, K181_19, K181_22, K181_25, K181_26, K181_27, K181_28, K181_31, K181_34, K181_37, K181_40, K181_42, K181_45, K181_46, K181_49, K181_52, K181_53, K181_54, K181_55, K181_58, r10, r14, r15, r16, r113, r114, r115, r116, r22, r122, r142, r162, r00, r01, r02, r03, r372, r390, r391, r392, r393, r394, r396, r397, n2, n3, n7, n8, n9, n10, n11, n12, t0, t1, t3, u0, u1, u3, p0, p1, p3, b0, b1, b3, wr_id, td_e, tm_e, pu_n, pu_s, up_s, up_k, up_a, ↓reduceIte, Int.reduceLT, Int.reduceLE, Int.reduceEq, Int.reduceNeg, Int.reduceAdd, Int.reduceSub, Int.reduceMul, Int.reduceMod, Int.reduceDiv, Int.cast_ofNat_Int, not_true_eq_false, not_false_eq_true, Int.reduceTDiv, Int.reduceTMod, t_clear, if_pos, if_neg]
    refine hK _ (hN _ _ (sc_up (by decide)) (fun j h0 h1 => sH_k h0) ⟨⟨?_, ?_, ?_⟩, fun j j0 j1 => ?_⟩) (sc_up (by decide))
    · rw [up_k (by decide)]; exact p0
    · rw [up_k (by decide)]; exact p1
    · rw [up_s, sH_s]
    · rw [sH_s] at j1; omega
  · rw [if_neg c1] at hK
    by_cases c2 : 0 ≤ g ∧ g ≤ 5
    · rw [if_pos c2] at hK
      by_cases c3 : s 14 = 8
      · rw [if_pos c3] at hK
        simp (disch := first | assumption | exact isL_i | exact isL_r | exact isL_n | exact i01a | exact i01b | omega) only [K181_0, K181_1, K181_2, K181_5, K181_6, K181_9, K181_12, K181_15, K181_16, K181_17, K181_18, K181_19, K181_22, K181_25, K181_26, K181_27, K181_28, K181_31, K181_34, K181_37, K181_40, K181_42, K181_45, K181_46, K181_49, K181_52, K181_53, K181_54, K181_55, K181_58, r10, r14, r15, r16, r113, r114, r115, r116, r22, r122, r142, r162, r00, r01, r02, r03, r372, r390, r391, r392, r393, r394, r396, r397, n2, n3, n7, n8, n9, n10, n11, n12, t0, t1, t3, u0, u1, u3, p0, p1, p3, b0, b1, b3, wr_id, td_e, tm_e, pu_n, pu_s, up_s, up_k, up_a, ↓reduceIte, Int.reduceLT, Int.reduceLE, Int.reduceEq, Int.reduceNeg, Int.reduceAdd, Int.reduceSub, Int.reduceMul, Int.reduceMod, Int.reduceDiv, Int.cast_ofNat_Int, not_true_eq_false, not_false_eq_true, Int.reduceTDiv, Int.reduceTMod, c_within, t_isFull, if_pos, if_neg]
        exact hK _ hR Sc.rf
      · rw [if_neg c3] at hK
        dsimp only at hK
        simp (disch := first | assumption | exact isL_i | exact isL_r | exact isL_n | exact i01a | exact i01b | omega) only [K181_0, K181_1, K181_2, K181_5, K181_6, K181_9, K181_12, K181_15, K181_16, K181_17, K181_18, K181_19, K181_22, K181_25, K181_26, K181_27, K181_28, K181_31, K181_34, K181_37, K181_40, K181_42, K181_45, K181_46, K181_49, K181_52, K181_53, K181_54, K181_55, K181_58, r10, r14, r15, r16, r113, r114, r115, r116, r22, r122, r142, r162, r00, r01, r02, r03, r372, r390, r391, r392, r393, r394, r396, r397, n2, n3, n7, n8, n9, n10, n11, n12, t0, t1, t3, u0, u1, u3, p0, p1, p3, b0, b1, b3, wr_id, td_e, tm_e, pu_n, pu_s, up_s, up_k, up_a, ↓reduceIte, Int.reduceLT, Int.reduceLE, Int.reduceEq, Int.reduceNeg, Int.reduceAdd, Int.reduceSub, Int.reduceMul, Int.reduceMod, Int.reduceDiv, Int.cast_ofNat_Int, not_true_eq_false, not_false_eq_true, Int.reduceTDiv, Int.reduceTMod, c_within, t_isFull, t_add1 (o := 14) (o' := 15), if_pos, if_neg]
        have hsc : Sc [14, 15] mi (up (up mi 15 (s 14) g) 14 3 (s 14 + 1)) := (Sc.rf.u (by decide)).u (by decide)
        refine hK _ (hN _ _ hsc (fun j h0 h1 => by simp (disch := omega) only [sH_k]) ⟨⟨?_, ?_, ?_⟩, fun j j0 j1 => ?_⟩) (hsc.wk (by decide))
        · simp (disch := decide) only [up_k, p0, up_a]
        · simp (disch := decide) only [up_k, p1, up_a]
        · simp only [up_s, sH_s]
        · rw [sH_s] at j1
          by_cases hj : j = s 14
          · subst hj
            simp (disch := omega) only [up_a, up_s, sH_k, sH_s]
          · simp (disch := omega) only [up_a, up_k, sH_k]
            exact hp4 j j0 (by omega)
    · rw [if_neg c2] at hK
      simp (disch := first | assumption | exact isL_i | exact isL_r | exact isL_n | exact i01a | exact i01b | omega) only [K181_0, K181_1, K181_2, K181_5, K181_6, K181_9, K181_12, K181_15, K181_16, K181_17, K181_18, K181_19, K181_22, K181_25, K181_26, K181_27, K181_28, K181_31, K181_34, K181_37, K181_40, K181_42, K181_45, K181_46, K181_49, K181_52, K181_53, K181_54, K181_55, K181_58, r10, r14, r15, r16, r113, r114, r115, r116, r22, r122, r142, r162, r00, r01, r02, r03, r372, r390, r391, r392, r393, r394, r396, r397, n2, n3, n7, n8, n9, n10, n11, n12, t0, t1, t3, u0, u1, u3, p0, p1, p3, b0, b1, b3, wr_id, td_e, tm_e, pu_n, pu_s, up_s, up_k, up_a, ↓reduceIte, Int.reduceLT, Int.reduceLE, Int.reduceEq, Int.reduceNeg, Int.reduceAdd, Int.reduceSub, Int.reduceMul, Int.reduceMod, Int.reduceDiv, Int.cast_ofNat_Int, not_true_eq_false, not_false_eq_true, Int.reduceTDiv, Int.reduceTMod, c_within, if_pos, if_neg]
      exact hK _ hR Sc.rf
theorem c_book (hC : ShC G) (hR : RS 1 s G mi) (hW : WfA s) (hK : ∀ mi', RS 1 (oBook s p c).2 G mi' → Sc kL mi mi' → K (some (pI (oBook s p c).1)) G mi') : OkC (d + 5) 183 [pR (some 0), pI p, pI c] G mi K := by
  obtain ⟨⟨⟨k1, k2, k3, l3, k9, l9, k10, l10, k11, l11⟩, ⟨k12, k13, l13, k14, k15, l15, k16, k17, l17, k18, l18⟩, ⟨r10, r14, r15, r16, r113, r114, r115, r116, r22, r122, r142, r162⟩⟩, -, ⟨⟨k0, r00, r01, r02, r03⟩, ⟨k37, r372, k38, l38⟩, ⟨k39, r390, r391, r392, r393, r394, r396, r397⟩, ⟨k40, l40, k41, l41, k42, l42, k43, l43, k44, l44, k45, l45⟩⟩⟩ := id hC
  obtain ⟨⟨n2, n3, n7, n8, n9, n10, n11, n12⟩, ⟨hm1, hm2⟩, ⟨⟨t0, t1, t3⟩, ht4⟩, ⟨⟨u0, u1, u3⟩, hu4⟩, ⟨⟨p0, p1, p3⟩, hp4⟩, ⟨⟨b0, b1, b3⟩, hb4⟩⟩ := hR.o
  obtain ⟨⟨⟨z0, z1, z8, z9, z10, z11, z12, z13, z14, z15, z16⟩, hh01, hT, hz17⟩, hWV, hWD, hWB, hWP, hWT, hWZ, hWF, hWK⟩ := id hW
  rw [E183]
  unfold oBook at hK
  have hN : ∀ (s' : Int → Int) (mi' : Mi), Sc [16, 17] mi mi' → (∀ j : Int, ¬ j = 15 → ¬ (83 ≤ j ∧ j < 99) → s' j = s j) → ((mi' 16 0 = 2 ∧ mi' 16 1 = 8 ∧ mi' 16 3 = s' 15) ∧ ∀ j : Int, 0 ≤ j → j < s' 15 → mi' 17 (j * 2) = s' (83 + j) ∧ mi' 17 (j * 2 + 1) = s' (91 + j)) → RS 1 s' G mi' := by
    intro s' mi' hsc he hP
    refine hR.w hW (hsc.wk (by decide)) (fun j hj => he j (by omega) (by omega)) ⟨?_, ?_, ?_, ?_, ?_, hP⟩
    · exact RNn.c hR.1.1 (hsc _ (by decide)) (fun j h0 h1 => he j (by omega) (by omega))
    · exact RNh.c hR.1.2.1 z11.2 (hsc _ (by decide)) (hsc _ (by decide)) (fun j hj => he j (by omega) (by omega))
    · exact RNt.c hR.1.2.2.1 z16.2 (hsc _ (by decide)) (hsc _ (by decide)) (fun j hj => he j (by omega) (by omega))
    · exact RNs.c hR.1.2.2.2.1 z13.2 (hsc _ (by decide)) (hsc _ (by decide)) (fun j hj => he j (by omega) (by omega))
    · exact RNp.c hR.1.2.2.2.2.1 z14.2 (hsc _ (by decide)) (hsc _ (by decide)) (fun j hj => he j (by omega) (by omega))
  by_cases c1 : p = -1
  · rw [if_pos c1] at hK
    dsimp only at hK
    simp (disch := first | assumption | exact isL_i | exact isL_r | exact isL_n | exact i01a | exact i01b | omega) only [K183_0, K183_1, K183_2, K183_5, K183_6, K183_9, K183_12, K183_15, K183_16, K183_17, K183_20, K183_21, K183_24, K183_24n, K183_27, K183_28, K183_31, K183_34, K183_35, K183_36, K183_37, K183_40, K183_43, K183_46, K183_49, K183_51, K183_54, K183_55, K183_58, K183_61, K183_62, K183_63, K183_64, K183_67, r10, r14, r15, r16, r113, r114, r115, r116, r22, r122, r142, r162, r00, r01, r02, r03, r372, r390, r391, r392, r393, r394, r396, r397, n2, n3, n7, n8, n9, n10, n11, n12, t0, t1, t3, u0, u1, u3, p0, p1, p3, b0, b1, b3, wr_id, td_e, tm_e, pu_n, pu_s, up_s, up_k, up_a, ↓reduceIte, Int.reduceLT, Int.reduceLE, Int.reduceEq, Int.reduceNeg, Int.reduceAdd, Int.reduceSub, Int.reduceMul, Int.reduceMod, Int.reduceDiv, Int.cast_ofNat_Int, not_true_eq_false, not_false_eq_true, Int.reduceTDiv, Int.reduceTMod, t_clear, if_pos, if_neg]
    refine hK _ (hN _ _ (sc_up (by decide)) (fun j h0 h1 => sH_k h0) ⟨⟨?_, ?_, ?_⟩, fun j j0 j1 => ?_⟩) (sc_up (by decide))
    · rw [up_k (by decide)]; exact b0
    · rw [up_k (by decide)]; exact b1
    · rw [up_s, sH_s]
    · rw [sH_s] at j1; omega
  · rw [if_neg c1] at hK
    by_cases hp : isT s p
    · obtain ⟨T, g1, -⟩ := hR.2.1 p hp.1 hp.2
      have g1 : gR G 9 p = some T := g1
      by_cases hc : isC c
      · rw [if_pos ⟨hp, hc⟩] at hK
        by_cases c3 : s 15 = 8
        · rw [if_pos c3] at hK
          simp (disch := first | assumption | exact isL_i | exact isL_r | exact isL_n | exact i01a | exact i01b | omega) only [K183_0, K183_1, K183_2, K183_5, K183_6, K183_9, K183_12, K183_15, K183_16, K183_17, K183_20, K183_21, K183_24, K183_24n, K183_27, K183_28, K183_31, K183_34, K183_35, K183_36, K183_37, K183_40, K183_43, K183_46, K183_49, K183_51, K183_54, K183_55, K183_58, K183_61, K183_62, K183_63, K183_64, K183_67, r10, r14, r15, r16, r113, r114, r115, r116, r22, r122, r142, r162, r00, r01, r02, r03, r372, r390, r391, r392, r393, r394, r396, r397, n2, n3, n7, n8, n9, n10, n11, n12, t0, t1, t3, u0, u1, u3, p0, p1, p3, b0, b1, b3, wr_id, td_e, tm_e, pu_n, pu_s, up_s, up_k, up_a, ↓reduceIte, Int.reduceLT, Int.reduceLE, Int.reduceEq, Int.reduceNeg, Int.reduceAdd, Int.reduceSub, Int.reduceMul, Int.reduceMod, Int.reduceDiv, Int.cast_ofNat_Int, not_true_eq_false, not_false_eq_true, Int.reduceTDiv, Int.reduceTMod, c_find hC hR z11.2, c_isCell, if_pos hp, g1, reduceCtorEq, t_isFull, if_pos, if_neg]
          exact hK _ hR Sc.rf
        · rw [if_neg c3] at hK
          dsimp only at hK
          simp (disch := first | assumption | exact isL_i | exact isL_r | exact isL_n | exact i01a | exact i01b | omega) only [K183_0, K183_1, K183_2, K183_5, K183_6, K183_9, K183_12, K183_15, K183_16, K183_17, K183_20, K183_21, K183_24, K183_24n, K183_27, K183_28, K183_31, K183_34, K183_35, K183_36, K183_37, K183_40, K183_43, K183_46, K183_49, K183_51, K183_54, K183_55, K183_58, K183_61, K183_62, K183_63, K183_64, K183_67, r10, r14, r15, r16, r113, r114, r115, r116, r22, r122, r142, r162, r00, r01, r02, r03, r372, r390, r391, r392, r393, r394, r396, r397, n2, n3, n7, n8, n9, n10, n11, n12, t0, t1, t3, u0, u1, u3, p0, p1, p3, b0, b1, b3, wr_id, td_e, tm_e, pu_n, pu_s, up_s, up_k, up_a, ↓reduceIte, Int.reduceLT, Int.reduceLE, Int.reduceEq, Int.reduceNeg, Int.reduceAdd, Int.reduceSub, Int.reduceMul, Int.reduceMod, Int.reduceDiv, Int.cast_ofNat_Int, not_true_eq_false, not_false_eq_true, Int.reduceTDiv, Int.reduceTMod, c_find hC hR z11.2, c_isCell, if_pos hp, g1, reduceCtorEq, t_isFull, t_add2 (o := 16) (o' := 17), if_pos, if_neg]
          have hsc : Sc [16, 17] mi (up (up (up mi 17 (s 15 * 2) p) 17 (s 15 * 2 + 1) c) 16 3 (s 15 + 1)) := ((Sc.rf.u (by decide)).u (by decide)).u (by decide)
          refine hK _ (hN _ _ hsc (fun j h0 h1 => by simp (disch := omega) only [sH_k]) ⟨⟨?_, ?_, ?_⟩, fun j j0 j1 => ?_⟩) (hsc.wk (by decide))
          · simp (disch := decide) only [up_k, b0, up_a]
          · simp (disch := decide) only [up_k, b1, up_a]
          · simp only [up_s, sH_s]
          · rw [sH_s] at j1
            by_cases hj : j = s 15
            · subst hj
              simp (disch := omega) only [up_a, up_s, up_k, sH_k, sH_s, and_self]
            · simp (disch := omega) only [up_a, up_k, sH_k]
              exact hb4 j j0 (by omega)
      · rw [if_neg (fun h => hc h.2)] at hK
        simp (disch := first | assumption | exact isL_i | exact isL_r | exact isL_n | exact i01a | exact i01b | omega) only [K183_0, K183_1, K183_2, K183_5, K183_6, K183_9, K183_12, K183_15, K183_16, K183_17, K183_20, K183_21, K183_24, K183_24n, K183_27, K183_28, K183_31, K183_34, K183_35, K183_36, K183_37, K183_40, K183_43, K183_46, K183_49, K183_51, K183_54, K183_55, K183_58, K183_61, K183_62, K183_63, K183_64, K183_67, r10, r14, r15, r16, r113, r114, r115, r116, r22, r122, r142, r162, r00, r01, r02, r03, r372, r390, r391, r392, r393, r394, r396, r397, n2, n3, n7, n8, n9, n10, n11, n12, t0, t1, t3, u0, u1, u3, p0, p1, p3, b0, b1, b3, wr_id, td_e, tm_e, pu_n, pu_s, up_s, up_k, up_a, ↓reduceIte, Int.reduceLT, Int.reduceLE, Int.reduceEq, Int.reduceNeg, Int.reduceAdd, Int.reduceSub, Int.reduceMul, Int.reduceMod, Int.reduceDiv, Int.cast_ofNat_Int, not_true_eq_false, not_false_eq_true, Int.reduceTDiv, Int.reduceTMod, c_find hC hR z11.2, c_isCell, if_pos hp, g1, reduceCtorEq, if_pos, if_neg]
        exact hK _ hR Sc.rf
    · rw [if_neg (fun h => hp h.1)] at hK
      simp (disch := first | assumption | exact isL_i | exact isL_r | exact isL_n | exact i01a | exact i01b | omega) only [K183_0, K183_1, K183_2, K183_5, K183_6, K183_9, K183_12, K183_15, K183_16, K183_17, K183_20, K183_21, K183_24, K183_24n, K183_27, K183_28, K183_31, K183_34, K183_35, K183_36, K183_37, K183_40, K183_43, K183_46, K183_49, K183_51, K183_54, K183_55, K183_58, K183_61, K183_62, K183_63, K183_64, K183_67, r10, r14, r15, r16, r113, r114, r115, r116, r22, r122, r142, r162, r00, r01, r02, r03, r372, r390, r391, r392, r393, r394, r396, r397, n2, n3, n7, n8, n9, n10, n11, n12, t0, t1, t3, u0, u1, u3, p0, p1, p3, b0, b1, b3, wr_id, td_e, tm_e, pu_n, pu_s, up_s, up_k, up_a, ↓reduceIte, Int.reduceLT, Int.reduceLE, Int.reduceEq, Int.reduceNeg, Int.reduceAdd, Int.reduceSub, Int.reduceMul, Int.reduceMod, Int.reduceDiv, Int.cast_ofNat_Int, not_true_eq_false, not_false_eq_true, Int.reduceTDiv, Int.reduceTMod, c_find hC hR z11.2, if_neg hp, if_pos, if_neg]
      exact hK _ hR Sc.rf
theorem c_stood (hC : ShC G) (hR : RS 1 s G mi) (hW : WfA s) (hK : ∀ mi', RS 1 (oStood s p n c).2 G mi' → Sc kL mi mi' → K (some (pI (oStood s p n c).1)) G mi') : OkC (d + 5) 176 [pR (some 0), pI p, pI n, pI c] G mi K := by
  obtain ⟨⟨⟨k1, k2, k3, l3, k9, l9, k10, l10, k11, l11⟩, ⟨k12, k13, l13, k14, k15, l15, k16, k17, l17, k18, l18⟩, ⟨r10, r14, r15, r16, r113, r114, r115, r116, r22, r122, r142, r162⟩⟩, -, ⟨⟨k0, r00, r01, r02, r03⟩, ⟨k37, r372, k38, l38⟩, ⟨k39, r390, r391, r392, r393, r394, r396, r397⟩, ⟨k40, l40, k41, l41, k42, l42, k43, l43, k44, l44, k45, l45⟩⟩⟩ := id hC
  obtain ⟨⟨n2, n3, n7, n8, n9, n10, n11, n12⟩, ⟨hm1, hm2⟩, ⟨⟨t0, t1, t3⟩, ht4⟩, ⟨⟨u0, u1, u3⟩, hu4⟩, ⟨⟨p0, p1, p3⟩, hp4⟩, ⟨⟨b0, b1, b3⟩, hb4⟩⟩ := hR.o
  obtain ⟨⟨⟨z0, z1, z8, z9, z10, z11, z12, z13, z14, z15, z16⟩, hh01, hT, hz17⟩, hWV, hWD, hWB, hWP, hWT, hWZ, hWF, hWK⟩ := id hW
  rw [E176]
  unfold oStood at hK
  have hN : ∀ (s' : Int → Int) (mi' : Mi), Sc [12, 13] mi mi' → (∀ j : Int, ¬ j = 13 → ¬ (60 ≤ j ∧ j < 75) → s' j = s j) → ((mi' 12 0 = 3 ∧ mi' 12 1 = 5 ∧ mi' 12 3 = s' 13) ∧ ∀ j : Int, 0 ≤ j → j < s' 13 → mi' 13 (j * 3) = s' (60 + j) ∧ mi' 13 (j * 3 + 1) = s' (65 + j) ∧ mi' 13 (j * 3 + 2) = s' (70 + j)) → RS 1 s' G mi' := by
    intro s' mi' hsc he hP
    refine hR.w hW (hsc.wk (by decide)) (fun j hj => he j (by omega) (by omega)) ⟨?_, ?_, ?_, hP, ?_, ?_⟩
    · exact RNn.c hR.1.1 (hsc _ (by decide)) (fun j h0 h1 => he j (by omega) (by omega))
    · exact RNh.c hR.1.2.1 z11.2 (hsc _ (by decide)) (hsc _ (by decide)) (fun j hj => he j (by omega) (by omega))
    · exact RNt.c hR.1.2.2.1 z16.2 (hsc _ (by decide)) (hsc _ (by decide)) (fun j hj => he j (by omega) (by omega))
    · exact RNp.c hR.1.2.2.2.2.1 z14.2 (hsc _ (by decide)) (hsc _ (by decide)) (fun j hj => he j (by omega) (by omega))
    · exact RNb.c hR.1.2.2.2.2.2 z15.2 (hsc _ (by decide)) (hsc _ (by decide)) (fun j hj => he j (by omega) (by omega))
  by_cases c1 : p = -1
  · rw [if_pos c1] at hK
    dsimp only at hK
    simp (disch := first | assumption | exact isL_i | exact isL_r | exact isL_n | exact i01a | exact i01b | omega) only [K176_0, K176_1, K176_2, K176_5, K176_6, K176_9, K176_12, K176_15, K176_16, K176_17, K176_20, K176_21, K176_24, K176_24n, K176_27, K176_28, K176_31, K176_34, K176_35, K176_36, K176_37, K176_38, K176_40, K176_43, K176_46, K176_48, K176_49, K176_50, K176_53, K176_56, K176_59, K176_62, K176_64, K176_67, K176_68, K176_71, K176_74, K176_75, K176_76, K176_77, K176_80, r10, r14, r15, r16, r113, r114, r115, r116, r22, r122, r142, r162, r00, r01, r02, r03, r372, r390, r391, r392, r393, r394, r396, r397, n2, n3, n7, n8, n9, n10, n11, n12, t0, t1, t3, u0, u1, u3, p0, p1, p3, b0, b1, b3, wr_id, td_e, tm_e, pu_n, pu_s, up_s, up_k, up_a, ↓reduceIte, Int.reduceLT, Int.reduceLE, Int.reduceEq, Int.reduceNeg, Int.reduceAdd, Int.reduceSub, Int.reduceMul, Int.reduceMod, Int.reduceDiv, Int.cast_ofNat_Int, not_true_eq_false, not_false_eq_true, Int.reduceTDiv, Int.reduceTMod, t_clear, if_pos, if_neg]
    refine hK _ (hN _ _ (sc_up (by decide)) (fun j h0 h1 => sH_k h0) ⟨⟨?_, ?_, ?_⟩, fun j j0 j1 => ?_⟩) (sc_up (by decide))
    · rw [up_k (by decide)]; exact u0
    · rw [up_k (by decide)]; exact u1
    · rw [up_s, sH_s]
    · rw [sH_s] at j1; omega
  · rw [if_neg c1] at hK
    by_cases hp : isT s p
    · obtain ⟨T, g1, -⟩ := hR.2.1 p hp.1 hp.2
      have g1 : gR G 9 p = some T := g1
      by_cases hc : isC c
      · rw [if_pos ⟨hp, hc⟩] at hK
        by_cases c4 : 0 ≤ n ∧ n ≤ 40
        · rw [if_pos c4] at hK
          by_cases c3 : s 13 = 5
          · rw [if_pos c3] at hK
            simp (disch := first | assumption | exact isL_i | exact isL_r | exact isL_n | exact i01a | exact i01b | omega) only [K176_0, K176_1, K176_2, K176_5, K176_6, K176_9, K176_12, K176_15, K176_16, K176_17, K176_20, K176_21, K176_24, K176_24n, K176_27, K176_28, K176_31, K176_34, K176_35, K176_36, K176_37, K176_38, K176_40, K176_43, K176_46, K176_48, K176_49, K176_50, K176_53, K176_56, K176_59, K176_62, K176_64, K176_67, K176_68, K176_71, K176_74, K176_75, K176_76, K176_77, K176_80, r10, r14, r15, r16, r113, r114, r115, r116, r22, r122, r142, r162, r00, r01, r02, r03, r372, r390, r391, r392, r393, r394, r396, r397, n2, n3, n7, n8, n9, n10, n11, n12, t0, t1, t3, u0, u1, u3, p0, p1, p3, b0, b1, b3, wr_id, td_e, tm_e, pu_n, pu_s, up_s, up_k, up_a, ↓reduceIte, Int.reduceLT, Int.reduceLE, Int.reduceEq, Int.reduceNeg, Int.reduceAdd, Int.reduceSub, Int.reduceMul, Int.reduceMod, Int.reduceDiv, Int.cast_ofNat_Int, not_true_eq_false, not_false_eq_true, Int.reduceTDiv, Int.reduceTMod, c_find hC hR z11.2, c_isCell, c_within, if_pos hp, g1, reduceCtorEq, t_isFull, if_pos, if_neg]
            exact hK _ hR Sc.rf
          · rw [if_neg c3] at hK
            dsimp only at hK
            simp (disch := first | assumption | exact isL_i | exact isL_r | exact isL_n | exact i01a | exact i01b | omega) only [K176_0, K176_1, K176_2, K176_5, K176_6, K176_9, K176_12, K176_15, K176_16, K176_17, K176_20, K176_21, K176_24, K176_24n, K176_27, K176_28, K176_31, K176_34, K176_35, K176_36, K176_37, K176_38, K176_40, K176_43, K176_46, K176_48, K176_49, K176_50, K176_53, K176_56, K176_59, K176_62, K176_64, K176_67, K176_68, K176_71, K176_74, K176_75, K176_76, K176_77, K176_80, r10, r14, r15, r16, r113, r114, r115, r116, r22, r122, r142, r162, r00, r01, r02, r03, r372, r390, r391, r392, r393, r394, r396, r397, n2, n3, n7, n8, n9, n10, n11, n12, t0, t1, t3, u0, u1, u3, p0, p1, p3, b0, b1, b3, wr_id, td_e, tm_e, pu_n, pu_s, up_s, up_k, up_a, ↓reduceIte, Int.reduceLT, Int.reduceLE, Int.reduceEq, Int.reduceNeg, Int.reduceAdd, Int.reduceSub, Int.reduceMul, Int.reduceMod, Int.reduceDiv, Int.cast_ofNat_Int, not_true_eq_false, not_false_eq_true, Int.reduceTDiv, Int.reduceTMod, c_find hC hR z11.2, c_isCell, c_within, if_pos hp, g1, reduceCtorEq, t_isFull, t_add3 (o := 12) (o' := 13), if_pos, if_neg]
            have hsc : Sc [12, 13] mi (up (up (up (up mi 13 (s 13 * 3) p) 13 (s 13 * 3 + 1) n) 13 (s 13 * 3 + 2) c) 12 3 (s 13 + 1)) := (((Sc.rf.u (by decide)).u (by decide)).u (by decide)).u (by decide)
            refine hK _ (hN _ _ hsc (fun j h0 h1 => by simp (disch := omega) only [sH_k]) ⟨⟨?_, ?_, ?_⟩, fun j j0 j1 => ?_⟩) (hsc.wk (by decide))
            · simp (disch := decide) only [up_k, u0, up_a]
            · simp (disch := decide) only [up_k, u1, up_a]
            · simp only [up_s, sH_s]
            · rw [sH_s] at j1
              by_cases hj : j = s 13
              · subst hj
                simp (disch := omega) only [up_a, up_s, up_k, sH_k, sH_s, and_self]
              · simp (disch := omega) only [up_a, up_k, sH_k]
                exact hu4 j j0 (by omega)
        · rw [if_neg c4] at hK
          simp (disch := first | assumption | exact isL_i | exact isL_r | exact isL_n | exact i01a | exact i01b | omega) only [K176_0, K176_1, K176_2, K176_5, K176_6, K176_9, K176_12, K176_15, K176_16, K176_17, K176_20, K176_21, K176_24, K176_24n, K176_27, K176_28, K176_31, K176_34, K176_35, K176_36, K176_37, K176_38, K176_40, K176_43, K176_46, K176_48, K176_49, K176_50, K176_53, K176_56, K176_59, K176_62, K176_64, K176_67, K176_68, K176_71, K176_74, K176_75, K176_76, K176_77, K176_80, r10, r14, r15, r16, r113, r114, r115, r116, r22, r122, r142, r162, r00, r01, r02, r03, r372, r390, r391, r392, r393, r394, r396, r397, n2, n3, n7, n8, n9, n10, n11, n12, t0, t1, t3, u0, u1, u3, p0, p1, p3, b0, b1, b3, wr_id, td_e, tm_e, pu_n, pu_s, up_s, up_k, up_a, ↓reduceIte, Int.reduceLT, Int.reduceLE, Int.reduceEq, Int.reduceNeg, Int.reduceAdd, Int.reduceSub, Int.reduceMul, Int.reduceMod, Int.reduceDiv, Int.cast_ofNat_Int, not_true_eq_false, not_false_eq_true, Int.reduceTDiv, Int.reduceTMod, c_find hC hR z11.2, c_isCell, c_within, if_pos hp, g1, reduceCtorEq, if_pos, if_neg]
          exact hK _ hR Sc.rf
      · rw [if_neg (fun h => hc h.2)] at hK
        simp (disch := first | assumption | exact isL_i | exact isL_r | exact isL_n | exact i01a | exact i01b | omega) only [K176_0, K176_1, K176_2, K176_5, K176_6, K176_9, K176_12, K176_15, K176_16, K176_17, K176_20, K176_21, K176_24, K176_24n, K176_27, K176_28, K176_31, K176_34, K176_35, K176_36, K176_37, K176_38, K176_40, K176_43, K176_46, K176_48, K176_49, K176_50, K176_53, K176_56, K176_59, K176_62, K176_64, K176_67, K176_68, K176_71, K176_74, K176_75, K176_76, K176_77, K176_80, r10, r14, r15, r16, r113, r114, r115, r116, r22, r122, r142, r162, r00, r01, r02, r03, r372, r390, r391, r392, r393, r394, r396, r397, n2, n3, n7, n8, n9, n10, n11, n12, t0, t1, t3, u0, u1, u3, p0, p1, p3, b0, b1, b3, wr_id, td_e, tm_e, pu_n, pu_s, up_s, up_k, up_a, ↓reduceIte, Int.reduceLT, Int.reduceLE, Int.reduceEq, Int.reduceNeg, Int.reduceAdd, Int.reduceSub, Int.reduceMul, Int.reduceMod, Int.reduceDiv, Int.cast_ofNat_Int, not_true_eq_false, not_false_eq_true, Int.reduceTDiv, Int.reduceTMod, c_find hC hR z11.2, c_isCell, if_pos hp, g1, reduceCtorEq, if_pos, if_neg]
        exact hK _ hR Sc.rf
    · rw [if_neg (fun h => hp h.1)] at hK
      simp (disch := first | assumption | exact isL_i | exact isL_r | exact isL_n | exact i01a | exact i01b | omega) only [K176_0, K176_1, K176_2, K176_5, K176_6, K176_9, K176_12, K176_15, K176_16, K176_17, K176_20, K176_21, K176_24, K176_24n, K176_27, K176_28, K176_31, K176_34, K176_35, K176_36, K176_37, K176_38, K176_40, K176_43, K176_46, K176_48, K176_49, K176_50, K176_53, K176_56, K176_59, K176_62, K176_64, K176_67, K176_68, K176_71, K176_74, K176_75, K176_76, K176_77, K176_80, r10, r14, r15, r16, r113, r114, r115, r116, r22, r122, r142, r162, r00, r01, r02, r03, r372, r390, r391, r392, r393, r394, r396, r397, n2, n3, n7, n8, n9, n10, n11, n12, t0, t1, t3, u0, u1, u3, p0, p1, p3, b0, b1, b3, wr_id, td_e, tm_e, pu_n, pu_s, up_s, up_k, up_a, ↓reduceIte, Int.reduceLT, Int.reduceLE, Int.reduceEq, Int.reduceNeg, Int.reduceAdd, Int.reduceSub, Int.reduceMul, Int.reduceMod, Int.reduceDiv, Int.cast_ofNat_Int, not_true_eq_false, not_false_eq_true, Int.reduceTDiv, Int.reduceTMod, c_find hC hR z11.2, if_neg hp, if_pos, if_neg]
      exact hK _ hR Sc.rf
end CL
