/-! ===== the class: thing, image, undo ===== -/
theorem GX.new {G : Gh} {kd : Nat × Nat} {sl : Nat} {j : Int} {v : Option Nat} : GX G (setR (newG G kd sl) (gN G) j v) :=
  ⟨⟨Nat.le_succ _, rfl, rfl⟩, fun a ha => (ng_k (by omega) : gK (newG G kd sl) a = gK G a), fun a i ha _ => by rw [sr_ra (by omega), ng_r (by omega)]⟩
section CL
variable {d : Nat} {G : Gh} {mi : Mi} {K : Option PV → Gh → Mi → Prop} {o o' T : Nat} {s s' : Int → Int} {p t v w a b c k n g q x lim hm pc ah ce u l hz y : Int} {L : List Int} {rr : Option Nat}
theorem c_thing (hC : ShC G) (hN : 55 ≤ gN G) (hB : GB 1 G) (hR : RS 1 s G mi) (hW : WfA s)
    (hK : ∀ G' mi', GX G G' → gN G' ≤ gN G + 1 → gS G' ≤ gS G + 4 → (∀ j, gR G' 27 j = gR G 27 j) → gR G' 19 1 = gR G 19 1 → GB 1 G' → RS 1 (oThing s k v c).2 G' mi' → (∀ a : Nat, a < gN G → ¬ a ∈ kL → mi' a = mi a) → K (some (pI (oThing s k v c).1)) G' mi') :
    OkC (d + 5) 161 [pR (some 0), pI k, pI v, pI c] G mi K := by
  obtain ⟨⟨⟨k1, k2, k3, l3, k9, l9, k10, l10, k11, l11⟩, ⟨k12, k13, l13, k14, k15, l15, k16, k17, l17, k18, l18⟩, ⟨r10, r14, r15, r16, r113, r114, r115, r116, r22, r122, r142, r162⟩⟩, -, ⟨⟨k0, r00, r01, r02, r03⟩, ⟨k37, r372, k38, l38⟩, ⟨k39, r390, r391, r392, r393, r394, r396, r397⟩, ⟨k40, l40, k41, l41, k42, l42, k43, l43, k44, l44, k45, l45⟩⟩⟩ := id hC
  obtain ⟨⟨n2, n3, n7, n8, n9, n10, n11, n12⟩, ⟨hm1, hm2⟩, ⟨⟨t0, t1, t3⟩, ht4⟩, ⟨⟨u0, u1, u3⟩, hu4⟩, ⟨⟨p0, p1, p3⟩, hp4⟩, ⟨⟨b0, b1, b3⟩, hb4⟩⟩ := hR.o
  obtain ⟨⟨⟨z0, z1, z8, z9, z10, z11, z12, z13, z14, z15, z16⟩, hh01, hT, hz17⟩, hWV, hWD, hWB, hWP, hWT, hWZ, hWF, hWK⟩ := id hW
  have hKs := fun (e : (oThing s k v c).2 = s) => hK G mi GX.rf (by omega) (by omega) (fun _ => rfl) rfl hB (by rw [e]; exact hR) (fun _ _ _ => rfl)
  rw [E161]
  by_cases h1 : 0 ≤ k ∧ k ≤ 6
  · by_cases hc : isC c
    · by_cases hv : 0 ≤ v ∧ v ≤ 9
      · by_cases c3 : s 11 = 6
        · have e : oThing s k v c = (-4, s) := by unfold oThing; rw [if_pos ⟨h1, hc⟩, if_pos hv, if_pos c3]
          have hK := hKs (by rw [e])
          rw [e] at hK
          simp (disch := first | assumption | exact isL_i | exact isL_r | exact isL_n | exact i01a | exact i01b | omega) only [K161_0, K161_1, K161_2, K161_4, K161_7, K161_10, K161_11, K161_14, K161_17, K161_18, K161_19, K161_20, K161_21, K161_23, K161_26, K161_29, K161_31, K161_32, K161_33, K161_36, K161_39, K161_41, K161_44, K161_46, r10, r14, r15, r16, r113, r114, r115, r116, r22, r122, r142, r162, r00, r01, r02, r03, r372, r390, r391, r392, r393, r394, r396, r397, n2, n3, n7, n8, n9, n10, n11, n12, t0, t1, t3, u0, u1, u3, p0, p1, p3, b0, b1, b3, wr_id, td_e, tm_e, pu_n, pu_s, up_s, up_k, up_a, ↓reduceIte, Int.reduceLT, Int.reduceLE, Int.reduceEq, Int.reduceNeg, Int.reduceAdd, Int.reduceSub, Int.reduceMul, Int.reduceMod, Int.reduceDiv, Int.cast_ofNat_Int, not_true_eq_false, not_false_eq_true, Int.reduceTDiv, Int.reduceTMod, c_within, c_isCell, if_pos, if_neg]
          exact hK
        · have e : oThing s k v c = (s 11, sH (sH (sH (sH (sH (sH (sH (sH (sH s (18 + s 11) k) (24 + s 11) v) (30 + s 11) c) (2 + s 11) 0) (36 + 4 * s 11) 0) (36 + 4 * s 11 + 1) 0) (36 + 4 * s 11 + 2) 0) (36 + 4 * s 11 + 3) 0) 11 (s 11 + 1)) := by unfold oThing; rw [if_pos ⟨h1, hc⟩, if_pos hv, if_neg c3]
          obtain ⟨q1, q2, q3, q4, q5⟩ := oThing_s (k := k) (v := v) (c := c) hW c3 rfl
          rw [e] at hK
          dsimp only at hK
          revert hK q1 q2 q3 q4 q5
          generalize sH (sH (sH (sH (sH (sH (sH (sH (sH s (18 + s 11) k) (24 + s 11) v) (30 + s 11) c) (2 + s 11) 0) (36 + 4 * s 11) 0) (36 + 4 * s 11 + 1) 0) (36 + 4 * s 11 + 2) 0) (36 + 4 * s 11 + 3) 0) 11 (s 11 + 1) = s'
          intro hK q1 q2 q3 q4 q5
          simp (disch := first | assumption | exact isL_i | exact isL_r | exact isL_n | exact i01a | exact i01b | omega) only [K161_0, K161_1, K161_2, K161_4, K161_7, K161_10, K161_11, K161_14, K161_17, K161_18, K161_19, K161_20, K161_21, K161_23, K161_26, K161_29, K161_31, K161_32, K161_33, K161_36, K161_39, K161_41, K161_44, K161_46, K161_47, K161_48, K161_51, K161_52, K161_53, K161_54, K161_57, K161_60, r10, r14, r15, r16, r113, r114, r115, r116, r22, r122, r142, r162, r00, r01, r02, r03, r372, r390, r391, r392, r393, r394, r396, r397, n2, n3, n7, n8, n9, n10, n11, n12, t0, t1, t3, u0, u1, u3, p0, p1, p3, b0, b1, b3, wr_id, td_e, tm_e, pu_n, pu_s, up_s, up_k, up_a, ↓reduceIte, Int.reduceLT, Int.reduceLE, Int.reduceEq, Int.reduceNeg, Int.reduceAdd, Int.reduceSub, Int.reduceMul, Int.reduceMod, Int.reduceDiv, Int.cast_ofNat_Int, not_true_eq_false, not_false_eq_true, Int.reduceTDiv, Int.reduceTMod, c_within, c_isCell, if_pos, if_neg]
          rw [K161_61 k0, c_newThing hC hN h1.1 h1.2]
          have hX1 : GX G (setR (newG G (kcl k, 0) 4) (gN G) 3 (some 37)) := GX.new
          obtain ⟨⟨n2', n3', -⟩, -⟩ := hR.o
          generalize hG1 : setR (newG G (kcl k, 0) 4) (gN G) 3 (some 37) = G1 at hX1 ⊢
          have hk1 : (gK G1 1).1 = 7 := by rw [hX1.2.1 1 (by omega)]; exact k1
          have hk9 : (gK G1 9).1 = 22 := by rw [hX1.2.1 9 (by omega)]; exact k9
          have hl9 : (gK G1 9).2 = 6 := by rw [hX1.2.1 9 (by omega)]; exact l9
          have hk10 : (gK G1 10).1 = 20 := by rw [hX1.2.1 10 (by omega)]; exact k10
          have hk10' : 20 ≤ (gK G1 10).1 := by omega
          have hk9' : 20 ≤ (gK G1 9).1 := by omega
          have hl10 : (gK G1 10).2 = 6 := by rw [hX1.2.1 10 (by omega)]; exact l10
          have hr4 : gR G1 1 4 = some 9 := by rw [hX1.2.2 1 4 (by omega) (by unfold PX; omega)]; exact r14
          have hr5 : gR G1 1 5 = some 10 := by rw [hX1.2.2 1 5 (by omega) (by unfold PX; omega)]; exact r15
          have hT1 : gK G1 (gN G) = (kcl k, 0) := by rw [← hG1]; exact (ng_s : gK (newG G (kcl k, 0) 4) (gN G) = (kcl k, 0))
          have hT3 : gR G1 (gN G) 3 = some 37 := by rw [← hG1]; exact sr_s
          have hg1 : gN G1 = gN G + 1 := by rw [← hG1]; rfl
          have hs1 : gS G1 = gS G + 4 := by rw [← hG1]; rfl
          have h27 : ∀ j, gR G1 27 j = gR G 27 j := fun j => by rw [← hG1, sr_ra (by omega), ng_r (by omega)]
          have h9 : ∀ j, gR G1 9 j = gR G 9 j := fun j => by rw [← hG1, sr_ra (by omega), ng_r (by omega)]
          have h191 : gR G1 19 1 = gR G 19 1 := by rw [← hG1, sr_ra (by omega), ng_r (by omega)]
          have h11 : gR G1 1 1 = gR G 1 1 := by rw [← hG1, sr_ra (by omega), ng_r (by omega)]
          have hmf : ∀ a : Nat, a < gN G → up (up (up (newM G mi) (gN G) 0 k) (gN G) 1 (s 11)) (gN G) 2 v a = mi a := fun a ha => by
            rw [up_a (by omega), up_a (by omega), up_a (by omega), nw_k (by omega)]
          have hmT0 : up (up (up (newM G mi) (gN G) 0 k) (gN G) 1 (s 11)) (gN G) 2 v (gN G) 0 = k := by simp (disch := decide) only [up_k, up_s]
          have hmT1 : up (up (up (newM G mi) (gN G) 0 k) (gN G) 1 (s 11)) (gN G) 2 v (gN G) 1 = s 11 := by simp (disch := decide) only [up_k, up_s]
          have hmT2 : up (up (up (newM G mi) (gN G) 0 k) (gN G) 1 (s 11)) (gN G) 2 v (gN G) 2 = v := up_s
          generalize up (up (up (newM G mi) (gN G) 0 k) (gN G) 1 (s 11)) (gN G) 2 v = m1 at hmf hmT0 hmT1 hmT2 ⊢
          have hm13 : m1 1 3 = s 11 := by rw [hmf 1 (by omega)]; exact n3
          have hto : thgO G1 (some (gN G)) = true := by show thg (gK G1 (gN G)).1 = true; rw [hT1]; exact kcl_thg
          have hk1' : (gK (setR G1 9 (s 11) (some (gN G))) 1).1 = 7 := hk1
          have hk10a : (gK (setR G1 9 (s 11) (some (gN G))) 10).1 = 20 := hk10
          have hl10' : (gK (setR G1 9 (s 11) (some (gN G))) 10).2 = 6 := hl10
          have hr5' : gR (setR G1 9 (s 11) (some (gN G))) 1 5 = some 10 := by rw [sr_ra (by decide)]; exact hr5
          simp (disch := first | assumption | exact isL_i | exact isL_r | exact isL_n | exact i01a | exact i01b | omega) only [K161_64, wr_id, td_e, tm_e, pu_n, pu_s, up_s, up_k, up_a, ↓reduceIte, Int.reduceLT, Int.reduceLE, Int.reduceEq, Int.reduceNeg, Int.reduceAdd, Int.reduceSub, Int.reduceMul, Int.reduceMod, Int.reduceDiv, Int.cast_ofNat_Int, not_true_eq_false, not_false_eq_true, Int.reduceTDiv, Int.reduceTMod]
          rw [K161_65 hk1, E136]
          simp (disch := first | assumption | exact isL_i | exact isL_r | exact isL_n | exact i01a | exact i01b | omega) only [K136_0, K136_1, K136_4, K136_5, K136_6, K136_9, K136_10, K136_11, K136_14, K136_15, K136_18, K136_19, K136_20, K136_23, K136_24, K136_27, K136_29, K136_30, K136_31, K136_34, K136_35, K136_36, K136_37, K136_38, K136_41, K136_42, K136_43, K136_44, K136_45, K136_45i, K136_46, K136_49, K136_50, K136_51, K136_54, K136_55, K161_68, wr_id, td_e, tm_e, pu_n, pu_s, up_s, up_k, up_a, ↓reduceIte, Int.reduceLT, Int.reduceLE, Int.reduceEq, Int.reduceNeg, Int.reduceAdd, Int.reduceSub, Int.reduceMul, Int.reduceMod, Int.reduceDiv, Int.cast_ofNat_Int, not_true_eq_false, not_false_eq_true, Int.reduceTDiv, Int.reduceTMod, hm13, hr4, hr5, hr5', hl9, hl10, hl10', if_pos, if_neg]
          have hX2 : GX G1 (setR G1 9 (s 11) (some (gN G))) := GX.sr (Or.inl rfl)
          have hX := hX1.tr hX2
          have hfr : ∀ a : Nat, a < gN G → ¬ a ∈ kL → up (up m1 10 (s 11) c) 1 3 (s 11 + 1) a = mi a := by
            intro a ha hk
            have e1 : ¬ a = 1 := fun e => hk (by rw [e]; decide)
            have e10 : ¬ a = 10 := fun e => hk (by rw [e]; decide)
            rw [up_a e1, up_a e10, hmf a ha]
          have hoc : ∀ a : Nat, a = 2 ∨ a = 3 ∨ 11 ≤ a ∧ a ≤ 17 → up (up m1 10 (s 11) c) 1 3 (s 11 + 1) a = mi a := fun a ha => by
            rw [up_a (by omega), up_a (by omega), hmf a (by omega)]
          refine hK _ _ hX (by show gN G1 ≤ _; omega) (by show gS G1 ≤ _; omega) (fun j => by rw [sr_ra (by decide)]; exact h27 j) (by rw [sr_ra (by decide)]; exact h191) ⟨fun p T hp => ?_, fun V hV => ?_⟩ ?_ hfr
          · show T < gN G1 ∧ thg (gK G1 T).1 = true
            by_cases e : p = s 11
            · subst e
              have : some (gN G) = some T := by rw [← hp]; exact sr_s.symm
              have := Option.some.inj this
              subst this
              exact ⟨by omega, by rw [hT1]; exact kcl_thg⟩
            · have hp' : gR (setR G1 9 (s 11) (some (gN G))) 9 p = some T := hp
              rw [sr_ri e, h9] at hp'
              obtain ⟨f1, f2⟩ := hB.1 p T hp'
              exact ⟨by omega, by rw [hX1.2.1 T f1]; exact f2⟩
          · show V + 3 < gN G1
            rw [sr_ra (by decide), h11] at hV
            have := hB.2 V hV
            omega
          · refine ⟨⟨?_, ⟨fun p p0 p1 => ?_, fun j j0 j1 => ?_⟩, ?_, ?_, ?_, ?_⟩, fun p p0 p1 => ?_, ?_⟩
            · have eh : hadB s' = hadB s := hadB_c (fun j j0 j1 => q5 j (by omega) (by omega) (by omega) (by omega))
              have m1e : m1 1 = mi 1 := hmf 1 (by omega)
              refine ⟨?_, ?_, ?_, ?_, ?_, ?_, ?_, ?_⟩
              · rw [up_k (by decide), up_a (by decide), m1e, q5 12 (by decide) (by omega) (by omega) (by omega)]; exact n2
              · rw [up_s, q1]
              · rw [up_k (by decide), up_a (by decide), m1e, eh]; exact n7
              · rw [up_k (by decide), up_a (by decide), m1e, q5 0 (by decide) (by omega) (by omega) (by omega)]; exact n8
              · rw [up_k (by decide), up_a (by decide), m1e, q5 1 (by decide) (by omega) (by omega) (by omega)]; exact n9
              · rw [up_k (by decide), up_a (by decide), m1e, q5 8 (by decide) (by omega) (by omega) (by omega)]; exact n10
              · rw [up_k (by decide), up_a (by decide), m1e, q5 9 (by decide) (by omega) (by omega) (by omega)]; exact n11
              · rw [up_k (by decide), up_a (by decide), m1e, q5 10 (by decide) (by omega) (by omega) (by omega)]; exact n12
            · rw [q1] at p1
              show up (up m1 10 (s 11) c) 1 3 (s 11 + 1) 10 p = _
              rw [up_a (by decide)]
              by_cases e : p = s 11
              · subst e; rw [up_s, q4]
              · rw [up_k e, hmf 10 (by omega), q5 (30 + p) (by omega) (by omega) (by omega) (by omega)]
                exact hm1 p p0 (by omega)
            · show up (up m1 10 (s 11) c) 1 3 (s 11 + 1) 11 j = _
              rw [hoc 11 (by omega), q5 (36 + j) (by omega) (by omega) (by omega) (by omega)]
              exact hm2 j j0 j1
            · exact RNt.c hR.1.2.2.1 z16.2 (hoc _ (by omega)) (hoc _ (by omega)) (fun j hj => q5 j (by omega) (by omega) (by omega) (by omega))
            · exact RNs.c hR.1.2.2.2.1 z13.2 (hoc _ (by omega)) (hoc _ (by omega)) (fun j hj => q5 j (by omega) (by omega) (by omega) (by omega))
            · exact RNp.c hR.1.2.2.2.2.1 z14.2 (hoc _ (by omega)) (hoc _ (by omega)) (fun j hj => q5 j (by omega) (by omega) (by omega) (by omega))
            · exact RNb.c hR.1.2.2.2.2.2 z15.2 (hoc _ (by omega)) (hoc _ (by omega)) (fun j hj => q5 j (by omega) (by omega) (by omega) (by omega))
            · rw [q1] at p1
              by_cases e : p = s 11
              · subst e
                refine ⟨gN G, sr_s, hN, ?_⟩
                rw [q2, q3]
                refine ⟨by show (gK G1 (gN G)).1 = _; rw [hT1], ?_, ?_, ?_, by rw [sr_ra (by omega)]; exact hT3⟩
                · rw [up_a (by omega), up_a (by omega)]; exact hmT0
                · rw [up_a (by omega), up_a (by omega)]; exact hmT1
                · rw [up_a (by omega), up_a (by omega)]; exact hmT2
              · obtain ⟨T, g1, g2, hTh⟩ := hR.2.1 p p0 (by omega)
                have hTl := (hB.1 p T g1).1
                refine ⟨T, ?_, g2, ?_⟩
                · show gR (setR G1 9 (s 11) (some (gN G))) 9 p = _
                  rw [sr_ri e, h9]; exact g1
                · rw [q5 (18 + p) (by omega) (by omega) (by omega) (by omega), q5 (24 + p) (by omega) (by omega) (by omega) (by omega)]
                  exact hTh.x g2 hTl hX hfr
            · obtain ⟨V, v1, v2⟩ := hR.2.2
              obtain ⟨y1, y2, y3, y4, -⟩ := vw_c hz17.1 (s' := s') (fun j hj => q5 j (by omega) (by omega) (by omega) (by omega))
              refine ⟨V, by rw [sr_ra (by decide), h11]; exact v1, v2.x (hB.2 V v1) hX hfr y1 y2 y3 y4⟩
      · have e : oThing s k v c = (-2, s) := by unfold oThing; rw [if_pos ⟨h1, hc⟩, if_neg hv]
        have hK := hKs (by rw [e])
        rw [e] at hK
        simp (disch := first | assumption | exact isL_i | exact isL_r | exact isL_n | exact i01a | exact i01b | omega) only [K161_0, K161_1, K161_2, K161_4, K161_7, K161_10, K161_11, K161_14, K161_17, K161_18, K161_19, K161_20, K161_21, K161_23, K161_26, K161_29, K161_31, r10, r14, r15, r16, r113, r114, r115, r116, r22, r122, r142, r162, r00, r01, r02, r03, r372, r390, r391, r392, r393, r394, r396, r397, n2, n3, n7, n8, n9, n10, n11, n12, t0, t1, t3, u0, u1, u3, p0, p1, p3, b0, b1, b3, wr_id, td_e, tm_e, pu_n, pu_s, up_s, up_k, up_a, ↓reduceIte, Int.reduceLT, Int.reduceLE, Int.reduceEq, Int.reduceNeg, Int.reduceAdd, Int.reduceSub, Int.reduceMul, Int.reduceMod, Int.reduceDiv, Int.cast_ofNat_Int, not_true_eq_false, not_false_eq_true, Int.reduceTDiv, Int.reduceTMod, c_within, c_isCell, if_pos, if_neg]
        exact hK
    · have e : oThing s k v c = (-1, s) := by unfold oThing; rw [if_neg (fun h => hc h.2)]
      have hK := hKs (by rw [e])
      rw [e] at hK
      simp (disch := first | assumption | exact isL_i | exact isL_r | exact isL_n | exact i01a | exact i01b | omega) only [K161_0, K161_1, K161_2, K161_4, K161_7, K161_10, K161_11, K161_14, K161_17, K161_18, r10, r14, r15, r16, r113, r114, r115, r116, r22, r122, r142, r162, r00, r01, r02, r03, r372, r390, r391, r392, r393, r394, r396, r397, n2, n3, n7, n8, n9, n10, n11, n12, t0, t1, t3, u0, u1, u3, p0, p1, p3, b0, b1, b3, wr_id, td_e, tm_e, pu_n, pu_s, up_s, up_k, up_a, ↓reduceIte, Int.reduceLT, Int.reduceLE, Int.reduceEq, Int.reduceNeg, Int.reduceAdd, Int.reduceSub, Int.reduceMul, Int.reduceMod, Int.reduceDiv, Int.cast_ofNat_Int, not_true_eq_false, not_false_eq_true, Int.reduceTDiv, Int.reduceTMod, c_within, c_isCell, if_pos, if_neg]
      exact hK
  · have e : oThing s k v c = (-1, s) := by unfold oThing; rw [if_neg (fun h => h1 h.1)]
    have hK := hKs (by rw [e])
    rw [e] at hK
    simp (disch := first | assumption | exact isL_i | exact isL_r | exact isL_n | exact i01a | exact i01b | omega) only [K161_0, K161_1, K161_2, K161_4, K161_7, K161_10, K161_11, K161_14, K161_17, K161_18, r10, r14, r15, r16, r113, r114, r115, r116, r22, r122, r142, r162, r00, r01, r02, r03, r372, r390, r391, r392, r393, r394, r396, r397, n2, n3, n7, n8, n9, n10, n11, n12, t0, t1, t3, u0, u1, u3, p0, p1, p3, b0, b1, b3, wr_id, td_e, tm_e, pu_n, pu_s, up_s, up_k, up_a, ↓reduceIte, Int.reduceLT, Int.reduceLE, Int.reduceEq, Int.reduceNeg, Int.reduceAdd, Int.reduceSub, Int.reduceMul, Int.reduceMod, Int.reduceDiv, Int.cast_ofNat_Int, not_true_eq_false, not_false_eq_true, Int.reduceTDiv, Int.reduceTMod, c_within, if_pos, if_neg]
    exact hK
end CL
