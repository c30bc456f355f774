/-! ===== the class's view, whole ===== -/
theorem RS.v {s s' : Int → Int} {G G' : Gh} {mi mi' : Mi} (hR : RS 1 s G mi) (hW : WfA s) (hB : GB 1 G) (hN : 55 ≤ gN G) (hx : GX G G') (h9 : ∀ j : Int, gR G' 9 j = gR G 9 j) (hm : ∀ a : Nat, a < gN G → ¬ a = 1 → ¬ a = 2 → mi' a = mi a)
    (e2 : mi' 2 0 = 1 ∧ mi' 2 1 = 100 ∧ mi' 2 3 = 0) (hs16 : s' 16 = 0) (he : ∀ j : Int, j < 199 → ¬ j = 12 → ¬ j = 16 → ¬ j = 17 → s' j = s j) (hn : RNn 1 s' mi') (hV : RV 1 s' G' mi') : RS 1 s' G' mi' := by
  obtain ⟨⟨⟨z0, z1, z8, z9, z10, z11, z12, z13, z14, z15, z16⟩, hh01, hT, hz17⟩, hWV, hWD, hWB, hWP, hWT, hWZ, hWF, hWK⟩ := id hW
  refine ⟨⟨hn, ?_, ?_, ?_, ?_, ?_⟩, fun p p0 p1 => ?_, hV⟩
  · exact RNh.c hR.1.2.1 z11.2 (hm _ (by omega) (by decide) (by decide)) (hm _ (by omega) (by decide) (by decide)) (fun j hj => he j (by omega) (by omega) (by omega) (by omega))
  · refine ⟨⟨e2.1, e2.2.1, ?_⟩, fun j j0 j1 => ?_⟩
    · rw [hs16]; exact e2.2.2
    · rw [hs16] at j1; omega
  · exact RNs.c hR.1.2.2.2.1 z13.2 (hm _ (by omega) (by decide) (by decide)) (hm _ (by omega) (by decide) (by decide)) (fun j hj => he j (by omega) (by omega) (by omega) (by omega))
  · exact RNp.c hR.1.2.2.2.2.1 z14.2 (hm _ (by omega) (by decide) (by decide)) (hm _ (by omega) (by decide) (by decide)) (fun j hj => he j (by omega) (by omega) (by omega) (by omega))
  · exact RNb.c hR.1.2.2.2.2.2 z15.2 (hm _ (by omega) (by decide) (by decide)) (hm _ (by omega) (by decide) (by decide)) (fun j hj => he j (by omega) (by omega) (by omega) (by omega))
  · rw [he 11 (by decide) (by decide) (by decide) (by decide)] at p1
    obtain ⟨T, g1, g2, hTh⟩ := hR.2.1 p p0 p1
    have hTl := (hB.1 p T g1).1
    refine ⟨T, ?_, g2, ?_⟩
    · show gR G' 9 p = _
      rw [h9]; exact g1
    · rw [he (18 + p) (by omega) (by omega) (by omega) (by omega), he (24 + p) (by omega) (by omega) (by omega) (by omega)]
      exact hTh.x g2 hTl hx (fun a ha hk => hm a ha (fun e => hk (by rw [e]; decide)) (fun e => hk (by rw [e]; decide)))
/-- a view that failed leaves what the newest one tells -/
theorem vw_out {s s' : Int → Int} {a : Int} (hV : WfV s) (h17 : -1 ≤ s 17) (h17a : s 17 < a) (ha : a ≤ 4) (h : OutV a (sH s 16 0) s') : coinF s' = coinF s ∧ telF s' 204 0 = telF s 204 0 ∧ telF s' 209 0 = telF s 209 0 ∧ stepsF s' = stepsF s ∧ manyF s' = manyF s := by
  have k : ∀ j : Int, ¬ j = 16 → ¬ j = 199 + a → ¬ j = 204 + a → ¬ j = 209 + a → ¬ j = 214 + a → ¬ (219 + 140 * a ≤ j ∧ j < 359 + 140 * a) → s' j = s j := fun j h0 h1 h2 h3 h4 h5 => by rw [h j h1 h2 h3 h4 h5, sH_k h0]
  have e17 : s' 17 = s 17 := k 17 (by decide) (by omega) (by omega) (by omega) (by omega) (by omega)
  have et : ∀ w n : Int, (w = 199 ∨ w = 204 ∨ w = 209) → telF s' w n = telF s w n := fun w n hw => st_tel e17 (fun hne => k _ (by omega) (by omega) (by omega) (by omega) (by omega) (by omega))
  have em : manyF s' = manyF s := by
    unfold manyF
    rw [e17]
    by_cases c : s 17 = -1
    · rw [if_pos c, if_pos c]
    · rw [if_neg c, if_neg c]; exact k _ (by omega) (by omega) (by omega) (by omega) (by omega) (by omega)
  refine ⟨?_, et 204 0 (Or.inr (Or.inl rfl)), et 209 0 (Or.inr (Or.inr rfl)), ?_, em⟩
  · unfold coinF; rw [et 199 8 (Or.inl rfl)]
  · unfold stepsF
    rw [em, e17]
    have hm := hV.1
    refine seg_c _ _ (fun q q0 q1 => ?_)
    by_cases c : s 17 = -1
    · have : manyF s = 0 := by unfold manyF; rw [if_pos c]
      omega
    · exact k _ (by omega) (by omega) (by omega) (by omega) (by omega) (by omega)
/-- what a new view tells -/
theorem vw_new {s s1 s' : Int → Int} {a : Int} {cs : List Cl} (ha : 0 ≤ a) (ha' : a ≤ 4) (h : ApI a (sH s 16 0) cs s1) (hs : s' = sH (sH s1 12 (a + 1)) 17 a) : coinF s' = cmx (lastN 0 8 cs) ∧ telF s' 204 0 = lastN 1 0 cs ∧ telF s' 209 0 = lastN 2 0 cs ∧ stepsF s' = flC (condL cs) ∧ manyF s' = ((flC (condL cs)).length : Int) := by
  obtain ⟨h1, ⟨h2, h3, h4⟩, h5, h6⟩ := h
  have e17 : s' 17 = a := by rw [hs, sH_s]
  have k : ∀ j : Int, 199 ≤ j → s' j = s1 j := fun j hj => by rw [hs, sH_k (by omega), sH_k (by omega)]
  have hn : ¬ s' 17 = -1 := by omega
  have em : manyF s' = ((flC (condL cs)).length : Int) := by unfold manyF; rw [if_neg hn, e17, k _ (by omega)]; exact h5
  have t : ∀ w n : Int, 199 ≤ w → telF s' w n = s1 (w + a) := fun w n hw => by unfold telF; rw [if_neg hn, e17, k _ (by omega)]
  refine ⟨?_, by rw [t _ _ (by decide)]; exact h3, by rw [t _ _ (by decide)]; exact h4, ?_, em⟩
  · unfold coinF cmx; rw [t _ _ (by decide), h2]
  · unfold stepsF
    rw [em, e17, Int.toNat_natCast, seg_c (s := s1) _ _ (fun q q0 q1 => k q (by omega))]
    exact h6
section CL
variable {d : Nat} {G : Gh} {mi mi' mi'' : Mi} {K : Option PV → Gh → Mi → Prop} {V Sg : Nat} {p t v a b c k n g q e i j op x r : Int} {h : Int → Int} {s : Int → Int} {u w : Nat} {cs : List Cl}
theorem c_view (hC : ShC G) (hN : 55 ≤ gN G) (hB : GB 1 G) (hR : RS 1 s G mi) (hW : WfA s)
    (hK : ∀ G' mi', GX G G' → gN G' ≤ gN G + 6 → gS G' ≤ gS G + 230 → (∀ j, gR G' 27 j = gR G 27 j) → gR G' 19 1 = gR G 19 1 → GB 1 G' → (∀ s', VwR s s' → RS 1 s' G' mi') → (∀ a : Nat, a < gN G → ¬ a ∈ kL → mi' a = mi a) → K (some (pI (vwA s))) G' mi') :
    OkC (d + 416) 160 [pR (some 0)] G mi K := by
  obtain ⟨⟨⟨k1, k2, k3, l3, k9, l9, k10, l10, k11, l11⟩, ⟨k12, k13, l13, k14, k15, l15, k16, k17, l17, k18, l18⟩, ⟨r10, r14, r15, r16, r113, r114, r115, r116, r22, r122, r142, r162⟩⟩, -, ⟨⟨k0, r00, r01, r02, r03⟩, ⟨k37, r372, k38, l38⟩, ⟨k39, r390, r391, r392, r393, r394, r396, r397⟩, ⟨k40, l40, k41, l41, k42, l42, k43, l43, k44, l44, k45, l45⟩⟩⟩ := id hC
  obtain ⟨⟨n2, n3, n7, n8, n9, n10, n11, n12⟩, ⟨hm1, hm2⟩, ⟨⟨t0, t1, t3⟩, ht4⟩, ⟨⟨u0, u1, u3⟩, hu4⟩, ⟨⟨p0, p1, p3⟩, hp4⟩, ⟨⟨b0, b1, b3⟩, hb4⟩⟩ := hR.o
  obtain ⟨⟨⟨z0, z1, z8, z9, z10, z11, z12, z13, z14, z15, z16⟩, hh01, hT, hz17⟩, hWV, hWD, hWB, hWP, hWT, hWZ, hWF, hWK⟩ := id hW
  rw [E160]
  by_cases c5 : s 12 = 5
  · have e : vwA s = -4 := if_pos c5
    rw [e] at hK
    simp (disch := first | assumption | exact isL_i | exact isL_r | exact isL_n | exact i01a | exact i01b | omega) only [K160_0, K160_1, K160_4, K160_7, K160_8, K160_11, K160_13, r10, r14, r15, r16, r113, r114, r115, r116, r22, r122, r142, r162, r00, r01, r02, r03, r372, r390, r391, r392, r393, r394, r396, r397, n2, n3, n7, n8, n9, n10, n11, n12, t0, t1, t3, u0, u1, u3, p0, p1, p3, b0, b1, b3, wr_id, td_e, tm_e, pu_n, pu_s, up_s, up_k, up_a, ↓reduceIte, Int.reduceLT, Int.reduceLE, Int.reduceEq, Int.reduceNeg, Int.reduceAdd, Int.reduceSub, Int.reduceMul, Int.reduceMod, Int.reduceDiv, Int.cast_ofNat_Int, not_true_eq_false, not_false_eq_true, Int.reduceTDiv, Int.reduceTMod, if_pos, if_neg]
    exact hK G mi GX.rf (by omega) (by omega) (fun _ => rfl) rfl hB (fun s' hs' => by
      unfold VwR at hs'
      rw [if_pos c5] at hs'
      rw [hs']; exact hR) (fun _ _ _ => rfl)
  · have hS : SgF (hVw s) (s 16) := hVw_S z16.1 z16.2 hWT
    simp (disch := first | assumption | exact isL_i | exact isL_r | exact isL_n | exact i01a | exact i01b | omega) only [K160_0, K160_1, K160_4, K160_7, K160_8, K160_11, K160_13, K160_14, K160_17, K160_17i, r10, r14, r15, r16, r113, r114, r115, r116, r22, r122, r142, r162, r00, r01, r02, r03, r372, r390, r391, r392, r393, r394, r396, r397, n2, n3, n7, n8, n9, n10, n11, n12, t0, t1, t3, u0, u1, u3, p0, p1, p3, b0, b1, b3, wr_id, td_e, tm_e, pu_n, pu_s, up_s, up_k, up_a, ↓reduceIte, Int.reduceLT, Int.reduceLE, Int.reduceEq, Int.reduceNeg, Int.reduceAdd, Int.reduceSub, Int.reduceMul, Int.reduceMod, Int.reduceDiv, Int.cast_ofNat_Int, not_true_eq_false, not_false_eq_true, Int.reduceTDiv, Int.reduceTMod, if_pos, if_neg]
    have gk1 : ∀ a : Nat, a < gN G → gK (newG G (11, 0) 10) a = gK G a := fun a ha => ng_k (by omega)
    have gr1 : ∀ (a : Nat) (j : Int), a < gN G → gR (newG G (11, 0) 10) a j = gR G a j := fun a j ha => ng_r (by omega)
    have gv1 : gK (newG G (11, 0) 10) (gN G) = (11, 0) := ng_s
    have gn1 : gN (newG G (11, 0) 10) = gN G + 1 := rfl
    have gs1 : gS (newG G (11, 0) 10) = gS G + 10 := rfl
    have gl1 : gL (newG G (11, 0) 10) = gL G ∧ gX (newG G (11, 0) 10) = gX G := ⟨rfl, rfl⟩
    have mm1 : ∀ a : Nat, a < gN G → newM G mi a = mi a := fun a ha => nw_k (by omega)
    rw [K160_18]
    revert gk1 gr1 gv1 gn1 gs1 gl1 mm1
    generalize newG G (11, 0) 10 = G1
    generalize newM G mi = m1
    intro gk1 gr1 gv1 gn1 gs1 gl1 mm1
    refine c_vinit (V := gN G) (by rw [gv1]) (by omega) fun G2 m2 hVI hm2 hz2 hv2 => ?_
    obtain ⟨⟨gn2, gs2, gl2, gx2⟩, gk2, gr2, ⟨ga2, gb2, ge2, gf2⟩, gv3, gv5, gv6⟩ := hVI
    have gkA : ∀ a : Nat, a < gN G → gK G2 a = gK G a := fun a ha => (gk2 a (by omega)).trans (gk1 a ha)
    have grA : ∀ (a : Nat) (j : Int), a < gN G → gR G2 a j = gR G a j := fun a j ha => (gr2 a j (by omega) (by omega)).trans (gr1 a j ha)
    have mA : ∀ a : Nat, a < gN G → m2 a = mi a := fun a ha => (hm2 a (by omega) (by omega)).trans (mm1 a ha)
    have q0 : (gK G2 0).1 = 12 := by rw [gkA 0 (by omega)]; exact k0
    have q1 : (gK G2 1).1 = 7 := by rw [gkA 1 (by omega)]; exact k1
    have q2 : (gK G2 2).1 = 8 := by rw [gkA 2 (by omega)]; exact k2
    have q3 : (gK G2 3).1 = 20 := by rw [gkA 3 (by omega)]; exact k3
    have y3 : (gK G2 3).2 = 100 := by rw [gkA 3 (by omega)]; exact l3
    have w00 : gR G2 0 0 = some 1 := by rw [grA 0 0 (by omega)]; exact r00
    have w10 : gR G2 1 0 = some 2 := by rw [grA 1 0 (by omega)]; exact r10
    have w22 : gR G2 2 2 = some 3 := by rw [grA 2 2 (by omega)]; exact r22
    simp (disch := first | assumption | exact isL_i | exact isL_r | exact isL_n | exact i01a | exact i01b | omega) only [K160_21, K160_22, K160_23, K160_24, K160_27, wr_id, td_e, tm_e, pu_n, pu_s, up_s, up_k, up_a, ↓reduceIte, Int.reduceLT, Int.reduceLE, Int.reduceEq, Int.reduceNeg, Int.reduceAdd, Int.reduceSub, Int.reduceMul, Int.reduceMod, Int.reduceDiv, Int.cast_ofNat_Int, not_true_eq_false, not_false_eq_true, Int.reduceTDiv, Int.reduceTMod, pu_n, w00, w10]
    rw [K160_30 q2]
    refine c_firstColumn (d := d + 414) (e := s 16) (by omega) q2 w22 q3 y3 z16.1 z16.2 (by rw [mA 2 (by omega)]; exact t0) (by rw [mA 2 (by omega)]; exact t1) (by rw [mA 2 (by omega)]; exact t3) fun m3 hm3 hj3 => ?_
    have gkB : ∀ a : Nat, a < gN G + 5 → gK (newG G2 (20, (s 16).toNat) (s 16).toNat) a = gK G2 a := fun a ha => ng_k (by omega)
    have grB : ∀ (a : Nat) (j : Int), a < gN G + 5 → gR (newG G2 (20, (s 16).toNat) (s 16).toNat) a j = gR G2 a j := fun a j ha => ng_r (by omega)
    have gvB : gK (newG G2 (20, (s 16).toNat) (s 16).toNat) (gN G2) = (20, (s 16).toNat) := ng_s
    have gnB : gN (newG G2 (20, (s 16).toNat) (s 16).toNat) = gN G + 6 := by rw [gn_ng, gn2, gn1]
    have gsB : gS (newG G2 (20, (s 16).toNat) (s 16).toNat) ≤ gS G + 230 := by rw [gs_ng, gs2, gs1]; omega
    have glB : gL (newG G2 (20, (s 16).toNat) (s 16).toNat) = gL G ∧ gX (newG G2 (20, (s 16).toNat) (s 16).toNat) = gX G := ⟨gl2.trans gl1.1, gx2.trans gl1.2⟩
    revert gkB grB gvB gnB gsB glB
    generalize newG G2 (20, (s 16).toNat) (s 16).toNat = G3
    intro gkB grB gvB gnB gsB glB
    have eSg : gN G2 = gN G + 5 := by omega
    rw [eSg] at gvB hm3 hj3 ⊢
    have q3V : (gK G3 (gN G)).1 = 11 := by rw [gkB _ (by omega), gk2 _ (by omega), gv1]
    rw [pu_s, K160_33 q3V]
    have m3a : ∀ a : Nat, a < gN G → m3 a = mi a := fun a ha => (hm3 a (by omega)).trans (mA a ha)
    have m3V : m3 (gN G) = m2 (gN G) := hm3 _ (by omega)
    obtain ⟨v20, v21, v22, v24, v27, v29⟩ := hv2
    have hVS : VwS (setR G3 (gN G) 8 (some (gN G + 5))) (gN G) := by
      refine ⟨q3V, ⟨?_, ?_⟩, ⟨?_, ?_⟩, ⟨?_, ?_⟩, ?_, ?_, ?_⟩
      · show (gK G3 (gN G + 1)).1 = 20
        rw [gkB _ (by omega), ← gn1, ga2]
      · show (gK G3 (gN G + 1)).2 = 100
        rw [gkB _ (by omega), ← gn1, ga2]
      · show (gK G3 (gN G + 2)).1 = 20
        rw [gkB _ (by omega), show gN G + 2 = gN G1 + 1 by omega, gb2]
      · show (gK G3 (gN G + 2)).2 = 10
        rw [gkB _ (by omega), show gN G + 2 = gN G1 + 1 by omega, gb2]
      · show (gK G3 (gN G + 3)).1 = 20
        rw [gkB _ (by omega), show gN G + 3 = gN G1 + 2 by omega, ge2]
      · show (gK G3 (gN G + 3)).2 = 10
        rw [gkB _ (by omega), show gN G + 3 = gN G1 + 2 by omega, ge2]
      · rw [sr_ri (by decide), grB _ _ (by omega), gv3, gn1]
      · rw [sr_ri (by decide), grB _ _ (by omega), gv5, gn1]
      · rw [sr_ri (by decide), grB _ _ (by omega), gv6, gn1]
    have hV : ShV (setR G3 (gN G) 8 (some (gN G + 5))) (gN G) (gN G + 5) (s 16) := by
      refine ⟨hVS, sr_s, ?_, ?_, ⟨by omega, by omega, by omega, by omega⟩⟩
      · show (gK G3 (gN G + 5)).1 = 20
        rw [gvB]
      · show ((gK G3 (gN G + 5)).2 : Int) = s 16
        rw [gvB]; dsimp only; omega
    have hSt : StC (hVw s) (gN G) (gN G + 5) (s 16) 0 m3 := by
      refine ⟨by rw [m3V]; exact v29, fun j j0 j1 => ?_, by rw [m3V, v24]; decide, by rw [m3V, v24]; decide⟩
      rw [hj3 j j0 j1, mA 3 (by omega), ht4 j j0 j1]
      unfold hVw hM; rw [if_pos j1, sH_k (by omega)]
    have hCI : CI (gN G) [] m3 := ⟨⟨by rw [m3V, v20]; rfl, by rw [m3V, v21]; rfl, by rw [m3V, v22]; rfl, by rw [m3V, v27]; rfl, by rw [m3V, v24]; rfl⟩, trivial⟩
    refine c_readFrom (d := d + 1) hV hS z16.1 z16.2 hSt hCI fun m4 hs4 hci => ?_
    have hX : GX G (setR G3 (gN G) 8 (some (gN G + 5))) := by
      refine ⟨⟨by rw [gn_sr]; omega, glB.1, glB.2⟩, fun a ha => ?_, fun a j ha _ => ?_⟩
      · rw [gk_sr, gkB a (by omega), gkA a ha]
      · rw [sr_ra (by omega), grB a j (by omega), grA a j ha]
    have hXr : ∀ (a : Nat) (j : Int), a < gN G → gR (setR G3 (gN G) 8 (some (gN G + 5))) a j = gR G a j := fun a j ha => by
      rw [sr_ra (by omega), grB a j (by omega), grA a j ha]
    have m4a : ∀ a : Nat, a < gN G → m4 a = mi a := fun a ha => by
      rw [hs4 a (by simp only [List.mem_cons, List.not_mem_nil, or_false, not_or]; omega)]
      exact m3a a ha
    have gn4 : gN (setR G3 (gN G) 8 (some (gN G + 5))) = gN G + 6 := gnB
    have gs4 : gS (setR G3 (gN G) 8 (some (gN G + 5))) ≤ gS G + 230 := gsB
    revert hX hXr hVS gn4 gs4
    generalize setR G3 (gN G) 8 (some (gN G + 5)) = G4
    intro hVS hX hXr gn4 gs4
    have hC4 := hC.x hX hN
    have u0 : (gK G4 0).1 = 12 := by rw [hX.2.1 0 (by omega)]; exact k0
    have u1 : (gK G4 1).1 = 7 := by rw [hX.2.1 1 (by omega)]; exact k1
    have u2 : (gK G4 2).1 = 8 := by rw [hX.2.1 2 (by omega)]; exact k2
    have x00 : gR G4 0 0 = some 1 := by rw [hXr 0 0 (by omega)]; exact r00
    have x10 : gR G4 1 0 = some 2 := by rw [hXr 1 0 (by omega)]; exact r10
    have hvp := vwF_p hS z16.1 z16.2
    have hfr : ∀ a : Nat, a < gN G → ¬ a = 2 → up m4 2 3 0 a = mi a := fun a ha h2 => by rw [up_a h2]; exact m4a a ha
    have e2 : up m4 2 3 0 2 0 = 1 ∧ up m4 2 3 0 2 1 = 100 ∧ up m4 2 3 0 2 3 = 0 := by
      refine ⟨?_, ?_, up_s⟩
      · rw [up_k (by decide), m4a 2 (by omega)]; exact t0
      · rw [up_k (by decide), m4a 2 (by omega)]; exact t1
    unfold vwA at hK
    simp only [if_neg c5] at hK
    unfold VwR at hK
    simp only [if_neg c5] at hK
    rcases hvw : vwF (hVw s) with ⟨k, _ | cs⟩
    · rw [hvw] at hK hvp
      obtain ⟨kk0, kk1⟩ := hvp.1
      dsimp only at hK kk0 kk1
      have hne : ¬ k = -1 := by omega
      simp (disch := first | assumption | exact isL_i | exact isL_r | exact isL_n | exact i01a | exact i01b | omega) only [K160_36, K160_37, K160_38, K160_41, K160_44, K160_47, K160_47i, K160_48, K160_49, K160_50, K160_53, K160_55, K160_56, K160_57, wr_id, td_e, tm_e, pu_n, pu_s, up_s, up_k, up_a, ↓reduceIte, Int.reduceLT, Int.reduceLE, Int.reduceEq, Int.reduceNeg, Int.reduceAdd, Int.reduceSub, Int.reduceMul, Int.reduceMod, Int.reduceDiv, Int.cast_ofNat_Int, not_true_eq_false, not_false_eq_true, Int.reduceTDiv, Int.reduceTMod, pu_s, vwB, x00, x10, t_clear, if_pos, if_neg]
      refine hK _ _ hX (by omega) gs4 (fun j => hXr 27 j (by omega)) (hXr 19 1 (by omega)) ⟨fun p T hp => ?_, fun V' hV' => ?_⟩ (fun s' hs' => ?_) (fun a ha hk => hfr a ha (fun e => hk (by rw [e]; decide)))
      · rw [hXr _ _ (by omega)] at hp
        obtain ⟨f1, f2⟩ := hB.1 p T hp
        exact ⟨by omega, by rw [hX.2.1 T f1]; exact f2⟩
      · rw [hXr _ _ (by omega)] at hV'
        have := hB.2 V' hV'
        omega
      · have hs' : OutV (s 12) (sH s 16 0) s' := hs'
        have hk' : ∀ j : Int, j < 199 → ¬ j = 16 → s' j = s j := fun j h1 h2 => by rw [hs' j (by omega) (by omega) (by omega) (by omega) (by omega), sH_k h2]
        obtain ⟨y1, y2, y3, y4, -⟩ := vw_out hWV hz17.1 hz17.2.2 (by omega) hs'
        refine hR.v hW hB hN hX (fun j => hXr 9 j (by omega)) (fun a ha _ h2 => hfr a ha h2) e2 ?_ (fun j h1 _ h3 _ => hk' j h1 h3) ?_ ?_
        · rw [hs' 16 (by omega) (by omega) (by omega) (by omega) (by omega), sH_s]
        · exact hR.1.1.c (hfr 1 (by omega) (by decide)) (fun j j0 j1 => hk' j (by omega) (by omega))
        · obtain ⟨V0, x1, x2⟩ := hR.2.2
          exact ⟨V0, by rw [hXr _ _ (by omega)]; exact x1, x2.x (hB.2 V0 x1) hX (fun a ha hk => hfr a ha (fun e => hk (by rw [e]; decide))) y1 y2 y3 y4⟩
    · rw [hvw] at hK hvp hci
      obtain ⟨cp1, cp2, cp3⟩ := hvp.2 cs rfl
      have hci := hci cs rfl
      dsimp only at hK
      have hn12 := n12
      have e12 : up m4 2 3 0 1 2 = s 12 := by rw [hfr 1 (by omega) (by decide)]; exact n2
      simp (disch := first | assumption | exact isL_i | exact isL_r | exact isL_n | exact i01a | exact i01b | omega) only [K160_36, K160_37, K160_38, K160_41, K160_44, K160_47, K160_47i, K160_48, K160_49, K160_50, K160_58, wr_id, td_e, tm_e, pu_n, pu_s, up_s, up_k, up_a, ↓reduceIte, Int.reduceLT, Int.reduceLE, Int.reduceEq, Int.reduceNeg, Int.reduceAdd, Int.reduceSub, Int.reduceMul, Int.reduceMod, Int.reduceDiv, Int.cast_ofNat_Int, not_true_eq_false, not_false_eq_true, Int.reduceTDiv, Int.reduceTMod, pu_s, vwB, x00, x10, t_clear, if_pos, if_neg]
      simp (disch := first | assumption | exact isL_i | exact isL_r | exact isL_n | exact i01a | exact i01b | omega) only [K160_59, K160_62, K160_63, wr_id, td_e, tm_e, pu_n, pu_s, up_s, up_k, up_a, ↓reduceIte, Int.reduceLT, Int.reduceLE, Int.reduceEq, Int.reduceNeg, Int.reduceAdd, Int.reduceSub, Int.reduceMul, Int.reduceMod, Int.reduceDiv, Int.cast_ofNat_Int, not_true_eq_false, not_false_eq_true, Int.reduceTDiv, Int.reduceTMod, x00, if_pos, if_neg]
      have hX5 : GX G4 (setR G4 1 1 (some (gN G))) := GX.sr (Or.inr (Or.inr ⟨Or.inl rfl, rfl⟩))
      have u05 : (gK (setR G4 1 1 (some (gN G))) 0).1 = 12 := u0
      have u15 : (gK (setR G4 1 1 (some (gN G))) 1).1 = 7 := u1
      have x005 : gR (setR G4 1 1 (some (gN G))) 0 0 = some 1 := by rw [sr_ra (by decide)]; exact x00
      simp (disch := first | assumption | exact isL_i | exact isL_r | exact isL_n | exact i01a | exact i01b | omega) only [K160_66, K160_67, K160_70, K160_70i, K160_71, K160_74, K160_75, K160_76, K160_79, K160_80, K160_83, K160_86, K160_87, K160_88, wr_id, td_e, tm_e, pu_n, pu_s, up_s, up_k, up_a, ↓reduceIte, Int.reduceLT, Int.reduceLE, Int.reduceEq, Int.reduceNeg, Int.reduceAdd, Int.reduceSub, Int.reduceMul, Int.reduceMod, Int.reduceDiv, Int.cast_ofNat_Int, not_true_eq_false, not_false_eq_true, Int.reduceTDiv, Int.reduceTMod, x005, e12, if_pos, if_neg, Int.add_sub_cancel]
      have hXX := hX.tr hX5
      have hVS5 : VwS (setR G4 1 1 (some (gN G))) (gN G) := by
        obtain ⟨a1, a2, a3, a4, a5, a6, a7⟩ := hVS
        exact ⟨a1, a2, a3, a4, by rw [sr_ra (by omega)]; exact a5, by rw [sr_ra (by omega)]; exact a6, by rw [sr_ra (by omega)]; exact a7⟩
      have hr5 : ∀ (a : Nat) (j : Int), a < gN G → ¬ a = 1 → gR (setR G4 1 1 (some (gN G))) a j = gR G a j := fun a j ha h1 => by rw [sr_ra h1, hXr a j ha]
      have hfr2 : ∀ a : Nat, a < gN G → ¬ a = 1 → ¬ a = 2 → up (up m4 2 3 0) 1 2 (s 12 + 1) a = mi a := fun a ha h1 h2 => by rw [up_a h1]; exact hfr a ha h2
      refine hK _ _ hXX (by rw [gn_sr]; omega) gs4 (fun j => hr5 27 j (by omega) (by decide)) (hr5 19 1 (by omega) (by decide)) ⟨fun p T hp => ?_, fun V' hV' => ?_⟩ (fun s' hs' => ?_) (fun a ha hk => hfr2 a ha (fun e => hk (by rw [e]; decide)) (fun e => hk (by rw [e]; decide)))
      · rw [hr5 _ _ (by omega) (by decide)] at hp
        obtain ⟨f1, f2⟩ := hB.1 p T hp
        exact ⟨by rw [gn_sr]; omega, by rw [gk_sr, hX.2.1 T f1]; exact f2⟩
      · have : some (gN G) = some V' := by rw [← hV']; exact sr_s.symm
        have := Option.some.inj this
        rw [gn_sr]; omega
      · obtain ⟨s1, hA, hs1⟩ := hs'
        have hk' : ∀ j : Int, j < 199 → ¬ j = 12 → ¬ j = 16 → ¬ j = 17 → s' j = s j := fun j h1 h2 h3 h4 => by
          rw [hs1, sH_k h4, sH_k h2, hA.1 j (by omega) (by omega) (by omega) (by omega) (by omega), sH_k h3]
        obtain ⟨y1, y2, y3, y4, -⟩ := vw_new z12.1 (by omega) hA hs1
        have h12' : s' 12 = s 12 + 1 := by rw [hs1, sH_k (by decide), sH_s]
        refine hR.v hW hB hN hXX (fun j => hr5 9 j (by omega) (by decide)) hfr2 ⟨?_, ?_, ?_⟩ ?_ hk' ?_ ?_
        · rw [up_a (by decide)]; exact e2.1
        · rw [up_a (by decide)]; exact e2.2.1
        · rw [up_a (by decide)]; exact e2.2.2
        · rw [hs1, sH_k (by decide), sH_k (by decide), hA.1 16 (by omega) (by omega) (by omega) (by omega) (by omega), sH_s]
        · have eh : hadB s' = hadB s := hadB_c (fun j j0 j1 => hk' j (by omega) (by omega) (by omega) (by omega))
          have m1e : up m4 2 3 0 1 = mi 1 := hfr 1 (by omega) (by decide)
          refine ⟨?_, ?_, ?_, ?_, ?_, ?_, ?_, ?_⟩
          · rw [up_s, h12']
          · rw [up_k (by decide), m1e, hk' 11 (by decide) (by decide) (by decide) (by decide)]; exact n3
          · rw [up_k (by decide), m1e, eh]; exact n7
          · rw [up_k (by decide), m1e, hk' 0 (by decide) (by decide) (by decide) (by decide)]; exact n8
          · rw [up_k (by decide), m1e, hk' 1 (by decide) (by decide) (by decide) (by decide)]; exact n9
          · rw [up_k (by decide), m1e, hk' 8 (by decide) (by decide) (by decide) (by decide)]; exact n10
          · rw [up_k (by decide), m1e, hk' 9 (by decide) (by decide) (by decide) (by decide)]; exact n11
          · rw [up_k (by decide), m1e, hk' 10 (by decide) (by decide) (by decide) (by decide)]; exact hn12
        · have mV : ∀ a : Nat, gN G ≤ a → up (up m4 2 3 0) 1 2 (s 12 + 1) a = m4 a := fun a ha => by rw [up_a (by omega), up_a (by omega)]
          obtain ⟨⟨i1, i2, i3, i4, i5⟩, i6⟩ := hci
          have hcl := condL_len cs
          refine ⟨gN G, sr_s, Or.inr (Or.inr hN), hVS5, ⟨?_, ?_, ?_⟩, condL cs, y4.symm, ?_, ?_, ?_⟩
          · rw [mV _ (by omega), y1]; exact i1
          · rw [mV _ (by omega), y2]; exact i2
          · rw [mV _ (by omega), y3]; exact i3
          · rw [mV _ (by omega)]; exact i4
          · rw [mV _ (by omega), i4]; omega
          · rw [mV _ (by omega), mV _ (by omega), mV _ (by omega)]; exact i6
end CL
