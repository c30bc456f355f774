/-! ===== acts, on ===== -/
section CL
variable {d : Nat} {G : Gh} {mi : Mi} {K : Option PV → Gh → Mi → Prop} {o o' T : Nat} {s : Int → Int} {p t v w a b c k n g q x lim hm pc ah ce u l : Int} {L : List Int}
theorem c_tlG (hC : ShC G) (h0 : 0 ≤ k) (h6 : k ≤ 6) (h55 : 55 ≤ T) (hTh : RTh G mi T k n v) (hL : TRc L mi) (h20 : L.length < 15) (hK : ∀ mi', TRc (L ++ 3 :: skB k) mi' → Sc [37, 38] mi mi' → K (some (pI (wr (skA k n v x * 2)))) G mi') : OkC (d + 5) 93 [pR (some T), pI x] G mi K := by
  obtain ⟨⟨⟨k1, k2, k3, l3, k9, l9, k10, l10, k11, l11⟩, ⟨k12, k13, l13, k14, k15, l15, k16, k17, l17, k18, l18⟩, ⟨r10, r14, r15, r16, r113, r114, r115, r116, r22, r122, r142, r162⟩⟩, -, ⟨⟨k0, r00, r01, r02, r03⟩, ⟨k37, r372, k38, l38⟩, ⟨k39, r390, r391, r392, r393, r394, r396, r397⟩, ⟨k40, l40, k41, l41, k42, l42, k43, l43, k44, l44, k45, l45⟩⟩⟩ := id hC
  obtain ⟨c1, c2, c3, c4, c5⟩ := id hTh
  have hth : thg (gK G T).1 = true := by rw [c1]; exact kcl_thg
  rw [E93]
  simp (disch := first | assumption | exact isL_i | exact isL_r | exact isL_n | exact i01a | exact i01b | omega) only [K93_0, K93_1, K93_4, K93_5, K93_6, wr_id, td_e, tm_e, pu_n, pu_s, up_s, up_k, up_a, ↓reduceIte, Int.reduceLT, Int.reduceLE, Int.reduceEq, Int.reduceNeg, Int.reduceAdd, Int.reduceSub, Int.reduceMul, Int.reduceMod, Int.reduceDiv, Int.cast_ofNat_Int, not_true_eq_false, not_false_eq_true, Int.reduceTDiv, Int.reduceTMod, c5]
  rw [K93_7 k37]
  refine c_tr hC hL (by omega) fun m1 h1 s1 => ?_
  have hTh1 := hTh.tr h55 s1
  simp (disch := first | assumption | exact isL_i | exact isL_r | exact isL_n | exact i01a | exact i01b | omega) only [K93_10, K93_10i, K93_11, K93_12, pu_n, pu_s]
  have hv : ∀ Q, Ok (d + 5) 93 13 [some (pR (some T)), some (pI x)] [pI x, pR (some T)] G m1 Q = OkC (d + 4) (skY k) [pR (some T), pI x] G m1 (fun r G' mi' => Ok (d + 5) 93 16 [some (pR (some T)), some (pI x)] (pu r []) G' mi' Q) := by
    intro Q
    rcases k7 h0 h6 with e | e | e | e | e | e | e
    all_goals
      rw [e] at c1
      simp only [kcl, ↓reduceIte, Int.reduceEq] at c1
      rw [e]
      simp (disch := first | assumption | exact isL_i | exact isL_r | exact isL_n | exact i01a | exact i01b | omega) only [K93_13c1, K93_13c2, K93_13c3, K93_13c5, K93_13c6, K93_13c9, K93_13c10, shY, skY, tlY, ↓reduceIte, Int.reduceEq, or_self, or_true, true_or, or_false, false_or]
  rw [show Ok (d + 5) 93 13 [some (Sum.inr (Sum.inr (Sum.inl (some T)))), some (pI x)] [pI x, Sum.inr (Sum.inr (Sum.inl (some T)))] G m1 K = _ from hv K]
  refine c_shakes hC h0 h6 h55 hTh1 h1 (by rw [List.length_append]; simp only [List.length_singleton]; omega) fun m2 h2 s2 => ?_
  simp (disch := first | assumption | exact isL_i | exact isL_r | exact isL_n | exact i01a | exact i01b | omega) only [K93_16, K93_17, K93_18, pu_n, pu_s]
  exact hK m2 (by rw [List.append_assoc] at h2; exact h2) (s1.tr s2)
theorem c_tlB (hC : ShC G) (hc : (gK G T).1 = 1 ∨ (gK G T).1 = 10) (h0 : 0 ≤ k) (h6 : k ≤ 6) (h55 : 55 ≤ T) (hTh : RTh G mi T k n v) (hL : TRc L mi) (h20 : L.length < 14) (hK : ∀ mi', TRc (L ++ 31 :: 3 :: skB k) mi' → Sc [37, 38] mi mi' → K (some (pI (iXor (wr (skA k n v x * 2)) 7))) G mi') : OkC (d + 6) 97 [pR (some T), pI x] G mi K := by
  obtain ⟨⟨⟨k1, k2, k3, l3, k9, l9, k10, l10, k11, l11⟩, ⟨k12, k13, l13, k14, k15, l15, k16, k17, l17, k18, l18⟩, ⟨r10, r14, r15, r16, r113, r114, r115, r116, r22, r122, r142, r162⟩⟩, -, ⟨⟨k0, r00, r01, r02, r03⟩, ⟨k37, r372, k38, l38⟩, ⟨k39, r390, r391, r392, r393, r394, r396, r397⟩, ⟨k40, l40, k41, l41, k42, l42, k43, l43, k44, l44, k45, l45⟩⟩⟩ := id hC
  obtain ⟨c1, c2, c3, c4, c5⟩ := id hTh
  have hth : thg (gK G T).1 = true := by rw [c1]; exact kcl_thg
  rw [E97]
  simp (disch := first | assumption | exact isL_i | exact isL_r | exact isL_n | exact i01a | exact i01b | omega) only [K97_0, K97_1, K97_4, K97_6, K97_7, wr_id, td_e, tm_e, pu_n, pu_s, up_s, up_k, up_a, ↓reduceIte, Int.reduceLT, Int.reduceLE, Int.reduceEq, Int.reduceNeg, Int.reduceAdd, Int.reduceSub, Int.reduceMul, Int.reduceMod, Int.reduceDiv, Int.cast_ofNat_Int, not_true_eq_false, not_false_eq_true, Int.reduceTDiv, Int.reduceTMod, c5]
  rw [K97_8 k37]
  refine c_tr hC hL (by omega) fun m1 h1 s1 => ?_
  have hTh1 := hTh.tr h55 s1
  rcases hc with hc | hc
  all_goals
    simp (disch := first | assumption | exact isL_i | exact isL_r | exact isL_n | exact i01a | exact i01b | omega) only [K97_11, K97_11i, K97_12, K97_13, K97_14c1, K97_14c10, pu_n, pu_s]
    refine c_tlG hC h0 h6 h55 hTh1 h1 (by rw [List.length_append]; simp only [List.length_singleton]; omega) fun m2 h2 s2 => ?_
    simp (disch := first | assumption | exact isL_i | exact isL_r | exact isL_n | exact i01a | exact i01b | omega) only [K97_17, K97_19, K97_20, pu_n, pu_s]
    exact hK m2 (by rw [List.append_assoc] at h2; exact h2) (s1.tr s2)
theorem c_tlP (hC : ShC G) (h55 : 55 ≤ T) (hTh : RTh G mi T 4 n v) (hL : TRc L mi) (h20 : L.length < 10) (hK : ∀ mi', TRc (L ++ 41 :: 3 :: (skB 4 ++ shB 4)) mi' → Sc [37, 38] mi mi' → K (some (pI (wr (wr (skA 4 n v (wr (x - 1)) * 2) + shA 4 n 2)))) G mi') : OkC (d + 6) 108 [pR (some T), pI x] G mi K := by
  obtain ⟨⟨⟨k1, k2, k3, l3, k9, l9, k10, l10, k11, l11⟩, ⟨k12, k13, l13, k14, k15, l15, k16, k17, l17, k18, l18⟩, ⟨r10, r14, r15, r16, r113, r114, r115, r116, r22, r122, r142, r162⟩⟩, -, ⟨⟨k0, r00, r01, r02, r03⟩, ⟨k37, r372, k38, l38⟩, ⟨k39, r390, r391, r392, r393, r394, r396, r397⟩, ⟨k40, l40, k41, l41, k42, l42, k43, l43, k44, l44, k45, l45⟩⟩⟩ := id hC
  obtain ⟨c1, c2, c3, c4, c5⟩ := id hTh
  have hth : thg (gK G T).1 = true := by rw [c1]; exact kcl_thg
  have c1 : (gK G T).1 = 5 := c1
  rw [E108]
  simp (disch := first | assumption | exact isL_i | exact isL_r | exact isL_n | exact i01a | exact i01b | omega) only [K108_0, K108_1, K108_4, K108_6, K108_7, wr_id, td_e, tm_e, pu_n, pu_s, up_s, up_k, up_a, ↓reduceIte, Int.reduceLT, Int.reduceLE, Int.reduceEq, Int.reduceNeg, Int.reduceAdd, Int.reduceSub, Int.reduceMul, Int.reduceMod, Int.reduceDiv, Int.cast_ofNat_Int, not_true_eq_false, not_false_eq_true, Int.reduceTDiv, Int.reduceTMod, c5]
  rw [K108_8 k37]
  refine c_tr hC hL (by omega) fun m1 h1 s1 => ?_
  have hTh1 := hTh.tr h55 s1
  simp (disch := first | assumption | exact isL_i | exact isL_r | exact isL_n | exact i01a | exact i01b | omega) only [K108_11, K108_11i, K108_12, K108_13, K108_14, K108_15, K108_16, pu_n, pu_s]
  refine c_tlG hC (by decide) (by decide) h55 hTh1 h1 (by rw [List.length_append]; simp only [List.length_singleton]; omega) fun m2 h2 s2 => ?_
  have hTh2 := hTh1.tr h55 s2
  simp (disch := first | assumption | exact isL_i | exact isL_r | exact isL_n | exact i01a | exact i01b | omega) only [K108_19, K108_20, K108_21, pu_n, pu_s]
  refine c_shows (d := d + 3) (k := 4) hC (by decide) (by decide) h55 hTh2 h2 (by rw [List.length_append, List.length_append]; have := skB_len (k := 4); simp only [List.length_cons, List.length_nil]; omega) fun m3 h3 s3 => ?_
  simp (disch := first | assumption | exact isL_i | exact isL_r | exact isL_n | exact i01a | exact i01b | omega) only [K108_24, K108_25, pu_n, pu_s]
  refine hK m3 ?_ ((s1.tr s2).tr s3)
  rw [List.append_assoc, List.append_assoc] at h3
  exact h3
theorem c_tells (hC : ShC G) (h0 : 0 ≤ k) (h6 : k ≤ 6) (h55 : 55 ≤ T) (hTh : RTh G mi T k n v) (hL : TRc [] mi) (hK : ∀ mi', TRc (tlB k) mi' → Sc [37, 38] mi mi' → K (some (pI (tlA k n v x))) G mi') : OkC (d + 6) (tlY k) [pR (some T), pI x] G mi K := by
  have c1 := hTh.1
  unfold tlA tlB at hK
  unfold tlY
  by_cases e1 : k = 3 ∨ k = 6
  · rw [if_pos e1]
    simp only [if_pos e1] at hK
    refine c_tlB hC ?_ h0 h6 h55 hTh hL (by decide) hK
    rcases e1 with rfl | rfl
    · exact Or.inl c1
    · exact Or.inr c1
  · rw [if_neg e1]
    simp only [if_neg e1] at hK
    by_cases e5 : k = 4
    · rw [if_pos e5]
      simp only [if_pos e5] at hK
      subst e5
      exact c_tlP hC h55 hTh hL (by decide) hK
    · rw [if_neg e5]
      simp only [if_neg e5] at hK
      exact c_tlG (d := d + 1) hC h0 h6 h55 hTh hL (by decide) hK
theorem c_act (hC : ShC G) (hR : RS 1 s G mi) (hW : WfA s) (ht : mi 37 0 = 1 ∧ mi 37 1 = 20) (hK : ∀ mi', (if isT s p ∧ (0 ≤ g ∧ g ≤ 2) then TRc (actB (s (18 + p)) g) mi' else TRc [] mi') → Sc [37, 38] mi mi' → K (some (pI (if isT s p ∧ (0 ≤ g ∧ g ≤ 2) then actA (s (18 + p)) p (s (24 + p)) g x else 0))) G mi') : OkC (d + 7) 185 [pR (some 0), pI p, pI g, pI x] G mi K := by
  obtain ⟨⟨⟨k1, k2, k3, l3, k9, l9, k10, l10, k11, l11⟩, ⟨k12, k13, l13, k14, k15, l15, k16, k17, l17, k18, l18⟩, ⟨r10, r14, r15, r16, r113, r114, r115, r116, r22, r122, r142, r162⟩⟩, -, ⟨⟨k0, r00, r01, r02, r03⟩, ⟨k37, r372, k38, l38⟩, ⟨k39, r390, r391, r392, r393, r394, r396, r397⟩, ⟨k40, l40, k41, l41, k42, l42, k43, l43, k44, l44, k45, l45⟩⟩⟩ := id hC
  obtain ⟨⟨⟨z0, z1, z8, z9, z10, z11, z12, z13, z14, z15, z16⟩, hh01, hT, hz17⟩, hWV, hWD, hWB, hWP, hWT, hWZ, hWF, hWK⟩ := id hW
  have hRt : RS 1 s G (up mi 37 3 0) := by
    obtain ⟨⟨q1, q2, q3, q4, q5, q6⟩, hRT, hRV⟩ := hR
    have h : ∀ a : Nat, ¬ a = 37 → up mi 37 3 0 a = mi a := fun a ha => up_a ha
    refine ⟨⟨?_, ?_, ?_, ?_, ?_, ?_⟩, ?_, ?_⟩
    · unfold RNn; rw [h _ (by decide)]; exact q1
    · unfold RNh; rw [h _ (by decide), h _ (by decide)]; exact q2
    · unfold RNt; rw [h _ (by decide), h _ (by decide)]; exact q3
    · unfold RNs; rw [h _ (by decide), h _ (by decide)]; exact q4
    · unfold RNp; rw [h _ (by decide), h _ (by decide)]; exact q5
    · unfold RNb; rw [h _ (by decide), h _ (by decide)]; exact q6
    · intro p h0 h1
      obtain ⟨T, t1, t2, t3, t4, t5, t6, t7⟩ := hRT p h0 h1
      exact ⟨T, t1, t2, t3, by rw [h T (by omega)]; exact t4, by rw [h T (by omega)]; exact t5, by rw [h T (by omega)]; exact t6, t7⟩
    · obtain ⟨V, v1, v2, v3, ⟨v4, v5, v6⟩, L', l1, l2, l3, l4⟩ := hRV
      exact ⟨V, v1, v2, v3, ⟨by rw [h V (by omega)]; exact v4, by rw [h V (by omega)]; exact v5, by rw [h V (by omega)]; exact v6⟩, L', l1, by rw [h V (by omega)]; exact l2, by rw [h V (by omega)]; exact l3, by rw [h (V + 1) (by omega), h (V + 2) (by omega), h (V + 3) (by omega)]; exact l4⟩
  have hsc0 : Sc [37, 38] mi (up mi 37 3 0) := sc_up (by decide)
  have hTR : TRc [] (up mi 37 3 0) := ⟨⟨by rw [up_k (by decide)]; exact ht.1, by rw [up_k (by decide)]; exact ht.2, up_s⟩, fun i hi => absurd hi (Nat.not_lt_zero i)⟩
  rw [E185]
  by_cases hp : isT s p
  · obtain ⟨T, g1, g2, hTh⟩ := hRt.2.1 p hp.1 hp.2
    have g1 : gR G 9 p = some T := g1
    have c1 := hTh.1
    obtain ⟨⟨q1, q2⟩, -, -⟩ := hT.1 p hp.1 (by omega)
    by_cases hg : 0 ≤ g ∧ g ≤ 2
    · simp only [if_pos (And.intro hp hg)] at hK
      simp (disch := first | assumption | exact isL_i | exact isL_r | exact isL_n | exact i01a | exact i01b | omega) only [K185_0, K185_1, K185_4, K185_7, K185_7i, K185_8, K185_9, K185_12, K185_13, K185_16, K185_18, K185_20, K185_20n, r10, r14, r15, r16, r113, r114, r115, r116, r22, r122, r142, r162, r00, r01, r02, r03, r372, r390, r391, r392, r393, r394, r396, r397, wr_id, td_e, tm_e, pu_n, pu_s, up_s, up_k, up_a, ↓reduceIte, Int.reduceLT, Int.reduceLE, Int.reduceEq, Int.reduceNeg, Int.reduceAdd, Int.reduceSub, Int.reduceMul, Int.reduceMod, Int.reduceDiv, Int.cast_ofNat_Int, not_true_eq_false, not_false_eq_true, Int.reduceTDiv, Int.reduceTMod, t_clear, c_find hC hRt z11.2, if_pos hp, g1, reduceCtorEq, if_pos, if_neg]
      have h3 : g = 0 ∨ g = 1 ∨ g = 2 := by omega
      rcases h3 with rfl | rfl | rfl
      · simp only [actA, actB, ↓reduceIte] at hK
        simp (disch := first | assumption | exact isL_i | exact isL_r | exact isL_n | exact i01a | exact i01b | omega) only [K185_25, K185_26, K185_52, K185_54, wr_id, td_e, tm_e, pu_n, pu_s, up_s, up_k, up_a, ↓reduceIte, Int.reduceLT, Int.reduceLE, Int.reduceEq, Int.reduceNeg, Int.reduceAdd, Int.reduceSub, Int.reduceMul, Int.reduceMod, Int.reduceDiv, Int.cast_ofNat_Int, not_true_eq_false, not_false_eq_true, Int.reduceTDiv, Int.reduceTMod]
        have hv : ∀ Q, Ok (d + 7) 185 55 [some (pR (some 0)), some (pI p), some (pI 0), some (pI x), some (pR (some T))] [pI x, pR (some T)] G (up mi 37 3 0) Q = OkC (d + 6) (shY (s (18 + p))) [pR (some T), pI x] G (up mi 37 3 0) (fun r G' mi' => Ok (d + 7) 185 58 [some (pR (some 0)), some (pI p), some (pI 0), some (pI x), some (pR (some T))] (pu r []) G' mi' Q) := by
          intro Q
          rcases k7 q1 q2 with e | e | e | e | e | e | e
          all_goals
            rw [e] at c1
            simp only [kcl, ↓reduceIte, Int.reduceEq] at c1
            rw [e]
            simp (disch := first | assumption | exact isL_i | exact isL_r | exact isL_n | exact i01a | exact i01b | omega) only [K185_55c1, K185_55c2, K185_55c3, K185_55c5, K185_55c6, K185_55c9, K185_55c10, shY, skY, tlY, ↓reduceIte, Int.reduceEq, or_self, or_true, true_or, or_false, false_or]
        refine (hv K).mpr ?_
        refine c_shows hC q1 q2 g2 hTh hTR (by decide) fun m2 h2 s2 => ?_
        simp (disch := first | assumption | exact isL_i | exact isL_r | exact isL_n | exact i01a | exact i01b | omega) only [K185_58, pu_n, pu_s]
        exact hK m2 h2 (hsc0.tr s2)
      · simp only [actA, actB, ↓reduceIte, Int.reduceEq] at hK
        simp (disch := first | assumption | exact isL_i | exact isL_r | exact isL_n | exact i01a | exact i01b | omega) only [K185_25, K185_26, K185_59, K185_61, wr_id, td_e, tm_e, pu_n, pu_s, up_s, up_k, up_a, ↓reduceIte, Int.reduceLT, Int.reduceLE, Int.reduceEq, Int.reduceNeg, Int.reduceAdd, Int.reduceSub, Int.reduceMul, Int.reduceMod, Int.reduceDiv, Int.cast_ofNat_Int, not_true_eq_false, not_false_eq_true, Int.reduceTDiv, Int.reduceTMod]
        have hv : ∀ Q, Ok (d + 7) 185 62 [some (pR (some 0)), some (pI p), some (pI 1), some (pI x), some (pR (some T))] [pI x, pR (some T)] G (up mi 37 3 0) Q = OkC (d + 6) (skY (s (18 + p))) [pR (some T), pI x] G (up mi 37 3 0) (fun r G' mi' => Ok (d + 7) 185 65 [some (pR (some 0)), some (pI p), some (pI 1), some (pI x), some (pR (some T))] (pu r []) G' mi' Q) := by
          intro Q
          rcases k7 q1 q2 with e | e | e | e | e | e | e
          all_goals
            rw [e] at c1
            simp only [kcl, ↓reduceIte, Int.reduceEq] at c1
            rw [e]
            simp (disch := first | assumption | exact isL_i | exact isL_r | exact isL_n | exact i01a | exact i01b | omega) only [K185_62c1, K185_62c2, K185_62c3, K185_62c5, K185_62c6, K185_62c9, K185_62c10, shY, skY, tlY, ↓reduceIte, Int.reduceEq, or_self, or_true, true_or, or_false, false_or]
        refine (hv K).mpr ?_
        refine c_shakes hC q1 q2 g2 hTh hTR (by decide) fun m2 h2 s2 => ?_
        simp (disch := first | assumption | exact isL_i | exact isL_r | exact isL_n | exact i01a | exact i01b | omega) only [K185_65, pu_n, pu_s]
        exact hK m2 h2 (hsc0.tr s2)
      · simp only [actA, actB, ↓reduceIte, Int.reduceEq] at hK
        simp (disch := first | assumption | exact isL_i | exact isL_r | exact isL_n | exact i01a | exact i01b | omega) only [K185_25, K185_26, K185_66, K185_68, wr_id, td_e, tm_e, pu_n, pu_s, up_s, up_k, up_a, ↓reduceIte, Int.reduceLT, Int.reduceLE, Int.reduceEq, Int.reduceNeg, Int.reduceAdd, Int.reduceSub, Int.reduceMul, Int.reduceMod, Int.reduceDiv, Int.cast_ofNat_Int, not_true_eq_false, not_false_eq_true, Int.reduceTDiv, Int.reduceTMod]
        have hv : ∀ Q, Ok (d + 7) 185 69 [some (pR (some 0)), some (pI p), some (pI 2), some (pI x), some (pR (some T))] [pI x, pR (some T)] G (up mi 37 3 0) Q = OkC (d + 6) (tlY (s (18 + p))) [pR (some T), pI x] G (up mi 37 3 0) (fun r G' mi' => Ok (d + 7) 185 72 [some (pR (some 0)), some (pI p), some (pI 2), some (pI x), some (pR (some T))] (pu r []) G' mi' Q) := by
          intro Q
          rcases k7 q1 q2 with e | e | e | e | e | e | e
          all_goals
            rw [e] at c1
            simp only [kcl, ↓reduceIte, Int.reduceEq] at c1
            rw [e]
            simp (disch := first | assumption | exact isL_i | exact isL_r | exact isL_n | exact i01a | exact i01b | omega) only [K185_69c1, K185_69c2, K185_69c3, K185_69c5, K185_69c6, K185_69c9, K185_69c10, shY, skY, tlY, ↓reduceIte, Int.reduceEq, or_self, or_true, true_or, or_false, false_or]
        refine (hv K).mpr ?_
        refine c_tells hC q1 q2 g2 hTh hTR fun m2 h2 s2 => ?_
        simp (disch := first | assumption | exact isL_i | exact isL_r | exact isL_n | exact i01a | exact i01b | omega) only [K185_72, pu_n, pu_s]
        exact hK m2 h2 (hsc0.tr s2)
    · simp only [if_neg (fun h : isT s p ∧ (0 ≤ g ∧ g ≤ 2) => hg h.2)] at hK
      have a0 : ¬ g = 0 := by omega
      have a1 : ¬ g = 1 := by omega
      have a2 : ¬ g = 2 := by omega
      simp (disch := first | assumption | exact isL_i | exact isL_r | exact isL_n | exact i01a | exact i01b | omega) only [K185_0, K185_1, K185_4, K185_7, K185_7i, K185_8, K185_9, K185_12, K185_13, K185_16, K185_18, K185_20, K185_20n, K185_23, K185_24, K185_25, K185_26, K185_73, K185_74, r10, r14, r15, r16, r113, r114, r115, r116, r22, r122, r142, r162, r00, r01, r02, r03, r372, r390, r391, r392, r393, r394, r396, r397, wr_id, td_e, tm_e, pu_n, pu_s, up_s, up_k, up_a, ↓reduceIte, Int.reduceLT, Int.reduceLE, Int.reduceEq, Int.reduceNeg, Int.reduceAdd, Int.reduceSub, Int.reduceMul, Int.reduceMod, Int.reduceDiv, Int.cast_ofNat_Int, not_true_eq_false, not_false_eq_true, Int.reduceTDiv, Int.reduceTMod, t_clear, c_find hC hRt z11.2, if_pos hp, g1, reduceCtorEq, if_pos, if_neg]
      exact hK _ hTR hsc0
  · simp only [if_neg (fun h : isT s p ∧ (0 ≤ g ∧ g ≤ 2) => hp h.1)] at hK
    simp (disch := first | assumption | exact isL_i | exact isL_r | exact isL_n | exact i01a | exact i01b | omega) only [K185_0, K185_1, K185_4, K185_7, K185_7i, K185_8, K185_9, K185_12, K185_13, K185_16, K185_18, K185_20, K185_20n, K185_23, K185_24, r10, r14, r15, r16, r113, r114, r115, r116, r22, r122, r142, r162, r00, r01, r02, r03, r372, r390, r391, r392, r393, r394, r396, r397, wr_id, td_e, tm_e, pu_n, pu_s, up_s, up_k, up_a, ↓reduceIte, Int.reduceLT, Int.reduceLE, Int.reduceEq, Int.reduceNeg, Int.reduceAdd, Int.reduceSub, Int.reduceMul, Int.reduceMod, Int.reduceDiv, Int.cast_ofNat_Int, not_true_eq_false, not_false_eq_true, Int.reduceTDiv, Int.reduceTMod, t_clear, c_find hC hRt z11.2, if_neg hp, if_pos, if_neg]
    exact hK _ hTR hsc0
end CL
