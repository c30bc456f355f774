/-! ===== the class reads a condition: all modes ===== -/
def RunC (m d f : Nat) (V : Nat) (op r : Int) (G : Gh) (mi : Mi) (K : Option PV → Gh → Mi → Prop) : Prop := match m with
  | 0 => OkC (d + f + 8) 124 [pR (some V), pI op] G mi K
  | 1 => OkC (d + f + 8) 123 [pR (some V), pI (-2), pI op] G mi K
  | 2 => OkC (d + f + 8) 123 [pR (some V), pI (-3), pI op] G mi K
  | 3 => Ok (d + f + 8) 123 56 [some (pR (some V)), some (pI (-2)), some (pI op), some (pI 38), some (pI r)] [] G mi K
  | _ => Ok (d + f + 8) 123 56 [some (pR (some V)), some (pI (-3)), some (pI op), some (pI 124), some (pI r)] [] G mi K
section CL
variable {d : Nat} {G : Gh} {mi mi' mi'' : Mi} {K : Option PV → Gh → Mi → Prop} {V Sg : Nat} {p t v w a b c k n g q e i j op x r : Int} {h : Int → Int} {L : List Int} {o : Option (List Int)}
theorem c_test (hV : ShV G V Sg e) (hS : SgF h e) (hs : StC h V Sg e i mi) (h0 : 0 ≤ i) (hi : i ≤ e) (he : e ≤ 100) (hK : ∀ mi', PoC V (tsF h i).1 (tsF h i).2 mi mi' → K (some (pI (okI (tsF h i).2))) G mi') : OkC (d + 6) 125 [pR (some V)] G mi K := by
  obtain ⟨⟨kV, ⟨kA, lA⟩, ⟨kB, lB⟩, ⟨kE, lE⟩, v3, v5, v6⟩, v8, kSg, lSg, ⟨nS0, nS1, nS2, nS3⟩⟩ := id hV
  have hl := ltF_b (v := h i)
  have hc := cpF_b (v := h (i + 1))
  have h4 := hs.2.2
  rw [E125]
  simp (disch := first | assumption | exact isL_i | exact isL_r | exact isL_n | exact i01a | exact i01b | omega) only [K125_0, K125_1, wr_id, td_e, tm_e, pu_n, pu_s, up_s, up_k, up_a, ↓reduceIte, Int.reduceLT, Int.reduceLE, Int.reduceEq, Int.reduceNeg, Int.reduceAdd, Int.reduceSub, Int.reduceMul, Int.reduceMod, Int.reduceDiv, Int.cast_ofNat_Int, not_true_eq_false, not_false_eq_true, Int.reduceTDiv, Int.reduceTMod]
  have P1 := c_place (d := d) (u := 1) (K := fun r G' mi' => Ok (d + 6) 125 6 [some (pR (some V)), none, none, none] (pu r []) G' mi' K) hV hS hs h0 (by omega) (by decide)
  rw [lt_idx] at P1
  rw [K125_3 kV]
  refine P1.mpr ?_
  unfold tsF at hK
  by_cases c1 : ltF (h i) = -1
  · rw [if_pos c1] at hK
    have hc1 : h i = -1 ∨ ltF (h i) < 0 := Or.inr (by omega)
    rw [if_pos hc1, show (if h i = -1 then (-1 : Int) else ltF (h i)) = -1 by split; rfl; exact c1]
    simp (disch := first | assumption | exact isL_i | exact isL_r | exact isL_n | exact i01a | exact i01b | omega) only [K125_6, K125_7, K125_8, K125_11, K125_12, wr_id, td_e, tm_e, pu_n, pu_s, up_s, up_k, up_a, ↓reduceIte, Int.reduceLT, Int.reduceLE, Int.reduceEq, Int.reduceNeg, Int.reduceAdd, Int.reduceSub, Int.reduceMul, Int.reduceMod, Int.reduceDiv, Int.cast_ofNat_Int, not_true_eq_false, not_false_eq_true, Int.reduceTDiv, Int.reduceTMod, pu_s, if_pos, if_neg]
    exact hK mi (PoC.bad hs)
  · rw [if_neg c1] at hK
    have hie := sg_lt (i := i) hS (fun hx => c1 (by rw [hx]; exact ltF_m))
    have hc1 : ¬ (h i = -1 ∨ ltF (h i) < 0) := fun e => e.elim (fun e => c1 (by rw [e]; exact ltF_m)) (fun e => by omega)
    rw [if_neg hc1]
    have hs1 : StC h V Sg e (i + 1) (up mi V 9 (i + 1)) := hs.pp hV (by omega)
    simp (disch := first | assumption | exact isL_i | exact isL_r | exact isL_n | exact i01a | exact i01b | omega) only [K125_6, K125_7, K125_8, K125_11, K125_12, K125_13, K125_14, wr_id, td_e, tm_e, pu_n, pu_s, up_s, up_k, up_a, ↓reduceIte, Int.reduceLT, Int.reduceLE, Int.reduceEq, Int.reduceNeg, Int.reduceAdd, Int.reduceSub, Int.reduceMul, Int.reduceMod, Int.reduceDiv, Int.cast_ofNat_Int, not_true_eq_false, not_false_eq_true, Int.reduceTDiv, Int.reduceTMod, pu_s, if_pos, if_neg]
    have P2 := c_place (d := d) (u := 2) (K := fun r G' mi' => Ok (d + 6) 125 19 [some (pR (some V)), some (pI (ltF (h i))), none, none] (pu r []) G' mi' K) hV hS hs1 (by omega) (by omega) (by decide)
    rw [cp_idx] at P2
    rw [K125_16 kV]
    refine P2.mpr ?_
    by_cases c2 : cpF (h (i + 1)) = -1
    · rw [if_pos c2] at hK
      have hc2 : h (i + 1) = -1 ∨ cpF (h (i + 1)) < 0 := Or.inr (by omega)
      rw [if_pos hc2, show (if h (i + 1) = -1 then (-1 : Int) else cpF (h (i + 1))) = -1 by split; rfl; exact c2]
      simp (disch := first | assumption | exact isL_i | exact isL_r | exact isL_n | exact i01a | exact i01b | omega) only [K125_19, K125_20, K125_21, K125_24, K125_25, wr_id, td_e, tm_e, pu_n, pu_s, up_s, up_k, up_a, ↓reduceIte, Int.reduceLT, Int.reduceLE, Int.reduceEq, Int.reduceNeg, Int.reduceAdd, Int.reduceSub, Int.reduceMul, Int.reduceMod, Int.reduceDiv, Int.cast_ofNat_Int, not_true_eq_false, not_false_eq_true, Int.reduceTDiv, Int.reduceTMod, pu_s, if_pos, if_neg]
      exact hK _ (PoC.pp (PoC.bad hs1))
    · rw [if_neg c2] at hK
      have hie2 := sg_lt (i := i + 1) hS (fun hx => c2 (by rw [hx]; exact cpF_m))
      have hc2 : ¬ (h (i + 1) = -1 ∨ cpF (h (i + 1)) < 0) := fun e => e.elim (fun e => c2 (by rw [e]; exact cpF_m)) (fun e => by omega)
      rw [if_neg hc2, up_up]
      have hs2 : StC h V Sg e (i + 1 + 1) (up mi V 9 (i + 1 + 1)) := hs.pp hV (by omega)
      rw [show i + 1 + 1 = i + 2 by omega] at hs2 ⊢
      simp (disch := first | assumption | exact isL_i | exact isL_r | exact isL_n | exact i01a | exact i01b | omega) only [K125_19, K125_20, K125_21, K125_24, K125_25, K125_26, wr_id, td_e, tm_e, pu_n, pu_s, up_s, up_k, up_a, ↓reduceIte, Int.reduceLT, Int.reduceLE, Int.reduceEq, Int.reduceNeg, Int.reduceAdd, Int.reduceSub, Int.reduceMul, Int.reduceMod, Int.reduceDiv, Int.cast_ofNat_Int, not_true_eq_false, not_false_eq_true, Int.reduceTDiv, Int.reduceTMod, pu_s, if_pos, if_neg]
      rw [K125_27 kV, c_number (d := d + 4) hV hS hs2 (by omega) (by omega)]
      rcases hnm : nmF h (i + 2) with ⟨jn, _ | nn⟩
      · rw [hnm] at hK
        have hp := nmF_p hS (show 0 ≤ i + 2 by omega) (show i + 2 ≤ e by omega)
        have ej : jn = i + 2 := by
          have : (nmF h (i + 2)).2 = none := by rw [hnm]
          unfold nmF at hnm this
          split at hnm
          · split at hnm <;> cases hnm
          · exact (Prod.mk.inj hnm).1.symm
        dsimp only at hK ⊢
        simp (disch := first | assumption | exact isL_i | exact isL_r | exact isL_n | exact i01a | exact i01b | omega) only [K125_30, K125_31, K125_32, K125_35, K125_36, wr_id, td_e, tm_e, pu_n, pu_s, up_s, up_k, up_a, ↓reduceIte, Int.reduceLT, Int.reduceLE, Int.reduceEq, Int.reduceNeg, Int.reduceAdd, Int.reduceSub, Int.reduceMul, Int.reduceMod, Int.reduceDiv, Int.cast_ofNat_Int, not_true_eq_false, not_false_eq_true, Int.reduceTDiv, Int.reduceTMod, pu_s, if_pos, if_neg]
        rw [ej] at hK
        exact hK _ (PoC.pp (PoC.bad hs2))
      · rw [hnm] at hK
        have hp := nmF_p hS (show 0 ≤ i + 2 by omega) (show i + 2 ≤ e by omega)
        rw [hnm] at hp
        obtain ⟨n1, n2, n3⟩ := hp.2 nn rfl
        dsimp only at n1 hp hK ⊢
        rw [up_up]
        have hs3 : StC h V Sg e jn (up mi V 9 jn) := hs.pp hV (by omega)
        have ecv : ltF (h i) * 300 + cpF (h (i + 1)) * 100 + nn = cvS (ltF (h i) + 8 * cpF (h (i + 1)) + 32 * nn) := by
          have e1 : (ltF (h i) + 8 * cpF (h (i + 1)) + 32 * nn) % 8 = ltF (h i) := by omega
          have e2 : (ltF (h i) + 8 * cpF (h (i + 1)) + 32 * nn) / 8 % 4 = cpF (h (i + 1)) := by omega
          have e3 : (ltF (h i) + 8 * cpF (h (i + 1)) + 32 * nn) / 32 = nn := by omega
          unfold cvS
          rw [if_neg (by omega), e1, e2, e3]
        simp (disch := first | assumption | exact isL_i | exact isL_r | exact isL_n | exact i01a | exact i01b | omega) only [K125_30, K125_31, K125_32, K125_35, K125_36, K125_37, K125_38, K125_39, K125_42, K125_43, K125_44, K125_46, K125_47, K125_48, K125_49, wr_id, td_e, tm_e, pu_n, pu_s, up_s, up_k, up_a, ↓reduceIte, Int.reduceLT, Int.reduceLE, Int.reduceEq, Int.reduceNeg, Int.reduceAdd, Int.reduceSub, Int.reduceMul, Int.reduceMod, Int.reduceDiv, Int.cast_ofNat_Int, not_true_eq_false, not_false_eq_true, Int.reduceTDiv, Int.reduceTMod, pu_s, if_pos, if_neg]
        rw [K125_50 kV]
        refine c_emit (d := d + 4) hV hs3 (by rw [up_k (by decide)]; omega) (fun m4 hp4 => ?_) ecv
        simp (disch := first | assumption | exact isL_i | exact isL_r | exact isL_n | exact i01a | exact i01b | omega) only [K125_53, K125_54, wr_id, td_e, tm_e, pu_n, pu_s, up_s, up_k, up_a, ↓reduceIte, Int.reduceLT, Int.reduceLE, Int.reduceEq, Int.reduceNeg, Int.reduceAdd, Int.reduceSub, Int.reduceMul, Int.reduceMod, Int.reduceDiv, Int.cast_ofNat_Int, not_true_eq_false, not_false_eq_true, Int.reduceTDiv, Int.reduceTMod, pu_n]
        exact hK m4 (PoC.pp hp4)
theorem c_rd (hV : ShV G V Sg e) (hS : SgF h e) (he : e ≤ 100) : ∀ (f m d : Nat) (op i r : Int) (mi : Mi) (K : Option PV → Gh → Mi → Prop), m ≤ 4 → 0 ≤ i → i ≤ e → 0 ≤ op → op ≤ 5 → 4 * (e - i) + fuM m ≤ f → (3 ≤ m → 0 ≤ r ∧ r + 1 ≤ i) → StC h V Sg e i mi →
    (∀ j o mi', rd h f m op i = some (j, o) → PoC V j o mi mi' → K (some (pI (okI o))) G mi') → RunC m d f V op r G mi K := by
  obtain ⟨⟨kV, ⟨kA, lA⟩, ⟨kB, lB⟩, ⟨kE, lE⟩, v3, v5, v6⟩, v8, kSg, lSg, ⟨nS0, nS1, nS2, nS3⟩⟩ := id hV
  intro f
  induction f with
  | zero =>
    intro m d op i r mi K hm h0 hi ho ho' hf hr1 hs hK
    exfalso
    have : 1 ≤ fuM m := by unfold fuM; split <;> decide
    omega
  | succ f ih =>
    intro m d op i r mi K hm h0 hi ho ho' hf hr1 hs hK
    have h5 : m = 0 ∨ m = 1 ∨ m = 2 ∨ m = 3 ∨ m = 4 := by omega
    have h9 := hs.1
    have h4 := hs.2.2
    rcases h5 with rfl | rfl | rfl | rfl | rfl
    · simp only [fuM] at hf
      show OkC (d + f + 8 + 1) 124 [pR (some V), pI op] G mi K
      rw [E124]
      simp (disch := first | assumption | exact isL_i | exact isL_r | exact isL_n | exact i01a | exact i01b | omega) only [K124_0, wr_id, td_e, tm_e, pu_n, pu_s, up_s, up_k, up_a, ↓reduceIte, Int.reduceLT, Int.reduceLE, Int.reduceEq, Int.reduceNeg, Int.reduceAdd, Int.reduceSub, Int.reduceMul, Int.reduceMod, Int.reduceDiv, Int.cast_ofNat_Int, not_true_eq_false, not_false_eq_true, Int.reduceTDiv, Int.reduceTMod]
      rw [K124_1 kV, c_next hV hS hs h0]
      by_cases c : h i = 33 ∨ h i = 40
      · have hie := sg_lt (i := i) hS (by omega)
        by_cases c5 : op = 5
        · have hr : rd h (f + 1) 0 op i = some (i, none) := by simp only [rd]; rw [if_pos c, if_pos c5]
          by_cases c3 : h i = 33
          · simp (disch := first | assumption | exact isL_i | exact isL_r | exact isL_n | exact i01a | exact i01b | omega) only [K124_4, K124_5, K124_6, K124_8, K124_11, K124_12, K124_14, K124_17, K124_18, K124_21, K124_22, K124_23, K124_24, K124_27, K124_28, wr_id, td_e, tm_e, pu_n, pu_s, up_s, up_k, up_a, ↓reduceIte, Int.reduceLT, Int.reduceLE, Int.reduceEq, Int.reduceNeg, Int.reduceAdd, Int.reduceSub, Int.reduceMul, Int.reduceMod, Int.reduceDiv, Int.cast_ofNat_Int, not_true_eq_false, not_false_eq_true, Int.reduceTDiv, Int.reduceTMod, c3, c5, if_pos, if_neg]
            exact hK i none mi hr (PoC.bad hs)
          · have c4 : h i = 40 := c.resolve_left c3
            simp (disch := first | assumption | exact isL_i | exact isL_r | exact isL_n | exact i01a | exact i01b | omega) only [K124_4, K124_5, K124_6, K124_8, K124_11, K124_12, K124_14, K124_17, K124_18, K124_21, K124_22, K124_23, K124_24, K124_27, K124_28, wr_id, td_e, tm_e, pu_n, pu_s, up_s, up_k, up_a, ↓reduceIte, Int.reduceLT, Int.reduceLE, Int.reduceEq, Int.reduceNeg, Int.reduceAdd, Int.reduceSub, Int.reduceMul, Int.reduceMod, Int.reduceDiv, Int.cast_ofNat_Int, not_true_eq_false, not_false_eq_true, Int.reduceTDiv, Int.reduceTMod, c4, c5, if_pos, if_neg]
            exact hK i none mi hr (PoC.bad hs)
        · have hs1 : StC h V Sg e (i + 1) (up mi V 9 (i + 1)) := hs.pp hV (by omega)
          by_cases c3 : h i = 33
          · simp (disch := first | assumption | exact isL_i | exact isL_r | exact isL_n | exact i01a | exact i01b | omega) only [K124_4, K124_5, K124_6, K124_8, K124_11, K124_12, K124_14, K124_17, K124_18, K124_21, K124_22, K124_23, K124_24, K124_27, K124_28, K124_29, K124_30, K124_30i, K124_31, K124_34, K124_35, K124_36, K124_39, K124_40, K124_42, K124_45, K124_46, K124_48, K124_49, K124_50, K124_51, K124_54, K124_57, K124_58, K124_60, K124_63, K124_66, K124_67, K124_70, K124_71, K124_72, K124_73, K124_74, K124_75, wr_id, td_e, tm_e, pu_n, pu_s, up_s, up_k, up_a, ↓reduceIte, Int.reduceLT, Int.reduceLE, Int.reduceEq, Int.reduceNeg, Int.reduceAdd, Int.reduceSub, Int.reduceMul, Int.reduceMod, Int.reduceDiv, Int.cast_ofNat_Int, not_true_eq_false, not_false_eq_true, Int.reduceTDiv, Int.reduceTMod, c3, h9, if_pos, if_neg]
            rw [K124_76 kV]
            refine ih 0 d (op + 1) (i + 1) 0 _ _ (by decide) (by omega) (by omega) (by omega) (by omega) (by simp only [fuM]; omega) (fun h3 => absurd h3 (by decide)) hs1 fun j o m2 hr hp => ?_
            obtain ⟨j', o', q1, q2, q3⟩ := rd_p hS f 0 (op + 1) (i + 1) (by decide) (by omega) (by omega) (by omega) (by omega) (by simp only [fuM]; omega)
            rw [hr] at q1
            obtain ⟨rfl, rfl⟩ := Prod.mk.inj (Option.some.inj q1)
            cases o with
            | none =>
              simp (disch := first | assumption | exact isL_i | exact isL_r | exact isL_n | exact i01a | exact i01b | omega) only [K124_79, K124_82, K124_83, wr_id, td_e, tm_e, pu_n, pu_s, up_s, up_k, up_a, ↓reduceIte, Int.reduceLT, Int.reduceLE, Int.reduceEq, Int.reduceNeg, Int.reduceAdd, Int.reduceSub, Int.reduceMul, Int.reduceMod, Int.reduceDiv, Int.cast_ofNat_Int, not_true_eq_false, not_false_eq_true, Int.reduceTDiv, Int.reduceTMod, pu_s, okI, if_pos, if_neg]
              exact hK j none _ (by simp only [rd]; rw [if_pos c, if_neg c5, if_pos c3, hr]; rfl) hp.pp
            | some L =>
              obtain ⟨l1, l2, -⟩ := q3 L rfl
              have hs2 := hs1.nx hV hp l1
              have h42 : m2 V 4 = mi V 4 + L.length := by rw [(hp.2.2.2 L rfl).1, up_k (by decide)]
              simp (disch := first | assumption | exact isL_i | exact isL_r | exact isL_n | exact i01a | exact i01b | omega) only [K124_79, K124_82, K124_83, K124_84, K124_85, wr_id, td_e, tm_e, pu_n, pu_s, up_s, up_k, up_a, ↓reduceIte, Int.reduceLT, Int.reduceLE, Int.reduceEq, Int.reduceNeg, Int.reduceAdd, Int.reduceSub, Int.reduceMul, Int.reduceMod, Int.reduceDiv, Int.cast_ofNat_Int, not_true_eq_false, not_false_eq_true, Int.reduceTDiv, Int.reduceTMod, pu_s, okI, if_pos, if_neg]
              rw [K124_86 kV]
              refine c_emit (x := -1) hV hs2 (by omega) (fun m3 hp3 => ?_) (by decide)
              simp (disch := first | assumption | exact isL_i | exact isL_r | exact isL_n | exact i01a | exact i01b | omega) only [K124_89, K124_90, wr_id, td_e, tm_e, pu_n, pu_s, up_s, up_k, up_a, ↓reduceIte, Int.reduceLT, Int.reduceLE, Int.reduceEq, Int.reduceNeg, Int.reduceAdd, Int.reduceSub, Int.reduceMul, Int.reduceMod, Int.reduceDiv, Int.cast_ofNat_Int, not_true_eq_false, not_false_eq_true, Int.reduceTDiv, Int.reduceTMod, pu_n]
              refine hK j (some (L ++ [-1])) m3 ?_ (PoC.pp (hp.trS (by rw [up_k (by decide)]; exact h4.1) hp3))
              simp only [rd]; rw [if_pos c, if_neg c5, if_pos c3, hr]; rfl
          · have c4 : h i = 40 := c.resolve_left c3
            simp (disch := first | assumption | exact isL_i | exact isL_r | exact isL_n | exact i01a | exact i01b | omega) only [K124_4, K124_5, K124_6, K124_8, K124_11, K124_12, K124_14, K124_17, K124_18, K124_21, K124_22, K124_23, K124_24, K124_27, K124_28, K124_29, K124_30, K124_30i, K124_31, K124_34, K124_35, K124_36, K124_39, K124_40, K124_42, K124_45, K124_46, K124_48, K124_49, K124_50, wr_id, td_e, tm_e, pu_n, pu_s, up_s, up_k, up_a, ↓reduceIte, Int.reduceLT, Int.reduceLE, Int.reduceEq, Int.reduceNeg, Int.reduceAdd, Int.reduceSub, Int.reduceMul, Int.reduceMod, Int.reduceDiv, Int.cast_ofNat_Int, not_true_eq_false, not_false_eq_true, Int.reduceTDiv, Int.reduceTMod, c4, h9, if_pos, if_neg]
            rw [K124_51 kV]
            refine ih 2 d (op + 1) (i + 1) 0 _ _ (by decide) (by omega) (by omega) (by omega) (by omega) (by simp only [fuM]; omega) (fun h3 => absurd h3 (by decide)) hs1 fun j o m2 hr hp => ?_
            obtain ⟨j', o', q1, q2, q3⟩ := rd_p hS f 2 (op + 1) (i + 1) (by decide) (by omega) (by omega) (by omega) (by omega) (by simp only [fuM]; omega)
            rw [hr] at q1
            obtain ⟨rfl, rfl⟩ := Prod.mk.inj (Option.some.inj q1)
            cases o with
            | none =>
              simp (disch := first | assumption | exact isL_i | exact isL_r | exact isL_n | exact i01a | exact i01b | omega) only [K124_54, K124_70, K124_71, wr_id, td_e, tm_e, pu_n, pu_s, up_s, up_k, up_a, ↓reduceIte, Int.reduceLT, Int.reduceLE, Int.reduceEq, Int.reduceNeg, Int.reduceAdd, Int.reduceSub, Int.reduceMul, Int.reduceMod, Int.reduceDiv, Int.cast_ofNat_Int, not_true_eq_false, not_false_eq_true, Int.reduceTDiv, Int.reduceTMod, pu_s, okI, if_pos, if_neg]
              exact hK j none _ (by simp only [rd]; rw [if_pos c, if_neg c5, if_neg c3, hr]; rfl) hp.pp
            | some L =>
              obtain ⟨l1, l2, -⟩ := q3 L rfl
              have hs2 := hs1.nx hV hp l1
              simp (disch := first | assumption | exact isL_i | exact isL_r | exact isL_n | exact i01a | exact i01b | omega) only [K124_54, K124_57, K124_58, wr_id, td_e, tm_e, pu_n, pu_s, up_s, up_k, up_a, ↓reduceIte, Int.reduceLT, Int.reduceLE, Int.reduceEq, Int.reduceNeg, Int.reduceAdd, Int.reduceSub, Int.reduceMul, Int.reduceMod, Int.reduceDiv, Int.cast_ofNat_Int, not_true_eq_false, not_false_eq_true, Int.reduceTDiv, Int.reduceTMod, pu_s, okI, if_pos, if_neg]
              rw [K124_60 kV, c_take (d := d + f + 7) hV hS hs2 (by omega) (by omega)]
              by_cases c6 : h j = 41
              · rw [if_pos c6]
                simp (disch := first | assumption | exact isL_i | exact isL_r | exact isL_n | exact i01a | exact i01b | omega) only [K124_63, K124_66, K124_67, K124_70, K124_71, wr_id, td_e, tm_e, pu_n, pu_s, up_s, up_k, up_a, ↓reduceIte, Int.reduceLT, Int.reduceLE, Int.reduceEq, Int.reduceNeg, Int.reduceAdd, Int.reduceSub, Int.reduceMul, Int.reduceMod, Int.reduceDiv, Int.cast_ofNat_Int, not_true_eq_false, not_false_eq_true, Int.reduceTDiv, Int.reduceTMod, pu_s, if_pos, if_neg]
                refine hK (j + 1) (some L) _ ?_ (PoC.pp hp.mv)
                simp only [rd]; rw [if_pos c, if_neg c5, if_neg c3, hr]
                show (if h j = 41 then _ else _) = _
                rw [if_pos c6]
              · rw [if_neg c6]
                simp (disch := first | assumption | exact isL_i | exact isL_r | exact isL_n | exact i01a | exact i01b | omega) only [K124_63, K124_66, K124_67, K124_70, K124_71, wr_id, td_e, tm_e, pu_n, pu_s, up_s, up_k, up_a, ↓reduceIte, Int.reduceLT, Int.reduceLE, Int.reduceEq, Int.reduceNeg, Int.reduceAdd, Int.reduceSub, Int.reduceMul, Int.reduceMod, Int.reduceDiv, Int.cast_ofNat_Int, not_true_eq_false, not_false_eq_true, Int.reduceTDiv, Int.reduceTMod, pu_s, if_pos, if_neg]
                refine hK j none _ ?_ (PoC.pp (hp.trN (PoC.bad hs2)))
                simp only [rd]; rw [if_pos c, if_neg c5, if_neg c3, hr]
                show (if h j = 41 then _ else _) = _
                rw [if_neg c6]
      · have c3 : ¬ h i = 33 := fun e => c (Or.inl e)
        have c4 : ¬ h i = 40 := fun e => c (Or.inr e)
        simp (disch := first | assumption | exact isL_i | exact isL_r | exact isL_n | exact i01a | exact i01b | omega) only [K124_4, K124_5, K124_6, K124_8, K124_11, K124_12, K124_14, K124_17, wr_id, td_e, tm_e, pu_n, pu_s, up_s, up_k, up_a, ↓reduceIte, Int.reduceLT, Int.reduceLE, Int.reduceEq, Int.reduceNeg, Int.reduceAdd, Int.reduceSub, Int.reduceMul, Int.reduceMod, Int.reduceDiv, Int.cast_ofNat_Int, not_true_eq_false, not_false_eq_true, Int.reduceTDiv, Int.reduceTMod, if_pos, if_neg]
        rw [K124_18 kV]
        refine c_test (d := d + f + 2) hV hS hs h0 hi he fun m2 hp => ?_
        have h01 : 0 ≤ okI (tsF h i).2 ∧ okI (tsF h i).2 ≤ 1 := by
          cases (tsF h i).2 with
          | none => exact ⟨Int.le_refl 0, (by decide : (0 : Int) ≤ 1)⟩
          | some _ => exact ⟨(by decide : (0 : Int) ≤ 1), Int.le_refl 1⟩
        simp (disch := first | assumption | exact isL_i | exact isL_r | exact isL_n | exact i01a | exact i01b | omega) only [K124_21, wr_id, td_e, tm_e, pu_n, pu_s, up_s, up_k, up_a, ↓reduceIte, Int.reduceLT, Int.reduceLE, Int.reduceEq, Int.reduceNeg, Int.reduceAdd, Int.reduceSub, Int.reduceMul, Int.reduceMod, Int.reduceDiv, Int.cast_ofNat_Int, not_true_eq_false, not_false_eq_true, Int.reduceTDiv, Int.reduceTMod, pu_s]
        exact hK _ _ m2 (by simp only [rd]; rw [if_neg c]) hp
    · simp only [fuM] at hf
      show OkC (d + f + 8 + 1) 123 [pR (some V), pI (-2), pI op] G mi K
      rw [E123]
      simp (disch := first | assumption | exact isL_i | exact isL_r | exact isL_n | exact i01a | exact i01b | omega) only [K123_0, K123_1, K123_3, K123_6, K123_8, K123_11, K123_13, K123_14, K123_15, K123_17, K123_18, K123_20, K123_23, K123_24, K123_26, K123_27, K123_30, K123_33, K123_36, K123_37, wr_id, td_e, tm_e, pu_n, pu_s, up_s, up_k, up_a, ↓reduceIte, Int.reduceLT, Int.reduceLE, Int.reduceEq, Int.reduceNeg, Int.reduceAdd, Int.reduceSub, Int.reduceMul, Int.reduceMod, Int.reduceDiv, Int.cast_ofNat_Int, not_true_eq_false, not_false_eq_true, Int.reduceTDiv, Int.reduceTMod, if_pos, if_neg]
      rw [K123_38 kV]
      refine ih 0 d op i 0 _ _ (by decide) h0 hi ho ho' (by simp only [fuM]; omega) (fun h3 => absurd h3 (by decide)) hs fun j o m2 hr hp => ?_
      obtain ⟨j', o', q1, q2, q3⟩ := rd_p hS f 0 op i (by decide) h0 hi ho ho' (by simp only [fuM]; omega)
      rw [hr] at q1
      obtain ⟨rfl, rfl⟩ := Prod.mk.inj (Option.some.inj q1)
      cases o with
      | none =>
        simp (disch := first | assumption | exact isL_i | exact isL_r | exact isL_n | exact i01a | exact i01b | omega) only [K123_41, K123_44, K123_45, wr_id, td_e, tm_e, pu_n, pu_s, up_s, up_k, up_a, ↓reduceIte, Int.reduceLT, Int.reduceLE, Int.reduceEq, Int.reduceNeg, Int.reduceAdd, Int.reduceSub, Int.reduceMul, Int.reduceMod, Int.reduceDiv, Int.cast_ofNat_Int, not_true_eq_false, not_false_eq_true, Int.reduceTDiv, Int.reduceTMod, pu_s, okI, if_pos, if_neg]
        exact hK j none m2 (by simp only [rd]; rw [hr]; rfl) hp
      | some L =>
        obtain ⟨l1, l2, -⟩ := q3 L rfl
        have l2 := l2 (by decide)
        have hs2 := hs.nx hV hp l1
        simp (disch := first | assumption | exact isL_i | exact isL_r | exact isL_n | exact i01a | exact i01b | omega) only [K123_41, K123_44, K123_45, K123_46, K123_48, wr_id, td_e, tm_e, pu_n, pu_s, up_s, up_k, up_a, ↓reduceIte, Int.reduceLT, Int.reduceLE, Int.reduceEq, Int.reduceNeg, Int.reduceAdd, Int.reduceSub, Int.reduceMul, Int.reduceMod, Int.reduceDiv, Int.cast_ofNat_Int, not_true_eq_false, not_false_eq_true, Int.reduceTDiv, Int.reduceTMod, pu_s, okI, if_pos, if_neg]
        have J := ih 3 (d + 1) op j 0 m2 K (by decide) (by omega) q2.2 ho ho' (by simp only [fuM]; omega) (fun _ => ⟨Int.le_refl _, by omega⟩) hs2 fun j2 o2 m3 hr2 hp2 => ?_
        · rw [show d + f + 8 + 1 = d + 1 + f + 8 by omega]; exact J
        · have hrr : rd h (f + 1) 1 op i = bnd (rd h f 3 op j) fun j' L' => some (j', some (L ++ L')) := by simp only [rd]; rw [hr]; rfl
          rw [hr2] at hrr
          cases o2 with
          | none => exact hK j2 none m3 hrr (hp.trN hp2)
          | some L2 => exact hK j2 (some (L ++ L2)) m3 hrr (hp.trS h4.1 hp2)
    · simp only [fuM] at hf
      show OkC (d + f + 8 + 1) 123 [pR (some V), pI (-3), pI op] G mi K
      rw [E123]
      simp (disch := first | assumption | exact isL_i | exact isL_r | exact isL_n | exact i01a | exact i01b | omega) only [K123_0, K123_1, K123_3, K123_6, K123_8, K123_11, K123_13, K123_14, K123_15, K123_17, K123_18, K123_20, K123_23, K123_24, K123_26, wr_id, td_e, tm_e, pu_n, pu_s, up_s, up_k, up_a, ↓reduceIte, Int.reduceLT, Int.reduceLE, Int.reduceEq, Int.reduceNeg, Int.reduceAdd, Int.reduceSub, Int.reduceMul, Int.reduceMod, Int.reduceDiv, Int.cast_ofNat_Int, not_true_eq_false, not_false_eq_true, Int.reduceTDiv, Int.reduceTMod, if_pos, if_neg]
      rw [K123_27 kV]
      refine ih 1 d op i 0 _ _ (by decide) h0 hi ho ho' (by simp only [fuM]; omega) (fun h3 => absurd h3 (by decide)) hs fun j o m2 hr hp => ?_
      obtain ⟨j', o', q1, q2, q3⟩ := rd_p hS f 1 op i (by decide) h0 hi ho ho' (by simp only [fuM]; omega)
      rw [hr] at q1
      obtain ⟨rfl, rfl⟩ := Prod.mk.inj (Option.some.inj q1)
      cases o with
      | none =>
        simp (disch := first | assumption | exact isL_i | exact isL_r | exact isL_n | exact i01a | exact i01b | omega) only [K123_30, K123_33, K123_44, K123_45, wr_id, td_e, tm_e, pu_n, pu_s, up_s, up_k, up_a, ↓reduceIte, Int.reduceLT, Int.reduceLE, Int.reduceEq, Int.reduceNeg, Int.reduceAdd, Int.reduceSub, Int.reduceMul, Int.reduceMod, Int.reduceDiv, Int.cast_ofNat_Int, not_true_eq_false, not_false_eq_true, Int.reduceTDiv, Int.reduceTMod, pu_s, okI, if_pos, if_neg]
        exact hK j none m2 (by simp only [rd]; rw [hr]; rfl) hp
      | some L =>
        obtain ⟨l1, l2, -⟩ := q3 L rfl
        have l2 := l2 (by decide)
        have hs2 := hs.nx hV hp l1
        simp (disch := first | assumption | exact isL_i | exact isL_r | exact isL_n | exact i01a | exact i01b | omega) only [K123_30, K123_33, K123_46, K123_48, wr_id, td_e, tm_e, pu_n, pu_s, up_s, up_k, up_a, ↓reduceIte, Int.reduceLT, Int.reduceLE, Int.reduceEq, Int.reduceNeg, Int.reduceAdd, Int.reduceSub, Int.reduceMul, Int.reduceMod, Int.reduceDiv, Int.cast_ofNat_Int, not_true_eq_false, not_false_eq_true, Int.reduceTDiv, Int.reduceTMod, pu_s, okI, if_pos, if_neg]
        have J := ih 4 (d + 1) op j 0 m2 K (by decide) (by omega) q2.2 ho ho' (by simp only [fuM]; omega) (fun _ => ⟨Int.le_refl _, by omega⟩) hs2 fun j2 o2 m3 hr2 hp2 => ?_
        · rw [show d + f + 8 + 1 = d + 1 + f + 8 by omega]; exact J
        · have hrr : rd h (f + 1) 2 op i = bnd (rd h f 4 op j) fun j' L' => some (j', some (L ++ L')) := by simp only [rd]; rw [hr]; rfl
          rw [hr2] at hrr
          cases o2 with
          | none => exact hK j2 none m3 hrr (hp.trN hp2)
          | some L2 => exact hK j2 (some (L ++ L2)) m3 hrr (hp.trS h4.1 hp2)
    · simp only [fuM] at hf
      obtain ⟨r0, r1⟩ := hr1 (by decide)
      show Ok (d + f + 8 + 1) 123 56 [some (pR (some V)), some (pI (-2)), some (pI op), some (pI 38), some (pI r)] [] G mi K
      simp (disch := first | assumption | exact isL_i | exact isL_r | exact isL_n | exact i01a | exact i01b | omega) only [K123_56, K123_59, K123_61, K123_63, K123_66, K123_67, wr_id, td_e, tm_e, pu_n, pu_s, up_s, up_k, up_a, ↓reduceIte, Int.reduceLT, Int.reduceLE, Int.reduceEq, Int.reduceNeg, Int.reduceAdd, Int.reduceSub, Int.reduceMul, Int.reduceMod, Int.reduceDiv, Int.cast_ofNat_Int, not_true_eq_false, not_false_eq_true, Int.reduceTDiv, Int.reduceTMod, if_pos, if_neg]
      rw [K123_68 kV, c_take (d := d + f + 7) hV hS hs h0 (by omega)]
      by_cases c : h i = 38
      · have hie := sg_lt (i := i) hS (by omega)
        have hs1 : StC h V Sg e (i + 1) (up mi V 9 (i + 1)) := hs.pp hV (by omega)
        rw [if_pos c]
        simp (disch := first | assumption | exact isL_i | exact isL_r | exact isL_n | exact i01a | exact i01b | omega) only [K123_71, K123_17, K123_18, K123_20, K123_23, K123_24, K123_26, K123_27, K123_30, K123_33, K123_36, K123_37, wr_id, td_e, tm_e, pu_n, pu_s, up_s, up_k, up_a, ↓reduceIte, Int.reduceLT, Int.reduceLE, Int.reduceEq, Int.reduceNeg, Int.reduceAdd, Int.reduceSub, Int.reduceMul, Int.reduceMod, Int.reduceDiv, Int.cast_ofNat_Int, not_true_eq_false, not_false_eq_true, Int.reduceTDiv, Int.reduceTMod, pu_s, if_pos, if_neg]
        rw [K123_38 kV]
        refine ih 0 d op (i + 1) 0 _ _ (by decide) (by omega) (by omega) ho ho' (by simp only [fuM]; omega) (fun h3 => absurd h3 (by decide)) hs1 fun j o m2 hr hp => ?_
        obtain ⟨j', o', q1, q2, q3⟩ := rd_p hS f 0 op (i + 1) (by decide) (by omega) (by omega) ho ho' (by simp only [fuM]; omega)
        rw [hr] at q1
        obtain ⟨rfl, rfl⟩ := Prod.mk.inj (Option.some.inj q1)
        cases o with
        | none =>
          simp (disch := first | assumption | exact isL_i | exact isL_r | exact isL_n | exact i01a | exact i01b | omega) only [K123_41, K123_44, K123_45, wr_id, td_e, tm_e, pu_n, pu_s, up_s, up_k, up_a, ↓reduceIte, Int.reduceLT, Int.reduceLE, Int.reduceEq, Int.reduceNeg, Int.reduceAdd, Int.reduceSub, Int.reduceMul, Int.reduceMod, Int.reduceDiv, Int.cast_ofNat_Int, not_true_eq_false, not_false_eq_true, Int.reduceTDiv, Int.reduceTMod, pu_s, okI, if_pos, if_neg]
          exact hK j none m2 (by simp only [rd]; rw [if_pos c, hr]; rfl) hp.pp
        | some L =>
          obtain ⟨l1, l2, -⟩ := q3 L rfl
          have l2 := l2 (by decide)
          have hs2 := hs1.nx hV hp l1
          have h42 : m2 V 4 = mi V 4 + L.length := by rw [(hp.2.2.2 L rfl).1, up_k (by decide)]
          simp (disch := first | assumption | exact isL_i | exact isL_r | exact isL_n | exact i01a | exact i01b | omega) only [K123_41, K123_44, K123_45, K123_46, K123_48, K123_51, K123_52, wr_id, td_e, tm_e, pu_n, pu_s, up_s, up_k, up_a, ↓reduceIte, Int.reduceLT, Int.reduceLE, Int.reduceEq, Int.reduceNeg, Int.reduceAdd, Int.reduceSub, Int.reduceMul, Int.reduceMod, Int.reduceDiv, Int.cast_ofNat_Int, not_true_eq_false, not_false_eq_true, Int.reduceTDiv, Int.reduceTMod, pu_s, okI, if_pos, if_neg]
          rw [K123_53 kV]
          refine c_emit (x := -2) hV hs2 (by omega) (fun m3 hp3 => ?_) (by decide)
          rw [pu_n]
          have hp12 : PoC V j (some (L ++ [-2])) mi m3 := (hp.trS (by rw [up_k (by decide)]; exact h4.1) hp3).pp
          have hl12 : i + ((L ++ [-2]).length : Int) ≤ j := by rw [List.length_append, List.length_singleton]; omega
          have hs3 := hs.nx hV hp12 hl12
          have J := ih 3 (d + 1) op j (r + 1) m3 K (by decide) (by omega) q2.2 ho ho' (by simp only [fuM]; omega) (fun _ => ⟨by omega, by omega⟩) hs3 fun j2 o2 m4 hr2 hp4 => ?_
          · rw [show d + f + 8 + 1 = d + 1 + f + 8 by omega]; exact J
          · have hrr : rd h (f + 1) 3 op i = bnd (rd h f 3 op j) fun j' L' => some (j', some (L ++ -2 :: L')) := by simp only [rd]; rw [if_pos c, hr]; rfl
            rw [hr2] at hrr
            cases o2 with
            | none => exact hK j2 none m4 hrr (hp12.trN hp4)
            | some L2 =>
              have := hp12.trS h4.1 hp4
              rw [List.append_assoc] at this
              exact hK j2 (some (L ++ -2 :: L2)) m4 hrr this
      · rw [if_neg c]
        simp (disch := first | assumption | exact isL_i | exact isL_r | exact isL_n | exact i01a | exact i01b | omega) only [K123_71, K123_74, K123_75, wr_id, td_e, tm_e, pu_n, pu_s, up_s, up_k, up_a, ↓reduceIte, Int.reduceLT, Int.reduceLE, Int.reduceEq, Int.reduceNeg, Int.reduceAdd, Int.reduceSub, Int.reduceMul, Int.reduceMod, Int.reduceDiv, Int.cast_ofNat_Int, not_true_eq_false, not_false_eq_true, Int.reduceTDiv, Int.reduceTMod, pu_s, if_pos, if_neg]
        exact hK i (some []) mi (by simp only [rd]; rw [if_neg c]) (PoC.rf hs)
    · simp only [fuM] at hf
      obtain ⟨r0, r1⟩ := hr1 (by decide)
      show Ok (d + f + 8 + 1) 123 56 [some (pR (some V)), some (pI (-3)), some (pI op), some (pI 124), some (pI r)] [] G mi K
      simp (disch := first | assumption | exact isL_i | exact isL_r | exact isL_n | exact i01a | exact i01b | omega) only [K123_56, K123_59, K123_61, K123_63, K123_66, K123_67, wr_id, td_e, tm_e, pu_n, pu_s, up_s, up_k, up_a, ↓reduceIte, Int.reduceLT, Int.reduceLE, Int.reduceEq, Int.reduceNeg, Int.reduceAdd, Int.reduceSub, Int.reduceMul, Int.reduceMod, Int.reduceDiv, Int.cast_ofNat_Int, not_true_eq_false, not_false_eq_true, Int.reduceTDiv, Int.reduceTMod, if_pos, if_neg]
      rw [K123_68 kV, c_take (d := d + f + 7) hV hS hs h0 (by omega)]
      by_cases c : h i = 124
      · have hie := sg_lt (i := i) hS (by omega)
        have hs1 : StC h V Sg e (i + 1) (up mi V 9 (i + 1)) := hs.pp hV (by omega)
        rw [if_pos c]
        simp (disch := first | assumption | exact isL_i | exact isL_r | exact isL_n | exact i01a | exact i01b | omega) only [K123_71, K123_17, K123_18, K123_20, K123_23, K123_24, K123_26, wr_id, td_e, tm_e, pu_n, pu_s, up_s, up_k, up_a, ↓reduceIte, Int.reduceLT, Int.reduceLE, Int.reduceEq, Int.reduceNeg, Int.reduceAdd, Int.reduceSub, Int.reduceMul, Int.reduceMod, Int.reduceDiv, Int.cast_ofNat_Int, not_true_eq_false, not_false_eq_true, Int.reduceTDiv, Int.reduceTMod, pu_s, if_pos, if_neg]
        rw [K123_27 kV]
        refine ih 1 d op (i + 1) 0 _ _ (by decide) (by omega) (by omega) ho ho' (by simp only [fuM]; omega) (fun h3 => absurd h3 (by decide)) hs1 fun j o m2 hr hp => ?_
        obtain ⟨j', o', q1, q2, q3⟩ := rd_p hS f 1 op (i + 1) (by decide) (by omega) (by omega) ho ho' (by simp only [fuM]; omega)
        rw [hr] at q1
        obtain ⟨rfl, rfl⟩ := Prod.mk.inj (Option.some.inj q1)
        cases o with
        | none =>
          simp (disch := first | assumption | exact isL_i | exact isL_r | exact isL_n | exact i01a | exact i01b | omega) only [K123_30, K123_33, K123_44, K123_45, wr_id, td_e, tm_e, pu_n, pu_s, up_s, up_k, up_a, ↓reduceIte, Int.reduceLT, Int.reduceLE, Int.reduceEq, Int.reduceNeg, Int.reduceAdd, Int.reduceSub, Int.reduceMul, Int.reduceMod, Int.reduceDiv, Int.cast_ofNat_Int, not_true_eq_false, not_false_eq_true, Int.reduceTDiv, Int.reduceTMod, pu_s, okI, if_pos, if_neg]
          exact hK j none m2 (by simp only [rd]; rw [if_pos c, hr]; rfl) hp.pp
        | some L =>
          obtain ⟨l1, l2, -⟩ := q3 L rfl
          have l2 := l2 (by decide)
          have hs2 := hs1.nx hV hp l1
          have h42 : m2 V 4 = mi V 4 + L.length := by rw [(hp.2.2.2 L rfl).1, up_k (by decide)]
          simp (disch := first | assumption | exact isL_i | exact isL_r | exact isL_n | exact i01a | exact i01b | omega) only [K123_30, K123_33, K123_46, K123_48, K123_51, K123_52, wr_id, td_e, tm_e, pu_n, pu_s, up_s, up_k, up_a, ↓reduceIte, Int.reduceLT, Int.reduceLE, Int.reduceEq, Int.reduceNeg, Int.reduceAdd, Int.reduceSub, Int.reduceMul, Int.reduceMod, Int.reduceDiv, Int.cast_ofNat_Int, not_true_eq_false, not_false_eq_true, Int.reduceTDiv, Int.reduceTMod, pu_s, okI, if_pos, if_neg]
          rw [K123_53 kV]
          refine c_emit (x := -3) hV hs2 (by omega) (fun m3 hp3 => ?_) (by decide)
          rw [pu_n]
          have hp12 : PoC V j (some (L ++ [-3])) mi m3 := (hp.trS (by rw [up_k (by decide)]; exact h4.1) hp3).pp
          have hl12 : i + ((L ++ [-3]).length : Int) ≤ j := by rw [List.length_append, List.length_singleton]; omega
          have hs3 := hs.nx hV hp12 hl12
          have J := ih 4 (d + 1) op j (r + 1) m3 K (by decide) (by omega) q2.2 ho ho' (by simp only [fuM]; omega) (fun _ => ⟨by omega, by omega⟩) hs3 fun j2 o2 m4 hr2 hp4 => ?_
          · rw [show d + f + 8 + 1 = d + 1 + f + 8 by omega]; exact J
          · have hrr : rd h (f + 1) 4 op i = bnd (rd h f 4 op j) fun j' L' => some (j', some (L ++ -3 :: L')) := by simp only [rd]; rw [if_pos c, hr]; rfl
            rw [hr2] at hrr
            cases o2 with
            | none => exact hK j2 none m4 hrr (hp12.trN hp4)
            | some L2 =>
              have := hp12.trS h4.1 hp4
              rw [List.append_assoc] at this
              exact hK j2 (some (L ++ -3 :: L2)) m4 hrr this
      · rw [if_neg c]
        simp (disch := first | assumption | exact isL_i | exact isL_r | exact isL_n | exact i01a | exact i01b | omega) only [K123_71, K123_74, K123_75, wr_id, td_e, tm_e, pu_n, pu_s, up_s, up_k, up_a, ↓reduceIte, Int.reduceLT, Int.reduceLE, Int.reduceEq, Int.reduceNeg, Int.reduceAdd, Int.reduceSub, Int.reduceMul, Int.reduceMod, Int.reduceDiv, Int.cast_ofNat_Int, not_true_eq_false, not_false_eq_true, Int.reduceTDiv, Int.reduceTMod, pu_s, if_pos, if_neg]
        exact hK i (some []) mi (by simp only [rd]; rw [if_neg c]) (PoC.rf hs)
end CL
