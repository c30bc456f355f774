/-! ===== the reference reads a condition: all modes ===== -/
section MO
variable {d : Nat} {G : Gh} {mi mi' mi'' : Mi} {K : Option PV → Gh → Mi → Prop} {p t v w a b c k n g q e i j op x : Int} {h : Int → Int} {L : List Int} {o : Option (List Int)}
theorem m_every0 (hG : ShM G) (h9 : mi 46 9 = 1) : Ok (d + 1) 17 4 [some (pR (some 46))] [] G mi K = K none G mi := by
  obtain ⟨⟨k46, k47, l47, k48, l48, k49, l49, k50, l50, k51, l51⟩, ⟨k52, l52, k53, l53, k54, l54⟩, ⟨g1, g2, g3, g11, g12, g15, g16, g18⟩⟩ := id hG
  simp (disch := first | assumption | exact isL_i | exact isL_r | exact isL_n | exact i01a | exact i01b | omega) only [K17_4, K17_5, K17_8, K17_43, g1, g2, g3, g11, g12, g15, g16, g18, wr_id, td_e, tm_e, pu_n, pu_s, up_s, up_k, up_a, ↓reduceIte, Int.reduceLT, Int.reduceLE, Int.reduceEq, Int.reduceNeg, Int.reduceAdd, Int.reduceSub, Int.reduceMul, Int.reduceMod, Int.reduceDiv, Int.cast_ofNat_Int, not_true_eq_false, not_false_eq_true, Int.reduceTDiv, Int.reduceTMod, h9, if_pos, if_neg]
theorem m_some0 (hG : ShM G) (h9 : mi 46 9 = 1) : Ok (d + 1) 18 4 [some (pR (some 46))] [] G mi K = K none G mi := by
  obtain ⟨⟨k46, k47, l47, k48, l48, k49, l49, k50, l50, k51, l51⟩, ⟨k52, l52, k53, l53, k54, l54⟩, ⟨g1, g2, g3, g11, g12, g15, g16, g18⟩⟩ := id hG
  simp (disch := first | assumption | exact isL_i | exact isL_r | exact isL_n | exact i01a | exact i01b | omega) only [K18_4, K18_5, K18_8, K18_43, g1, g2, g3, g11, g12, g15, g16, g18, wr_id, td_e, tm_e, pu_n, pu_s, up_s, up_k, up_a, ↓reduceIte, Int.reduceLT, Int.reduceLE, Int.reduceEq, Int.reduceNeg, Int.reduceAdd, Int.reduceSub, Int.reduceMul, Int.reduceMod, Int.reduceDiv, Int.cast_ofNat_Int, not_true_eq_false, not_false_eq_true, Int.reduceTDiv, Int.reduceTMod, h9, if_pos, if_neg]
theorem m_some1 (hG : ShM G) (h9 : mi 46 9 = 1) : OkC (d + 3) 18 [pR (some 46)] G mi K = K none G mi := by
  obtain ⟨⟨k46, k47, l47, k48, l48, k49, l49, k50, l50, k51, l51⟩, ⟨k52, l52, k53, l53, k54, l54⟩, ⟨g1, g2, g3, g11, g12, g15, g16, g18⟩⟩ := id hG
  have he : ∀ K', OkC (d + 2) 17 [pR (some 46)] G mi K' = K' none G mi := by
    intro K'
    rw [E17]
    simp (disch := first | assumption | exact isL_i | exact isL_r | exact isL_n | exact i01a | exact i01b | omega) only [K17_0, wr_id, td_e, tm_e, pu_n, pu_s, up_s, up_k, up_a, ↓reduceIte, Int.reduceLT, Int.reduceLE, Int.reduceEq, Int.reduceNeg, Int.reduceAdd, Int.reduceSub, Int.reduceMul, Int.reduceMod, Int.reduceDiv, Int.cast_ofNat_Int, not_true_eq_false, not_false_eq_true, Int.reduceTDiv, Int.reduceTMod]
    rw [K17_1 k46, m_every1 hG h9]
    exact m_every0 hG h9
  rw [E18]
  simp (disch := first | assumption | exact isL_i | exact isL_r | exact isL_n | exact i01a | exact i01b | omega) only [K18_0, wr_id, td_e, tm_e, pu_n, pu_s, up_s, up_k, up_a, ↓reduceIte, Int.reduceLT, Int.reduceLE, Int.reduceEq, Int.reduceNeg, Int.reduceAdd, Int.reduceSub, Int.reduceMul, Int.reduceMod, Int.reduceDiv, Int.cast_ofNat_Int, not_true_eq_false, not_false_eq_true, Int.reduceTDiv, Int.reduceTMod]
  rw [K18_1 k46, he]
  exact m_some0 hG h9
theorem PoM.back (hp : PoM a (op + 1) j o (up (up mi 46 10 (op + 1)) 46 7 (i + 1)) mi') {w : Int} (hw : ∀ L, o = some L → w = op) : PoM a op j o mi (up mi' 46 10 w) := by
  obtain ⟨p1, p2, p3, p4⟩ := hp
  rw [up_a (by decide), up_a (by decide)] at p4
  refine ⟨(((sc_up (by decide)).u (by decide)).tr p1).u (by decide), fun q a b c => by rw [up_k c, p2 q a b c, up_k a, up_k c], by rw [up_k (by decide)]; exact p3, ?_⟩
  cases o with
  | none => exact ⟨by rw [up_k (by decide)]; exact p4.1, by rw [up_a (by decide)]; exact p4.2⟩
  | some L => exact ⟨by rw [up_k (by decide)]; exact p4.1, by rw [up_s]; exact hw L rfl, by rw [up_a (by decide)]; exact p4.2.2⟩
theorem m_rd (hG : ShM G) (hS : SgF h e) (ha : 0 ≤ a) (ha' : a ≤ 4) (he : e ≤ 100) : ∀ (f m d : Nat) (op i : Int) (mi : Mi) (K : Option PV → Gh → Mi → Prop), m ≤ 4 → 0 ≤ i → i ≤ e → 0 ≤ op → op ≤ 5 → 4 * (e - i) + fuM m ≤ f → StM h a e op i mi →
    (∀ j o mi', rd h f m op i = some (j, o) → PoM a op j o mi mi' → K none G mi') → RunM m d f G mi K := by
  obtain ⟨⟨k46, k47, l47, k48, l48, k49, l49, k50, l50, k51, l51⟩, ⟨k52, l52, k53, l53, k54, l54⟩, ⟨g1, g2, g3, g11, g12, g15, g16, g18⟩⟩ := id hG
  intro f
  induction f with
  | zero =>
    intro m d op i mi K hm h0 hi ho ho' hf hs hK
    exfalso
    have : 1 ≤ fuM m := by unfold fuM; split <;> decide
    omega
  | succ f ih =>
    intro m d op i mi K hm h0 hi ho ho' hf hs hK
    have h5 : m = 0 ∨ m = 1 ∨ m = 2 ∨ m = 3 ∨ m = 4 := by omega
    have h9 := hs.1.2.2.2.1
    rcases h5 with rfl | rfl | rfl | rfl | rfl
    · simp only [fuM] at hf
      show OkC (d + f + 1 + 8) 16 [pR (some 46)] G mi K
      by_cases c : h i = 33 ∨ h i = 40
      · have hie := sg_lt (i := i) hS (by omega)
        obtain ⟨⟨h6, h7, h8, -, h10⟩, hh, hm1, hm2⟩ := id hs
        rw [E16]
        simp (disch := first | assumption | exact isL_i | exact isL_r | exact isL_n | exact i01a | exact i01b | omega) only [K16_0, K16_1, g1, g2, g3, g11, g12, g15, g16, g18, wr_id, td_e, tm_e, pu_n, pu_s, up_s, up_k, up_a, ↓reduceIte, Int.reduceLT, Int.reduceLE, Int.reduceEq, Int.reduceNeg, Int.reduceAdd, Int.reduceSub, Int.reduceMul, Int.reduceMod, Int.reduceDiv, Int.cast_ofNat_Int, not_true_eq_false, not_false_eq_true, Int.reduceTDiv, Int.reduceTMod, h9, if_pos, if_neg]
        simp (disch := first | assumption | exact isL_i | exact isL_r | exact isL_n | exact i01a | exact i01b | omega) only [K16_4, K16_7, K16_8, g1, g2, g3, g11, g12, g15, g16, g18, wr_id, td_e, tm_e, pu_n, pu_s, up_s, up_k, up_a, ↓reduceIte, Int.reduceLT, Int.reduceLE, Int.reduceEq, Int.reduceNeg, Int.reduceAdd, Int.reduceSub, Int.reduceMul, Int.reduceMod, Int.reduceDiv, Int.cast_ofNat_Int, not_true_eq_false, not_false_eq_true, Int.reduceTDiv, Int.reduceTMod, if_pos, if_neg]
        rw [K16_9 k46, m_here' hG hs h0 he]
        by_cases c5 : op = 5
        · have hr : rd h (f + 1) 0 op i = some (i, none) := by simp only [rd]; rw [if_pos c, if_pos c5]
          have e9 : up (up mi 46 9 1) 46 10 6 46 9 = 1 := by rw [up_k (by decide), up_s]
          have e7 : up (up mi 46 9 1) 46 10 6 46 7 = i := by rw [up_k (by decide), up_k (by decide)]; exact h7
          have e77 : up (up (up mi 46 9 1) 46 10 6) 46 7 i = up (up mi 46 9 1) 46 10 6 := up_same e7
          have hfin : PoM a op i none mi (up (up (up mi 46 9 1) 46 10 6) 46 10 5) := by
            refine ⟨((sc_up (by decide)).u (by decide)).u (by decide), fun k a b c => by rw [up_k c, up_k c, up_k b], by rw [up_k (by decide)]; exact e7, by rw [up_k (by decide)]; exact e9, ?_⟩
            rw [up_a (by decide), up_a (by decide), up_a (by decide)]
            exact OutE.rf
          by_cases c3 : h i = 33
          · simp (disch := first | assumption | exact isL_i | exact isL_r | exact isL_n | exact i01a | exact i01b | omega) only [K16_12, K16_13, K16_14, K16_16, K16_19, K16_20, K16_22, K16_25, K16_26, K16_27, K16_30, K16_31, K16_34, K16_35, K16_38, K16_39, K16_42, K16_43, K16_43i, K16_44, K16_47, K16_48, K16_49, K16_52, K16_53, K16_53i, K16_54, K16_57, K16_58, K16_61, K16_64, K16_65, K16_68, K16_69, K16_70, K16_73, K16_74, K16_76, K16_79, g1, g2, g3, g11, g12, g15, g16, g18, wr_id, td_e, tm_e, pu_n, pu_s, up_s, up_k, up_a, ↓reduceIte, Int.reduceLT, Int.reduceLE, Int.reduceEq, Int.reduceNeg, Int.reduceAdd, Int.reduceSub, Int.reduceMul, Int.reduceMod, Int.reduceDiv, Int.cast_ofNat_Int, not_true_eq_false, not_false_eq_true, Int.reduceTDiv, Int.reduceTMod, h10, c5, h7, e77, c3, Int.add_zero, if_pos, if_neg]
            rw [K16_80 k46, m_every1 hG e9]
            simp (disch := first | assumption | exact isL_i | exact isL_r | exact isL_n | exact i01a | exact i01b | omega) only [K16_83, K16_84, g1, g2, g3, g11, g12, g15, g16, g18, wr_id, td_e, tm_e, pu_n, pu_s, up_s, up_k, up_a, ↓reduceIte, Int.reduceLT, Int.reduceLE, Int.reduceEq, Int.reduceNeg, Int.reduceAdd, Int.reduceSub, Int.reduceMul, Int.reduceMod, Int.reduceDiv, Int.cast_ofNat_Int, not_true_eq_false, not_false_eq_true, Int.reduceTDiv, Int.reduceTMod]
            rw [K16_85 k46, m_emits1 hG e9]
            simp (disch := first | assumption | exact isL_i | exact isL_r | exact isL_n | exact i01a | exact i01b | omega) only [K16_88, K16_101, K16_102, K16_102i, K16_103, K16_106, K16_107, K16_108, K16_111, g1, g2, g3, g11, g12, g15, g16, g18, wr_id, td_e, tm_e, pu_n, pu_s, up_s, up_k, up_a, ↓reduceIte, Int.reduceLT, Int.reduceLE, Int.reduceEq, Int.reduceNeg, Int.reduceAdd, Int.reduceSub, Int.reduceMul, Int.reduceMod, Int.reduceDiv, Int.cast_ofNat_Int, not_true_eq_false, not_false_eq_true, Int.reduceTDiv, Int.reduceTMod]
            exact hK _ _ _ hr hfin
          · have c4 : h i = 40 := c.resolve_left c3
            simp (disch := first | assumption | exact isL_i | exact isL_r | exact isL_n | exact i01a | exact i01b | omega) only [K16_12, K16_13, K16_14, K16_16, K16_19, K16_20, K16_22, K16_25, K16_26, K16_27, K16_30, K16_31, K16_34, K16_35, K16_38, K16_39, K16_42, K16_43, K16_43i, K16_44, K16_47, K16_48, K16_49, K16_52, K16_53, K16_53i, K16_54, K16_57, K16_58, K16_61, K16_64, K16_65, K16_68, K16_69, K16_70, K16_73, K16_74, K16_76, K16_91, g1, g2, g3, g11, g12, g15, g16, g18, wr_id, td_e, tm_e, pu_n, pu_s, up_s, up_k, up_a, ↓reduceIte, Int.reduceLT, Int.reduceLE, Int.reduceEq, Int.reduceNeg, Int.reduceAdd, Int.reduceSub, Int.reduceMul, Int.reduceMod, Int.reduceDiv, Int.cast_ofNat_Int, not_true_eq_false, not_false_eq_true, Int.reduceTDiv, Int.reduceTMod, h10, c5, h7, e77, c4, Int.add_zero, if_pos, if_neg]
            rw [K16_92 k46, m_some1 hG e9]
            simp (disch := first | assumption | exact isL_i | exact isL_r | exact isL_n | exact i01a | exact i01b | omega) only [K16_95, K16_96, g1, g2, g3, g11, g12, g15, g16, g18, wr_id, td_e, tm_e, pu_n, pu_s, up_s, up_k, up_a, ↓reduceIte, Int.reduceLT, Int.reduceLE, Int.reduceEq, Int.reduceNeg, Int.reduceAdd, Int.reduceSub, Int.reduceMul, Int.reduceMod, Int.reduceDiv, Int.cast_ofNat_Int, not_true_eq_false, not_false_eq_true, Int.reduceTDiv, Int.reduceTMod]
            rw [K16_98 k46, m_must1 hG e9 (by rw [e7]; exact h0) (by rw [e7]; omega)]
            simp (disch := first | assumption | exact isL_i | exact isL_r | exact isL_n | exact i01a | exact i01b | omega) only [K16_101, K16_102, K16_102i, K16_103, K16_106, K16_107, K16_108, K16_111, g1, g2, g3, g11, g12, g15, g16, g18, wr_id, td_e, tm_e, pu_n, pu_s, up_s, up_k, up_a, ↓reduceIte, Int.reduceLT, Int.reduceLE, Int.reduceEq, Int.reduceNeg, Int.reduceAdd, Int.reduceSub, Int.reduceMul, Int.reduceMod, Int.reduceDiv, Int.cast_ofNat_Int, not_true_eq_false, not_false_eq_true, Int.reduceTDiv, Int.reduceTMod]
            exact hK _ _ _ hr hfin
        · have hs1 : StM h a e (op + 1) (i + 1) (up (up mi 46 10 (op + 1)) 46 7 (i + 1)) := by
            refine ⟨⟨?_, up_s, ?_, ?_, ?_⟩, ?_, ?_, ?_⟩
            · rw [up_k (by decide), up_k (by decide)]; exact h6
            · rw [up_k (by decide), up_k (by decide)]; exact h8
            · rw [up_k (by decide), up_k (by decide)]; exact h9
            · rw [up_k (by decide), up_s]
            · rw [up_a (by decide), up_a (by decide)]; exact hh
            · rw [up_a (by decide), up_a (by decide)]; exact hm1
            · rw [up_a (by decide), up_a (by decide)]; omega
          have e90 : up mi 46 9 0 = mi := up_same h9
          have e9' : up mi 46 10 (op + 1) 46 9 = 0 := by rw [up_k (by decide)]; exact h9
          have e7' : up mi 46 10 (op + 1) 46 7 = i := by rw [up_k (by decide)]; exact h7
          by_cases c3 : h i = 33
          · simp (disch := first | assumption | exact isL_i | exact isL_r | exact isL_n | exact i01a | exact i01b | omega) only [K16_12, K16_13, K16_14, K16_16, K16_19, K16_20, K16_22, K16_25, K16_26, K16_27, K16_30, K16_31, K16_34, K16_35, K16_38, K16_39, K16_42, K16_43, K16_43i, K16_44, K16_47, K16_48, K16_49, K16_52, K16_53, K16_53i, K16_54, K16_57, K16_58, K16_61, K16_64, K16_65, K16_68, K16_69, K16_70, K16_73, K16_74, K16_76, K16_79, g1, g2, g3, g11, g12, g15, g16, g18, wr_id, td_e, tm_e, pu_n, pu_s, up_s, up_k, up_a, ↓reduceIte, Int.reduceLT, Int.reduceLE, Int.reduceEq, Int.reduceNeg, Int.reduceAdd, Int.reduceSub, Int.reduceMul, Int.reduceMod, Int.reduceDiv, Int.cast_ofNat_Int, not_true_eq_false, not_false_eq_true, Int.reduceTDiv, Int.reduceTMod, h10, h7, e90, e9', e7', c3, if_pos, if_neg]
            rw [K16_80 k46]
            refine ih 0 d (op + 1) (i + 1) _ _ (by decide) (by omega) (by omega) (by omega) (by omega) (by simp only [fuM]; omega) hs1 fun j o m2 hr hp => ?_
            simp (disch := first | assumption | exact isL_i | exact isL_r | exact isL_n | exact i01a | exact i01b | omega) only [K16_83, K16_84, g1, g2, g3, g11, g12, g15, g16, g18, wr_id, td_e, tm_e, pu_n, pu_s, up_s, up_k, up_a, ↓reduceIte, Int.reduceLT, Int.reduceLE, Int.reduceEq, Int.reduceNeg, Int.reduceAdd, Int.reduceSub, Int.reduceMul, Int.reduceMod, Int.reduceDiv, Int.cast_ofNat_Int, not_true_eq_false, not_false_eq_true, Int.reduceTDiv, Int.reduceTMod, pu_n]
            rw [K16_85 k46]
            obtain ⟨j', o', q1, q2, q3⟩ := rd_p hS f 0 (op + 1) (i + 1) (by decide) (by omega) (by omega) (by omega) (by omega) (by simp only [fuM]; omega)
            rw [hr] at q1
            obtain ⟨rfl, rfl⟩ := Prod.mk.inj (Option.some.inj q1)
            cases o with
            | none =>
              rw [m_emits1 hG hp.2.2.2.1]
              simp (disch := first | assumption | exact isL_i | exact isL_r | exact isL_n | exact i01a | exact i01b | omega) only [K16_88, K16_101, K16_102, K16_102i, K16_103, K16_106, K16_107, K16_108, K16_111, g1, g2, g3, g11, g12, g15, g16, g18, wr_id, td_e, tm_e, pu_n, pu_s, up_s, up_k, up_a, ↓reduceIte, Int.reduceLT, Int.reduceLE, Int.reduceEq, Int.reduceNeg, Int.reduceAdd, Int.reduceSub, Int.reduceMul, Int.reduceMod, Int.reduceDiv, Int.cast_ofNat_Int, not_true_eq_false, not_false_eq_true, Int.reduceTDiv, Int.reduceTMod]
              refine hK j none _ ?_ (hp.back (fun L hL => by cases hL))
              simp only [rd]; rw [if_pos c, if_neg c5, if_pos c3, hr]; rfl
            | some L =>
              obtain ⟨l1, l2, -⟩ := q3 L rfl
              have hs2 := hs1.nx hp ha he l1 (by omega)
              refine m_emits' hG hs2 ha ha' (by omega) fun m3 hp3 => ?_
              have hpp := hp.trS hp3
              have h10' : m3 46 10 = op + 1 := hpp.2.2.2.2.1
              simp (disch := first | assumption | exact isL_i | exact isL_r | exact isL_n | exact i01a | exact i01b | omega) only [K16_88, K16_101, K16_102, K16_102i, K16_103, K16_106, K16_107, K16_108, K16_111, g1, g2, g3, g11, g12, g15, g16, g18, wr_id, td_e, tm_e, pu_n, pu_s, up_s, up_k, up_a, ↓reduceIte, Int.reduceLT, Int.reduceLE, Int.reduceEq, Int.reduceNeg, Int.reduceAdd, Int.reduceSub, Int.reduceMul, Int.reduceMod, Int.reduceDiv, Int.cast_ofNat_Int, not_true_eq_false, not_false_eq_true, Int.reduceTDiv, Int.reduceTMod, pu_n, h10', Int.add_sub_cancel]
              refine hK j (some (L ++ [-1])) _ ?_ (hpp.back (fun L hL => rfl))
              simp only [rd]; rw [if_pos c, if_neg c5, if_pos c3, hr]; rfl
          · have c4 : h i = 40 := c.resolve_left c3
            simp (disch := first | assumption | exact isL_i | exact isL_r | exact isL_n | exact i01a | exact i01b | omega) only [K16_12, K16_13, K16_14, K16_16, K16_19, K16_20, K16_22, K16_25, K16_26, K16_27, K16_30, K16_31, K16_34, K16_35, K16_38, K16_39, K16_42, K16_43, K16_43i, K16_44, K16_47, K16_48, K16_49, K16_52, K16_53, K16_53i, K16_54, K16_57, K16_58, K16_61, K16_64, K16_65, K16_68, K16_69, K16_70, K16_73, K16_74, K16_76, K16_91, g1, g2, g3, g11, g12, g15, g16, g18, wr_id, td_e, tm_e, pu_n, pu_s, up_s, up_k, up_a, ↓reduceIte, Int.reduceLT, Int.reduceLE, Int.reduceEq, Int.reduceNeg, Int.reduceAdd, Int.reduceSub, Int.reduceMul, Int.reduceMod, Int.reduceDiv, Int.cast_ofNat_Int, not_true_eq_false, not_false_eq_true, Int.reduceTDiv, Int.reduceTMod, h10, h7, e90, e9', e7', c4, if_pos, if_neg]
            rw [K16_92 k46]
            refine ih 2 d (op + 1) (i + 1) _ _ (by decide) (by omega) (by omega) (by omega) (by omega) (by simp only [fuM]; omega) hs1 fun j o m2 hr hp => ?_
            simp (disch := first | assumption | exact isL_i | exact isL_r | exact isL_n | exact i01a | exact i01b | omega) only [K16_95, K16_96, g1, g2, g3, g11, g12, g15, g16, g18, wr_id, td_e, tm_e, pu_n, pu_s, up_s, up_k, up_a, ↓reduceIte, Int.reduceLT, Int.reduceLE, Int.reduceEq, Int.reduceNeg, Int.reduceAdd, Int.reduceSub, Int.reduceMul, Int.reduceMod, Int.reduceDiv, Int.cast_ofNat_Int, not_true_eq_false, not_false_eq_true, Int.reduceTDiv, Int.reduceTMod, pu_n]
            rw [K16_98 k46]
            obtain ⟨j', o', q1, q2, q3⟩ := rd_p hS f 2 (op + 1) (i + 1) (by decide) (by omega) (by omega) (by omega) (by omega) (by simp only [fuM]; omega)
            rw [hr] at q1
            obtain ⟨rfl, rfl⟩ := Prod.mk.inj (Option.some.inj q1)
            cases o with
            | none =>
              rw [m_must1 hG hp.2.2.2.1 (by rw [hp.2.2.1]; omega) (by rw [hp.2.2.1]; omega)]
              simp (disch := first | assumption | exact isL_i | exact isL_r | exact isL_n | exact i01a | exact i01b | omega) only [K16_101, K16_102, K16_102i, K16_103, K16_106, K16_107, K16_108, K16_111, g1, g2, g3, g11, g12, g15, g16, g18, wr_id, td_e, tm_e, pu_n, pu_s, up_s, up_k, up_a, ↓reduceIte, Int.reduceLT, Int.reduceLE, Int.reduceEq, Int.reduceNeg, Int.reduceAdd, Int.reduceSub, Int.reduceMul, Int.reduceMod, Int.reduceDiv, Int.cast_ofNat_Int, not_true_eq_false, not_false_eq_true, Int.reduceTDiv, Int.reduceTMod]
              refine hK j none _ ?_ (hp.back (fun L hL => by cases hL))
              simp only [rd]; rw [if_pos c, if_neg c5, if_neg c3, hr]; rfl
            | some L =>
              obtain ⟨l1, l2, -⟩ := q3 L rfl
              have hs2 := hs1.nx hp ha he l1 (by omega)
              obtain ⟨⟨g6, g7, g8, g9, g10⟩, gh, gm, gm'⟩ := id hs2
              rw [m_must hG g7 g8 g9 (by omega) (by omega) he, gh]
              by_cases c6 : h j = 41
              · have hp6 : PoM a (op + 1) (j + 1) (some L) (up (up mi 46 10 (op + 1)) 46 7 (i + 1)) (up m2 46 7 (j + 1)) := by
                  obtain ⟨p1, p2, p3, p4, p5, p6⟩ := hp
                  exact ⟨p1.u (by decide), fun q a b c => by rw [up_k a, p2 q a b c], up_s, by rw [up_k (by decide)]; exact p4, by rw [up_k (by decide)]; exact p5, by rw [up_a (by decide)]; exact p6⟩
                have h10' : up m2 46 7 (j + 1) 46 10 = op + 1 := hp6.2.2.2.2.1
                rw [if_pos c6]
                simp (disch := first | assumption | exact isL_i | exact isL_r | exact isL_n | exact i01a | exact i01b | omega) only [K16_101, K16_102, K16_102i, K16_103, K16_106, K16_107, K16_108, K16_111, g1, g2, g3, g11, g12, g15, g16, g18, wr_id, td_e, tm_e, pu_n, pu_s, up_s, up_k, up_a, ↓reduceIte, Int.reduceLT, Int.reduceLE, Int.reduceEq, Int.reduceNeg, Int.reduceAdd, Int.reduceSub, Int.reduceMul, Int.reduceMod, Int.reduceDiv, Int.cast_ofNat_Int, not_true_eq_false, not_false_eq_true, Int.reduceTDiv, Int.reduceTMod, pu_n, h10', g10, Int.add_sub_cancel]
                refine hK (j + 1) (some L) _ ?_ (hp6.back (fun L hL => rfl))
                simp only [rd]; rw [if_pos c, if_neg c5, if_neg c3, hr]
                show (if h j = 41 then _ else _) = _
                rw [if_pos c6]
              · have hp6 : PoM a (op + 1) j none (up (up mi 46 10 (op + 1)) 46 7 (i + 1)) (up m2 46 9 1) := PoM.trN hs1 hp (PoM.bad hs2) l1 (by omega)
                rw [if_neg c6]
                simp (disch := first | assumption | exact isL_i | exact isL_r | exact isL_n | exact i01a | exact i01b | omega) only [K16_101, K16_102, K16_102i, K16_103, K16_106, K16_107, K16_108, K16_111, g1, g2, g3, g11, g12, g15, g16, g18, wr_id, td_e, tm_e, pu_n, pu_s, up_s, up_k, up_a, ↓reduceIte, Int.reduceLT, Int.reduceLE, Int.reduceEq, Int.reduceNeg, Int.reduceAdd, Int.reduceSub, Int.reduceMul, Int.reduceMod, Int.reduceDiv, Int.cast_ofNat_Int, not_true_eq_false, not_false_eq_true, Int.reduceTDiv, Int.reduceTMod, pu_n]
                refine hK j none _ ?_ (hp6.back (fun L hL => by cases hL))
                simp only [rd]; rw [if_pos c, if_neg c5, if_neg c3, hr]
                show (if h j = 41 then _ else _) = _
                rw [if_neg c6]
      · exact m_test (d := d + f + 1) hG hs ha ha' h0 hi he hS c (fun mi' hp => hK _ _ mi' (by simp only [rd]; rw [if_neg c]) hp)
    · simp only [fuM] at hf
      show OkC (d + f + 8 + 1) 17 [pR (some 46)] G mi K
      rw [E17]
      simp (disch := first | assumption | exact isL_i | exact isL_r | exact isL_n | exact i01a | exact i01b | omega) only [K17_0, wr_id, td_e, tm_e, pu_n, pu_s, up_s, up_k, up_a, ↓reduceIte, Int.reduceLT, Int.reduceLE, Int.reduceEq, Int.reduceNeg, Int.reduceAdd, Int.reduceSub, Int.reduceMul, Int.reduceMod, Int.reduceDiv, Int.cast_ofNat_Int, not_true_eq_false, not_false_eq_true, Int.reduceTDiv, Int.reduceTMod]
      rw [K17_1 k46]
      refine ih 0 d op i _ _ (by decide) h0 hi ho ho' (by simp only [fuM]; omega) hs fun j o m2 hr hp => ?_
      obtain ⟨j', o', q1, q2, q3⟩ := rd_p hS f 0 op i (by decide) h0 hi ho ho' (by simp only [fuM]; omega)
      rw [hr] at q1
      obtain ⟨rfl, rfl⟩ := Prod.mk.inj (Option.some.inj q1)
      rw [pu_n]
      cases o with
      | none =>
        rw [m_every0 hG hp.2.2.2.1]
        exact hK j none m2 (by simp only [rd]; rw [hr]; rfl) hp
      | some L =>
        obtain ⟨l1, l2, -⟩ := q3 L rfl
        have l2 := l2 (by decide)
        have hs2 := hs.nx hp ha he l1 (by omega)
        have J := ih 3 (d + 1) op j m2 K (by decide) (by omega) q2.2 ho ho' (by simp only [fuM]; omega) hs2 fun j2 o2 m3 hr2 hp2 => ?_
        · rw [show d + f + 8 + 1 = d + 1 + f + 8 by omega]; exact J
        · have hrr : rd h (f + 1) 1 op i = bnd (rd h f 3 op j) fun j' L' => some (j', some (L ++ L')) := by simp only [rd]; rw [hr]; rfl
          rw [hr2] at hrr
          cases o2 with
          | none => exact hK j2 none m3 hrr (PoM.trN hs hp hp2 l1 (by omega))
          | some L2 => exact hK j2 (some (L ++ L2)) m3 hrr (hp.trS hp2)
    · simp only [fuM] at hf
      show OkC (d + f + 8 + 1) 18 [pR (some 46)] G mi K
      rw [E18]
      simp (disch := first | assumption | exact isL_i | exact isL_r | exact isL_n | exact i01a | exact i01b | omega) only [K18_0, wr_id, td_e, tm_e, pu_n, pu_s, up_s, up_k, up_a, ↓reduceIte, Int.reduceLT, Int.reduceLE, Int.reduceEq, Int.reduceNeg, Int.reduceAdd, Int.reduceSub, Int.reduceMul, Int.reduceMod, Int.reduceDiv, Int.cast_ofNat_Int, not_true_eq_false, not_false_eq_true, Int.reduceTDiv, Int.reduceTMod]
      rw [K18_1 k46]
      refine ih 1 d op i _ _ (by decide) h0 hi ho ho' (by simp only [fuM]; omega) hs fun j o m2 hr hp => ?_
      obtain ⟨j', o', q1, q2, q3⟩ := rd_p hS f 1 op i (by decide) h0 hi ho ho' (by simp only [fuM]; omega)
      rw [hr] at q1
      obtain ⟨rfl, rfl⟩ := Prod.mk.inj (Option.some.inj q1)
      rw [pu_n]
      cases o with
      | none =>
        rw [m_some0 hG hp.2.2.2.1]
        exact hK j none m2 (by simp only [rd]; rw [hr]; rfl) hp
      | some L =>
        obtain ⟨l1, l2, -⟩ := q3 L rfl
        have l2 := l2 (by decide)
        have hs2 := hs.nx hp ha he l1 (by omega)
        have J := ih 4 (d + 1) op j m2 K (by decide) (by omega) q2.2 ho ho' (by simp only [fuM]; omega) hs2 fun j2 o2 m3 hr2 hp2 => ?_
        · rw [show d + f + 8 + 1 = d + 1 + f + 8 by omega]; exact J
        · have hrr : rd h (f + 1) 2 op i = bnd (rd h f 4 op j) fun j' L' => some (j', some (L ++ L')) := by simp only [rd]; rw [hr]; rfl
          rw [hr2] at hrr
          cases o2 with
          | none => exact hK j2 none m3 hrr (PoM.trN hs hp hp2 l1 (by omega))
          | some L2 => exact hK j2 (some (L ++ L2)) m3 hrr (hp.trS hp2)
    · simp only [fuM] at hf
      show Ok (d + f + 8 + 1) 17 4 [some (pR (some 46))] [] G mi K
      simp (disch := first | assumption | exact isL_i | exact isL_r | exact isL_n | exact i01a | exact i01b | omega) only [K17_4, K17_5, K17_8, K17_11, g1, g2, g3, g11, g12, g15, g16, g18, wr_id, td_e, tm_e, pu_n, pu_s, up_s, up_k, up_a, ↓reduceIte, Int.reduceLT, Int.reduceLE, Int.reduceEq, Int.reduceNeg, Int.reduceAdd, Int.reduceSub, Int.reduceMul, Int.reduceMod, Int.reduceDiv, Int.cast_ofNat_Int, not_true_eq_false, not_false_eq_true, Int.reduceTDiv, Int.reduceTMod, h9, if_pos, if_neg]
      rw [K17_12 k46, m_here' hG hs h0 he]
      by_cases c : h i = 38
      · have hie := sg_lt (i := i) hS (by omega)
        have h7 := hs.1.2.1
        have hs1 := hs.pp
        simp (disch := first | assumption | exact isL_i | exact isL_r | exact isL_n | exact i01a | exact i01b | omega) only [K17_15, K17_17, K17_20, K17_21, K17_21i, K17_22, K17_25, K17_26, K17_27, K17_30, g1, g2, g3, g11, g12, g15, g16, g18, wr_id, td_e, tm_e, pu_n, pu_s, up_s, up_k, up_a, ↓reduceIte, Int.reduceLT, Int.reduceLE, Int.reduceEq, Int.reduceNeg, Int.reduceAdd, Int.reduceSub, Int.reduceMul, Int.reduceMod, Int.reduceDiv, Int.cast_ofNat_Int, not_true_eq_false, not_false_eq_true, Int.reduceTDiv, Int.reduceTMod, h7, c, if_pos, if_neg]
        rw [K17_31 k46]
        refine ih 0 d op (i + 1) _ _ (by decide) (by omega) (by omega) ho ho' (by simp only [fuM]; omega) hs1 fun j o m2 hr hp => ?_
        obtain ⟨j', o', q1, q2, q3⟩ := rd_p hS f 0 op (i + 1) (by decide) (by omega) (by omega) ho ho' (by simp only [fuM]; omega)
        rw [hr] at q1
        obtain ⟨rfl, rfl⟩ := Prod.mk.inj (Option.some.inj q1)
        simp (disch := first | assumption | exact isL_i | exact isL_r | exact isL_n | exact i01a | exact i01b | omega) only [K17_34, K17_35, g1, g2, g3, g11, g12, g15, g16, g18, wr_id, td_e, tm_e, pu_n, pu_s, up_s, up_k, up_a, ↓reduceIte, Int.reduceLT, Int.reduceLE, Int.reduceEq, Int.reduceNeg, Int.reduceAdd, Int.reduceSub, Int.reduceMul, Int.reduceMod, Int.reduceDiv, Int.cast_ofNat_Int, not_true_eq_false, not_false_eq_true, Int.reduceTDiv, Int.reduceTMod, pu_n]
        rw [K17_37 k46]
        cases o with
        | none =>
          rw [m_emits1 hG hp.2.2.2.1]
          simp (disch := first | assumption | exact isL_i | exact isL_r | exact isL_n | exact i01a | exact i01b | omega) only [K17_40, wr_id, td_e, tm_e, pu_n, pu_s, up_s, up_k, up_a, ↓reduceIte, Int.reduceLT, Int.reduceLE, Int.reduceEq, Int.reduceNeg, Int.reduceAdd, Int.reduceSub, Int.reduceMul, Int.reduceMod, Int.reduceDiv, Int.cast_ofNat_Int, not_true_eq_false, not_false_eq_true, Int.reduceTDiv, Int.reduceTMod]
          rw [m_every0 hG hp.2.2.2.1]
          exact hK j none m2 (by simp only [rd]; rw [if_pos c, hr]; rfl) hp.pp
        | some L =>
          obtain ⟨l1, l2, -⟩ := q3 L rfl
          have l2 := l2 (by decide)
          have hs2 := hs1.nx hp ha he l1 (by omega)
          refine m_emits' hG hs2 ha ha' (by omega) fun m3 hp3 => ?_
          simp (disch := first | assumption | exact isL_i | exact isL_r | exact isL_n | exact i01a | exact i01b | omega) only [K17_40, wr_id, td_e, tm_e, pu_n, pu_s, up_s, up_k, up_a, ↓reduceIte, Int.reduceLT, Int.reduceLE, Int.reduceEq, Int.reduceNeg, Int.reduceAdd, Int.reduceSub, Int.reduceMul, Int.reduceMod, Int.reduceDiv, Int.cast_ofNat_Int, not_true_eq_false, not_false_eq_true, Int.reduceTDiv, Int.reduceTMod, pu_n]
          have hp12 : PoM a op j (some (L ++ [-2])) mi m3 := (hp.trS hp3).pp
          have hl12 : i + ((L ++ [-2]).length : Int) ≤ j := by rw [List.length_append, List.length_singleton]; omega
          have hs3 := hs.nx hp12 ha he hl12 (by omega)
          have J := ih 3 (d + 1) op j m3 K (by decide) (by omega) q2.2 ho ho' (by simp only [fuM]; omega) hs3 fun j2 o2 m4 hr2 hp4 => ?_
          · rw [show d + f + 8 + 1 = d + 1 + f + 8 by omega]; exact J
          · have hrr : rd h (f + 1) 3 op i = bnd (rd h f 3 op j) fun j' L' => some (j', some (L ++ -2 :: L')) := by simp only [rd]; rw [if_pos c, hr]; rfl
            rw [hr2] at hrr
            cases o2 with
            | none => exact hK j2 none m4 hrr (PoM.trN hs hp12 hp4 hl12 (by omega))
            | some L2 =>
              have := hp12.trS hp4
              rw [List.append_assoc] at this
              exact hK j2 (some (L ++ -2 :: L2)) m4 hrr this
      · simp (disch := first | assumption | exact isL_i | exact isL_r | exact isL_n | exact i01a | exact i01b | omega) only [K17_15, K17_17, K17_43, g1, g2, g3, g11, g12, g15, g16, g18, wr_id, td_e, tm_e, pu_n, pu_s, up_s, up_k, up_a, ↓reduceIte, Int.reduceLT, Int.reduceLE, Int.reduceEq, Int.reduceNeg, Int.reduceAdd, Int.reduceSub, Int.reduceMul, Int.reduceMod, Int.reduceDiv, Int.cast_ofNat_Int, not_true_eq_false, not_false_eq_true, Int.reduceTDiv, Int.reduceTMod, c, if_pos, if_neg]
        exact hK i (some []) mi (by simp only [rd]; rw [if_neg c]) (PoM.rf hs)
    · simp only [fuM] at hf
      show Ok (d + f + 8 + 1) 18 4 [some (pR (some 46))] [] G mi K
      simp (disch := first | assumption | exact isL_i | exact isL_r | exact isL_n | exact i01a | exact i01b | omega) only [K18_4, K18_5, K18_8, K18_11, g1, g2, g3, g11, g12, g15, g16, g18, wr_id, td_e, tm_e, pu_n, pu_s, up_s, up_k, up_a, ↓reduceIte, Int.reduceLT, Int.reduceLE, Int.reduceEq, Int.reduceNeg, Int.reduceAdd, Int.reduceSub, Int.reduceMul, Int.reduceMod, Int.reduceDiv, Int.cast_ofNat_Int, not_true_eq_false, not_false_eq_true, Int.reduceTDiv, Int.reduceTMod, h9, if_pos, if_neg]
      rw [K18_12 k46, m_here' hG hs h0 he]
      by_cases c : h i = 124
      · have hie := sg_lt (i := i) hS (by omega)
        have h7 := hs.1.2.1
        have hs1 := hs.pp
        simp (disch := first | assumption | exact isL_i | exact isL_r | exact isL_n | exact i01a | exact i01b | omega) only [K18_15, K18_17, K18_20, K18_21, K18_21i, K18_22, K18_25, K18_26, K18_27, K18_30, g1, g2, g3, g11, g12, g15, g16, g18, wr_id, td_e, tm_e, pu_n, pu_s, up_s, up_k, up_a, ↓reduceIte, Int.reduceLT, Int.reduceLE, Int.reduceEq, Int.reduceNeg, Int.reduceAdd, Int.reduceSub, Int.reduceMul, Int.reduceMod, Int.reduceDiv, Int.cast_ofNat_Int, not_true_eq_false, not_false_eq_true, Int.reduceTDiv, Int.reduceTMod, h7, c, if_pos, if_neg]
        rw [K18_31 k46]
        refine ih 1 d op (i + 1) _ _ (by decide) (by omega) (by omega) ho ho' (by simp only [fuM]; omega) hs1 fun j o m2 hr hp => ?_
        obtain ⟨j', o', q1, q2, q3⟩ := rd_p hS f 1 op (i + 1) (by decide) (by omega) (by omega) ho ho' (by simp only [fuM]; omega)
        rw [hr] at q1
        obtain ⟨rfl, rfl⟩ := Prod.mk.inj (Option.some.inj q1)
        simp (disch := first | assumption | exact isL_i | exact isL_r | exact isL_n | exact i01a | exact i01b | omega) only [K18_34, K18_35, g1, g2, g3, g11, g12, g15, g16, g18, wr_id, td_e, tm_e, pu_n, pu_s, up_s, up_k, up_a, ↓reduceIte, Int.reduceLT, Int.reduceLE, Int.reduceEq, Int.reduceNeg, Int.reduceAdd, Int.reduceSub, Int.reduceMul, Int.reduceMod, Int.reduceDiv, Int.cast_ofNat_Int, not_true_eq_false, not_false_eq_true, Int.reduceTDiv, Int.reduceTMod, pu_n]
        rw [K18_37 k46]
        cases o with
        | none =>
          rw [m_emits1 hG hp.2.2.2.1]
          simp (disch := first | assumption | exact isL_i | exact isL_r | exact isL_n | exact i01a | exact i01b | omega) only [K18_40, wr_id, td_e, tm_e, pu_n, pu_s, up_s, up_k, up_a, ↓reduceIte, Int.reduceLT, Int.reduceLE, Int.reduceEq, Int.reduceNeg, Int.reduceAdd, Int.reduceSub, Int.reduceMul, Int.reduceMod, Int.reduceDiv, Int.cast_ofNat_Int, not_true_eq_false, not_false_eq_true, Int.reduceTDiv, Int.reduceTMod]
          rw [m_some0 hG hp.2.2.2.1]
          exact hK j none m2 (by simp only [rd]; rw [if_pos c, hr]; rfl) hp.pp
        | some L =>
          obtain ⟨l1, l2, -⟩ := q3 L rfl
          have l2 := l2 (by decide)
          have hs2 := hs1.nx hp ha he l1 (by omega)
          refine m_emits' hG hs2 ha ha' (by omega) fun m3 hp3 => ?_
          simp (disch := first | assumption | exact isL_i | exact isL_r | exact isL_n | exact i01a | exact i01b | omega) only [K18_40, wr_id, td_e, tm_e, pu_n, pu_s, up_s, up_k, up_a, ↓reduceIte, Int.reduceLT, Int.reduceLE, Int.reduceEq, Int.reduceNeg, Int.reduceAdd, Int.reduceSub, Int.reduceMul, Int.reduceMod, Int.reduceDiv, Int.cast_ofNat_Int, not_true_eq_false, not_false_eq_true, Int.reduceTDiv, Int.reduceTMod, pu_n]
          have hp12 : PoM a op j (some (L ++ [-3])) mi m3 := (hp.trS hp3).pp
          have hl12 : i + ((L ++ [-3]).length : Int) ≤ j := by rw [List.length_append, List.length_singleton]; omega
          have hs3 := hs.nx hp12 ha he hl12 (by omega)
          have J := ih 4 (d + 1) op j m3 K (by decide) (by omega) q2.2 ho ho' (by simp only [fuM]; omega) hs3 fun j2 o2 m4 hr2 hp4 => ?_
          · rw [show d + f + 8 + 1 = d + 1 + f + 8 by omega]; exact J
          · have hrr : rd h (f + 1) 4 op i = bnd (rd h f 4 op j) fun j' L' => some (j', some (L ++ -3 :: L')) := by simp only [rd]; rw [if_pos c, hr]; rfl
            rw [hr2] at hrr
            cases o2 with
            | none => exact hK j2 none m4 hrr (PoM.trN hs hp12 hp4 hl12 (by omega))
            | some L2 =>
              have := hp12.trS hp4
              rw [List.append_assoc] at this
              exact hK j2 (some (L ++ -3 :: L2)) m4 hrr this
      · simp (disch := first | assumption | exact isL_i | exact isL_r | exact isL_n | exact i01a | exact i01b | omega) only [K18_15, K18_17, K18_43, g1, g2, g3, g11, g12, g15, g16, g18, wr_id, td_e, tm_e, pu_n, pu_s, up_s, up_k, up_a, ↓reduceIte, Int.reduceLT, Int.reduceLE, Int.reduceEq, Int.reduceNeg, Int.reduceAdd, Int.reduceSub, Int.reduceMul, Int.reduceMod, Int.reduceDiv, Int.cast_ofNat_Int, not_true_eq_false, not_false_eq_true, Int.reduceTDiv, Int.reduceTMod, c, if_pos, if_neg]
        exact hK i (some []) mi (by simp only [rd]; rw [if_neg c]) (PoM.rf hs)
end MO
