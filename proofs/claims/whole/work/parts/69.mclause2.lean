/-! ===== the reference reads a clause, on ===== -/
theorem nm_none {h : Int → Int} {i j : Int} (hn : nmF h i = (j, none)) : j = i := by
  unfold nmF at hn
  split at hn
  · split at hn <;> cases hn
  · exact (Prod.mk.inj hn).1.symm
section MO
variable {d : Nat} {G : Gh} {mi mi' mi'' : Mi} {K : Option PV → Gh → Mi → Prop} {p v a b c k n g q e i j op x wh : Int} {h : Int → Int} {L : List Int} {o : Option (Nat × Int × List Int)} {W : List Int} {t w : Nat}
theorem PoK.bad (hs : StM h a e 0 i mi) (hj : i ≤ j) : PoK a j none mi (up (up mi 46 7 j) 46 9 1) :=
  ⟨(Sc.rf.u (by decide)).u (by decide), fun k a b c => by rw [up_k b, up_k a], by rw [up_k (by decide), up_s], up_s, by rw [up_a (by decide), up_a (by decide)]; exact OutV.rf⟩
theorem m_tellsHere (hG : ShM G) (hS : SgF h e) (ha : 0 ≤ a) (ha' : a ≤ 4) (he : e ≤ 100) (ht : t < 8) (hW : sBytes t = W) (hW0 : ∀ q : Nat, q < W.length → 0 ≤ W.getD q 0) (hs : StM h a e 0 i mi) (h0 : 0 ≤ i) (hi : i ≤ e) (hw : w = 0 ∧ wh = 199 ∨ w = 1 ∧ wh = 204 ∨ w = 2 ∧ wh = 209)
    (hK : ∀ mi', PoK a (wsF h w W i).1 (wsF h w W i).2 mi mi' → K none G mi') : OkC (d + 6) 20 [pR (some 46), pI wh, pE (2 * t + 1)] G mi K := by
  obtain ⟨⟨k46, k47, l47, k48, l48, k49, l49, k50, l50, k51, l51⟩, ⟨k52, l52, k53, l53, k54, l54⟩, ⟨g1, g2, g3, g11, g12, g15, g16, g18⟩⟩ := id hG
  obtain ⟨s1, s2, s3⟩ := sqF_p hS W i hW0 h0 hi
  rw [E20]
  simp (disch := first | assumption | exact isL_i | exact isL_r | exact isL_n | exact i01a | exact i01b | omega) only [K20_0, K20_1, wr_id, td_e, tm_e, pu_n, pu_s, up_s, up_k, up_a, ↓reduceIte, Int.reduceLT, Int.reduceLE, Int.reduceEq, Int.reduceNeg, Int.reduceAdd, Int.reduceSub, Int.reduceMul, Int.reduceMod, Int.reduceDiv, Int.cast_ofNat_Int, not_true_eq_false, not_false_eq_true, Int.reduceTDiv, Int.reduceTMod]
  rw [K20_2 k46, m_spells hG hS he ht hW hW0 hs h0 hi]
  unfold wsF at hK
  rcases hsq : sqF h W i with ⟨j, _ | _⟩
  · rw [hsq] at hK s1 s2
    dsimp only at s1 s2
    have e9 : up (up mi 46 7 j) 46 9 1 46 9 = 1 := up_s
    show Ok _ _ 5 _ _ G (up (up mi 46 7 j) 46 9 1) K
    simp (disch := first | assumption | exact isL_i | exact isL_r | exact isL_n | exact i01a | exact i01b | omega) only [K20_5, wr_id, td_e, tm_e, pu_n, pu_s, up_s, up_k, up_a, ↓reduceIte, Int.reduceLT, Int.reduceLE, Int.reduceEq, Int.reduceNeg, Int.reduceAdd, Int.reduceSub, Int.reduceMul, Int.reduceMod, Int.reduceDiv, Int.cast_ofNat_Int, not_true_eq_false, not_false_eq_true, Int.reduceTDiv, Int.reduceTMod, pu_n]
    rw [K20_6 k46, m_figs_1 hG e9]
    simp (disch := first | assumption | exact isL_i | exact isL_r | exact isL_n | exact i01a | exact i01b | omega) only [K20_9, K20_10, K20_11, K20_14, K20_29, g1, g2, g3, g11, g12, g15, g16, g18, wr_id, td_e, tm_e, pu_n, pu_s, up_s, up_k, up_a, ↓reduceIte, Int.reduceLT, Int.reduceLE, Int.reduceEq, Int.reduceNeg, Int.reduceAdd, Int.reduceSub, Int.reduceMul, Int.reduceMod, Int.reduceDiv, Int.cast_ofNat_Int, not_true_eq_false, not_false_eq_true, Int.reduceTDiv, Int.reduceTMod, if_pos, if_neg]
    exact hK _ (PoK.bad hs s1)
  · rw [hsq] at hK s1 s2
    dsimp only at s1 s2
    have hs1 := hs.mv s1
    show Ok _ _ 5 _ _ G (up mi 46 7 j) K
    generalize hm1 : up mi 46 7 j = m1 at hs1 ⊢
    obtain ⟨⟨f6, f7, f8, f9, f10⟩, fh, fm, fm'⟩ := id hs1
    simp (disch := first | assumption | exact isL_i | exact isL_r | exact isL_n | exact i01a | exact i01b | omega) only [K20_5, wr_id, td_e, tm_e, pu_n, pu_s, up_s, up_k, up_a, ↓reduceIte, Int.reduceLT, Int.reduceLE, Int.reduceEq, Int.reduceNeg, Int.reduceAdd, Int.reduceSub, Int.reduceMul, Int.reduceMod, Int.reduceDiv, Int.cast_ofNat_Int, not_true_eq_false, not_false_eq_true, Int.reduceTDiv, Int.reduceTMod, pu_n]
    dsimp only at hK
    unfold nuF at hK
    rcases hnm : nmF h j with ⟨jn, _ | nn⟩
    · rw [hnm] at hK
      have ej := nm_none hnm
      have hn' : (nmF (hM (m1 47) e) j).2 = none := by rw [fh, hnm]
      obtain ⟨-, ef⟩ := m_figs_n (d := d + 4) (K := fun r G' mi' => Ok (d + 6) 20 9 [some (pR (some 46)), some (pI wh), some (pE (2 * t + 1)), none] (pu r []) G' mi' K) hG f7 f8 f9 (by omega) he hn'
      have e9 : up m1 46 9 1 46 9 = 1 := up_s
      rw [K20_6 k46]
      refine ef.mpr ?_
      simp (disch := first | assumption | exact isL_i | exact isL_r | exact isL_n | exact i01a | exact i01b | omega) only [K20_9, K20_10, K20_11, K20_14, K20_29, g1, g2, g3, g11, g12, g15, g16, g18, wr_id, td_e, tm_e, pu_n, pu_s, up_s, up_k, up_a, ↓reduceIte, Int.reduceLT, Int.reduceLE, Int.reduceEq, Int.reduceNeg, Int.reduceAdd, Int.reduceSub, Int.reduceMul, Int.reduceMod, Int.reduceDiv, Int.cast_ofNat_Int, not_true_eq_false, not_false_eq_true, Int.reduceTDiv, Int.reduceTMod, if_pos, if_neg]
      subst ej
      rw [← hm1]
      exact hK _ (PoK.bad hs s1)
    · rw [hnm] at hK
      dsimp only at hK
      have hp := nmF_p hS (show 0 ≤ j by omega) s2
      rw [hnm] at hp
      obtain ⟨n1, n2, n3⟩ := hp.2 nn rfl
      dsimp only at n1 hp
      have hn' : (nmF (hM (m1 47) e) j).2 = some nn := by rw [fh, hnm]
      have ef := m_figs_s (d := d + 4) (K := fun r G' mi' => Ok (d + 6) 20 9 [some (pR (some 46)), some (pI wh), some (pE (2 * t + 1)), none] (pu r []) G' mi' K) hG f7 f8 f9 (by omega) (by omega) he hn'
      rw [fh, hnm] at ef
      dsimp only at ef
      have hm17 : ∀ k, m1 46 k = if k = 7 then j else mi 46 k := fun k => by rw [← hm1]; by_cases c : k = 7; rw [c, up_s, if_pos rfl]; rw [up_k c, if_neg c]
      have h47 : m1 47 = mi 47 := by rw [← hm1, up_a (by decide)]
      have e9 : up m1 46 7 jn 46 9 = 0 := by rw [up_k (by decide)]; exact f9
      have e6 : up m1 46 7 jn 46 6 = a := by rw [up_k (by decide)]; exact f6
      rw [K20_6 k46]
      refine ef.mpr ?_
      have hw3 : w < 3 := by omega
      rw [if_pos hw3] at hK
      have hfin : PoK a jn (some (w, nn, [])) mi (up (up m1 46 7 jn) 47 (wh + a) nn) := by
        refine ⟨?_, fun k a b c => by rw [up_a (by decide), up_k a, hm17, if_neg a], by rw [up_a (by decide), up_s], by rw [up_a (by decide)]; exact e9, by rw [up_a (by decide), up_k (by decide)]; exact f10, ?_⟩
        · rw [← hm1]
          exact ((sc_up (by decide)).u (by decide)).u (by decide)
        · rw [up_sH, up_a (by decide), h47]
          unfold apC
          rcases hw with ⟨rfl, rfl⟩ | ⟨rfl, rfl⟩ | ⟨rfl, rfl⟩
          · rw [if_pos rfl]
          · rw [if_neg (show ¬ (1 : Nat) = 0 by decide), if_pos rfl]
          · rw [if_neg (show ¬ (2 : Nat) = 0 by decide), if_neg (show ¬ (2 : Nat) = 1 by decide), if_pos rfl]
      have hwh : 0 ≤ wh + a ∧ wh + a < 919 := by omega
      simp (disch := first | assumption | exact isL_i | exact isL_r | exact isL_n | exact i01a | exact i01b | omega) only [K20_9, K20_10, K20_11, K20_14, K20_17, K20_18, K20_21, K20_22, K20_23, K20_26, K20_27, K20_28, K20_29, g1, g2, g3, g11, g12, g15, g16, g18, wr_id, td_e, tm_e, pu_n, pu_s, up_s, up_k, up_a, ↓reduceIte, Int.reduceLT, Int.reduceLE, Int.reduceEq, Int.reduceNeg, Int.reduceAdd, Int.reduceSub, Int.reduceMul, Int.reduceMod, Int.reduceDiv, Int.cast_ofNat_Int, not_true_eq_false, not_false_eq_true, Int.reduceTDiv, Int.reduceTMod, e9, e6, f9, f6, if_pos, if_neg]
      exact hK _ hfin
theorem m_much (hG : ShM G) (hS : SgF h e) (ha : 0 ≤ a) (ha' : a ≤ 4) (he : e ≤ 100) (ht : t < 8) (hW : sBytes t = W) (hW0 : ∀ q : Nat, q < W.length → 0 ≤ W.getD q 0) (hWl : 1 ≤ W.length) (hs : StM h a e 0 i mi) (h0 : 0 ≤ i) (hi : i ≤ e) (hw : w = 3 ∧ wh = -10 ∨ w = 4 ∧ wh = -200)
    (hK : ∀ mi', PoK a (wsF h w W i).1 (wsF h w W i).2 mi mi' → K none G mi') : OkC (d + 413) 19 [pR (some 46), pI wh, pE (2 * t + 1)] G mi K := by
  obtain ⟨⟨k46, k47, l47, k48, l48, k49, l49, k50, l50, k51, l51⟩, ⟨k52, l52, k53, l53, k54, l54⟩, ⟨g1, g2, g3, g11, g12, g15, g16, g18⟩⟩ := id hG
  obtain ⟨s1, s2, s3⟩ := sqF_p hS W i hW0 h0 hi
  -- a fault ahead of the condition
  have J : ∀ (m : Mi) (y3 : Int) (hb : m 46 9 = 1), 0 ≤ m 46 7 → m 46 7 ≤ 100 → Ok (d + 413) 19 9 [some (pR (some 46)), some (pI wh), some (pE (2 * t + 1)), none] [pI y3] G m K = K none G m := by
    intro m y3 hb h7 h7'
    simp (disch := first | assumption | exact isL_i | exact isL_r | exact isL_n | exact i01a | exact i01b | omega) only [K19_9, K19_10, K19_11, wr_id, td_e, tm_e, pu_n, pu_s, up_s, up_k, up_a, ↓reduceIte, Int.reduceLT, Int.reduceLE, Int.reduceEq, Int.reduceNeg, Int.reduceAdd, Int.reduceSub, Int.reduceMul, Int.reduceMod, Int.reduceDiv, Int.cast_ofNat_Int, not_true_eq_false, not_false_eq_true, Int.reduceTDiv, Int.reduceTMod]
    rw [K19_13 k46, m_must1 hG hb h7 h7']
    simp (disch := first | assumption | exact isL_i | exact isL_r | exact isL_n | exact i01a | exact i01b | omega) only [K19_16, wr_id, td_e, tm_e, pu_n, pu_s, up_s, up_k, up_a, ↓reduceIte, Int.reduceLT, Int.reduceLE, Int.reduceEq, Int.reduceNeg, Int.reduceAdd, Int.reduceSub, Int.reduceMul, Int.reduceMod, Int.reduceDiv, Int.cast_ofNat_Int, not_true_eq_false, not_false_eq_true, Int.reduceTDiv, Int.reduceTMod]
    rw [K19_17 k46, m_some1 hG hb]
    simp (disch := first | assumption | exact isL_i | exact isL_r | exact isL_n | exact i01a | exact i01b | omega) only [K19_20, K19_21, K19_22, K19_23, wr_id, td_e, tm_e, pu_n, pu_s, up_s, up_k, up_a, ↓reduceIte, Int.reduceLT, Int.reduceLE, Int.reduceEq, Int.reduceNeg, Int.reduceAdd, Int.reduceSub, Int.reduceMul, Int.reduceMod, Int.reduceDiv, Int.cast_ofNat_Int, not_true_eq_false, not_false_eq_true, Int.reduceTDiv, Int.reduceTMod]
    rw [K19_24 k46, m_emits1 hG hb]
    simp (disch := first | assumption | exact isL_i | exact isL_r | exact isL_n | exact i01a | exact i01b | omega) only [K19_27, wr_id, td_e, tm_e, pu_n, pu_s, up_s, up_k, up_a, ↓reduceIte, Int.reduceLT, Int.reduceLE, Int.reduceEq, Int.reduceNeg, Int.reduceAdd, Int.reduceSub, Int.reduceMul, Int.reduceMod, Int.reduceDiv, Int.cast_ofNat_Int, not_true_eq_false, not_false_eq_true, Int.reduceTDiv, Int.reduceTMod]
  rw [E19]
  simp (disch := first | assumption | exact isL_i | exact isL_r | exact isL_n | exact i01a | exact i01b | omega) only [K19_0, K19_1, wr_id, td_e, tm_e, pu_n, pu_s, up_s, up_k, up_a, ↓reduceIte, Int.reduceLT, Int.reduceLE, Int.reduceEq, Int.reduceNeg, Int.reduceAdd, Int.reduceSub, Int.reduceMul, Int.reduceMod, Int.reduceDiv, Int.cast_ofNat_Int, not_true_eq_false, not_false_eq_true, Int.reduceTDiv, Int.reduceTMod]
  rw [K19_2 k46, m_spells (d := d + 407) hG hS he ht hW hW0 hs h0 hi]
  unfold wsF at hK
  rcases hsq : sqF h W i with ⟨j, _ | _⟩
  · rw [hsq] at hK s1 s2
    dsimp only at s1 s2
    have e9 : up (up mi 46 7 j) 46 9 1 46 9 = 1 := up_s
    have e7 : up (up mi 46 7 j) 46 9 1 46 7 = j := by rw [up_k (by decide), up_s]
    show Ok _ _ 5 _ _ G (up (up mi 46 7 j) 46 9 1) K
    simp (disch := first | assumption | exact isL_i | exact isL_r | exact isL_n | exact i01a | exact i01b | omega) only [K19_5, wr_id, td_e, tm_e, pu_n, pu_s, up_s, up_k, up_a, ↓reduceIte, Int.reduceLT, Int.reduceLE, Int.reduceEq, Int.reduceNeg, Int.reduceAdd, Int.reduceSub, Int.reduceMul, Int.reduceMod, Int.reduceDiv, Int.cast_ofNat_Int, not_true_eq_false, not_false_eq_true, Int.reduceTDiv, Int.reduceTMod, pu_n]
    rw [K19_6 k46, m_figs_1 hG e9]
    refine (J _ 0 e9 (by rw [e7]; omega) (by rw [e7]; omega)).mpr ?_
    exact hK _ (PoK.bad hs s1)
  · rw [hsq] at hK s1 s2 s3
    have s3 := s3 rfl
    dsimp only at s1 s2 s3
    have hs1 := hs.mv s1
    show Ok _ _ 5 _ _ G (up mi 46 7 j) K
    generalize hm1 : up mi 46 7 j = m1 at hs1 ⊢
    obtain ⟨⟨f6, f7, f8, f9, f10⟩, fh, fm, fm'⟩ := id hs1
    simp (disch := first | assumption | exact isL_i | exact isL_r | exact isL_n | exact i01a | exact i01b | omega) only [K19_5, wr_id, td_e, tm_e, pu_n, pu_s, up_s, up_k, up_a, ↓reduceIte, Int.reduceLT, Int.reduceLE, Int.reduceEq, Int.reduceNeg, Int.reduceAdd, Int.reduceSub, Int.reduceMul, Int.reduceMod, Int.reduceDiv, Int.cast_ofNat_Int, not_true_eq_false, not_false_eq_true, Int.reduceTDiv, Int.reduceTMod, pu_n]
    dsimp only at hK
    unfold nuF at hK
    rcases hnm : nmF h j with ⟨jn, _ | nn⟩
    · rw [hnm] at hK
      have ej := nm_none hnm
      have hn' : (nmF (hM (m1 47) e) j).2 = none := by rw [fh, hnm]
      obtain ⟨-, ef⟩ := m_figs_n (d := d + 411) (K := fun r G' mi' => Ok (d + 413) 19 9 [some (pR (some 46)), some (pI wh), some (pE (2 * t + 1)), none] (pu r []) G' mi' K) hG f7 f8 f9 (by omega) he hn'
      have e9 : up m1 46 9 1 46 9 = 1 := up_s
      have e7 : up m1 46 9 1 46 7 = j := by rw [up_k (by decide)]; exact f7
      rw [K19_6 k46]
      refine ef.mpr ((J _ 0 e9 (by rw [e7]; omega) (by rw [e7]; omega)).mpr ?_)
      subst ej
      rw [← hm1]
      exact hK _ (PoK.bad hs s1)
    · rw [hnm] at hK
      dsimp only at hK
      have hp := nmF_p hS (show 0 ≤ j by omega) s2
      rw [hnm] at hp
      obtain ⟨n1, n2, n3⟩ := hp.2 nn rfl
      dsimp only at n1 hp
      have hn' : (nmF (hM (m1 47) e) j).2 = some nn := by rw [fh, hnm]
      have ef := m_figs_s (d := d + 411) (K := fun r G' mi' => Ok (d + 413) 19 9 [some (pR (some 46)), some (pI wh), some (pE (2 * t + 1)), none] (pu r []) G' mi' K) hG f7 f8 f9 (by omega) (by omega) he hn'
      rw [fh, hnm] at ef
      dsimp only at ef
      have hs2 : StM h a e 0 jn (up mi 46 7 jn) := hs.mv (by omega)
      rw [← hm1, up_up] at ef
      have hw3 : ¬ w < 3 := by omega
      rw [if_neg hw3] at hK
      rw [K19_6 k46, ← hm1]
      refine ef.mpr ?_
      simp (disch := first | assumption | exact isL_i | exact isL_r | exact isL_n | exact i01a | exact i01b | omega) only [K19_9, K19_10, K19_11, wr_id, td_e, tm_e, pu_n, pu_s, up_s, up_k, up_a, ↓reduceIte, Int.reduceLT, Int.reduceLE, Int.reduceEq, Int.reduceNeg, Int.reduceAdd, Int.reduceSub, Int.reduceMul, Int.reduceMod, Int.reduceDiv, Int.cast_ofNat_Int, not_true_eq_false, not_false_eq_true, Int.reduceTDiv, Int.reduceTMod, pu_s]
      rw [K19_13 k46, m_must' hG hs2 (by omega) (by omega) he]
      by_cases c32 : h jn = 32
      · rw [if_pos c32] at hK ⊢
        have hie := sg_lt (i := jn) hS (by omega)
        have hs3 : StM h a e 0 (jn + 1) (up mi 46 7 (jn + 1)) := hs.mv (by omega)
        rw [up_up]
        simp (disch := first | assumption | exact isL_i | exact isL_r | exact isL_n | exact i01a | exact i01b | omega) only [K19_16, wr_id, td_e, tm_e, pu_n, pu_s, up_s, up_k, up_a, ↓reduceIte, Int.reduceLT, Int.reduceLE, Int.reduceEq, Int.reduceNeg, Int.reduceAdd, Int.reduceSub, Int.reduceMul, Int.reduceMod, Int.reduceDiv, Int.cast_ofNat_Int, not_true_eq_false, not_false_eq_true, Int.reduceTDiv, Int.reduceTMod, pu_n]
        rw [K19_17 k46]
        refine m_rd hG hS ha ha' he 404 2 d 0 (jn + 1) _ _ (by decide) (by omega) (by omega) (by decide) (by decide) (by simp only [fuM]; omega) hs3 fun k o m3 hr hp3 => ?_
        obtain ⟨j', o', q1, q2, q3⟩ := rd_p hS 404 2 0 (jn + 1) (by decide) (by omega) (by omega) (by decide) (by decide) (by simp only [fuM]; omega)
        rw [hr] at q1
        obtain ⟨rfl, rfl⟩ := Prod.mk.inj (Option.some.inj q1)
        rw [hr] at hK
        simp (disch := first | assumption | exact isL_i | exact isL_r | exact isL_n | exact i01a | exact i01b | omega) only [K19_20, K19_21, K19_22, K19_23, wr_id, td_e, tm_e, pu_n, pu_s, up_s, up_k, up_a, ↓reduceIte, Int.reduceLT, Int.reduceLE, Int.reduceEq, Int.reduceNeg, Int.reduceAdd, Int.reduceSub, Int.reduceMul, Int.reduceMod, Int.reduceDiv, Int.cast_ofNat_Int, not_true_eq_false, not_false_eq_true, Int.reduceTDiv, Int.reduceTMod, pu_n]
        rw [K19_24 k46]
        have hp3' := hp3
        cases o with
        | none =>
          obtain ⟨p1, p2, p3, p4, p5⟩ := hp3'
          rw [m_emits1 hG p4]
          simp (disch := first | assumption | exact isL_i | exact isL_r | exact isL_n | exact i01a | exact i01b | omega) only [K19_27, wr_id, td_e, tm_e, pu_n, pu_s, up_s, up_k, up_a, ↓reduceIte, Int.reduceLT, Int.reduceLE, Int.reduceEq, Int.reduceNeg, Int.reduceAdd, Int.reduceSub, Int.reduceMul, Int.reduceMod, Int.reduceDiv, Int.cast_ofNat_Int, not_true_eq_false, not_false_eq_true, Int.reduceTDiv, Int.reduceTMod]
          refine hK _ ⟨(sc_up (by decide)).tr p1, fun k a b c => by rw [p2 k a b c, up_k a], p3, p4, ?_⟩
          rw [up_a (by decide)] at p5
          exact p5.v
        | some L =>
          obtain ⟨l1, l2, -⟩ := q3 L rfl
          have l2 := l2 (by decide)
          have hs4 := hs3.nx hp3 ha he l1 (by omega)
          have emk : wr (wh - nn) = mkC w nn := by
            rw [wr_id (by omega) (by omega)]
            unfold mkC
            rcases hw with ⟨rfl, rfl⟩ | ⟨rfl, rfl⟩
            · rw [if_pos rfl]
            · rw [if_neg (by decide)]
          have emk' : wh - nn = mkC w nn := by rw [← emk, wr_id (by omega) (by omega)]
          rw [emk']
          refine m_emits' hG hs4 ha ha' (by omega) fun m4 hp4 => ?_
          simp (disch := first | assumption | exact isL_i | exact isL_r | exact isL_n | exact i01a | exact i01b | omega) only [K19_27, wr_id, td_e, tm_e, pu_n, pu_s, up_s, up_k, up_a, ↓reduceIte, Int.reduceLT, Int.reduceLE, Int.reduceEq, Int.reduceNeg, Int.reduceAdd, Int.reduceSub, Int.reduceMul, Int.reduceMod, Int.reduceDiv, Int.cast_ofNat_Int, not_true_eq_false, not_false_eq_true, Int.reduceTDiv, Int.reduceTMod, pu_n]
          obtain ⟨p1, p2, p3, p4, p5, p6⟩ := hp3.trS hp4
          refine hK _ ⟨(sc_up (by decide)).tr p1, fun k a b c => by rw [p2 k a b c, up_k a], p3, p4, p5, ?_⟩
          rw [up_a (by decide)] at p6
          rw [p6]
          unfold apC
          rcases hw with ⟨rfl, rfl⟩ | ⟨rfl, rfl⟩
          · rw [if_neg (show ¬ (3 : Nat) = 0 by decide), if_neg (show ¬ (3 : Nat) = 1 by decide), if_neg (show ¬ (3 : Nat) = 2 by decide)]
          · rw [if_neg (show ¬ (4 : Nat) = 0 by decide), if_neg (show ¬ (4 : Nat) = 1 by decide), if_neg (show ¬ (4 : Nat) = 2 by decide)]
      · rw [if_neg c32] at hK ⊢
        have e9 : up (up mi 46 7 jn) 46 9 1 46 9 = 1 := up_s
        have e7 : up (up mi 46 7 jn) 46 9 1 46 7 = jn := by rw [up_k (by decide), up_s]
        simp (disch := first | assumption | exact isL_i | exact isL_r | exact isL_n | exact i01a | exact i01b | omega) only [K19_16, wr_id, td_e, tm_e, pu_n, pu_s, up_s, up_k, up_a, ↓reduceIte, Int.reduceLT, Int.reduceLE, Int.reduceEq, Int.reduceNeg, Int.reduceAdd, Int.reduceSub, Int.reduceMul, Int.reduceMod, Int.reduceDiv, Int.cast_ofNat_Int, not_true_eq_false, not_false_eq_true, Int.reduceTDiv, Int.reduceTMod, pu_n]
        rw [K19_17 k46, m_some1 hG e9]
        simp (disch := first | assumption | exact isL_i | exact isL_r | exact isL_n | exact i01a | exact i01b | omega) only [K19_20, K19_21, K19_22, K19_23, wr_id, td_e, tm_e, pu_n, pu_s, up_s, up_k, up_a, ↓reduceIte, Int.reduceLT, Int.reduceLE, Int.reduceEq, Int.reduceNeg, Int.reduceAdd, Int.reduceSub, Int.reduceMul, Int.reduceMod, Int.reduceDiv, Int.cast_ofNat_Int, not_true_eq_false, not_false_eq_true, Int.reduceTDiv, Int.reduceTMod]
        rw [K19_24 k46, m_emits1 hG e9]
        simp (disch := first | assumption | exact isL_i | exact isL_r | exact isL_n | exact i01a | exact i01b | omega) only [K19_27, wr_id, td_e, tm_e, pu_n, pu_s, up_s, up_k, up_a, ↓reduceIte, Int.reduceLT, Int.reduceLE, Int.reduceEq, Int.reduceNeg, Int.reduceAdd, Int.reduceSub, Int.reduceMul, Int.reduceMod, Int.reduceDiv, Int.cast_ofNat_Int, not_true_eq_false, not_false_eq_true, Int.reduceTDiv, Int.reduceTMod]
        exact hK _ (PoK.bad hs (by omega))
theorem m_clause (hG : ShM G) (hS : SgF h e) (ha : 0 ≤ a) (ha' : a ≤ 4) (he : e ≤ 100) (hs : StM h a e 0 i mi) (h0 : 0 ≤ i) (hi : i ≤ e) (hK : ∀ mi', PoK a (clF h i).1 (clF h i).2 mi mi' → K none G mi') : OkC (d + 415) 22 [pR (some 46)] G mi K := by
  obtain ⟨⟨k46, k47, l47, k48, l48, k49, l49, k50, l50, k51, l51⟩, ⟨k52, l52, k53, l53, k54, l54⟩, ⟨g1, g2, g3, g11, g12, g15, g16, g18⟩⟩ := id hG
  have p5 : ∀ (W : List Int), (∀ x ∈ W, 0 ≤ x) → ∀ q : Nat, q < W.length → 0 ≤ W.getD q 0 := by
    intro W hW q hq
    rw [List.getD_eq_getElem?_getD, List.getElem?_eq_getElem hq]
    exact hW _ (List.getElem_mem hq)
  rw [E22]
  simp (disch := first | assumption | exact isL_i | exact isL_r | exact isL_n | exact i01a | exact i01b | omega) only [K22_0, wr_id, td_e, tm_e, pu_n, pu_s, up_s, up_k, up_a, ↓reduceIte, Int.reduceLT, Int.reduceLE, Int.reduceEq, Int.reduceNeg, Int.reduceAdd, Int.reduceSub, Int.reduceMul, Int.reduceMod, Int.reduceDiv, Int.cast_ofNat_Int, not_true_eq_false, not_false_eq_true, Int.reduceTDiv, Int.reduceTMod]
  rw [K22_1 k46, m_here' hG hs h0 he]
  unfold clF at hK
  by_cases c0 : h i = 99
  · rw [if_pos c0] at hK
    simp (disch := first | assumption | exact isL_i | exact isL_r | exact isL_n | exact i01a | exact i01b | omega) only [K22_4, K22_52, K22_53, K22_56, wr_id, td_e, tm_e, pu_n, pu_s, up_s, up_k, up_a, ↓reduceIte, Int.reduceLT, Int.reduceLE, Int.reduceEq, Int.reduceNeg, Int.reduceAdd, Int.reduceSub, Int.reduceMul, Int.reduceMod, Int.reduceDiv, Int.cast_ofNat_Int, not_true_eq_false, not_false_eq_true, Int.reduceTDiv, Int.reduceTMod, c0]
    rw [K22_58 k46]
    refine m_tellsHere (d := d + 408) (t := 3) (w := 0) hG hS ha ha' he (by decide) rfl (p5 _ (by decide)) hs h0 hi (Or.inl ⟨rfl, rfl⟩) fun m2 hp => ?_
    simp (disch := first | assumption | exact isL_i | exact isL_r | exact isL_n | exact i01a | exact i01b | omega) only [K22_61, K22_100, wr_id, td_e, tm_e, pu_n, pu_s, up_s, up_k, up_a, ↓reduceIte, Int.reduceLT, Int.reduceLE, Int.reduceEq, Int.reduceNeg, Int.reduceAdd, Int.reduceSub, Int.reduceMul, Int.reduceMod, Int.reduceDiv, Int.cast_ofNat_Int, not_true_eq_false, not_false_eq_true, Int.reduceTDiv, Int.reduceTMod, pu_n]
    exact hK m2 hp
  · rw [if_neg c0] at hK
    by_cases c1 : h i = 97
    · rw [if_pos c1] at hK
      simp (disch := first | assumption | exact isL_i | exact isL_r | exact isL_n | exact i01a | exact i01b | omega) only [K22_4, K22_64, K22_65, K22_68, wr_id, td_e, tm_e, pu_n, pu_s, up_s, up_k, up_a, ↓reduceIte, Int.reduceLT, Int.reduceLE, Int.reduceEq, Int.reduceNeg, Int.reduceAdd, Int.reduceSub, Int.reduceMul, Int.reduceMod, Int.reduceDiv, Int.cast_ofNat_Int, not_true_eq_false, not_false_eq_true, Int.reduceTDiv, Int.reduceTMod, c1]
      rw [K22_70 k46]
      refine m_tellsHere (d := d + 408) (t := 4) (w := 1) hG hS ha ha' he (by decide) rfl (p5 _ (by decide)) hs h0 hi (Or.inr (Or.inl ⟨rfl, rfl⟩)) fun m2 hp => ?_
      simp (disch := first | assumption | exact isL_i | exact isL_r | exact isL_n | exact i01a | exact i01b | omega) only [K22_73, K22_100, wr_id, td_e, tm_e, pu_n, pu_s, up_s, up_k, up_a, ↓reduceIte, Int.reduceLT, Int.reduceLE, Int.reduceEq, Int.reduceNeg, Int.reduceAdd, Int.reduceSub, Int.reduceMul, Int.reduceMod, Int.reduceDiv, Int.cast_ofNat_Int, not_true_eq_false, not_false_eq_true, Int.reduceTDiv, Int.reduceTMod, pu_n]
      exact hK m2 hp
    · rw [if_neg c1] at hK
      by_cases c2 : h i = 104
      · rw [if_pos c2] at hK
        simp (disch := first | assumption | exact isL_i | exact isL_r | exact isL_n | exact i01a | exact i01b | omega) only [K22_4, K22_76, K22_77, K22_80, wr_id, td_e, tm_e, pu_n, pu_s, up_s, up_k, up_a, ↓reduceIte, Int.reduceLT, Int.reduceLE, Int.reduceEq, Int.reduceNeg, Int.reduceAdd, Int.reduceSub, Int.reduceMul, Int.reduceMod, Int.reduceDiv, Int.cast_ofNat_Int, not_true_eq_false, not_false_eq_true, Int.reduceTDiv, Int.reduceTMod, c2]
        rw [K22_82 k46]
        refine m_tellsHere (d := d + 408) (t := 5) (w := 2) hG hS ha ha' he (by decide) rfl (p5 _ (by decide)) hs h0 hi (Or.inr (Or.inr ⟨rfl, rfl⟩)) fun m2 hp => ?_
        simp (disch := first | assumption | exact isL_i | exact isL_r | exact isL_n | exact i01a | exact i01b | omega) only [K22_85, K22_100, wr_id, td_e, tm_e, pu_n, pu_s, up_s, up_k, up_a, ↓reduceIte, Int.reduceLT, Int.reduceLE, Int.reduceEq, Int.reduceNeg, Int.reduceAdd, Int.reduceSub, Int.reduceMul, Int.reduceMod, Int.reduceDiv, Int.cast_ofNat_Int, not_true_eq_false, not_false_eq_true, Int.reduceTDiv, Int.reduceTMod, pu_n]
        exact hK m2 hp
      · rw [if_neg c2] at hK
        by_cases c3 : h i = 100
        · rw [if_pos c3] at hK
          have hie := sg_lt (i := i) hS (by omega)
          have hs1 := hs.pp
          have tr1 : ∀ j o m2, PoK a j o (up mi 46 7 (i + 1)) m2 → PoK a j o mi m2 := by
            intro j o m2 ⟨q1, q2, q3, q4⟩
            refine ⟨(sc_up (by decide)).tr q1, fun k a b c => by rw [q2 k a b c, up_k a], q3, ?_⟩
            rw [up_a (by decide)] at q4
            exact q4
          simp (disch := first | assumption | exact isL_i | exact isL_r | exact isL_n | exact i01a | exact i01b | omega) only [K22_4, K22_88, wr_id, td_e, tm_e, pu_n, pu_s, up_s, up_k, up_a, ↓reduceIte, Int.reduceLT, Int.reduceLE, Int.reduceEq, Int.reduceNeg, Int.reduceAdd, Int.reduceSub, Int.reduceMul, Int.reduceMod, Int.reduceDiv, Int.cast_ofNat_Int, not_true_eq_false, not_false_eq_true, Int.reduceTDiv, Int.reduceTMod, c3]
          rw [K22_89 k46, E21]
          simp (disch := first | assumption | exact isL_i | exact isL_r | exact isL_n | exact i01a | exact i01b | omega) only [K21_0, K21_1, wr_id, td_e, tm_e, pu_n, pu_s, up_s, up_k, up_a, ↓reduceIte, Int.reduceLT, Int.reduceLE, Int.reduceEq, Int.reduceNeg, Int.reduceAdd, Int.reduceSub, Int.reduceMul, Int.reduceMod, Int.reduceDiv, Int.cast_ofNat_Int, not_true_eq_false, not_false_eq_true, Int.reduceTDiv, Int.reduceTMod]
          rw [K21_3 k46, m_must' hG hs h0 hi he, if_pos c3]
          simp (disch := first | assumption | exact isL_i | exact isL_r | exact isL_n | exact i01a | exact i01b | omega) only [K21_6, wr_id, td_e, tm_e, pu_n, pu_s, up_s, up_k, up_a, ↓reduceIte, Int.reduceLT, Int.reduceLE, Int.reduceEq, Int.reduceNeg, Int.reduceAdd, Int.reduceSub, Int.reduceMul, Int.reduceMod, Int.reduceDiv, Int.cast_ofNat_Int, not_true_eq_false, not_false_eq_true, Int.reduceTDiv, Int.reduceTMod]
          rw [K21_7 k46, m_here' hG hs1 (by omega) he]
          by_cases c4 : h (i + 1) = 101
          · rw [if_pos c4] at hK
            simp (disch := first | assumption | exact isL_i | exact isL_r | exact isL_n | exact i01a | exact i01b | omega) only [K21_10, K21_12, K21_15, K21_16, K21_18, wr_id, td_e, tm_e, pu_n, pu_s, up_s, up_k, up_a, ↓reduceIte, Int.reduceLT, Int.reduceLE, Int.reduceEq, Int.reduceNeg, Int.reduceAdd, Int.reduceSub, Int.reduceMul, Int.reduceMod, Int.reduceDiv, Int.cast_ofNat_Int, not_true_eq_false, not_false_eq_true, Int.reduceTDiv, Int.reduceTMod, c4, if_pos, if_neg]
            rw [K21_20 k46]
            refine m_much (t := 6) (w := 3) hG hS ha ha' he (by decide) rfl (p5 _ (by decide)) (by decide) hs1 (by omega) (by omega) (Or.inl ⟨rfl, rfl⟩) fun m2 hp => ?_
            simp (disch := first | assumption | exact isL_i | exact isL_r | exact isL_n | exact i01a | exact i01b | omega) only [K21_23, K21_35, K22_92, K22_100, wr_id, td_e, tm_e, pu_n, pu_s, up_s, up_k, up_a, ↓reduceIte, Int.reduceLT, Int.reduceLE, Int.reduceEq, Int.reduceNeg, Int.reduceAdd, Int.reduceSub, Int.reduceMul, Int.reduceMod, Int.reduceDiv, Int.cast_ofNat_Int, not_true_eq_false, not_false_eq_true, Int.reduceTDiv, Int.reduceTMod, pu_n]
            exact hK m2 (tr1 _ _ _ hp)
          · rw [if_neg c4] at hK
            simp (disch := first | assumption | exact isL_i | exact isL_r | exact isL_n | exact i01a | exact i01b | omega) only [K21_10, K21_12, K21_26, K21_27, K21_30, wr_id, td_e, tm_e, pu_n, pu_s, up_s, up_k, up_a, ↓reduceIte, Int.reduceLT, Int.reduceLE, Int.reduceEq, Int.reduceNeg, Int.reduceAdd, Int.reduceSub, Int.reduceMul, Int.reduceMod, Int.reduceDiv, Int.cast_ofNat_Int, not_true_eq_false, not_false_eq_true, Int.reduceTDiv, Int.reduceTMod, c4, if_pos, if_neg]
            rw [K21_32 k46]
            refine m_much (t := 7) (w := 4) hG hS ha ha' he (by decide) rfl (p5 _ (by decide)) (by decide) hs1 (by omega) (by omega) (Or.inr ⟨rfl, rfl⟩) fun m2 hp => ?_
            simp (disch := first | assumption | exact isL_i | exact isL_r | exact isL_n | exact i01a | exact i01b | omega) only [K21_35, K22_92, K22_100, wr_id, td_e, tm_e, pu_n, pu_s, up_s, up_k, up_a, ↓reduceIte, Int.reduceLT, Int.reduceLE, Int.reduceEq, Int.reduceNeg, Int.reduceAdd, Int.reduceSub, Int.reduceMul, Int.reduceMod, Int.reduceDiv, Int.cast_ofNat_Int, not_true_eq_false, not_false_eq_true, Int.reduceTDiv, Int.reduceTMod, pu_n]
            exact hK m2 (tr1 _ _ _ hp)
        · rw [if_neg c3] at hK
          have h7 := hs.1.2.1
          simp (disch := first | assumption | exact isL_i | exact isL_r | exact isL_n | exact i01a | exact i01b | omega) only [K22_4, K22_95, K22_96, K22_97, K22_100, wr_id, td_e, tm_e, pu_n, pu_s, up_s, up_k, up_a, ↓reduceIte, Int.reduceLT, Int.reduceLE, Int.reduceEq, Int.reduceNeg, Int.reduceAdd, Int.reduceSub, Int.reduceMul, Int.reduceMod, Int.reduceDiv, Int.cast_ofNat_Int, not_true_eq_false, not_false_eq_true, Int.reduceTDiv, Int.reduceTMod, c0, c1, c2, c3, if_neg, ite_self]
          have := PoK.bad (j := i) hs (Int.le_refl _)
          rw [up_same h7] at this
          exact hK _ this
end MO
