/-! ===== the reference reads what a condition is ===== -/
def RunM (m d f : Nat) (G : Gh) (mi : Mi) (K : Option PV → Gh → Mi → Prop) : Prop := match m with
  | 0 => OkC (d + f + 8) 16 [pR (some 46)] G mi K
  | 1 => OkC (d + f + 8) 17 [pR (some 46)] G mi K
  | 2 => OkC (d + f + 8) 18 [pR (some 46)] G mi K
  | 3 => Ok (d + f + 8) 17 4 [some (pR (some 46))] [] G mi K
  | _ => Ok (d + f + 8) 18 4 [some (pR (some 46))] [] G mi K
section MO
variable {d : Nat} {G : Gh} {mi mi' mi'' : Mi} {K : Option PV → Gh → Mi → Prop} {p t v w a b c k n g q e i j op x : Int} {h : Int → Int} {L : List Int} {o : Option (List Int)}
theorem StM.nx (hs : StM h a e op i mi) (hp : PoM a op j (some L) mi mi') (ha : 0 ≤ a) (he : e ≤ 100) (hL : i + L.length ≤ j) (hj : j ≤ 100) : StM h a e op j mi' := by
  obtain ⟨⟨h6, h7, h8, h9, h10⟩, hh, hm, hm'⟩ := hs
  obtain ⟨p1, p2, p3, p4, p5, p6⟩ := hp
  refine ⟨⟨by rw [p2 6 (by decide) (by decide) (by decide)]; exact h6, p3, by rw [p2 8 (by decide) (by decide) (by decide)]; exact h8, p4, p5⟩, ?_, ?_, ?_⟩
  · rw [p6, hM_out ha he (emL_out L (mi 47) hm (by omega))]; exact hh
  · rw [p6, emL_n]; omega
  · rw [p6, emL_n]; omega
theorem PoM.trN (hs : StM h a e op i mi) (hp : PoM a op j (some L) mi mi') (hq : PoM a op k none mi' mi'') (hL : i + L.length ≤ j) (hj : j ≤ 100) : PoM a op k none mi mi'' := by
  obtain ⟨-, hh, hm, hm'⟩ := hs
  obtain ⟨p1, p2, p3, p4, p5, p6⟩ := hp
  obtain ⟨q1, q2, q3, q4, q5⟩ := hq
  refine ⟨p1.tr q1, fun k a b c => (q2 k a b c).trans (p2 k a b c), q3, q4, ?_⟩
  rw [p6] at q5
  exact (emL_out L (mi 47) hm (by omega)).tr q5
theorem PoM.trS {M : List Int} (hp : PoM a op j (some L) mi mi') (hq : PoM a op k (some M) mi' mi'') : PoM a op k (some (L ++ M)) mi mi'' := by
  obtain ⟨p1, p2, p3, p4, p5, p6⟩ := hp
  obtain ⟨q1, q2, q3, q4, q5, q6⟩ := hq
  exact ⟨p1.tr q1, fun k a b c => (q2 k a b c).trans (p2 k a b c), q3, q4, q5, by rw [q6, p6, emL_app]⟩
/-- one more step is emitted -/
theorem m_emits' (hG : ShM G) (hs : StM h a e op i mi) (ha : 0 ≤ a) (ha' : a ≤ 4) (hi : i ≤ 100) (hK : ∀ mi', PoM a op i (some [x]) mi mi' → K none G mi') : OkC d 15 [pR (some 46), pI x] G mi K := by
  obtain ⟨⟨h6, h7, h8, h9, h10⟩, hh, hm, hm'⟩ := hs
  rw [m_emits hG h9 h6 ha ha' hm (by omega)]
  refine hK _ ⟨(Sc.rf.u (by decide)).u (by decide), fun k _ _ _ => by rw [up_a (by decide), up_a (by decide)], by rw [up_a (by decide), up_a (by decide)]; exact h7, by rw [up_a (by decide), up_a (by decide)]; exact h9, by rw [up_a (by decide), up_a (by decide)]; exact h10, ?_⟩
  rw [up_sH, up_sH]
  rfl
theorem m_here' (hG : ShM G) (hs : StM h a e op i mi) (h0 : 0 ≤ i) (he : e ≤ 100) : OkC d 10 [pR (some 46)] G mi K = K (some (pI (h i))) G mi := by
  obtain ⟨⟨h6, h7, h8, h9, h10⟩, hh, hm, hm'⟩ := hs
  rw [m_here hG h7 h8 h0 he, hh]
/-- a sign is passed -/
theorem StM.pp (hs : StM h a e op i mi) : StM h a e op (i + 1) (up mi 46 7 (i + 1)) := by
  obtain ⟨⟨h6, h7, h8, h9, h10⟩, hh, hm, hm'⟩ := hs
  refine ⟨⟨by rw [up_k (by decide)]; exact h6, up_s, by rw [up_k (by decide)]; exact h8, by rw [up_k (by decide)]; exact h9, by rw [up_k (by decide)]; exact h10⟩, by rw [up_a (by decide)]; exact hh, by rw [up_a (by decide)]; exact hm, by rw [up_a (by decide)]; omega⟩
theorem PoM.pp (hp : PoM a op k o (up mi 46 7 j) mi') : PoM a op k o mi mi' := by
  obtain ⟨p1, p2, p3, p4⟩ := hp
  refine ⟨(sc_up (by decide)).tr p1, fun q a b c => by rw [p2 q a b c, up_k a], p3, ?_⟩
  rw [up_a (by decide)] at p4
  exact p4
theorem PoM.rf (hs : StM h a e op i mi) : PoM a op i (some []) mi mi := by
  obtain ⟨⟨h6, h7, h8, h9, h10⟩, hh, hm, hm'⟩ := hs
  exact ⟨Sc.rf, fun _ _ _ _ => rfl, h7, h9, h10, rfl⟩
theorem PoM.bad (hs : StM h a e op i mi) : PoM a op i none mi (up mi 46 9 1) := by
  obtain ⟨⟨h6, h7, h8, h9, h10⟩, hh, hm, hm'⟩ := hs
  exact ⟨sc_up (by decide), fun k a b c => up_k b, by rw [up_k (by decide)]; exact h7, up_s, by rw [up_a (by decide)]; exact OutE.rf⟩
theorem m_every1 (hG : ShM G) (h9 : mi 46 9 = 1) : OkC (d + 1) 16 [pR (some 46)] G mi K = K none G mi := by
  obtain ⟨⟨k46, k47, l47, k48, l48, k49, l49, k50, l50, k51, l51⟩, ⟨k52, l52, k53, l53, k54, l54⟩, ⟨g1, g2, g3, g11, g12, g15, g16, g18⟩⟩ := id hG
  rw [E16]
  simp (disch := first | assumption | exact isL_i | exact isL_r | exact isL_n | exact i01a | exact i01b | omega) only [K16_0, K16_1, K16_4, K16_7, g1, g2, g3, g11, g12, g15, g16, g18, wr_id, td_e, tm_e, pu_n, pu_s, up_s, up_k, up_a, ↓reduceIte, Int.reduceLT, Int.reduceLE, Int.reduceEq, Int.reduceNeg, Int.reduceAdd, Int.reduceSub, Int.reduceMul, Int.reduceMod, Int.reduceDiv, Int.cast_ofNat_Int, not_true_eq_false, not_false_eq_true, Int.reduceTDiv, Int.reduceTMod, h9, if_pos, if_neg]
/-- a test -/
theorem m_test (hG : ShM G) (hs : StM h a e op i mi) (ha : 0 ≤ a) (ha' : a ≤ 4) (h0 : 0 ≤ i) (hi : i ≤ e) (he : e ≤ 100) (hS : SgF h e) (hn : ¬ (h i = 33 ∨ h i = 40)) (hK : ∀ mi', PoM a op (tsF h i).1 (tsF h i).2 mi mi' → K none G mi') : OkC (d + 8) 16 [pR (some 46)] G mi K := by
  obtain ⟨⟨k46, k47, l47, k48, l48, k49, l49, k50, l50, k51, l51⟩, ⟨k52, l52, k53, l53, k54, l54⟩, ⟨g1, g2, g3, g11, g12, g15, g16, g18⟩⟩ := id hG
  obtain ⟨⟨h6, h7, h8, h9, h10⟩, hh, hm, hm'⟩ := id hs
  have hl := ltF_b (v := h i)
  have hc := cpF_b (v := h (i + 1))
  have am1 : ∀ d' K', OkC (d' + 5) 14 [pR (some 46), pE 3] G mi K' = K' (some (pI (ltF (h i)))) G (if ltF (h i) = -1 then mi else up mi 46 7 (i + 1)) := by
    intro d' K'
    have := m_among (d := d') (K := K') (t := 1) hG (by decide) h7 h8 h0 (by omega) he
    rw [hh, lt_idx] at this
    exact this
  have hn1 : ¬ h i = 33 := fun e => hn (Or.inl e)
  have hn2 : ¬ h i = 40 := fun e => hn (Or.inr e)
  rw [E16]
  simp (disch := first | assumption | exact isL_i | exact isL_r | exact isL_n | exact i01a | exact i01b | omega) only [K16_0, K16_1, g1, g2, g3, g11, g12, g15, g16, g18, wr_id, td_e, tm_e, pu_n, pu_s, up_s, up_k, up_a, ↓reduceIte, Int.reduceLT, Int.reduceLE, Int.reduceEq, Int.reduceNeg, Int.reduceAdd, Int.reduceSub, Int.reduceMul, Int.reduceMod, Int.reduceDiv, Int.cast_ofNat_Int, not_true_eq_false, not_false_eq_true, Int.reduceTDiv, Int.reduceTMod, h9, if_pos, if_neg]
  simp (disch := first | assumption | exact isL_i | exact isL_r | exact isL_n | exact i01a | exact i01b | omega) only [K16_4, K16_7, K16_8, g1, g2, g3, g11, g12, g15, g16, g18, wr_id, td_e, tm_e, pu_n, pu_s, up_s, up_k, up_a, ↓reduceIte, Int.reduceLT, Int.reduceLE, Int.reduceEq, Int.reduceNeg, Int.reduceAdd, Int.reduceSub, Int.reduceMul, Int.reduceMod, Int.reduceDiv, Int.cast_ofNat_Int, not_true_eq_false, not_false_eq_true, Int.reduceTDiv, Int.reduceTMod, if_pos, if_neg]
  rw [K16_9 k46, m_here' hG hs h0 he]
  simp (disch := first | assumption | exact isL_i | exact isL_r | exact isL_n | exact i01a | exact i01b | omega) only [K16_12, K16_13, K16_14, K16_16, K16_19, K16_20, K16_22, K16_25, K16_26, K16_27, K16_30, K16_31, K16_34, K16_35, K16_38, K16_39, K16_42, K16_43, K16_43i, K16_44, K16_47, K16_48, K16_49, K16_52, K16_53, K16_53i, K16_54, K16_57, K16_58, K16_61, K16_64, K16_65, K16_68, K16_69, K16_70, K16_73, K16_74, K16_76, K16_79, K16_80, K16_83, K16_84, K16_85, K16_88, K16_91, K16_92, K16_95, K16_96, K16_98, K16_101, K16_102, K16_102i, K16_103, K16_106, K16_107, K16_108, K16_111, K16_112, K16_113, g1, g2, g3, g11, g12, g15, g16, g18, wr_id, td_e, tm_e, pu_n, pu_s, up_s, up_k, up_a, ↓reduceIte, Int.reduceLT, Int.reduceLE, Int.reduceEq, Int.reduceNeg, Int.reduceAdd, Int.reduceSub, Int.reduceMul, Int.reduceMod, Int.reduceDiv, Int.cast_ofNat_Int, not_true_eq_false, not_false_eq_true, Int.reduceTDiv, Int.reduceTMod, if_pos, if_neg]
  rw [K16_115 k46, am1]
  unfold tsF at hK
  by_cases c1 : ltF (h i) = -1
  · rw [if_pos c1] at hK
    have e9 : up mi 46 9 1 46 9 = 1 := up_s
    have e91 : up (up mi 46 9 1) 46 9 1 = up mi 46 9 1 := up_up
    simp (disch := first | assumption | exact isL_i | exact isL_r | exact isL_n | exact i01a | exact i01b | omega) only [K16_118, K16_119, K16_120, K16_121, K16_122, K16_125, K16_126, K16_129, K16_130, K16_133, K16_134, K16_137, K16_140, K16_141, K16_144, K16_150, K16_151, K16_152, K16_153, K16_156, K16_159, K16_160, K16_161, K16_164, K16_165, K16_168, K16_169, K16_172, g1, g2, g3, g11, g12, g15, g16, g18, wr_id, td_e, tm_e, pu_n, pu_s, up_s, up_k, up_a, ↓reduceIte, Int.reduceLT, Int.reduceLE, Int.reduceEq, Int.reduceNeg, Int.reduceAdd, Int.reduceSub, Int.reduceMul, Int.reduceMod, Int.reduceDiv, Int.cast_ofNat_Int, not_true_eq_false, not_false_eq_true, Int.reduceTDiv, Int.reduceTMod, c1, e9, e91, if_pos, if_neg]
    rw [K16_173 k46, m_figs_1 hG e9]
    simp (disch := first | assumption | exact isL_i | exact isL_r | exact isL_n | exact i01a | exact i01b | omega) only [K16_176, K16_178, K16_179, K16_180, K16_182, K16_183, K16_184, K16_185, K16_187, K16_189, K16_190, g1, g2, g3, g11, g12, g15, g16, g18, wr_id, td_e, tm_e, pu_n, pu_s, up_s, up_k, up_a, ↓reduceIte, Int.reduceLT, Int.reduceLE, Int.reduceEq, Int.reduceNeg, Int.reduceAdd, Int.reduceSub, Int.reduceMul, Int.reduceMod, Int.reduceDiv, Int.cast_ofNat_Int, not_true_eq_false, not_false_eq_true, Int.reduceTDiv, Int.reduceTMod]
    rw [K16_191 k46, m_emits1 hG e9]
    simp (disch := first | assumption | exact isL_i | exact isL_r | exact isL_n | exact i01a | exact i01b | omega) only [K16_194, wr_id, td_e, tm_e, pu_n, pu_s, up_s, up_k, up_a, ↓reduceIte, Int.reduceLT, Int.reduceLE, Int.reduceEq, Int.reduceNeg, Int.reduceAdd, Int.reduceSub, Int.reduceMul, Int.reduceMod, Int.reduceDiv, Int.cast_ofNat_Int, not_true_eq_false, not_false_eq_true, Int.reduceTDiv, Int.reduceTMod]
    exact hK _ (PoM.bad hs)
  · rw [if_neg c1] at hK
    have hs1 := hs.pp
    generalize hm1 : up mi 46 7 (i + 1) = m1 at hs1
    have hq1 : ∀ j o m2, PoM a op j o m1 m2 → PoM a op j o mi m2 := fun j o m2 hp => PoM.pp (j := i + 1) (by rw [hm1]; exact hp)
    obtain ⟨⟨g6, g7, g8, g9, g10⟩, gh, gm, gm'⟩ := id hs1
    have hie := sg_lt (i := i) hS (fun hx => c1 (by rw [hx]; exact ltF_m))
    have am2 : ∀ d' K', OkC (d' + 5) 14 [pR (some 46), pE 5] G m1 K' = K' (some (pI (cpF (h (i + 1))))) G (if cpF (h (i + 1)) = -1 then m1 else up m1 46 7 (i + 1 + 1)) := by
      intro d' K'
      have := m_among (d := d') (K := K') (t := 2) hG (by decide) g7 g8 (by omega) (by omega) he
      rw [gh, cp_idx] at this
      exact this
    have e90 : up m1 46 9 0 = m1 := up_same g9
    rw [if_neg c1]
    simp (disch := first | assumption | exact isL_i | exact isL_r | exact isL_n | exact i01a | exact i01b | omega) only [K16_118, K16_119, K16_120, K16_121, K16_122, K16_125, K16_126, K16_129, K16_130, K16_133, K16_134, K16_137, K16_140, K16_141, K16_144, K16_145, g1, g2, g3, g11, g12, g15, g16, g18, wr_id, td_e, tm_e, pu_n, pu_s, up_s, up_k, up_a, ↓reduceIte, Int.reduceLT, Int.reduceLE, Int.reduceEq, Int.reduceNeg, Int.reduceAdd, Int.reduceSub, Int.reduceMul, Int.reduceMod, Int.reduceDiv, Int.cast_ofNat_Int, not_true_eq_false, not_false_eq_true, Int.reduceTDiv, Int.reduceTMod, e90, g9, if_pos, if_neg]
    rw [K16_147 k46, am2]
    by_cases c2 : cpF (h (i + 1)) = -1
    · rw [if_pos c2] at hK
      have e9 : up m1 46 9 1 46 9 = 1 := up_s
      simp (disch := first | assumption | exact isL_i | exact isL_r | exact isL_n | exact i01a | exact i01b | omega) only [K16_150, K16_151, K16_152, K16_153, K16_156, K16_159, K16_160, K16_161, K16_164, K16_165, K16_168, K16_169, K16_172, g1, g2, g3, g11, g12, g15, g16, g18, wr_id, td_e, tm_e, pu_n, pu_s, up_s, up_k, up_a, ↓reduceIte, Int.reduceLT, Int.reduceLE, Int.reduceEq, Int.reduceNeg, Int.reduceAdd, Int.reduceSub, Int.reduceMul, Int.reduceMod, Int.reduceDiv, Int.cast_ofNat_Int, not_true_eq_false, not_false_eq_true, Int.reduceTDiv, Int.reduceTMod, c2, g9, if_pos, if_neg]
      rw [K16_173 k46, m_figs_1 hG e9]
      simp (disch := first | assumption | exact isL_i | exact isL_r | exact isL_n | exact i01a | exact i01b | omega) only [K16_176, K16_178, K16_179, K16_180, K16_182, K16_183, K16_184, K16_185, K16_187, K16_189, K16_190, g1, g2, g3, g11, g12, g15, g16, g18, wr_id, td_e, tm_e, pu_n, pu_s, up_s, up_k, up_a, ↓reduceIte, Int.reduceLT, Int.reduceLE, Int.reduceEq, Int.reduceNeg, Int.reduceAdd, Int.reduceSub, Int.reduceMul, Int.reduceMod, Int.reduceDiv, Int.cast_ofNat_Int, not_true_eq_false, not_false_eq_true, Int.reduceTDiv, Int.reduceTMod]
      rw [K16_191 k46, m_emits1 hG e9]
      simp (disch := first | assumption | exact isL_i | exact isL_r | exact isL_n | exact i01a | exact i01b | omega) only [K16_194, wr_id, td_e, tm_e, pu_n, pu_s, up_s, up_k, up_a, ↓reduceIte, Int.reduceLT, Int.reduceLE, Int.reduceEq, Int.reduceNeg, Int.reduceAdd, Int.reduceSub, Int.reduceMul, Int.reduceMod, Int.reduceDiv, Int.cast_ofNat_Int, not_true_eq_false, not_false_eq_true, Int.reduceTDiv, Int.reduceTMod]
      exact hK _ (hq1 _ _ _ (PoM.bad hs1))
    · rw [if_neg c2] at hK
      have hie2 := sg_lt (i := i + 1) hS (fun hx => c2 (by rw [hx]; exact cpF_m))
      have hs2 := hs1.pp
      generalize hm2 : up m1 46 7 (i + 1 + 1) = m2 at hs2
      rw [show i + 1 + 1 = i + 2 by omega] at hs2
      have hq2 : ∀ j o m3, PoM a op j o m2 m3 → PoM a op j o m1 m3 := fun j o m3 hp => PoM.pp (j := i + 1 + 1) (by rw [hm2]; exact hp)
      obtain ⟨⟨f6, f7, f8, f9, f10⟩, fh, fm, fm'⟩ := id hs2
      have e90 : up m2 46 9 0 = m2 := up_same f9
      rw [if_neg c2]
      simp (disch := first | assumption | exact isL_i | exact isL_r | exact isL_n | exact i01a | exact i01b | omega) only [K16_150, K16_151, K16_152, K16_153, K16_156, K16_159, K16_160, K16_161, K16_164, K16_165, K16_168, K16_169, K16_172, g1, g2, g3, g11, g12, g15, g16, g18, wr_id, td_e, tm_e, pu_n, pu_s, up_s, up_k, up_a, ↓reduceIte, Int.reduceLT, Int.reduceLE, Int.reduceEq, Int.reduceNeg, Int.reduceAdd, Int.reduceSub, Int.reduceMul, Int.reduceMod, Int.reduceDiv, Int.cast_ofNat_Int, not_true_eq_false, not_false_eq_true, Int.reduceTDiv, Int.reduceTMod, e90, f9, if_pos, if_neg]
      rcases hnm : nmF h (i + 2) with ⟨jn, _ | nn⟩
      · rw [hnm] at hK
        have hn' : (nmF (hM (m2 47) e) (i + 2)).2 = none := by rw [fh, hnm]
        obtain ⟨ej, ef⟩ := m_figs_n (d := d + 6) (K := fun r G' mi' => Ok (d + 8) 16 176 [some (pR (some 46)), some (pI (h i)), some (pI (ltF (h i))), some (pI (cpF (h (i + 1)))), none] (pu r []) G' mi' K) hG f7 f8 f9 (by omega) he hn'
        rw [fh, hnm] at ej
        have ej : jn = i + 2 := ej
        have e9 : up m2 46 9 1 46 9 = 1 := up_s
        rw [K16_173 k46]
        refine ef.mpr ?_
        simp (disch := first | assumption | exact isL_i | exact isL_r | exact isL_n | exact i01a | exact i01b | omega) only [K16_176, K16_178, K16_179, K16_180, K16_182, K16_183, K16_184, K16_185, K16_187, K16_189, K16_190, g1, g2, g3, g11, g12, g15, g16, g18, wr_id, td_e, tm_e, pu_n, pu_s, up_s, up_k, up_a, ↓reduceIte, Int.reduceLT, Int.reduceLE, Int.reduceEq, Int.reduceNeg, Int.reduceAdd, Int.reduceSub, Int.reduceMul, Int.reduceMod, Int.reduceDiv, Int.cast_ofNat_Int, not_true_eq_false, not_false_eq_true, Int.reduceTDiv, Int.reduceTMod, pu_s]
        rw [K16_191 k46, m_emits1 hG e9]
        simp (disch := first | assumption | exact isL_i | exact isL_r | exact isL_n | exact i01a | exact i01b | omega) only [K16_194, wr_id, td_e, tm_e, pu_n, pu_s, up_s, up_k, up_a, ↓reduceIte, Int.reduceLT, Int.reduceLE, Int.reduceEq, Int.reduceNeg, Int.reduceAdd, Int.reduceSub, Int.reduceMul, Int.reduceMod, Int.reduceDiv, Int.cast_ofNat_Int, not_true_eq_false, not_false_eq_true, Int.reduceTDiv, Int.reduceTMod]
        rw [ej] at hK
        exact hK _ (hq1 _ _ _ (hq2 _ _ _ (PoM.bad hs2)))
      · rw [hnm] at hK
        have hn' : (nmF (hM (m2 47) e) (i + 2)).2 = some nn := by rw [fh, hnm]
        have ef := m_figs_s (d := d + 6) (K := fun r G' mi' => Ok (d + 8) 16 176 [some (pR (some 46)), some (pI (h i)), some (pI (ltF (h i))), some (pI (cpF (h (i + 1)))), none] (pu r []) G' mi' K) hG f7 f8 f9 (by omega) (by omega) he hn'
        have hp := nmF_p hS (show 0 ≤ i + 2 by omega) (show i + 2 ≤ e by omega)
        rw [fh, hnm] at ef
        rw [hnm] at hp
        obtain ⟨n1, n2, n3⟩ := hp.2 nn rfl
        dsimp only at n1 hp ef
        have hs3 : StM h a e op jn (up m2 46 7 jn) := by
          refine ⟨⟨by rw [up_k (by decide)]; exact f6, up_s, by rw [up_k (by decide)]; exact f8, by rw [up_k (by decide)]; exact f9, by rw [up_k (by decide)]; exact f10⟩, by rw [up_a (by decide)]; exact fh, by rw [up_a (by decide)]; exact fm, by rw [up_a (by decide)]; omega⟩
        rw [K16_173 k46]
        refine ef.mpr ?_
        simp (disch := first | assumption | exact isL_i | exact isL_r | exact isL_n | exact i01a | exact i01b | omega) only [K16_176, K16_178, K16_179, K16_180, K16_182, K16_183, K16_184, K16_185, K16_187, K16_189, K16_190, g1, g2, g3, g11, g12, g15, g16, g18, wr_id, td_e, tm_e, pu_n, pu_s, up_s, up_k, up_a, ↓reduceIte, Int.reduceLT, Int.reduceLE, Int.reduceEq, Int.reduceNeg, Int.reduceAdd, Int.reduceSub, Int.reduceMul, Int.reduceMod, Int.reduceDiv, Int.cast_ofNat_Int, not_true_eq_false, not_false_eq_true, Int.reduceTDiv, Int.reduceTMod, pu_s]
        rw [K16_191 k46]
        refine m_emits' hG hs3 ha ha' (by omega) fun m4 hp4 => ?_
        simp (disch := first | assumption | exact isL_i | exact isL_r | exact isL_n | exact i01a | exact i01b | omega) only [K16_194, wr_id, td_e, tm_e, pu_n, pu_s, up_s, up_k, up_a, ↓reduceIte, Int.reduceLT, Int.reduceLE, Int.reduceEq, Int.reduceNeg, Int.reduceAdd, Int.reduceSub, Int.reduceMul, Int.reduceMod, Int.reduceDiv, Int.cast_ofNat_Int, not_true_eq_false, not_false_eq_true, Int.reduceTDiv, Int.reduceTMod, pu_n]
        refine hK m4 (hq1 _ _ _ (hq2 _ _ _ (PoM.pp hp4) |> fun z => ?_))
        have ex : ltF (h i) + 8 * cpF (h (i + 1)) + 32 * nn = ltF (h i) + 8 * cpF (h (i + 1)) + 32 * nn := rfl
        exact z
end MO
