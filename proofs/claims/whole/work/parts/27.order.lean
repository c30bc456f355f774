/-! ===== in which order ===== -/
def lpI {α : Type} (g : Int → α → α) : Nat → Int → α → α
  | 0, _, a => a
  | n + 1, p, a => lpI g n (p + 1) (g p a)
/-- the best order so far (its ticks, its things), after all that go on from here: k are placed (od), rest wait; by the ticks' number tick -/
def orF (s : Int → Int) (hz : Int) : Nat → Int → Int → Int → Int → (Int → Int) → Int × (Int → Int) → Int × (Int → Int)
  | 0, _, _, _, _, _, st => st
  | f + 1, k, rest, ce, tick, od, st =>
    lpI (fun p q => if bt rest p = 1 ∧ ¬ soonF s hz p ce tick 40 1 = 1000000000 then orF s hz f (k + 1) (clr rest p) (atF s p (tick + soonF s hz p ce tick 40 1)) (tick + soonF s hz p ce tick 40 1) (fun i => if i = k then p else od i) q else q)
      (s 11).toNat 0 (if rest = 0 ∧ tick - s 0 < st.1 then (tick - s 0, fun i => if 0 ≤ i ∧ i < k then od i else st.2 i) else st)
section MO
variable {d : Nat} {G : Gh} {mi : Mi} {K : Option PV → Gh → Mi → Prop} {p t v w a b : Int}
theorem m_ord_cp (hG : ShM G) {x2 x3 x4 x6 : Option PV} {k : Int} (hk : k ≤ 6) (q4 : isL x4 = false) : ∀ (c : Nat) (mi : Mi) (i : Int), i + c = k → 0 ≤ i →
    (∀ m2, (∀ j : Int, m2 53 j = if i ≤ j ∧ j < k then mi 52 j else mi 53 j) → Sc [53] mi m2 → ∀ x5, isL x5 = false → Ok d 52 62 [some (pR (some 46)), some (pI k), x2, x3, x4, x5, x6] [] G m2 K) →
    Ok d 52 36 [some (pR (some 46)), some (pI k), x2, x3, x4, some (pI i), x6] [] G mi K := by
  obtain ⟨⟨k46, k47, l47, k48, l48, k49, l49, k50, l50, k51, l51⟩, ⟨k52, l52, k53, l53, k54, l54⟩, ⟨g1, g2, g3, g11, g12, g15, g16, g18⟩⟩ := id hG
  intro c
  induction c with
  | zero =>
    intro mi i hi h0 hK
    rw [K52_36]
    simp (disch := first | assumption | exact isL_i | exact isL_r | exact isL_n | exact i01a | exact i01b | omega) only [K52_38, K52_39, g1, g2, g3, g11, g12, g15, g16, g18, wr_id, td_e, tm_e, pu_n, pu_s, up_s, up_k, up_a, ↓reduceIte, Int.reduceLT, Int.reduceLE, Int.reduceEq, Int.reduceNeg, Int.reduceAdd, Int.reduceSub, Int.reduceMul, Int.reduceMod, Int.reduceDiv, Int.cast_ofNat_Int, not_true_eq_false, not_false_eq_true, Int.reduceTDiv, Int.reduceTMod, if_pos, if_neg]
    exact hK mi (fun j => by rw [if_neg (by omega)]) Sc.rf _ isL_i
  | succ c ih =>
    intro mi i hi h0 hK
    rw [K52_36]
    simp (disch := first | assumption | exact isL_i | exact isL_r | exact isL_n | exact i01a | exact i01b | omega) only [K52_38, K52_39, K52_42, K52_43, K52_46, K52_48, K52_49, K52_52, K52_54, K52_55, K52_56, K52_59, g1, g2, g3, g11, g12, g15, g16, g18, wr_id, td_e, tm_e, pu_n, pu_s, up_s, up_k, up_a, ↓reduceIte, Int.reduceLT, Int.reduceLE, Int.reduceEq, Int.reduceNeg, Int.reduceAdd, Int.reduceSub, Int.reduceMul, Int.reduceMod, Int.reduceDiv, Int.cast_ofNat_Int, not_true_eq_false, not_false_eq_true, Int.reduceTDiv, Int.reduceTMod, if_pos, if_neg]
    refine ih _ (i + 1) (by omega) (by omega) fun m2 h2 hs2 => hK m2 (fun j => ?_) ((Sc.rf.u (by decide)).tr hs2)
    rw [h2 j, up_a (by decide)]
    by_cases c1 : i + 1 ≤ j ∧ j < k
    · rw [if_pos c1, if_pos (by omega)]
    · rw [if_neg c1]
      by_cases c2 : j = i
      · rw [c2, up_s, if_pos (by omega)]
      · rw [up_k c2, if_neg (by omega)]
theorem m_orders (hG : ShM G) {s : Int → Int} {hz : Int} (hT : WfT s) (hn : 0 ≤ s 11) (hn' : s 11 ≤ 6) (hs0 : 0 ≤ s 0) (hs0' : s 0 ≤ 9999) : ∀ (f d : Nat) (mi : Mi) (k rest ce tick : Int) (od : Int → Int) (st : Int × (Int → Int)) (K : Option PV → Gh → Mi → Prop),
    k + f = 7 → 0 ≤ k → k + pcn rest ≤ 6 → 0 ≤ rest → rest < 64 → 0 ≤ ce → ce ≤ 23 → s 0 ≤ tick → tick ≤ s 0 + 40 * k → mi 47 = s → mi 46 5 = hz → mi 46 17 = st.1 → mi 53 = st.2 → (∀ i : Int, 0 ≤ i → i < k → mi 52 i = od i) →
    (∀ m2, m2 46 17 = (orF s hz f k rest ce tick od st).1 → m2 53 = (orF s hz f k rest ce tick od st).2 → (∀ j : Int, ¬ j = 17 → m2 46 j = mi 46 j) → (∀ i : Int, 0 ≤ i → i < k → m2 52 i = od i) → Sc [46, 52, 53] mi m2 → K none G m2) →
    OkC (d + f + 2) 52 [pR (some 46), pI k, pI rest, pI ce, pI tick] G mi K := by
  obtain ⟨⟨k46, k47, l47, k48, l48, k49, l49, k50, l50, k51, l51⟩, ⟨k52, l52, k53, l53, k54, l54⟩, ⟨g1, g2, g3, g11, g12, g15, g16, g18⟩⟩ := id hG
  intro f
  induction f with
  | zero =>
    intro d mi k rest ce tick od st K hkf hk hpc hr hr' hc hc' ht ht' h47 h5 h17 h53 h52 hK
    exfalso
    have := (b_bt hr hr' (p := 0) (by decide) (by decide)).2.2.1
    omega
  | succ f ih =>
    intro d mi k rest ce tick od st K hkf hk hpc hr hr' hc hc' ht ht' h47 h5 h17 h53 h52 hK
    have e47 : ∀ j, mi 47 j = s j := fun j => by rw [h47]
    have hpc0 := (b_bt hr hr' (p := 0) (by decide) (by decide)).2.2.1
    -- the loop
    have LP : ∀ (c : Nat) (m1 : Mi) (p : Int) (q : Int × (Int → Int)) (x6 : Option PV), isL x6 = false → p + c = s 11 → 0 ≤ p → m1 47 = s → m1 46 5 = hz → m1 46 17 = q.1 → m1 53 = q.2 → (∀ j : Int, ¬ j = 17 → m1 46 j = mi 46 j) → (∀ i : Int, 0 ≤ i → i < k → m1 52 i = od i) → Sc [46, 52, 53] mi m1 →
        lpI (fun p q => if bt rest p = 1 ∧ ¬ soonF s hz p ce tick 40 1 = 1000000000 then orF s hz f (k + 1) (clr rest p) (atF s p (tick + soonF s hz p ce tick 40 1)) (tick + soonF s hz p ce tick 40 1) (fun i => if i = k then p else od i) q else q) c p q = orF s hz (f + 1) k rest ce tick od st →
        Ok (d + (f + 1) + 2) 52 65 [some (pR (some 46)), some (pI k), some (pI rest), some (pI ce), some (pI tick), some (pI p), x6] [] G m1 K := by
      intro c
      induction c with
      | zero =>
        intro m1 p q x6 r6 hp hp0 g47 g5 g17 g53 g46 g52 gs hq
        have e11 : m1 47 11 = s 11 := by rw [g47]
        simp only [lpI] at hq
        rw [K52_65]
        simp (disch := first | assumption | exact isL_i | exact isL_r | exact isL_n | exact i01a | exact i01b | omega) only [K52_67, K52_68, K52_71, K52_73, K52_74, K52_155, g1, g2, g3, g11, g12, g15, g16, g18, wr_id, td_e, tm_e, pu_n, pu_s, up_s, up_k, up_a, ↓reduceIte, Int.reduceLT, Int.reduceLE, Int.reduceEq, Int.reduceNeg, Int.reduceAdd, Int.reduceSub, Int.reduceMul, Int.reduceMod, Int.reduceDiv, Int.cast_ofNat_Int, not_true_eq_false, not_false_eq_true, Int.reduceTDiv, Int.reduceTMod, if_pos, if_neg, e11]
        exact hK m1 (by rw [g17, hq]) (by rw [g53, hq]) g46 g52 gs
      | succ c ihc =>
        intro m1 p q x6 r6 hp hp0 g47 g5 g17 g53 g46 g52 gs hq
        have e11 : m1 47 11 = s 11 := by rw [g47]
        have eT : WfT (m1 47) := by rw [g47]; exact hT
        have hb := b_get hr hr' hp0 (by omega : p < 6)
        have hbb := b_bt hr hr' hp0 (by omega : p < 6)
        simp only [lpI] at hq
        rw [K52_65]
        have GOF : ¬ (bt rest p = 1 ∧ ¬ soonF s hz p ce tick 40 1 = 1000000000) → Ok (d + (f + 1) + 2) 52 101 [some (pR (some 46)), some (pI k), some (pI rest), some (pI ce), some (pI tick), some (pI p), x6] [pI 1000000000] G m1 K := by
          intro hno
          rw [if_neg hno] at hq
          simp (disch := first | assumption | exact isL_i | exact isL_r | exact isL_n | exact i01a | exact i01b | omega) only [K52_101, K52_103, K52_105, K52_107, K52_110, K52_111, K52_114, K52_115, K52_117, K52_118, K52_119, K52_120, K52_121, K52_122, K52_123, K52_124, K52_126, K52_127, K52_128, K52_129, K52_130, K52_131, K52_133, K52_135, K52_137, K52_138, K52_141, K52_143, K52_145, K52_146, K52_149, K52_152, g1, g2, g3, g11, g12, g15, g16, g18, wr_id, td_e, tm_e, pu_n, pu_s, up_s, up_k, up_a, ↓reduceIte, Int.reduceLT, Int.reduceLE, Int.reduceEq, Int.reduceNeg, Int.reduceAdd, Int.reduceSub, Int.reduceMul, Int.reduceMod, Int.reduceDiv, Int.cast_ofNat_Int, not_true_eq_false, not_false_eq_true, Int.reduceTDiv, Int.reduceTMod, if_pos, if_neg]
          exact ihc m1 (p + 1) q _ isL_i (by omega) (by omega) g47 g5 g17 g53 g46 g52 gs hq
        have GO : bt rest p = 1 → ∀ x, soonF s hz p ce tick 40 1 = x → ¬ x = 1000000000 → Ok (d + (f + 1) + 2) 52 101 [some (pR (some 46)), some (pI k), some (pI rest), some (pI ce), some (pI tick), some (pI p), x6] [pI x] G m1 K := by
          intro hb1 x hx hF
          have hbd := soonF_bd (s := s) (hz := hz) (p := p) (cell := ce) (tick := tick) 40 1
          rw [hx] at hbd
          rw [hx, if_pos ⟨hb1, hF⟩] at hq
          obtain ⟨c1, c2, c3, c4⟩ := b_clr hr hr' hp0 (by omega : p < 6)
          have c4 := c4 hb1
          have hpc1 := hbb.2.2.2.2.2 hb1
          have ha := atF_wf hT hp0 (by omega : p < 6) (t := tick + x)
          simp (disch := first | assumption | exact isL_i | exact isL_r | exact isL_n | exact i01a | exact i01b | omega | (simp (disch := decide) only [up_a, up_s, up_k]; first | assumption | omega)) only [K52_101, K52_103, K52_105, K52_107, K52_110, K52_111, K52_114, K52_115, K52_117, K52_118, K52_119, K52_120, K52_121, K52_122, K52_123, K52_124, K52_126, K52_127, K52_128, K52_129, K52_130, K52_131, K52_133, K52_135, K52_137, K52_138, K52_141, K52_143, K52_145, g1, g2, g3, g11, g12, g15, g16, g18, wr_id, td_e, tm_e, pu_n, pu_s, up_s, up_k, up_a, ↓reduceIte, Int.reduceLT, Int.reduceLE, Int.reduceEq, Int.reduceNeg, Int.reduceAdd, Int.reduceSub, Int.reduceMul, Int.reduceMod, Int.reduceDiv, Int.cast_ofNat_Int, not_true_eq_false, not_false_eq_true, Int.reduceTDiv, Int.reduceTMod, if_pos, if_neg, c1, m_isAt, g47]
          rw [K52_146 k46]
          refine ih d (up m1 52 k p) (k + 1) (clr rest p) (atF s p (tick + x)) (tick + x) (fun i => if i = k then p else od i) q _ (by omega) (by omega) (by omega) c2 c3 ha.1 ha.2 (by omega) (by omega) (by rw [up_a (by decide)]; exact g47) (by rw [up_a (by decide)]; exact g5) (by rw [up_a (by decide)]; exact g17) (by rw [up_a (by decide)]; exact g53) (fun i i0 i1 => ?_) (fun m2 a17 a53 a46 a52 as => ?_)
          · by_cases hik : i = k
            · rw [if_pos hik, hik, up_s]
            · rw [if_neg hik, up_k hik]; exact g52 i i0 (by omega)
          · simp (disch := first | assumption | exact isL_i | exact isL_r | exact isL_n | exact i01a | exact i01b | omega) only [K52_149, K52_152, g1, g2, g3, g11, g12, g15, g16, g18, wr_id, td_e, tm_e, pu_n, pu_s, up_s, up_k, up_a, ↓reduceIte, Int.reduceLT, Int.reduceLE, Int.reduceEq, Int.reduceNeg, Int.reduceAdd, Int.reduceSub, Int.reduceMul, Int.reduceMod, Int.reduceDiv, Int.cast_ofNat_Int, not_true_eq_false, not_false_eq_true, Int.reduceTDiv, Int.reduceTMod, if_pos, if_neg]
            refine ihc m2 (p + 1) _ _ isL_i (by omega) (by omega) ?_ ?_ a17 a53 (fun j hj => ?_) (fun i i0 i1 => ?_) (gs.tr ((Sc.rf.u (by decide)).tr as)) hq
            · rw [as 47 (by decide), up_a (by decide)]; exact g47
            · rw [a46 5 (by decide), up_a (by decide)]; exact g5
            · rw [a46 j hj, up_a (by decide)]; exact g46 j hj
            · have := a52 i i0 (by omega)
              rw [this, if_neg (by omega)]
        by_cases hb1 : bt rest p = 1
        · rw [hb1] at hb
          by_cases hF : soonF s hz p ce tick 40 1 = 1000000000
          · have GOF := GOF (fun h => h.2 hF)
            simp (disch := first | assumption | exact isL_i | exact isL_r | exact isL_n | exact i01a | exact i01b | omega) only [K52_67, K52_68, K52_71, K52_73, K52_74, K52_77, K52_78, K52_80, K52_81, K52_82, K52_83, K52_84, K52_87, K52_88, K52_90, K52_91, K52_93, g1, g2, g3, g11, g12, g15, g16, g18, wr_id, td_e, tm_e, pu_n, pu_s, up_s, up_k, up_a, ↓reduceIte, Int.reduceLT, Int.reduceLE, Int.reduceEq, Int.reduceNeg, Int.reduceAdd, Int.reduceSub, Int.reduceMul, Int.reduceMod, Int.reduceDiv, Int.cast_ofNat_Int, not_true_eq_false, not_false_eq_true, Int.reduceTDiv, Int.reduceTMod, if_pos, if_neg, e11, hb]
            show OkC (d + f + 2) _ _ _ _ _
            rw [m_ticksTo hG eT hp0 (by omega) (by omega) (by omega) hc hc', g47, g5, hF]
            simp (disch := first | assumption | exact isL_i | exact isL_r | exact isL_n | exact i01a | exact i01b | omega) only [K52_96, wr_id, td_e, tm_e, pu_n, pu_s, up_s, up_k, up_a, ↓reduceIte, Int.reduceLT, Int.reduceLE, Int.reduceEq, Int.reduceNeg, Int.reduceAdd, Int.reduceSub, Int.reduceMul, Int.reduceMod, Int.reduceDiv, Int.cast_ofNat_Int, not_true_eq_false, not_false_eq_true, Int.reduceTDiv, Int.reduceTMod]
            exact GOF
          · have GO := GO hb1 _ rfl hF
            simp (disch := first | assumption | exact isL_i | exact isL_r | exact isL_n | exact i01a | exact i01b | omega) only [K52_67, K52_68, K52_71, K52_73, K52_74, K52_77, K52_78, K52_80, K52_81, K52_82, K52_83, K52_84, K52_87, K52_88, K52_90, K52_91, K52_93, g1, g2, g3, g11, g12, g15, g16, g18, wr_id, td_e, tm_e, pu_n, pu_s, up_s, up_k, up_a, ↓reduceIte, Int.reduceLT, Int.reduceLE, Int.reduceEq, Int.reduceNeg, Int.reduceAdd, Int.reduceSub, Int.reduceMul, Int.reduceMod, Int.reduceDiv, Int.cast_ofNat_Int, not_true_eq_false, not_false_eq_true, Int.reduceTDiv, Int.reduceTMod, if_pos, if_neg, e11, hb]
            show OkC (d + f + 2) _ _ _ _ _
            rw [m_ticksTo hG eT hp0 (by omega) (by omega) (by omega) hc hc', g47, g5]
            simp (disch := first | assumption | exact isL_i | exact isL_r | exact isL_n | exact i01a | exact i01b | omega) only [K52_96, wr_id, td_e, tm_e, pu_n, pu_s, up_s, up_k, up_a, ↓reduceIte, Int.reduceLT, Int.reduceLE, Int.reduceEq, Int.reduceNeg, Int.reduceAdd, Int.reduceSub, Int.reduceMul, Int.reduceMod, Int.reduceDiv, Int.cast_ofNat_Int, not_true_eq_false, not_false_eq_true, Int.reduceTDiv, Int.reduceTMod]
            exact GO
        · have GOF := GOF (fun h => hb1 h.1)
          simp (disch := first | assumption | exact isL_i | exact isL_r | exact isL_n | exact i01a | exact i01b | omega) only [K52_67, K52_68, K52_71, K52_73, K52_74, K52_77, K52_78, K52_80, K52_81, K52_82, K52_83, K52_84, K52_87, K52_88, K52_90, K52_91, K52_93, K52_96, K52_99, g1, g2, g3, g11, g12, g15, g16, g18, wr_id, td_e, tm_e, pu_n, pu_s, up_s, up_k, up_a, ↓reduceIte, Int.reduceLT, Int.reduceLE, Int.reduceEq, Int.reduceNeg, Int.reduceAdd, Int.reduceSub, Int.reduceMul, Int.reduceMod, Int.reduceDiv, Int.cast_ofNat_Int, not_true_eq_false, not_false_eq_true, Int.reduceTDiv, Int.reduceTMod, if_pos, if_neg, e11, hb]
          exact GOF
    rw [E52]
    by_cases c0 : rest = 0 ∧ tick - s 0 < st.1
    · simp (disch := first | assumption | exact isL_i | exact isL_r | exact isL_n | exact i01a | exact i01b | omega) only [K52_0, K52_1, K52_4, K52_6, K52_7, K52_10, K52_11, K52_12, K52_13, K52_14, K52_17, K52_20, K52_21, K52_23, K52_24, K52_27, K52_28, K52_29, K52_30, K52_33, K52_34, g1, g2, g3, g11, g12, g15, g16, g18, wr_id, td_e, tm_e, pu_n, pu_s, up_s, up_k, up_a, ↓reduceIte, Int.reduceLT, Int.reduceLE, Int.reduceEq, Int.reduceNeg, Int.reduceAdd, Int.reduceSub, Int.reduceMul, Int.reduceMod, Int.reduceDiv, Int.cast_ofNat_Int, not_true_eq_false, not_false_eq_true, Int.reduceTDiv, Int.reduceTMod, if_pos, if_neg, e47, h17]
      refine m_ord_cp hG (by omega) isL_i k.toNat _ 0 (by omega) (by omega) fun m2 h2 hs2 x5 r5 => ?_
      simp (disch := first | assumption | exact isL_i | exact isL_r | exact isL_n | exact i01a | exact i01b | omega) only [K52_62, K52_63, g1, g2, g3, g11, g12, g15, g16, g18, wr_id, td_e, tm_e, pu_n, pu_s, up_s, up_k, up_a, ↓reduceIte, Int.reduceLT, Int.reduceLE, Int.reduceEq, Int.reduceNeg, Int.reduceAdd, Int.reduceSub, Int.reduceMul, Int.reduceMod, Int.reduceDiv, Int.cast_ofNat_Int, not_true_eq_false, not_false_eq_true, Int.reduceTDiv, Int.reduceTMod, if_pos, if_neg]
      have hup : ∀ a : Nat, ¬ a = 53 → m2 a = up mi 46 17 (tick - s 0) a := fun a ha => hs2 a (by simpa using ha)
      refine LP (s 11).toNat m2 0 (tick - s 0, fun i => if 0 ≤ i ∧ i < k then od i else st.2 i) none isL_n (by omega) (by omega) (by rw [hup 47 (by decide), up_a (by decide)]; exact h47) (by rw [hup 46 (by decide), up_k (by decide)]; exact h5) (by rw [hup 46 (by decide), up_s]) ?_ (fun j hj => by rw [hup 46 (by decide), up_k hj]) (fun i i0 i1 => by rw [hup 52 (by decide), up_a (by decide)]; exact h52 i i0 i1) ((Sc.rf.u (by decide)).tr (hs2.wk (by decide))) ?_
      · funext j
        rw [h2 j, up_a (by decide), up_a (by decide)]
        dsimp only
        by_cases hj : 0 ≤ j ∧ j < k
        · rw [if_pos hj, if_pos hj]; exact h52 j hj.1 hj.2
        · rw [if_neg hj, if_neg hj, h53]
      · simp only [orF]
        rw [if_pos c0]
    · have LP0 := LP (s 11).toNat mi 0 st none isL_n (by omega) (by omega) h47 h5 h17 h53 (fun _ _ => rfl) h52 Sc.rf (by simp only [orF]; rw [if_neg c0])
      by_cases c1 : rest = 0
      · have c2 : ¬ tick - s 0 < st.1 := fun h => c0 ⟨c1, h⟩
        simp (disch := first | assumption | exact isL_i | exact isL_r | exact isL_n | exact i01a | exact i01b | omega) only [K52_0, K52_1, K52_4, K52_6, K52_7, K52_10, K52_11, K52_12, K52_13, K52_14, K52_17, K52_20, K52_21, K52_23, K52_24, K52_27, K52_28, K52_29, K52_30, K52_33, K52_34, K52_62, K52_63, g1, g2, g3, g11, g12, g15, g16, g18, wr_id, td_e, tm_e, pu_n, pu_s, up_s, up_k, up_a, ↓reduceIte, Int.reduceLT, Int.reduceLE, Int.reduceEq, Int.reduceNeg, Int.reduceAdd, Int.reduceSub, Int.reduceMul, Int.reduceMod, Int.reduceDiv, Int.cast_ofNat_Int, not_true_eq_false, not_false_eq_true, Int.reduceTDiv, Int.reduceTMod, if_pos, if_neg, e47, h17]
        exact LP0
      · simp (disch := first | assumption | exact isL_i | exact isL_r | exact isL_n | exact i01a | exact i01b | omega) only [K52_0, K52_1, K52_4, K52_6, K52_7, K52_10, K52_11, K52_12, K52_13, K52_14, K52_17, K52_20, K52_21, K52_23, K52_24, K52_27, K52_28, K52_29, K52_30, K52_33, K52_34, K52_62, K52_63, g1, g2, g3, g11, g12, g15, g16, g18, wr_id, td_e, tm_e, pu_n, pu_s, up_s, up_k, up_a, ↓reduceIte, Int.reduceLT, Int.reduceLE, Int.reduceEq, Int.reduceNeg, Int.reduceAdd, Int.reduceSub, Int.reduceMul, Int.reduceMod, Int.reduceDiv, Int.cast_ofNat_Int, not_true_eq_false, not_false_eq_true, Int.reduceTDiv, Int.reduceTMod, if_pos, if_neg, e47, h17]
        exact LP0
end MO
