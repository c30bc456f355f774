/-! ===== the class: order ===== -/
theorem lpI_id {α : Type} {g : Int → α → α} {q : α} (h : ∀ p : Int, g p q = q) : ∀ (c : Nat) (p : Int), lpI g c p q = q := by
  intro c
  induction c with
  | zero => intro p; rfl
  | succ c ih => intro p; simp only [lpI]; rw [h p]; exact ih (p + 1)
theorem orF_pr {s : Int → Int} {hz : Int} : ∀ (f : Nat) (k rest ce tick : Int) (od : Int → Int) (q : Int × (Int → Int)), q.1 ≤ tick - s 0 → orF s hz f k rest ce tick od q = q := by
  intro f
  induction f with
  | zero => intro k rest ce tick od q h; rfl
  | succ f ih =>
    intro k rest ce tick od q h
    simp only [orF]
    rw [if_neg (show ¬ (rest = 0 ∧ tick - s 0 < q.1) by omega)]
    refine lpI_id (fun p => ?_) _ _
    by_cases c : bt rest p = 1 ∧ ¬ soonF s hz p ce tick 40 1 = 1000000000
    · rw [if_pos c]
      refine ih _ _ _ _ _ _ ?_
      have := soonF_bd (s := s) (hz := hz) (p := p) (cell := ce) (tick := tick) 40 1
      omega
    · rw [if_neg c]
def OR (M : Int) (q : Int × (Int → Int)) (mi : Mi) : Prop := (q.1 = 1000000000 ∧ mi 39 9 = 241 ∧ mi 39 8 = 0) ∨ ((q.1 = mi 39 9 ∧ q.1 ≤ 240 ∧ mi 39 8 = M) ∧ ∀ i : Int, 0 ≤ i → i < M → mi 45 i = q.2 i)
section CL
variable {d : Nat} {G : Gh} {mi : Mi} {K : Option PV → Gh → Mi → Prop} {o o' T : Nat} {s s' : Int → Int} {p t v w a b c k n g q x lim hm pc ah ce u l hz y : Int} {L : List Int}
theorem c_things (hC : ShC G) (hW : WfA s) {M : Int} (hM : M ≤ 6) : ∀ (f d : Nat) (mi : Mi) (k rest ce ticks : Int) (od : Int → Int) (st : Int × (Int → Int)) (K : Option PV → Gh → Mi → Prop),
    k + f = 7 → 0 ≤ k → k + pcn rest = M → 0 ≤ rest → rest < 64 → 0 ≤ ce → ce ≤ 23 → 0 ≤ ticks → ticks ≤ 40 * k → RS 1 s G mi → OR M st mi → ticks < mi 39 9 → (∀ i : Int, 0 ≤ i → i < k → mi 44 i = od i) →
    (∀ m2, OR M (orF s (hazF s) f k rest ce (s 0 + ticks) od st) m2 → (∀ i : Int, 0 ≤ i → i < k → m2 44 i = od i) → Sc [39, 44, 45] mi m2 → K none G m2) →
    OkC (d + f + 5) 156 [pR (some 39), pI k, pI rest, pI ce, pI ticks] G mi K := by
  obtain ⟨⟨⟨k1, k2, k3, l3, k9, l9, k10, l10, k11, l11⟩, ⟨k12, k13, l13, k14, k15, l15, k16, k17, l17, k18, l18⟩, ⟨r10, r14, r15, r16, r113, r114, r115, r116, r22, r122, r142, r162⟩⟩, -, ⟨⟨k0, r00, r01, r02, r03⟩, ⟨k37, r372, k38, l38⟩, ⟨k39, r390, r391, r392, r393, r394, r396, r397⟩, ⟨k40, l40, k41, l41, k42, l42, k43, l43, k44, l44, k45, l45⟩⟩⟩ := id hC
  obtain ⟨⟨⟨z0, z1, z8, z9, z10, z11, z12, z13, z14, z15, z16⟩, hh01, hT, hz17⟩, hWV, hWD, hWB, hWP, hWT, hWZ, hWF, hWK⟩ := id hW
  have k44' : 20 ≤ (gK G 44).1 := by omega
  intro f
  induction f with
  | zero =>
    intro d mi k rest ce ticks od st K hkf hk hpc hr hr' hc hc' ht ht' hR hO hlt h44 hK
    exfalso
    have := (b_bt hr hr' (p := 0) (by decide) (by decide)).2.2.1
    omega
  | succ f ih =>
    intro d mi k rest ce ticks od st K hkf hk hpc hr hr' hc hc' ht ht' hR hO hlt h44 hK
    have hpc0 := (b_bt hr hr' (p := 0) (by decide) (by decide)).2.2.1
    by_cases hr0 : rest = 0
    · -- all are placed
      have hp0 : pcn rest = 0 := by rw [hr0]; decide
      have hkM : k = M := by omega
      have hq : orF s (hazF s) (f + 1) k rest ce (s 0 + ticks) od st = (ticks, fun i => if 0 ≤ i ∧ i < k then od i else st.2 i) := by
        simp only [orF]
        have hls : s 0 + ticks - s 0 < st.1 := by
          rcases hO with ⟨e1, e2, -⟩ | ⟨⟨e1, e2, -⟩, -⟩ <;> omega
        rw [if_pos ⟨hr0, hls⟩, show s 0 + ticks - s 0 = ticks by omega]
        refine lpI_id (fun p => ?_) _ _
        rw [if_neg]
        rintro ⟨h, -⟩
        rw [hr0] at h
        have hz0 : bt 0 p = 0 := by unfold bt; rw [Int.zero_ediv]; rfl
        rw [hz0] at h
        exact absurd h (by decide)
      rw [hq] at hK
      rw [E156]
      simp (disch := first | assumption | exact isL_i | exact isL_r | exact isL_n | exact i01a | exact i01b | omega) only [K156_0, K156_1, K156_4, K156_5, K156_8, K156_9, K156_12, K156_15, K156_16, K156_18, K156_21, K156_22, K156_23, K156_26, K156_27, K156_30, K156_31, r10, r14, r15, r16, r113, r114, r115, r116, r22, r122, r142, r162, r00, r01, r02, r03, r372, r390, r391, r392, r393, r394, r396, r397, wr_id, td_e, tm_e, pu_n, pu_s, up_s, up_k, up_a, ↓reduceIte, Int.reduceLT, Int.reduceLE, Int.reduceEq, Int.reduceNeg, Int.reduceAdd, Int.reduceSub, Int.reduceMul, Int.reduceMod, Int.reduceDiv, Int.cast_ofNat_Int, not_true_eq_false, not_false_eq_true, Int.reduceTDiv, Int.reduceTMod, if_pos, if_neg]
      rw [K156_34, c_copy (N := 6) k44 k45 (by decide) l44 l45]
      simp (disch := first | assumption | exact isL_i | exact isL_r | exact isL_n | exact i01a | exact i01b | omega) only [K156_37, wr_id, td_e, tm_e, pu_n, pu_s, up_s, up_k, up_a, ↓reduceIte, Int.reduceLT, Int.reduceLE, Int.reduceEq, Int.reduceNeg, Int.reduceAdd, Int.reduceSub, Int.reduceMul, Int.reduceMod, Int.reduceDiv, Int.cast_ofNat_Int, not_true_eq_false, not_false_eq_true, Int.reduceTDiv, Int.reduceTMod]
      refine hK _ (Or.inr ⟨⟨?_, ?_, ?_⟩, fun i i0 i1 => ?_⟩) (fun i i0 i1 => ?_) ((((Sc.rf.u (by decide)).u (by decide)).tr (Sc.cpy (by decide))))
      · rw [cpy_o (by decide), up_k (by decide), up_s]
      · dsimp only; omega
      · rw [cpy_o (by decide), up_s]; exact hkM
      · rw [cpy_i i0 (by omega), up_a (by decide), up_a (by decide)]
        dsimp only
        rw [if_pos ⟨i0, by omega⟩]
        exact h44 i i0 (by omega)
      · rw [cpy_o (by decide), up_a (by decide), up_a (by decide)]; exact h44 i i0 i1
    · have hk5 : k < 6 := by
        have hb := (b_bt hr hr' (p := 0) (by decide) (by decide)).2.1
        by_cases e : pcn rest = 0
        · exact absurd (hb e) hr0
        · omega
      have LP : ∀ (c : Nat) (m1 : Mi) (p : Int) (q : Int × (Int → Int)) (x6 x7 x8 : Option PV), isL x6 = false → isL x7 = false → isL x8 = false → p + c = s 11 → 0 ≤ p → RS 1 s G m1 → OR M q m1 → (∀ i : Int, 0 ≤ i → i < k → m1 44 i = od i) → Sc [39, 44, 45] mi m1 →
          lpI (fun p q => if bt rest p = 1 ∧ ¬ soonF s (hazF s) p ce (s 0 + ticks) 40 1 = 1000000000 then orF s (hazF s) f (k + 1) (clr rest p) (atF s p (s 0 + ticks + soonF s (hazF s) p ce (s 0 + ticks) 40 1)) (s 0 + ticks + soonF s (hazF s) p ce (s 0 + ticks) 40 1) (fun i => if i = k then p else od i) q else q) c p q = orF s (hazF s) (f + 1) k rest ce (s 0 + ticks) od st →
          Ok (d + (f + 1) + 5) 156 41 [some (pR (some 39)), some (pI k), some (pI rest), some (pI ce), some (pI ticks), some (pI p), x6, x7, x8] [] G m1 K := by
        intro c
        induction c with
        | zero =>
          intro m1 p q x6 x7 x8 r6 r7 r8 hp hp0 hR1 hO1 h1 hs1 hq
          obtain ⟨⟨-, a3, -⟩, -⟩ := hR1.o
          rw [K156_41]
          simp (disch := first | assumption | exact isL_i | exact isL_r | exact isL_n | exact i01a | exact i01b | omega) only [K156_43, K156_44, K156_47, K156_50, K156_161, r10, r14, r15, r16, r113, r114, r115, r116, r22, r122, r142, r162, r00, r01, r02, r03, r372, r390, r391, r392, r393, r394, r396, r397, wr_id, td_e, tm_e, pu_n, pu_s, up_s, up_k, up_a, ↓reduceIte, Int.reduceLT, Int.reduceLE, Int.reduceEq, Int.reduceNeg, Int.reduceAdd, Int.reduceSub, Int.reduceMul, Int.reduceMod, Int.reduceDiv, Int.cast_ofNat_Int, not_true_eq_false, not_false_eq_true, Int.reduceTDiv, Int.reduceTMod, a3, if_pos, if_neg]
          exact hK m1 (by rw [← hq]; exact hO1) h1 hs1
        | succ c ihc =>
          intro m1 p q x6 x7 x8 r6 r7 r8 hp hp0 hR1 hO1 h1 hs1 hq
          obtain ⟨⟨-, a3, -, a8, -⟩, -⟩ := hR1.o
          have hp6 : p < 6 := by omega
          have hpT : isT s p := ⟨hp0, by omega⟩
          obtain ⟨T, g1, g2, hTh⟩ := hR1.2.1 p hpT.1 hpT.2
          have g1 : gR G 9 p = some T := g1
          have hbt := (b_bt hr hr' hp0 hp6).1
          have hget := b_get hr hr' hp0 hp6
          simp only [lpI] at hq
          rw [K156_41]
          by_cases hb : bt rest p = 1
          · have hsn := soonF_bd (s := s) (hz := hazF s) (p := p) (cell := ce) (tick := s 0 + ticks) 40 1
            by_cases hfar : soonF s (hazF s) p ce (s 0 + ticks) 40 1 = 1000000000
            · rw [if_neg (fun h => h.2 hfar)] at hq
              have e5 : sn5 (soonF s (hazF s) p ce (s 0 + ticks) 40 1) = -5 := by unfold sn5; rw [if_pos hfar]
              simp (disch := first | assumption | exact isL_i | exact isL_r | exact isL_n | exact i01a | exact i01b | omega) only [K156_43, K156_44, K156_47, K156_50, K156_53, K156_54, K156_57, K156_59, K156_62, K156_64, K156_66, K156_66n, K156_69, K156_70, K156_72, K156_73, K156_74, K156_75, K156_76, K156_79, K156_80, K156_82, K156_83, r10, r14, r15, r16, r113, r114, r115, r116, r22, r122, r142, r162, r00, r01, r02, r03, r372, r390, r391, r392, r393, r394, r396, r397, wr_id, td_e, tm_e, pu_n, pu_s, up_s, up_k, up_a, ↓reduceIte, Int.reduceLT, Int.reduceLE, Int.reduceEq, Int.reduceNeg, Int.reduceAdd, Int.reduceSub, Int.reduceMul, Int.reduceMod, Int.reduceDiv, Int.cast_ofNat_Int, not_true_eq_false, not_false_eq_true, Int.reduceTDiv, Int.reduceTMod, a3, c_find hC hR1 z11.2, if_pos hpT, g1, reduceCtorEq, hget, hb, if_pos, if_neg]
              rw [K156_85 k39, c_soonFrom hC hR1 hW hpT.1 hpT.2 hTh hc hc' ht (by omega), e5]
              simp (disch := first | assumption | exact isL_i | exact isL_r | exact isL_n | exact i01a | exact i01b | omega) only [K156_88, K156_90, K156_92, K156_94, K156_95, K156_97, K156_99, K156_155, K156_158, wr_id, td_e, tm_e, pu_n, pu_s, up_s, up_k, up_a, ↓reduceIte, Int.reduceLT, Int.reduceLE, Int.reduceEq, Int.reduceNeg, Int.reduceAdd, Int.reduceSub, Int.reduceMul, Int.reduceMod, Int.reduceDiv, Int.cast_ofNat_Int, not_true_eq_false, not_false_eq_true, Int.reduceTDiv, Int.reduceTMod, if_pos, if_neg]
              exact ihc m1 (p + 1) q _ _ _ isL_r isL_i isL_i (by omega) (by omega) hR1 hO1 h1 hs1 hq
            · have hsn : 1 ≤ soonF s (hazF s) p ce (s 0 + ticks) 40 1 ∧ soonF s (hazF s) p ce (s 0 + ticks) 40 1 < 1 + 40 := hsn.resolve_left hfar
              rw [if_pos ⟨hb, hfar⟩] at hq
              have e5 : sn5 (soonF s (hazF s) p ce (s 0 + ticks) 40 1) = soonF s (hazF s) p ce (s 0 + ticks) 40 1 := by unfold sn5; rw [if_neg hfar]
              obtain ⟨cl1, cl2, cl3, cl4⟩ := b_clr hr hr' hp0 hp6
              obtain ⟨f1, f2⟩ := atF_wf hT (t := s 0 + (ticks + soonF s (hazF s) p ce (s 0 + ticks) 40 1)) hp0 hp6
              have etick : s 0 + ticks + soonF s (hazF s) p ce (s 0 + ticks) 40 1 = s 0 + (ticks + soonF s (hazF s) p ce (s 0 + ticks) 40 1) := by omega
              simp (disch := first | assumption | exact isL_i | exact isL_r | exact isL_n | exact i01a | exact i01b | omega) only [K156_43, K156_44, K156_47, K156_50, K156_53, K156_54, K156_57, K156_59, K156_62, K156_64, K156_66, K156_66n, K156_69, K156_70, K156_72, K156_73, K156_74, K156_75, K156_76, K156_79, K156_80, K156_82, K156_83, r10, r14, r15, r16, r113, r114, r115, r116, r22, r122, r142, r162, r00, r01, r02, r03, r372, r390, r391, r392, r393, r394, r396, r397, wr_id, td_e, tm_e, pu_n, pu_s, up_s, up_k, up_a, ↓reduceIte, Int.reduceLT, Int.reduceLE, Int.reduceEq, Int.reduceNeg, Int.reduceAdd, Int.reduceSub, Int.reduceMul, Int.reduceMod, Int.reduceDiv, Int.cast_ofNat_Int, not_true_eq_false, not_false_eq_true, Int.reduceTDiv, Int.reduceTMod, a3, c_find hC hR1 z11.2, if_pos hpT, g1, reduceCtorEq, hget, hb, if_pos, if_neg]
              rw [K156_85 k39, c_soonFrom hC hR1 hW hpT.1 hpT.2 hTh hc hc' ht (by omega), e5]
              by_cases hlt2 : ticks + soonF s (hazF s) p ce (s 0 + ticks) 40 1 < m1 39 9
              · have hR2 : RS 1 s G (up m1 44 k p) := hR1.q (sc_up (by decide))
                have hTh2 : RTh G (up m1 44 k p) T (s (18 + p)) p (s (24 + p)) := by
                  obtain ⟨y1, y2, y3, y4, y5⟩ := hTh
                  exact ⟨y1, by rw [up_a (by omega)]; exact y2, by rw [up_a (by omega)]; exact y3, by rw [up_a (by omega)]; exact y4, y5⟩
                simp (disch := first | assumption | exact isL_i | exact isL_r | exact isL_n | exact i01a | exact i01b | omega) only [K156_88, K156_90, K156_92, K156_94, K156_95, K156_97, K156_99, K156_102, K156_104, K156_105, K156_108, K156_111, K156_112, K156_115, K156_116, K156_118, K156_119, K156_120, K156_121, K156_122, K156_123, K156_124, K156_125, K156_127, K156_128, K156_129, K156_130, K156_131, K156_132, K156_135, K156_137, K156_138, K156_141, K156_144, K156_146, r10, r14, r15, r16, r113, r114, r115, r116, r22, r122, r142, r162, r00, r01, r02, r03, r372, r390, r391, r392, r393, r394, r396, r397, wr_id, td_e, tm_e, pu_n, pu_s, up_s, up_k, up_a, ↓reduceIte, Int.reduceLT, Int.reduceLE, Int.reduceEq, Int.reduceNeg, Int.reduceAdd, Int.reduceSub, Int.reduceMul, Int.reduceMod, Int.reduceDiv, Int.cast_ofNat_Int, not_true_eq_false, not_false_eq_true, Int.reduceTDiv, Int.reduceTMod, l44, cl1, a8, if_pos, if_neg]
                rw [K156_147 k1, c_cellOn hC hR2 hT z11.2 hpT.1 hpT.2 hTh2 (by omega) (by omega)]
                simp (disch := first | assumption | exact isL_i | exact isL_r | exact isL_n | exact i01a | exact i01b | omega) only [K156_150, wr_id, td_e, tm_e, pu_n, pu_s, up_s, up_k, up_a, ↓reduceIte, Int.reduceLT, Int.reduceLE, Int.reduceEq, Int.reduceNeg, Int.reduceAdd, Int.reduceSub, Int.reduceMul, Int.reduceMod, Int.reduceDiv, Int.cast_ofNat_Int, not_true_eq_false, not_false_eq_true, Int.reduceTDiv, Int.reduceTMod]
                rw [K156_152 k39]
                refine ih d (up m1 44 k p) (k + 1) (clr rest p) (atF s p (s 0 + (ticks + soonF s (hazF s) p ce (s 0 + ticks) 40 1))) (ticks + soonF s (hazF s) p ce (s 0 + ticks) 40 1) (fun i => if i = k then p else od i) q _ (by omega) (by omega) (by have := cl4 hb; omega) cl2 cl3 f1 f2 (by omega) (by omega) hR2 ?_ (by rw [up_a (by decide)]; exact hlt2) (fun i i0 i1 => ?_) fun m2 g1 g2 g3 => ?_
                · unfold OR
                  rw [up_a (by decide), up_a (by decide)]
                  exact hO1
                · by_cases e : i = k
                  · rw [e, up_s, if_pos rfl]
                  · rw [up_k e, if_neg e]; exact h1 i i0 (by omega)
                · simp (disch := first | assumption | exact isL_i | exact isL_r | exact isL_n | exact i01a | exact i01b | omega) only [K156_155, K156_158, wr_id, td_e, tm_e, pu_n, pu_s, up_s, up_k, up_a, ↓reduceIte, Int.reduceLT, Int.reduceLE, Int.reduceEq, Int.reduceNeg, Int.reduceAdd, Int.reduceSub, Int.reduceMul, Int.reduceMod, Int.reduceDiv, Int.cast_ofNat_Int, not_true_eq_false, not_false_eq_true, Int.reduceTDiv, Int.reduceTMod]
                  refine ihc m2 (p + 1) _ _ _ _ isL_r isL_i isL_i (by omega) (by omega) (hR2.q (g3.wk (by decide))) g1 (fun i i0 i1 => ?_) ((hs1.tr (sc_up (by decide))).tr g3) ?_
                  · have := g2 i i0 (by omega)
                    rw [if_neg (by omega)] at this
                    exact this
                  · rw [← etick]; exact hq
              · have hpr : orF s (hazF s) f (k + 1) (clr rest p) (atF s p (s 0 + ticks + soonF s (hazF s) p ce (s 0 + ticks) 40 1)) (s 0 + ticks + soonF s (hazF s) p ce (s 0 + ticks) 40 1) (fun i => if i = k then p else od i) q = q := by
                  refine orF_pr _ _ _ _ _ _ _ ?_
                  rcases hO1 with ⟨y1, y2, -⟩ | ⟨⟨y1, y2, -⟩, -⟩
                  · omega
                  · omega
                rw [hpr] at hq
                simp (disch := first | assumption | exact isL_i | exact isL_r | exact isL_n | exact i01a | exact i01b | omega) only [K156_88, K156_90, K156_92, K156_94, K156_95, K156_97, K156_99, K156_102, K156_104, K156_105, K156_108, K156_155, K156_158, r10, r14, r15, r16, r113, r114, r115, r116, r22, r122, r142, r162, r00, r01, r02, r03, r372, r390, r391, r392, r393, r394, r396, r397, wr_id, td_e, tm_e, pu_n, pu_s, up_s, up_k, up_a, ↓reduceIte, Int.reduceLT, Int.reduceLE, Int.reduceEq, Int.reduceNeg, Int.reduceAdd, Int.reduceSub, Int.reduceMul, Int.reduceMod, Int.reduceDiv, Int.cast_ofNat_Int, not_true_eq_false, not_false_eq_true, Int.reduceTDiv, Int.reduceTMod, if_pos, if_neg]
                exact ihc m1 (p + 1) q _ _ _ isL_r isL_i isL_i (by omega) (by omega) hR1 hO1 h1 hs1 hq
          · have hb0 : bt rest p = 0 := by omega
            rw [if_neg (fun h => hb h.1)] at hq
            simp (disch := first | assumption | exact isL_i | exact isL_r | exact isL_n | exact i01a | exact i01b | omega) only [K156_43, K156_44, K156_47, K156_50, K156_53, K156_54, K156_57, K156_59, K156_62, K156_64, K156_66, K156_66n, K156_69, K156_70, K156_72, K156_73, K156_74, K156_75, K156_76, K156_155, K156_158, r10, r14, r15, r16, r113, r114, r115, r116, r22, r122, r142, r162, r00, r01, r02, r03, r372, r390, r391, r392, r393, r394, r396, r397, wr_id, td_e, tm_e, pu_n, pu_s, up_s, up_k, up_a, ↓reduceIte, Int.reduceLT, Int.reduceLE, Int.reduceEq, Int.reduceNeg, Int.reduceAdd, Int.reduceSub, Int.reduceMul, Int.reduceMod, Int.reduceDiv, Int.cast_ofNat_Int, not_true_eq_false, not_false_eq_true, Int.reduceTDiv, Int.reduceTMod, a3, c_find hC hR1 z11.2, if_pos hpT, g1, reduceCtorEq, hget, hb0, if_pos, if_neg]
            exact ihc m1 (p + 1) q _ _ _ isL_r r7 r8 (by omega) (by omega) hR1 hO1 h1 hs1 hq
      rw [E156]
      simp (disch := first | assumption | exact isL_i | exact isL_r | exact isL_n | exact i01a | exact i01b | omega) only [K156_0, K156_1, K156_4, K156_5, K156_8, K156_9, K156_12, K156_38, K156_39, r10, r14, r15, r16, r113, r114, r115, r116, r22, r122, r142, r162, r00, r01, r02, r03, r372, r390, r391, r392, r393, r394, r396, r397, wr_id, td_e, tm_e, pu_n, pu_s, up_s, up_k, up_a, ↓reduceIte, Int.reduceLT, Int.reduceLE, Int.reduceEq, Int.reduceNeg, Int.reduceAdd, Int.reduceSub, Int.reduceMul, Int.reduceMod, Int.reduceDiv, Int.cast_ofNat_Int, not_true_eq_false, not_false_eq_true, Int.reduceTDiv, Int.reduceTMod, c_isIn, l44, if_pos, if_neg]
      refine LP (s 11).toNat mi 0 st none none none isL_n isL_n isL_n (by omega) (by decide) hR hO h44 Sc.rf ?_
      simp only [orF]
      rw [if_neg (fun h : rest = 0 ∧ s 0 + ticks - s 0 < st.1 => hr0 h.1)]
theorem c_order {bo : Int → Int} (hC : ShC G) (hR : RS 1 s G mi) (hW : WfA s) (hK : ∀ mi', RS 1 s G mi' → Sc kL mi mi' → K (some (pI (oOrder s (ordB s bo) k))) G mi') : OkC (d + 14) 175 [pR (some 0), pI k] G mi K := by
  obtain ⟨⟨⟨k1, k2, k3, l3, k9, l9, k10, l10, k11, l11⟩, ⟨k12, k13, l13, k14, k15, l15, k16, k17, l17, k18, l18⟩, ⟨r10, r14, r15, r16, r113, r114, r115, r116, r22, r122, r142, r162⟩⟩, -, ⟨⟨k0, r00, r01, r02, r03⟩, ⟨k37, r372, k38, l38⟩, ⟨k39, r390, r391, r392, r393, r394, r396, r397⟩, ⟨k40, l40, k41, l41, k42, l42, k43, l43, k44, l44, k45, l45⟩⟩⟩ := id hC
  obtain ⟨⟨n2, n3, n7, n8, n9, n10, n11, n12⟩, ⟨hm1, hm2⟩, ⟨⟨t0, t1, t3⟩, ht4⟩, ⟨⟨u0, u1, u3⟩, hu4⟩, ⟨⟨p0, p1, p3⟩, hp4⟩, ⟨⟨b0, b1, b3⟩, hb4⟩⟩ := hR.o
  obtain ⟨⟨⟨z0, z1, z8, z9, z10, z11, z12, z13, z14, z15, z16⟩, hh01, hT, hz17⟩, hWV, hWD, hWB, hWP, hWT, hWZ, hWF, hWK⟩ := id hW
  have hm := mskF_bd z11.1 z11.2 hh01
  have hs := shl_p2 z11.1 z11.2
  have k45' : 20 ≤ (gK G 45).1 := by omega
  have ean : iAnd (p2 (s 11) - 1) (iXor (hadB s) (-1)) = mskF s := rfl
  have hM6 := (b_bt hm.1 hm.2 (p := 0) (by decide) (by decide)).2.2.2.1
  have hM0 := (b_bt hm.1 hm.2 (p := 0) (by decide) (by decide)).2.2.1
  rw [E175]
  unfold oOrder at hK
  by_cases hk : -1 ≤ k ∧ k ≤ 5
  · rw [if_pos hk] at hK
    simp (disch := first | assumption | exact isL_i | exact isL_r | exact isL_n | exact i01a | exact i01b | omega) only [K175_0, K175_1, K175_2, K175_3, K175_6, K175_9, K175_10, K175_11, K175_12, r10, r14, r15, r16, r113, r114, r115, r116, r22, r122, r142, r162, r00, r01, r02, r03, r372, r390, r391, r392, r393, r394, r396, r397, wr_id, td_e, tm_e, pu_n, pu_s, up_s, up_k, up_a, ↓reduceIte, Int.reduceLT, Int.reduceLE, Int.reduceEq, Int.reduceNeg, Int.reduceAdd, Int.reduceSub, Int.reduceMul, Int.reduceMod, Int.reduceDiv, Int.cast_ofNat_Int, not_true_eq_false, not_false_eq_true, Int.reduceTDiv, Int.reduceTMod, c_within, if_pos, if_neg]
    rw [K175_15 k39, E155]
    simp (disch := first | assumption | exact isL_i | exact isL_r | exact isL_n | exact i01a | exact i01b | omega) only [K155_0, K155_1, K155_4, K155_7, K155_8, K155_9, K155_12, K155_13, K155_14, K155_17, K155_20, K155_21, K155_22, K155_23, K155_24, K155_27, K155_30, K155_31, K155_32, K155_33, K155_34, K155_35, K155_36, K155_37, K155_38, K155_41, K155_44, r10, r14, r15, r16, r113, r114, r115, r116, r22, r122, r142, r162, r00, r01, r02, r03, r372, r390, r391, r392, r393, r394, r396, r397, n2, n3, n7, n8, n9, n10, n11, n12, t0, t1, t3, u0, u1, u3, p0, p1, p3, b0, b1, b3, wr_id, td_e, tm_e, pu_n, pu_s, up_s, up_k, up_a, ↓reduceIte, Int.reduceLT, Int.reduceLE, Int.reduceEq, Int.reduceNeg, Int.reduceAdd, Int.reduceSub, Int.reduceMul, Int.reduceMod, Int.reduceDiv, Int.cast_ofNat_Int, not_true_eq_false, not_false_eq_true, Int.reduceTDiv, Int.reduceTMod, hs.1, ean]
    rw [K155_45 k39]
    refine c_things hC hW hM6 7 d (up (up mi 39 9 241) 39 8 0) 0 (mskF s) (s 1) 0 bo (1000000000, bo) _ (by decide) (by decide) (by omega) hm.1 hm.2 z1.1 z1.2 (by decide) (by decide) (hR.q ((sc_up (by decide)).u (by decide))) (Or.inl ⟨rfl, by rw [up_k (by decide), up_s], up_s⟩) (by rw [up_k (by decide), up_s]; decide) (fun i i0 i1 => by omega) fun m2 g1 g2 g3 => ?_
    rw [Int.add_zero] at g1
    have g1 : OR (pcn (mskF s)) (ordB s bo) m2 := g1
    have hsq : Sc qL mi m2 := ((sc_up (by decide)).u (by decide)).tr (g3.wk (by decide))
    have hK := hK m2 (hR.q hsq) (q_k hsq)
    rcases g1 with ⟨y1, y2, y3⟩ | ⟨⟨y1, y2, y3⟩, y4⟩
    · rw [if_pos y1] at hK
      by_cases c1 : k = -1
      · simp (disch := first | assumption | exact isL_i | exact isL_r | exact isL_n | exact i01a | exact i01b | omega) only [K155_48, K155_49, K155_52, K155_55, K155_58, K155_59, K155_62, K155_65, K155_67, K175_18, K175_19, K175_20, K175_23, K175_24, K175_27, K175_28, K175_31, K175_32, K175_35, r10, r14, r15, r16, r113, r114, r115, r116, r22, r122, r142, r162, r00, r01, r02, r03, r372, r390, r391, r392, r393, r394, r396, r397, wr_id, td_e, tm_e, pu_n, pu_s, up_s, up_k, up_a, ↓reduceIte, Int.reduceLT, Int.reduceLE, Int.reduceEq, Int.reduceNeg, Int.reduceAdd, Int.reduceSub, Int.reduceMul, Int.reduceMod, Int.reduceDiv, Int.cast_ofNat_Int, not_true_eq_false, not_false_eq_true, Int.reduceTDiv, Int.reduceTMod, y2, if_pos, if_neg]
        exact hK
      · simp (disch := first | assumption | exact isL_i | exact isL_r | exact isL_n | exact i01a | exact i01b | omega) only [K155_48, K155_49, K155_52, K155_55, K155_58, K155_59, K155_62, K155_65, K155_67, K175_18, K175_19, K175_20, K175_23, K175_24, K175_27, K175_28, K175_31, r10, r14, r15, r16, r113, r114, r115, r116, r22, r122, r142, r162, r00, r01, r02, r03, r372, r390, r391, r392, r393, r394, r396, r397, wr_id, td_e, tm_e, pu_n, pu_s, up_s, up_k, up_a, ↓reduceIte, Int.reduceLT, Int.reduceLE, Int.reduceEq, Int.reduceNeg, Int.reduceAdd, Int.reduceSub, Int.reduceMul, Int.reduceMod, Int.reduceDiv, Int.cast_ofNat_Int, not_true_eq_false, not_false_eq_true, Int.reduceTDiv, Int.reduceTMod, y2, if_pos, if_neg]
        rw [K175_32 k39, E157]
        simp (disch := first | assumption | exact isL_i | exact isL_r | exact isL_n | exact i01a | exact i01b | omega) only [K157_0, K157_1, K157_2, K157_5, K157_8, K157_9, K157_12, K157_13, K157_16, K157_19, K157_20, K157_23, K157_24, K157_25, K157_28, K157_30, K175_35, r10, r14, r15, r16, r113, r114, r115, r116, r22, r122, r142, r162, r00, r01, r02, r03, r372, r390, r391, r392, r393, r394, r396, r397, wr_id, td_e, tm_e, pu_n, pu_s, up_s, up_k, up_a, ↓reduceIte, Int.reduceLT, Int.reduceLE, Int.reduceEq, Int.reduceNeg, Int.reduceAdd, Int.reduceSub, Int.reduceMul, Int.reduceMod, Int.reduceDiv, Int.cast_ofNat_Int, not_true_eq_false, not_false_eq_true, Int.reduceTDiv, Int.reduceTMod, y3, if_pos, if_neg]
        exact hK
    · rw [if_neg (by omega)] at hK
      by_cases c1 : k = -1
      · rw [if_pos c1, y1] at hK
        simp (disch := first | assumption | exact isL_i | exact isL_r | exact isL_n | exact i01a | exact i01b | omega) only [K155_48, K155_49, K155_52, K155_55, K155_58, K155_59, K155_62, K155_65, K155_67, K175_18, K175_19, K175_20, K175_23, K175_24, K175_27, K175_28, K175_31, K175_32, K175_35, r10, r14, r15, r16, r113, r114, r115, r116, r22, r122, r142, r162, r00, r01, r02, r03, r372, r390, r391, r392, r393, r394, r396, r397, wr_id, td_e, tm_e, pu_n, pu_s, up_s, up_k, up_a, ↓reduceIte, Int.reduceLT, Int.reduceLE, Int.reduceEq, Int.reduceNeg, Int.reduceAdd, Int.reduceSub, Int.reduceMul, Int.reduceMod, Int.reduceDiv, Int.cast_ofNat_Int, not_true_eq_false, not_false_eq_true, Int.reduceTDiv, Int.reduceTMod, if_pos, if_neg]
        exact hK
      · rw [if_neg c1] at hK
        simp (disch := first | assumption | exact isL_i | exact isL_r | exact isL_n | exact i01a | exact i01b | omega) only [K155_48, K155_49, K155_52, K155_55, K155_58, K155_59, K155_62, K155_65, K155_67, K175_18, K175_19, K175_20, K175_23, K175_24, K175_27, K175_28, K175_31, r10, r14, r15, r16, r113, r114, r115, r116, r22, r122, r142, r162, r00, r01, r02, r03, r372, r390, r391, r392, r393, r394, r396, r397, wr_id, td_e, tm_e, pu_n, pu_s, up_s, up_k, up_a, ↓reduceIte, Int.reduceLT, Int.reduceLE, Int.reduceEq, Int.reduceNeg, Int.reduceAdd, Int.reduceSub, Int.reduceMul, Int.reduceMod, Int.reduceDiv, Int.cast_ofNat_Int, not_true_eq_false, not_false_eq_true, Int.reduceTDiv, Int.reduceTMod, if_pos, if_neg]
        rw [K175_32 k39, E157]
        by_cases c3 : k < pcn (mskF s)
        · rw [if_pos c3] at hK
          have y5 := y4 k (by omega) c3
          simp (disch := first | assumption | exact isL_i | exact isL_r | exact isL_n | exact i01a | exact i01b | omega) only [K157_0, K157_1, K157_2, K157_5, K157_8, K157_9, K157_12, K157_13, K157_16, K157_19, K157_20, K157_23, K157_24, K157_25, K157_28, K157_30, K175_35, r10, r14, r15, r16, r113, r114, r115, r116, r22, r122, r142, r162, r00, r01, r02, r03, r372, r390, r391, r392, r393, r394, r396, r397, wr_id, td_e, tm_e, pu_n, pu_s, up_s, up_k, up_a, ↓reduceIte, Int.reduceLT, Int.reduceLE, Int.reduceEq, Int.reduceNeg, Int.reduceAdd, Int.reduceSub, Int.reduceMul, Int.reduceMod, Int.reduceDiv, Int.cast_ofNat_Int, not_true_eq_false, not_false_eq_true, Int.reduceTDiv, Int.reduceTMod, y3, y5, c_isIn, l45, if_pos, if_neg]
          exact hK
        · rw [if_neg c3] at hK
          simp (disch := first | assumption | exact isL_i | exact isL_r | exact isL_n | exact i01a | exact i01b | omega) only [K157_0, K157_1, K157_2, K157_5, K157_8, K157_9, K157_12, K157_13, K157_16, K157_19, K157_20, K157_23, K157_24, K157_25, K157_28, K157_30, K175_35, r10, r14, r15, r16, r113, r114, r115, r116, r22, r122, r142, r162, r00, r01, r02, r03, r372, r390, r391, r392, r393, r394, r396, r397, wr_id, td_e, tm_e, pu_n, pu_s, up_s, up_k, up_a, ↓reduceIte, Int.reduceLT, Int.reduceLE, Int.reduceEq, Int.reduceNeg, Int.reduceAdd, Int.reduceSub, Int.reduceMul, Int.reduceMod, Int.reduceDiv, Int.cast_ofNat_Int, not_true_eq_false, not_false_eq_true, Int.reduceTDiv, Int.reduceTMod, y3, if_pos, if_neg]
          exact hK
  · rw [if_neg hk] at hK
    simp (disch := first | assumption | exact isL_i | exact isL_r | exact isL_n | exact i01a | exact i01b | omega) only [K175_0, K175_1, K175_2, K175_3, K175_6, K175_9, K175_10, r10, r14, r15, r16, r113, r114, r115, r116, r22, r122, r142, r162, r00, r01, r02, r03, r372, r390, r391, r392, r393, r394, r396, r397, wr_id, td_e, tm_e, pu_n, pu_s, up_s, up_k, up_a, ↓reduceIte, Int.reduceLT, Int.reduceLE, Int.reduceEq, Int.reduceNeg, Int.reduceAdd, Int.reduceSub, Int.reduceMul, Int.reduceMod, Int.reduceDiv, Int.cast_ofNat_Int, not_true_eq_false, not_false_eq_true, Int.reduceTDiv, Int.reduceTMod, c_within, if_pos, if_neg]
    exact hK mi hR Sc.rf
end CL
