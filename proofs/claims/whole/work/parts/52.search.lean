/-! ===== what the class foresees ===== -/
theorem p2_l : p2 0 = 1 ∧ p2 1 = 2 ∧ p2 2 = 4 ∧ p2 3 = 8 ∧ p2 4 = 16 ∧ p2 5 = 32 ∧ p2 6 = 64 := by decide
theorem k6 {k : Int} (h0 : 0 ≤ k) (h6 : k < 6) : k = 0 ∨ k = 1 ∨ k = 2 ∨ k = 3 ∨ k = 4 ∨ k = 5 := by omega
theorem bt_add {x m p : Int} (h0 : 0 ≤ x) (h1 : x < p2 m) (m0 : 0 ≤ m) (m6 : m < 6) (p0 : 0 ≤ p) (p6 : p < 6) : bt (x + p2 m) p = (if p = m then 1 else bt x p) ∧ (m ≤ p → bt x p = 0) := by
  obtain ⟨a0, a1, a2, a3, a4, a5, -⟩ := p2_l
  rcases k6 m0 m6 with rfl | rfl | rfl | rfl | rfl | rfl
  all_goals rcases k6 p0 p6 with rfl | rfl | rfl | rfl | rfl | rfl
  all_goals
    simp only [bt, a0, a1, a2, a3, a4, a5, Int.reduceEq, ↓reduceIte] at h1 ⊢
    omega
def sL (s : Int → Int) (hz : Int) : Nat → Int → Int → Int
  | 0, _, _ => 0
  | m + 1, a, c => sL s hz m a c + (if seesP s hz m (s 0 + a) c then p2 m else 0)
theorem sL_bd {s : Int → Int} {hz a c : Int} : ∀ (m : Nat), m ≤ 6 → 0 ≤ sL s hz m a c ∧ sL s hz m a c < p2 m := by
  intro m
  induction m with
  | zero => intro _; exact ⟨Int.le_refl _, (by decide : (0 : Int) < p2 ((0 : Nat) : Int))⟩
  | succ m ih =>
    intro hm
    obtain ⟨i1, i2⟩ := ih (by omega)
    obtain ⟨u1, u2, u3⟩ := p2_v (p := (m : Int)) (by omega) (by omega)
    simp only [sL]
    rw [show ((m + 1 : Nat) : Int) = (m : Int) + 1 by omega, u3]
    split <;> omega
theorem sL_64 {s : Int → Int} {hz a c : Int} (m : Nat) (hm : m ≤ 6) : 0 ≤ sL s hz m a c ∧ sL s hz m a c < 64 := by
  obtain ⟨h1, h2⟩ := sL_bd (s := s) (hz := hz) (a := a) (c := c) m hm
  have : p2 m ≤ 64 := by
    have h : m = 0 ∨ m = 1 ∨ m = 2 ∨ m = 3 ∨ m = 4 ∨ m = 5 ∨ m = 6 := by omega
    rcases h with rfl | rfl | rfl | rfl | rfl | rfl | rfl <;> decide
  omega
theorem sL_bt {s : Int → Int} {hz a c p : Int} (p0 : 0 ≤ p) (p6 : p < 6) : ∀ (m : Nat), m ≤ 6 → bt (sL s hz m a c) p = if p < m ∧ seesP s hz p (s 0 + a) c then 1 else 0 := by
  intro m
  induction m with
  | zero =>
    intro _
    rw [if_neg (by omega)]
    show bt 0 p = 0
    exact (b_bt (x := 0) (by decide) (by decide) p0 p6).2.2.2.2.1
  | succ m ih =>
    intro hm
    obtain ⟨i1, i2⟩ := sL_bd (s := s) (hz := hz) (a := a) (c := c) m (by omega)
    obtain ⟨b1, b2⟩ := bt_add (m := (m : Int)) (p := p) i1 i2 (by omega) (by omega) p0 p6
    have hi := ih (by omega)
    simp only [sL]
    by_cases hs : seesP s hz m (s 0 + a) c
    · rw [if_pos hs, b1]
      by_cases hp : p = m
      · rw [if_pos hp, if_pos ⟨by omega, by rw [hp]; exact hs⟩]
      · rw [if_neg hp, hi]
        by_cases h : p < m ∧ seesP s hz p (s 0 + a) c
        · rw [if_pos h, if_pos ⟨by omega, h.2⟩]
        · rw [if_neg h, if_neg (fun e => h ⟨by omega, e.2⟩)]
    · rw [if_neg hs, Int.add_zero, hi]
      by_cases h : p < m ∧ seesP s hz p (s 0 + a) c
      · rw [if_pos h, if_pos ⟨by omega, h.2⟩]
      · rw [if_neg h, if_neg (fun e => ?_)]
        by_cases hp : p = m
        · rw [hp] at e; exact hs e.2
        · exact h ⟨by omega, e.2⟩
def FSn (s : Int → Int) (hz n : Int) (i : Nat) (mi : Mi) : Prop := (∀ a c : Int, 1 ≤ a → a ≤ n → 0 ≤ c → c < 24 → mi 40 (a * 24 + c) = sL s hz i a c) ∧ (∀ a j : Int, 1 ≤ a → a ≤ n → 0 ≤ j → j < i → s (2 + j) = 0 → ¬ dimP s hz j (s 0 + a) → mi 41 (a * 6 + j) = worthF s j (s 0 + a))
def FSi (s : Int → Int) (hz n : Int) (i : Nat) (a : Int) (mi : Mi) : Prop := (∀ b c : Int, 1 ≤ b → b ≤ n → 0 ≤ c → c < 24 → mi 40 (b * 24 + c) = if b < a then sL s hz (i + 1) b c else sL s hz i b c) ∧ (∀ b j : Int, 1 ≤ b → b ≤ n → 0 ≤ j → (j < i ∨ j = i ∧ b < a) → s (2 + j) = 0 → ¬ dimP s hz j (s 0 + b) → mi 41 (b * 6 + j) = worthF s j (s 0 + b))
section CL
variable {d : Nat} {G : Gh} {mi : Mi} {K : Option PV → Gh → Mi → Prop} {o o' T : Nat} {s : Int → Int} {p t v w a b c k n g q x lim hm pc ah ce u l hz : Int} {L : List Int}
theorem c_fill_lp {N : Nat} (hk : (gK G o).1 = 20) (hl : (gK G o).2 = N) (hN : N ≤ 1000) : ∀ (m : Nat) (mi : Mi) (j : Int), j + m = N → 0 ≤ j → (∀ i : Int, 0 ≤ i → i < j → mi o i = 0) → (∀ mi', (∀ i : Int, 0 ≤ i → i < N → mi' o i = 0) → Sc [o] mi mi' → K none G mi') →
    Ok d 204 5 [some (pR (some o)), some (pI 0), some (pI j), some (pI N)] [] G mi K := by
  intro m
  induction m with
  | zero =>
    intro mi j hj h0 hz hK
    rw [K204_5]
    simp (disch := first | assumption | exact isL_i | exact isL_r | exact isL_n | exact i01a | exact i01b | omega) only [K204_6, K204_7, K204_20, wr_id, td_e, tm_e, pu_n, pu_s, up_s, up_k, up_a, ↓reduceIte, Int.reduceLT, Int.reduceLE, Int.reduceEq, Int.reduceNeg, Int.reduceAdd, Int.reduceSub, Int.reduceMul, Int.reduceMod, Int.reduceDiv, Int.cast_ofNat_Int, not_true_eq_false, not_false_eq_true, Int.reduceTDiv, Int.reduceTMod, if_pos, if_neg]
    exact hK mi (fun i a b => hz i a (by omega)) Sc.rf
  | succ m ih =>
    intro mi j hj h0 hz hK
    rw [K204_5]
    simp (disch := first | assumption | exact isL_i | exact isL_r | exact isL_n | exact i01a | exact i01b | omega) only [K204_6, K204_7, K204_10, K204_11, K204_12, K204_13, K204_14, K204_17, wr_id, td_e, tm_e, pu_n, pu_s, up_s, up_k, up_a, ↓reduceIte, Int.reduceLT, Int.reduceLE, Int.reduceEq, Int.reduceNeg, Int.reduceAdd, Int.reduceSub, Int.reduceMul, Int.reduceMod, Int.reduceDiv, Int.cast_ofNat_Int, not_true_eq_false, not_false_eq_true, Int.reduceTDiv, Int.reduceTMod, if_pos, if_neg]
    refine ih (up mi o j 0) (j + 1) (by omega) (by omega) (fun i a b => ?_) (fun mi' h1 h2 => hK mi' h1 ((sc_up (by simp)).tr h2))
    by_cases e : i = j
    · rw [e, up_s]
    · rw [up_k e]; exact hz i a (by omega)
theorem c_fill {N : Nat} (hk : (gK G o).1 = 20) (hl : (gK G o).2 = N) (hN : N ≤ 1000) (hK : ∀ mi', (∀ i : Int, 0 ≤ i → i < N → mi' o i = 0) → Sc [o] mi mi' → K none G mi') : OkC d 204 [pR (some o), pI 0] G mi K := by
  have hk' : 20 ≤ (gK G o).1 := by omega
  rw [E204]
  simp (disch := first | assumption | exact isL_i | exact isL_r | exact isL_n | exact i01a | exact i01b | omega) only [K204_0, K204_1, K204_2, K204_3, K204_4, wr_id, td_e, tm_e, pu_n, pu_s, up_s, up_k, up_a, ↓reduceIte, Int.reduceLT, Int.reduceLE, Int.reduceEq, Int.reduceNeg, Int.reduceAdd, Int.reduceSub, Int.reduceMul, Int.reduceMod, Int.reduceDiv, Int.cast_ofNat_Int, not_true_eq_false, not_false_eq_true, Int.reduceTDiv, Int.reduceTMod, hl]
  exact c_fill_lp hk hl hN N mi 0 (by omega) (by decide) (fun i a b => by omega) hK
theorem c_fore_in (hC : ShC G) (hW : WfA s) {i : Nat} (hn8 : n ≤ 8) (hi : (i : Int) < s 11) (h0 : s (2 + i) = 0) (hTg : gR G 9 i = some T) (h55 : 55 ≤ T) : ∀ (m : Nat) (mi : Mi) (a : Int) (x6 x7 x8 x9 : Option PV), isL x6 = false → isL x7 = false → isL x8 = false → isL x9 = false → a + m = n + 1 → 1 ≤ a → RS 1 s G mi → FSi s hz n i a mi →
    (∀ mi' y5 y6 y7 y8 y9, isL y6 = false → isL y7 = false → isL y8 = false → isL y9 = false → FSi s hz n i (n + 1) mi' → Sc [18, 40, 41] mi mi' → Ok (d + 5) 148 174 [some (pR (some 39)), some (pI n), some (pI hz), some (pI i), some (pR (some T)), some (pI y5), y6, y7, y8, y9] [] G mi' K) →
    Ok (d + 5) 148 34 [some (pR (some 39)), some (pI n), some (pI hz), some (pI i), some (pR (some T)), some (pI a), x6, x7, x8, x9] [] G mi K := by
  obtain ⟨⟨⟨k1, k2, k3, l3, k9, l9, k10, l10, k11, l11⟩, ⟨k12, k13, l13, k14, k15, l15, k16, k17, l17, k18, l18⟩, ⟨r10, r14, r15, r16, r113, r114, r115, r116, r22, r122, r142, r162⟩⟩, -, ⟨⟨k0, r00, r01, r02, r03⟩, ⟨k37, r372, k38, l38⟩, ⟨k39, r390, r391, r392, r393, r394, r396, r397⟩, ⟨k40, l40, k41, l41, k42, l42, k43, l43, k44, l44, k45, l45⟩⟩⟩ := id hC
  obtain ⟨⟨⟨z0, z1, z8, z9, z10, z11, z12, z13, z14, z15, z16⟩, hh01, hT, hz17⟩, hWV, hWD, hWB, hWP, hWT, hWZ, hWF, hWK⟩ := id hW
  have hp : isT s i := ⟨by omega, hi⟩
  have hi6 : (i : Int) < 6 := by omega
  have k40' : 20 ≤ (gK G 40).1 := by omega
  have k41' : 20 ≤ (gK G 41).1 := by omega
  intro m
  induction m with
  | zero =>
    intro mi a x6 x7 x8 x9 r6 r7 r8 r9 ha ha1 hR hF hK
    rw [K148_34]
    simp (disch := first | assumption | exact isL_i | exact isL_r | exact isL_n | exact i01a | exact i01b | omega) only [K148_36, K148_36n, K148_39, K148_40, K148_43, K148_44, K148_47, K148_50, K148_52, K148_53, r10, r14, r15, r16, r113, r114, r115, r116, r22, r122, r142, r162, r00, r01, r02, r03, r372, r390, r391, r392, r393, r394, r396, r397, wr_id, td_e, tm_e, pu_n, pu_s, up_s, up_k, up_a, ↓reduceIte, Int.reduceLT, Int.reduceLE, Int.reduceEq, Int.reduceNeg, Int.reduceAdd, Int.reduceSub, Int.reduceMul, Int.reduceMod, Int.reduceDiv, Int.cast_ofNat_Int, not_true_eq_false, not_false_eq_true, Int.reduceTDiv, Int.reduceTMod, reduceCtorEq, c_isHad hC hR hh01, h0, if_pos, if_neg]
    exact hK mi a x6 x7 x8 x9 r6 r7 r8 r9 (by rw [show n + 1 = a by omega]; exact hF) Sc.rf
  | succ m ih =>
    intro mi a x6 x7 x8 x9 r6 r7 r8 r9 ha ha1 hR hF hK
    obtain ⟨⟨n2, n3, n7, n8, n9, n10, n11, n12⟩, ⟨hm1, hm2⟩, ⟨⟨t0, t1, t3⟩, ht4⟩, ⟨⟨u0, u1, u3⟩, hu4⟩, ⟨⟨p0, p1, p3⟩, hp4⟩, ⟨⟨b0, b1, b3⟩, hb4⟩⟩ := hR.o
    obtain ⟨T', g1, g2, hTh⟩ := hR.2.1 i hp.1 hp.2
    have g1 : gR G 9 i = some T' := g1
    have eT : T' = T := by rw [hTg] at g1; exact (Option.some.inj g1).symm
    subst eT
    obtain ⟨c1, c2, c3, c4, c5⟩ := id hTh
    have hth : thg (gK G T').1 = true := by rw [c1]; exact kcl_thg
    obtain ⟨⟨q1, q2⟩, -, -⟩ := hT.1 i hp.1 hi6
    obtain ⟨f1, f2⟩ := atF_wf hT (t := s 0 + a) hp.1 hi6
    obtain ⟨hF1, hF2⟩ := hF
    -- what the next turn needs
    have J1 : dimP s hz i (s 0 + a) → FSi s hz n i (a + 1) mi := by
      intro hd
      refine ⟨fun b c b1 b2 c1 c2 => ?_, fun b j b1 b2 j1 j2 hj0 hjd => ?_⟩
      · rw [hF1 b c b1 b2 c1 c2]
        by_cases e : b = a
        · subst e
          rw [if_neg (by omega), if_pos (by omega)]
          simp only [sL]
          rw [if_neg (fun h => h.2.2 hd), Int.add_zero]
        · by_cases e2 : b < a
          · rw [if_pos e2, if_pos (by omega)]
          · rw [if_neg e2, if_neg (by omega)]
      · rcases j2 with j2 | ⟨j2, j3⟩
        · exact hF2 b j b1 b2 j1 (Or.inl j2) hj0 hjd
        · by_cases e : b = a
          · subst e; subst j2; exact absurd hd hjd
          · exact hF2 b j b1 b2 j1 (Or.inr ⟨j2, by omega⟩) hj0 hjd
    rw [K148_34]
    by_cases hd : dimP s hz i (s 0 + a)
    · have J := ih mi (a + 1) (some (pI (s 0 + a))) (some (pI (atF s i (s 0 + a)))) (some (pI (a * 24 + atF s i (s 0 + a)))) (some (pI (a * 6 + i))) isL_i isL_i isL_i isL_i (by omega) (by omega) hR (J1 hd) hK
      simp (disch := first | assumption | exact isL_i | exact isL_r | exact isL_n | exact i01a | exact i01b | omega) only [K148_36, K148_36n, K148_39, K148_40, K148_43, K148_44, K148_47, K148_50, K148_52, K148_53, K148_56, K148_57, K148_60, K148_63, K148_65, K148_66, K148_68, K148_69, K148_72, K148_74, K148_76, K148_79, K148_81, K148_83, K148_85, K148_86, K148_88, K148_89, K148_91, K148_93, K148_95, K148_96, K148_97, K148_98, K148_100, K148_102, K148_104, r10, r14, r15, r16, r113, r114, r115, r116, r22, r122, r142, r162, r00, r01, r02, r03, r372, r390, r391, r392, r393, r394, r396, r397, n2, n3, n7, n8, n9, n10, n11, n12, t0, t1, t3, u0, u1, u3, p0, p1, p3, b0, b1, b3, wr_id, td_e, tm_e, pu_n, pu_s, up_s, up_k, up_a, ↓reduceIte, Int.reduceLT, Int.reduceLE, Int.reduceEq, Int.reduceNeg, Int.reduceAdd, Int.reduceSub, Int.reduceMul, Int.reduceMod, Int.reduceDiv, Int.cast_ofNat_Int, not_true_eq_false, not_false_eq_true, Int.reduceTDiv, Int.reduceTMod, reduceCtorEq, c_isHad hC hR hh01, h0, c_cellOn hC hR hT z11.2 hp.1 hp.2 hTh, if_pos, if_neg]
      obtain ⟨d1, d2⟩ := hd
      rcases k7 q1 q2 with e | e | e | e | e | e | e
      all_goals
        rw [e] at c1 d1
        first | exact absurd rfl d1 | skip
      all_goals
        simp only [kcl, ↓reduceIte, Int.reduceEq] at c1
        simp (disch := first | assumption | exact isL_i | exact isL_r | exact isL_n | exact i01a | exact i01b | omega) only [K148_105c1, K148_105c2, K148_105c3, K148_105c5, K148_105c6, K148_105c9, K148_105c10, K148_108, K148_168, K148_171, wr_id, td_e, tm_e, pu_n, pu_s, up_s, up_k, up_a, ↓reduceIte, Int.reduceLT, Int.reduceLE, Int.reduceEq, Int.reduceNeg, Int.reduceAdd, Int.reduceSub, Int.reduceMul, Int.reduceMod, Int.reduceDiv, Int.cast_ofNat_Int, not_true_eq_false, not_false_eq_true, Int.reduceTDiv, Int.reduceTMod, c_dmG, if_pos, if_neg]
        exact J
    · have hsee : seesP s hz i (s 0 + a) (atF s i (s 0 + a)) := ⟨h0, rfl, hd⟩
      obtain ⟨y0, y1⟩ := sL_64 (s := s) (hz := hz) (a := a) (c := atF s i (s 0 + a)) i (by omega)
      have e40 : mi 40 (a * 24 + atF s i (s 0 + a)) = sL s hz i a (atF s i (s 0 + a)) := by
        rw [hF1 a _ ha1 (by omega) f1 (by omega), if_neg (by omega)]
      have eset : iOr (sL s hz i a (atF s i (s 0 + a))) (iShl 1 i) = sL s hz (i + 1) a (atF s i (s 0 + a)) := by
        obtain ⟨b1, -⟩ := b_set (p := (i : Int)) y0 y1 hp.1 hi6
        have e0 : bt (sL s hz i a (atF s i (s 0 + a))) i = 0 := by
          rw [sL_bt hp.1 hi6 i (by omega)]
          exact if_neg (fun h => absurd h.1 (by omega))
        rw [b1, e0, if_neg (by decide)]
        simp only [sL]
        rw [if_pos hsee]
      have J : Ok (d + 5) 148 111 [some (pR (some 39)), some (pI n), some (pI hz), some (pI i), some (pR (some T')), some (pI a), some (pI (s 0 + a)), some (pI (atF s i (s 0 + a))), some (pI (a * 24 + atF s i (s 0 + a))), some (pI (a * 6 + i))] [] G mi K := by
        simp (disch := first | assumption | exact isL_i | exact isL_r | exact isL_n | exact i01a | exact i01b | omega) only [K148_111, K148_112, K148_115, K148_117, K148_120, K148_123, K148_124, K148_127, K148_129, K148_132, K148_135, K148_136, K148_139, K148_141, K148_142, K148_143, K148_144, K148_145, K148_146, K148_147, K148_148, K148_149, K148_152, K148_154, K148_155, K148_158, K148_160, K148_162, r10, r14, r15, r16, r113, r114, r115, r116, r22, r122, r142, r162, r00, r01, r02, r03, r372, r390, r391, r392, r393, r394, r396, r397, n2, n3, n7, n8, n9, n10, n11, n12, t0, t1, t3, u0, u1, u3, p0, p1, p3, b0, b1, b3, wr_id, td_e, tm_e, pu_n, pu_s, up_s, up_k, up_a, ↓reduceIte, Int.reduceLT, Int.reduceLE, Int.reduceEq, Int.reduceNeg, Int.reduceAdd, Int.reduceSub, Int.reduceMul, Int.reduceMod, Int.reduceDiv, Int.cast_ofNat_Int, not_true_eq_false, not_false_eq_true, Int.reduceTDiv, Int.reduceTMod, c_isIn, l40, l41, e40, eset, if_pos, if_neg]
        have hR1 : RS 1 s G (up mi 40 (a * 24 + atF s i (s 0 + a)) (sL s hz (i + 1) a (atF s i (s 0 + a)))) := hR.q (sc_up (by decide))
        have hTh1 : RTh G (up mi 40 (a * 24 + atF s i (s 0 + a)) (sL s hz (i + 1) a (atF s i (s 0 + a)))) T' (s (18 + i)) i (s (24 + i)) := ⟨c1, by rw [up_a (by omega)]; exact c2, by rw [up_a (by omega)]; exact c3, by rw [up_a (by omega)]; exact c4, c5⟩
        rw [K148_164 k1]
        refine c_worthOn8 hC hR1 hWV hT z11.2 hp.1 hp.2 h55 hTh1 (by omega) (by omega) fun m1 hs => ?_
        simp (disch := first | assumption | exact isL_i | exact isL_r | exact isL_n | exact i01a | exact i01b | omega) only [K148_167, K148_168, K148_171, wr_id, td_e, tm_e, pu_n, pu_s, up_s, up_k, up_a, ↓reduceIte, Int.reduceLT, Int.reduceLE, Int.reduceEq, Int.reduceNeg, Int.reduceAdd, Int.reduceSub, Int.reduceMul, Int.reduceMod, Int.reduceDiv, Int.cast_ofNat_Int, not_true_eq_false, not_false_eq_true, Int.reduceTDiv, Int.reduceTMod]
        refine ih _ (a + 1) _ _ _ _ isL_i isL_i isL_i isL_i (by omega) (by omega) ?_ ⟨?_, ?_⟩ (fun mi' z5 z6 z7 z8 z9 w6 w7 w8 w9 h1 h2 => hK mi' z5 z6 z7 z8 z9 w6 w7 w8 w9 h1 ?_)
        · exact hR.q (((sc_up (by decide)).tr (hs.wk (by decide))).u (by decide))
        · intro b c b1 b2 c1 c2
          rw [up_a (by decide), hs 40 (by decide)]
          by_cases e : b = a ∧ c = atF s i (s 0 + a)
          · obtain ⟨rfl, rfl⟩ := e
            rw [up_s, if_pos (by omega)]
          · rw [up_k (by omega), hF1 b c b1 b2 c1 c2]
            by_cases e2 : b < a
            · rw [if_pos e2, if_pos (by omega)]
            · rw [if_neg e2]
              by_cases e3 : b = a
              · subst e3
                rw [if_pos (by omega)]
                simp only [sL]
                rw [if_neg (fun h => e ⟨rfl, h.2.1.symm⟩), Int.add_zero]
              · rw [if_neg (by omega)]
        · intro b j b1 b2 j1 j2 hj0 hjd
          by_cases e : b = a ∧ j = i
          · obtain ⟨rfl, rfl⟩ := e
            rw [up_s]
          · rw [up_k (by omega), hs 41 (by decide), up_a (by decide)]
            refine hF2 b j b1 b2 j1 ?_ hj0 hjd
            rcases j2 with j2 | ⟨j2, j3⟩
            · exact Or.inl j2
            · exact Or.inr ⟨j2, by omega⟩
        · exact (((sc_up (by decide)).tr (hs.wk (by decide))).u (by decide)).tr h2
      simp (disch := first | assumption | exact isL_i | exact isL_r | exact isL_n | exact i01a | exact i01b | omega) only [K148_36, K148_36n, K148_39, K148_40, K148_43, K148_44, K148_47, K148_50, K148_52, K148_53, K148_56, K148_57, K148_60, K148_63, K148_65, K148_66, K148_68, K148_69, K148_72, K148_74, K148_76, K148_79, K148_81, K148_83, K148_85, K148_86, K148_88, K148_89, K148_91, K148_93, K148_95, K148_96, K148_97, K148_98, K148_100, K148_102, K148_104, r10, r14, r15, r16, r113, r114, r115, r116, r22, r122, r142, r162, r00, r01, r02, r03, r372, r390, r391, r392, r393, r394, r396, r397, n2, n3, n7, n8, n9, n10, n11, n12, t0, t1, t3, u0, u1, u3, p0, p1, p3, b0, b1, b3, wr_id, td_e, tm_e, pu_n, pu_s, up_s, up_k, up_a, ↓reduceIte, Int.reduceLT, Int.reduceLE, Int.reduceEq, Int.reduceNeg, Int.reduceAdd, Int.reduceSub, Int.reduceMul, Int.reduceMod, Int.reduceDiv, Int.cast_ofNat_Int, not_true_eq_false, not_false_eq_true, Int.reduceTDiv, Int.reduceTMod, reduceCtorEq, c_isHad hC hR hh01, h0, c_cellOn hC hR hT z11.2 hp.1 hp.2 hTh, if_pos, if_neg]
      have hd' := hd
      unfold dimP at hd'
      rcases k7 q1 q2 with e | e | e | e | e | e | e
      all_goals
        rw [e] at c1 hd'
        simp only [kcl, ↓reduceIte, Int.reduceEq, not_false_eq_true, true_and, not_true_eq_false, false_and] at c1 hd'
        simp (disch := first | assumption | exact isL_i | exact isL_r | exact isL_n | exact i01a | exact i01b | omega) only [K148_105c1, K148_105c2, K148_105c3, K148_105c5, K148_105c6, K148_105c9, K148_105c10, K148_108, wr_id, td_e, tm_e, pu_n, pu_s, up_s, up_k, up_a, ↓reduceIte, Int.reduceLT, Int.reduceLE, Int.reduceEq, Int.reduceNeg, Int.reduceAdd, Int.reduceSub, Int.reduceMul, Int.reduceMod, Int.reduceDiv, Int.cast_ofNat_Int, not_true_eq_false, not_false_eq_true, Int.reduceTDiv, Int.reduceTMod, c_dmG, c_dmI, if_pos, if_neg]
        exact J
end CL
