/-! ===== what the class sees and gains, so many ticks ahead ===== -/
def gnL (f : Int) (w : Int → Int) : Nat → Int → Int
  | 0, _ => 0
  | m + 1, i => (if bt f i = 1 then w i else 0) + gnL f w m (i + 1)
theorem gnL_z {w : Int → Int} : ∀ (m : Nat) (i : Int), 0 ≤ i → i + m ≤ 6 → gnL 0 w m i = 0 := by
  intro m
  induction m with
  | zero => intro i _ _; rfl
  | succ m ih =>
    intro i h0 h6
    simp only [gnL]
    have := (b_bt (x := 0) (p := i) (by decide) (by decide) h0 (by omega)).2.2.2.2.1
    rw [this, if_neg (by decide), ih (i + 1) (by omega) (by omega)]
    rfl
theorem b_ext {x y : Int} (hx : 0 ≤ x) (hx' : x < 64) (hy : 0 ≤ y) (hy' : y < 64) (h : ∀ p : Int, 0 ≤ p → p < 6 → bt x p = bt y p) : x = y := by
  obtain ⟨a0, a1, a2, a3, a4, a5, -⟩ := p2_l
  have h0 := h 0 (by decide) (by decide)
  have h1 := h 1 (by decide) (by decide)
  have h2 := h 2 (by decide) (by decide)
  have h3 := h 3 (by decide) (by decide)
  have h4 := h 4 (by decide) (by decide)
  have h5 := h 5 (by decide) (by decide)
  simp only [bt, a0, a1, a2, a3, a4, a5] at h0 h1 h2 h3 h4 h5
  omega
theorem bt_anN {x y p : Int} (hx : 0 ≤ x) (hx' : x < 64) (hy : 0 ≤ y) (hy' : y < 64) (p0 : 0 ≤ p) (p6 : p < 6) : bt (anN x y) p = bt x p * (1 - bt y p) := by
  have := (b_anN hx hx' hy hy').2.2 ⟨p.toNat, by omega⟩
  dsimp only at this
  rw [Int.toNat_of_nonneg p0] at this
  exact this
theorem bt_or {x y p : Int} (hx : 0 ≤ x) (hx' : x < 64) (hy : 0 ≤ y) (hy' : y < 64) (p0 : 0 ≤ p) (p6 : p < 6) : bt (iOr x y) p = bt x p + bt y p - bt x p * bt y p := by
  have := (b_or hx hx' hy hy').2.2 ⟨p.toNat, by omega⟩
  dsimp only at this
  rw [Int.toNat_of_nonneg p0] at this
  exact this
/-- so many ticks on -/
def Adv (s s' : Int → Int) (k : Int) : Prop := Stat s s' ∧ s' 0 = s 0 + k ∧ (0 ≤ s' 1 ∧ s' 1 ≤ 23) ∧ ∀ p : Int, 0 ≤ p → p < 6 → ((0 ≤ s (2 + p) ∧ s (2 + p) ≤ s' (2 + p)) ∧ 0 ≤ s' (2 + p) ∧ s' (2 + p) ≤ 1)
theorem Adv.rf {s : Int → Int} (h1 : 0 ≤ s 1 ∧ s 1 ≤ 23) (hh : ∀ p : Int, 0 ≤ p → p < 6 → (0 ≤ s (2 + p) ∧ s (2 + p) ≤ 1)) : Adv s s 0 := ⟨Stat.rf, by omega, h1, fun p h0 h6 => ⟨⟨(hh p h0 h6).1, Int.le_refl _⟩, hh p h0 h6⟩⟩
theorem Adv.st {s s' : Int → Int} {k hz q : Int} (h : Adv s s' k) (hn : s 11 ≤ 6) : Adv s (gs s' hz q) (k + 1) := by
  obtain ⟨h1, h2, h3, h4⟩ := h
  have e11 : s' 11 = s 11 := h1 11 (by decide)
  refine ⟨h1.tr (gs_st (by omega)), by rw [gs_0]; omega, gs_1 h3.1 h3.2, fun p p0 p6 => ?_⟩
  obtain ⟨⟨g0, g1⟩, g2, g3⟩ := h4 p p0 p6
  unfold gs
  split
  · dsimp only; rw [if_neg (by omega)]; exact ⟨⟨g0, g1⟩, g2, g3⟩
  · unfold gsp
    rw [if_neg (by omega), if_neg (by omega)]
    split <;> omega
theorem adv_sees {s s' : Int → Int} {k hz p c : Int} (h : Adv s s' k) (p0 : 0 ≤ p) (p6 : p < 6) : seesP s' hz p (s' 0 + 1) c ↔ s' (2 + p) = 0 ∧ seesP s hz p (s 0 + (k + 1)) c := by
  obtain ⟨h1, h2, h3, h4⟩ := h
  obtain ⟨⟨g0, g1⟩, g2, g3⟩ := h4 p p0 p6
  unfold seesP
  rw [st_at h1 p0, st_dim h1 p0, h2, show s 0 + k + 1 = s 0 + (k + 1) by omega]
  constructor
  · rintro ⟨a, b, c⟩; exact ⟨a, by omega, b, c⟩
  · rintro ⟨a, -, b, c⟩; exact ⟨a, b, c⟩
theorem adv_fresh {s s' : Int → Int} {k hz p c : Int} (h : Adv s s' k) (hn : 0 ≤ s 11) (hn' : s 11 ≤ 6) (p0 : 0 ≤ p) (p6 : p < 6) : bt (anN (sL s hz (s 11).toNat (k + 1) c) (hadB s')) p = if p < s 11 ∧ seesP s' hz p (s' 0 + 1) c then 1 else 0 := by
  have hh : ∀ p : Int, 0 ≤ p → p < 6 → (0 ≤ s' (2 + p) ∧ s' (2 + p) ≤ 1) := fun p a b => (h.2.2.2 p a b).2
  obtain ⟨b1, b2⟩ := hadB_bd hh
  obtain ⟨s1, s2⟩ := sL_64 (s := s) (hz := hz) (a := k + 1) (c := c) (s 11).toNat (by omega)
  obtain ⟨g2, g3⟩ := hh p p0 p6
  rw [bt_anN s1 s2 b1 b2 p0 p6, hadB_bt hh p0 p6, sL_bt p0 p6 _ (by omega)]
  have hs := adv_sees (hz := hz) (c := c) h p0 p6
  by_cases e : p < s 11 ∧ seesP s' hz p (s' 0 + 1) c
  · obtain ⟨e1, e2⟩ := hs.1 e.2
    rw [if_pos e, if_pos ⟨by omega, e2⟩, e1]
    rfl
  · rw [if_neg e]
    by_cases f : p < ((s 11).toNat : Int) ∧ seesP s hz p (s 0 + (k + 1)) c
    · rw [if_pos f]
      have : ¬ s' (2 + p) = 0 := fun hz0 => e ⟨by omega, hs.2 ⟨hz0, f.2⟩⟩
      rw [show s' (2 + p) = 1 by omega]
      rfl
    · rw [if_neg f, Int.zero_mul]
theorem gn_ga {s' : Int → Int} {hz t c f N : Int} {w : Int → Int} (hN : N ≤ 6) (hf : ∀ p : Int, 0 ≤ p → p < 6 → bt f p = if p < N ∧ seesP s' hz p t c then 1 else 0) (hw : ∀ p : Int, 0 ≤ p → p < N → seesP s' hz p t c → w p = worthF s' p t) : ∀ (m : Nat) (p : Int), 0 ≤ p → p + m = 6 → gnL f w m p = gaR s' hz t c (N - p).toNat p := by
  intro m
  induction m with
  | zero =>
    intro p h0 h6
    rw [show (N - p).toNat = 0 by omega]
    rfl
  | succ m ih =>
    intro p h0 h6
    simp only [gnL]
    have hfp := hf p h0 (by omega)
    rw [ih (p + 1) (by omega) (by omega)]
    by_cases hp : p < N
    · rw [show (N - p).toNat = (N - (p + 1)).toNat + 1 by omega]
      simp only [gaR]
      by_cases hs : seesP s' hz p t c
      · rw [if_pos ⟨hp, hs⟩] at hfp
        rw [if_pos hfp, if_pos hs, hw p h0 hp hs]
      · rw [if_neg (fun h => hs h.2)] at hfp
        rw [if_neg (by omega), if_neg hs]
    · rw [if_neg (fun h => hp h.1)] at hfp
      rw [if_neg (by omega), show (N - p).toNat = 0 by omega, show (N - (p + 1)).toNat = 0 by omega]
      rfl
theorem adv_had {s s' : Int → Int} {k hz c : Int} (h : Adv s s' k) (hn : 0 ≤ s 11) (hn' : s 11 ≤ 6) : iOr (hadB s') (sL s hz (s 11).toNat (k + 1) c) = hadB (gsp s' hz (s' 0 + 1) c (s 11)) := by
  have hh : ∀ p : Int, 0 ≤ p → p < 6 → (0 ≤ s' (2 + p) ∧ s' (2 + p) ≤ 1) := fun p a b => (h.2.2.2 p a b).2
  have hg : ∀ p : Int, 0 ≤ p → p < 6 → gsp s' hz (s' 0 + 1) c (s 11) (2 + p) = if p < s 11 ∧ seesP s' hz p (s' 0 + 1) c then 1 else s' (2 + p) := by
    intro p p0 p6
    unfold gsp
    rw [if_neg (by omega), if_neg (by omega), show 2 + p - 2 = p by omega]
    by_cases e : p < s 11 ∧ seesP s' hz p (s' 0 + 1) c
    · rw [if_pos e, if_pos ⟨by omega, by omega, e.2⟩]
    · rw [if_neg e, if_neg (fun f => e ⟨by omega, f.2.2⟩)]
  have hh' : ∀ p : Int, 0 ≤ p → p < 6 → (0 ≤ gsp s' hz (s' 0 + 1) c (s 11) (2 + p) ∧ gsp s' hz (s' 0 + 1) c (s 11) (2 + p) ≤ 1) := by
    intro p p0 p6
    rw [hg p p0 p6]
    have := hh p p0 p6
    split <;> omega
  obtain ⟨b1, b2⟩ := hadB_bd hh
  obtain ⟨d1, d2⟩ := hadB_bd hh'
  obtain ⟨s1, s2⟩ := sL_64 (s := s) (hz := hz) (a := k + 1) (c := c) (s 11).toNat (by omega)
  obtain ⟨o1, o2, -⟩ := b_or b1 b2 s1 s2
  refine b_ext o1 o2 d1 d2 fun p p0 p6 => ?_
  rw [bt_or b1 b2 s1 s2 p0 p6, hadB_bt hh p0 p6, hadB_bt hh' p0 p6, hg p p0 p6, sL_bt p0 p6 _ (by omega)]
  have hs := adv_sees (hz := hz) (c := c) h p0 p6
  obtain ⟨g2, g3⟩ := hh p p0 p6
  by_cases e : p < s 11 ∧ seesP s' hz p (s' 0 + 1) c
  · obtain ⟨e1, e2⟩ := hs.1 e.2
    rw [if_pos e, if_pos ⟨by omega, e2⟩, e1]
    rfl
  · rw [if_neg e]
    by_cases f : p < ((s 11).toNat : Int) ∧ seesP s hz p (s 0 + (k + 1)) c
    · rw [if_pos f]
      have : ¬ s' (2 + p) = 0 := fun hz0 => e ⟨by omega, hs.2 ⟨hz0, f.2⟩⟩
      rw [show s' (2 + p) = 1 by omega]
      rfl
    · rw [if_neg f, Int.mul_zero, Int.add_zero, Int.sub_zero]
section CL
variable {d : Nat} {G : Gh} {mi : Mi} {K : Option PV → Gh → Mi → Prop} {o o' T : Nat} {s s' : Int → Int} {p t v w a b c k n g q x lim hm pc ah ce u l hz y : Int} {L : List Int}
theorem c_fore_lp (hC : ShC G) (hW : WfA s) (hn0 : 0 ≤ n) (hn8 : n ≤ 8) : ∀ (m : Nat) (mi : Mi) (i : Nat) (x4 x5 x6 x7 x8 x9 : Option PV), isL x4 = false → isL x5 = false → isL x6 = false → isL x7 = false → isL x8 = false → isL x9 = false → i + m = (s 11).toNat → RS 1 s G mi → FSn s hz n i mi → (∀ mi', FSn s hz n (s 11).toNat mi' → Sc [18, 40, 41] mi mi' → K none G mi') →
    Ok (d + 5) 148 10 [some (pR (some 39)), some (pI n), some (pI hz), some (pI i), x4, x5, x6, x7, x8, x9] [] G mi K := by
  obtain ⟨⟨⟨k1, k2, k3, l3, k9, l9, k10, l10, k11, l11⟩, ⟨k12, k13, l13, k14, k15, l15, k16, k17, l17, k18, l18⟩, ⟨r10, r14, r15, r16, r113, r114, r115, r116, r22, r122, r142, r162⟩⟩, -, ⟨⟨k0, r00, r01, r02, r03⟩, ⟨k37, r372, k38, l38⟩, ⟨k39, r390, r391, r392, r393, r394, r396, r397⟩, ⟨k40, l40, k41, l41, k42, l42, k43, l43, k44, l44, k45, l45⟩⟩⟩ := id hC
  obtain ⟨⟨⟨z0, z1, z8, z9, z10, z11, z12, z13, z14, z15, z16⟩, hh01, hT, hz17⟩, hWV, hWD, hWB, hWP, hWT, hWZ, hWF, hWK⟩ := id hW
  intro m
  induction m with
  | zero =>
    intro mi i x4 x5 x6 x7 x8 x9 r4 r5 r6 r7 r8 r9 hi hR hF hK
    obtain ⟨⟨n2, n3, n7, n8, n9, n10, n11, n12⟩, ⟨hm1, hm2⟩, ⟨⟨t0, t1, t3⟩, ht4⟩, ⟨⟨u0, u1, u3⟩, hu4⟩, ⟨⟨p0, p1, p3⟩, hp4⟩, ⟨⟨b0, b1, b3⟩, hb4⟩⟩ := hR.o
    rw [K148_10]
    simp (disch := first | assumption | exact isL_i | exact isL_r | exact isL_n | exact i01a | exact i01b | omega) only [K148_11, K148_12, K148_15, K148_18, K148_180, r10, r14, r15, r16, r113, r114, r115, r116, r22, r122, r142, r162, r00, r01, r02, r03, r372, r390, r391, r392, r393, r394, r396, r397, n2, n3, n7, n8, n9, n10, n11, n12, t0, t1, t3, u0, u1, u3, p0, p1, p3, b0, b1, b3, wr_id, td_e, tm_e, pu_n, pu_s, up_s, up_k, up_a, ↓reduceIte, Int.reduceLT, Int.reduceLE, Int.reduceEq, Int.reduceNeg, Int.reduceAdd, Int.reduceSub, Int.reduceMul, Int.reduceMod, Int.reduceDiv, Int.cast_ofNat_Int, not_true_eq_false, not_false_eq_true, Int.reduceTDiv, Int.reduceTMod, if_pos, if_neg]
    exact hK mi (by rw [show (s 11).toNat = i by omega]; exact hF) Sc.rf
  | succ m ih =>
    intro mi i x4 x5 x6 x7 x8 x9 r4 r5 r6 r7 r8 r9 hi hR hF hK
    obtain ⟨⟨n2, n3, n7, n8, n9, n10, n11, n12⟩, ⟨hm1, hm2⟩, ⟨⟨t0, t1, t3⟩, ht4⟩, ⟨⟨u0, u1, u3⟩, hu4⟩, ⟨⟨p0, p1, p3⟩, hp4⟩, ⟨⟨b0, b1, b3⟩, hb4⟩⟩ := hR.o
    have hp : isT s i := ⟨by omega, by omega⟩
    have hi6 : (i : Int) < 6 := by omega
    have hp0 : (0 : Int) ≤ i := hp.1
    obtain ⟨T, g1, g2, hTh⟩ := hR.2.1 i hp.1 hp.2
    have g1 : gR G 9 i = some T := g1
    obtain ⟨hF1, hF2⟩ := id hF
    obtain ⟨y0, y1⟩ := hh01 i hp.1 hi6
    rw [K148_10]
    by_cases h0 : s (2 + i) = 0
    · simp (disch := first | assumption | exact isL_i | exact isL_r | exact isL_n | exact i01a | exact i01b | omega) only [K148_11, K148_12, K148_15, K148_18, K148_21, K148_22, K148_25, K148_26, K148_29, K148_31, K148_32, r10, r14, r15, r16, r113, r114, r115, r116, r22, r122, r142, r162, r00, r01, r02, r03, r372, r390, r391, r392, r393, r394, r396, r397, n2, n3, n7, n8, n9, n10, n11, n12, t0, t1, t3, u0, u1, u3, p0, p1, p3, b0, b1, b3, wr_id, td_e, tm_e, pu_n, pu_s, up_s, up_k, up_a, ↓reduceIte, Int.reduceLT, Int.reduceLE, Int.reduceEq, Int.reduceNeg, Int.reduceAdd, Int.reduceSub, Int.reduceMul, Int.reduceMod, Int.reduceDiv, Int.cast_ofNat_Int, not_true_eq_false, not_false_eq_true, Int.reduceTDiv, Int.reduceTMod, c_find hC hR z11.2, if_pos hp, g1, if_pos, if_neg]
      refine c_fore_in hC hW hn8 hp.2 h0 g1 g2 n.toNat mi 1 x6 x7 x8 x9 r6 r7 r8 r9 (by omega) (by decide) hR ⟨fun b c b1 b2 c1 c2 => ?_, fun b j b1 b2 j1 j2 => ?_⟩ fun mi' w5 w6 w7 w8 w9 v6 v7 v8 v9 hFi hsc => ?_
      · rw [hF1 b c b1 b2 c1 c2, if_neg (by omega)]
      · exact hF2 b j b1 b2 j1 (by omega)
      · simp (disch := first | assumption | exact isL_i | exact isL_r | exact isL_n | exact i01a | exact i01b | omega) only [K148_174, K148_177, wr_id, td_e, tm_e, pu_n, pu_s, up_s, up_k, up_a, ↓reduceIte, Int.reduceLT, Int.reduceLE, Int.reduceEq, Int.reduceNeg, Int.reduceAdd, Int.reduceSub, Int.reduceMul, Int.reduceMod, Int.reduceDiv, Int.cast_ofNat_Int, not_true_eq_false, not_false_eq_true, Int.reduceTDiv, Int.reduceTMod]
        have := ih mi' (i + 1) (some (pR (some T))) (some (pI w5)) w6 w7 w8 w9 isL_r isL_i v6 v7 v8 v9 (by omega) (hR.q (hsc.wk (by decide))) ⟨fun b c b1 b2 c1 c2 => ?_, fun b j b1 b2 j1 j2 => ?_⟩ (fun m2 h1 h2 => hK m2 h1 (hsc.tr h2))
        · exact this
        · rw [hFi.1 b c b1 b2 c1 c2, if_pos (by omega)]
        · exact hFi.2 b j b1 b2 j1 (by omega)
    · have h1 : s (2 + i) = 1 := by omega
      simp (disch := first | assumption | exact isL_i | exact isL_r | exact isL_n | exact i01a | exact i01b | omega) only [K148_11, K148_12, K148_15, K148_18, K148_21, K148_22, K148_25, K148_26, K148_29, K148_31, K148_32, K148_34, K148_36, K148_36n, K148_39, K148_40, K148_43, K148_44, K148_47, K148_174, K148_177, r10, r14, r15, r16, r113, r114, r115, r116, r22, r122, r142, r162, r00, r01, r02, r03, r372, r390, r391, r392, r393, r394, r396, r397, n2, n3, n7, n8, n9, n10, n11, n12, t0, t1, t3, u0, u1, u3, p0, p1, p3, b0, b1, b3, wr_id, td_e, tm_e, pu_n, pu_s, up_s, up_k, up_a, ↓reduceIte, Int.reduceLT, Int.reduceLE, Int.reduceEq, Int.reduceNeg, Int.reduceAdd, Int.reduceSub, Int.reduceMul, Int.reduceMod, Int.reduceDiv, Int.cast_ofNat_Int, not_true_eq_false, not_false_eq_true, Int.reduceTDiv, Int.reduceTMod, c_find hC hR z11.2, if_pos hp, g1, reduceCtorEq, c_isHad hC hR hh01, h1, if_pos, if_neg]
      have := ih mi (i + 1) (some (pR (some T))) (some (pI 1)) x6 x7 x8 x9 isL_r isL_i r6 r7 r8 r9 (by omega) hR ⟨fun b c b1 b2 c1 c2 => ?_, fun b j b1 b2 j1 j2 hj0 => ?_⟩ hK
      · exact this
      · rw [hF1 b c b1 b2 c1 c2]
        simp only [sL]
        rw [if_neg (fun h => h0 h.1), Int.add_zero]
      · by_cases e : j = i
        · rw [e] at hj0; exact absurd hj0 h0
        · exact hF2 b j b1 b2 j1 (by omega) hj0
theorem c_foresee (hC : ShC G) (hR : RS 1 s G mi) (hW : WfA s) (hn0 : 0 ≤ n) (hn8 : n ≤ 8) (hK : ∀ mi', FSn s hz n (s 11).toNat mi' → Sc [18, 40, 41] mi mi' → K none G mi') : OkC (d + 5) 148 [pR (some 39), pI n, pI hz] G mi K := by
  obtain ⟨⟨⟨k1, k2, k3, l3, k9, l9, k10, l10, k11, l11⟩, ⟨k12, k13, l13, k14, k15, l15, k16, k17, l17, k18, l18⟩, ⟨r10, r14, r15, r16, r113, r114, r115, r116, r22, r122, r142, r162⟩⟩, -, ⟨⟨k0, r00, r01, r02, r03⟩, ⟨k37, r372, k38, l38⟩, ⟨k39, r390, r391, r392, r393, r394, r396, r397⟩, ⟨k40, l40, k41, l41, k42, l42, k43, l43, k44, l44, k45, l45⟩⟩⟩ := id hC
  rw [E148]
  simp (disch := first | assumption | exact isL_i | exact isL_r | exact isL_n | exact i01a | exact i01b | omega) only [K148_0, K148_1, K148_4, r10, r14, r15, r16, r113, r114, r115, r116, r22, r122, r142, r162, r00, r01, r02, r03, r372, r390, r391, r392, r393, r394, r396, r397, wr_id, td_e, tm_e, pu_n, pu_s, up_s, up_k, up_a, ↓reduceIte, Int.reduceLT, Int.reduceLE, Int.reduceEq, Int.reduceNeg, Int.reduceAdd, Int.reduceSub, Int.reduceMul, Int.reduceMod, Int.reduceDiv, Int.cast_ofNat_Int, not_true_eq_false, not_false_eq_true, Int.reduceTDiv, Int.reduceTMod]
  rw [K148_5]
  refine c_fill (N := 216) k40 l40 (by decide) fun m1 h1 s1 => ?_
  simp (disch := first | assumption | exact isL_i | exact isL_r | exact isL_n | exact i01a | exact i01b | omega) only [K148_8, K148_9, wr_id, td_e, tm_e, pu_n, pu_s, up_s, up_k, up_a, ↓reduceIte, Int.reduceLT, Int.reduceLE, Int.reduceEq, Int.reduceNeg, Int.reduceAdd, Int.reduceSub, Int.reduceMul, Int.reduceMod, Int.reduceDiv, Int.cast_ofNat_Int, not_true_eq_false, not_false_eq_true, Int.reduceTDiv, Int.reduceTMod, pu_n]
  refine c_fore_lp hC hW hn0 hn8 (s 11).toNat m1 0 none none none none none none isL_n isL_n isL_n isL_n isL_n isL_n (by omega) (hR.q (s1.wk (by decide))) ⟨fun b c b1 b2 c1 c2 => ?_, fun b j b1 b2 j1 j2 => by omega⟩ (fun m2 h2 s2 => hK m2 h2 ((s1.wk (by decide)).tr s2))
  rw [h1 _ (by omega) (by omega)]
  rfl
theorem c_seenAt (hC : ShC G) (ha : 1 ≤ a) (ha' : a ≤ 8) (hc : 0 ≤ c) (hc' : c ≤ 23) : OkC (d + 1) 149 [pR (some 39), pI a, pI c] G mi K = K (some (pI (mi 40 (a * 24 + c)))) G mi := by
  obtain ⟨⟨⟨k1, k2, k3, l3, k9, l9, k10, l10, k11, l11⟩, ⟨k12, k13, l13, k14, k15, l15, k16, k17, l17, k18, l18⟩, ⟨r10, r14, r15, r16, r113, r114, r115, r116, r22, r122, r142, r162⟩⟩, -, ⟨⟨k0, r00, r01, r02, r03⟩, ⟨k37, r372, k38, l38⟩, ⟨k39, r390, r391, r392, r393, r394, r396, r397⟩, ⟨k40, l40, k41, l41, k42, l42, k43, l43, k44, l44, k45, l45⟩⟩⟩ := id hC
  have k40' : 20 ≤ (gK G 40).1 := by omega
  rw [E149]
  simp (disch := first | assumption | exact isL_i | exact isL_r | exact isL_n | exact i01a | exact i01b | omega) only [K149_0, K149_1, K149_3, K149_4, K149_5, K149_6, K149_7, K149_8, K149_11, K149_12, K149_15, K149_18, K149_19, K149_22, K149_23, K149_24, K149_27, K149_28, r10, r14, r15, r16, r113, r114, r115, r116, r22, r122, r142, r162, r00, r01, r02, r03, r372, r390, r391, r392, r393, r394, r396, r397, wr_id, td_e, tm_e, pu_n, pu_s, up_s, up_k, up_a, ↓reduceIte, Int.reduceLT, Int.reduceLE, Int.reduceEq, Int.reduceNeg, Int.reduceAdd, Int.reduceSub, Int.reduceMul, Int.reduceMod, Int.reduceDiv, Int.cast_ofNat_Int, not_true_eq_false, not_false_eq_true, Int.reduceTDiv, Int.reduceTMod, c_isIn, l40, if_pos, if_neg]
theorem c_gain_lp (hC : ShC G) {f : Int} (ha : 1 ≤ a) (ha' : a ≤ 8) (hf : 0 ≤ f) (hf' : f < 64) (hw : ∀ i : Int, 0 ≤ i → i < 6 → bt f i = 1 → 0 ≤ mi 41 (a * 6 + i) ∧ mi 41 (a * 6 + i) ≤ 30000) : ∀ (m : Nat) (i gd : Int) (x7 : Option PV), isL x7 = false → i + m = 6 → 0 ≤ i → 0 ≤ gd → gd + 30000 * m ≤ 180000 →
    Ok (d + 1) 150 18 [some (pR (some 39)), some (pI a), some (pI c), some (pI x), some (pI f), some (pI gd), some (pI i), x7] [] G mi K = K (some (pI (gd + gnL f (fun i => mi 41 (a * 6 + i)) m i))) G mi := by
  obtain ⟨⟨⟨k1, k2, k3, l3, k9, l9, k10, l10, k11, l11⟩, ⟨k12, k13, l13, k14, k15, l15, k16, k17, l17, k18, l18⟩, ⟨r10, r14, r15, r16, r113, r114, r115, r116, r22, r122, r142, r162⟩⟩, -, ⟨⟨k0, r00, r01, r02, r03⟩, ⟨k37, r372, k38, l38⟩, ⟨k39, r390, r391, r392, r393, r394, r396, r397⟩, ⟨k40, l40, k41, l41, k42, l42, k43, l43, k44, l44, k45, l45⟩⟩⟩ := id hC
  have k41' : 20 ≤ (gK G 41).1 := by omega
  intro m
  induction m with
  | zero =>
    intro i gd x7 r7 hi h0 g0 g1
    rw [K150_18]
    simp only [gnL, Int.add_zero]
    by_cases hf0 : f = 0
    · simp (disch := first | assumption | exact isL_i | exact isL_r | exact isL_n | exact i01a | exact i01b | omega) only [K150_20, K150_23, K150_25, K150_27, K150_80, K150_82, wr_id, td_e, tm_e, pu_n, pu_s, up_s, up_k, up_a, ↓reduceIte, Int.reduceLT, Int.reduceLE, Int.reduceEq, Int.reduceNeg, Int.reduceAdd, Int.reduceSub, Int.reduceMul, Int.reduceMod, Int.reduceDiv, Int.cast_ofNat_Int, not_true_eq_false, not_false_eq_true, Int.reduceTDiv, Int.reduceTMod, if_pos, if_neg]
    · simp (disch := first | assumption | exact isL_i | exact isL_r | exact isL_n | exact i01a | exact i01b | omega) only [K150_20, K150_23, K150_25, K150_27, K150_80, K150_82, wr_id, td_e, tm_e, pu_n, pu_s, up_s, up_k, up_a, ↓reduceIte, Int.reduceLT, Int.reduceLE, Int.reduceEq, Int.reduceNeg, Int.reduceAdd, Int.reduceSub, Int.reduceMul, Int.reduceMod, Int.reduceDiv, Int.cast_ofNat_Int, not_true_eq_false, not_false_eq_true, Int.reduceTDiv, Int.reduceTMod, if_pos, if_neg]
  | succ m ih =>
    intro i gd x7 r7 hi h0 g0 g1
    rw [K150_18]
    by_cases hf0 : f = 0
    · rw [hf0, gnL_z (m + 1) i h0 (by omega), Int.add_zero]
      simp (disch := first | assumption | exact isL_i | exact isL_r | exact isL_n | exact i01a | exact i01b | omega) only [K150_20, K150_23, K150_25, K150_27, K150_80, K150_82, wr_id, td_e, tm_e, pu_n, pu_s, up_s, up_k, up_a, ↓reduceIte, Int.reduceLT, Int.reduceLE, Int.reduceEq, Int.reduceNeg, Int.reduceAdd, Int.reduceSub, Int.reduceMul, Int.reduceMod, Int.reduceDiv, Int.cast_ofNat_Int, not_true_eq_false, not_false_eq_true, Int.reduceTDiv, Int.reduceTMod, if_pos, if_neg]
    · have hb := (b_bt hf hf' h0 (by omega : i < 6)).1
      have hg := b_get hf hf' h0 (by omega : i < 6)
      simp only [gnL]
      by_cases hbt : bt f i = 1
      · obtain ⟨w0, w1⟩ := hw i h0 (by omega) hbt
        rw [if_pos hbt, ← Int.add_assoc, ← ih (i + 1) (gd + mi 41 (a * 6 + i)) (some (pI (a * 6 + i))) isL_i (by omega) (by omega) (by omega) (by omega)]
        simp (disch := first | assumption | exact isL_i | exact isL_r | exact isL_n | exact i01a | exact i01b | omega) only [K150_20, K150_23, K150_25, K150_27, K150_30, K150_31, K150_33, K150_34, K150_36, K150_37, K150_39, K150_41, K150_43, K150_44, K150_45, K150_46, K150_47, K150_50, K150_51, K150_54, K150_56, K150_59, K150_62, K150_64, K150_65, K150_68, K150_70, K150_71, K150_72, K150_74, K150_77, r10, r14, r15, r16, r113, r114, r115, r116, r22, r122, r142, r162, r00, r01, r02, r03, r372, r390, r391, r392, r393, r394, r396, r397, wr_id, td_e, tm_e, pu_n, pu_s, up_s, up_k, up_a, ↓reduceIte, Int.reduceLT, Int.reduceLE, Int.reduceEq, Int.reduceNeg, Int.reduceAdd, Int.reduceSub, Int.reduceMul, Int.reduceMod, Int.reduceDiv, Int.cast_ofNat_Int, not_true_eq_false, not_false_eq_true, Int.reduceTDiv, Int.reduceTMod, c_isIn, l41, hg, hbt, if_pos, if_neg]
      · have hbt0 : bt f i = 0 := by omega
        rw [if_neg hbt, Int.zero_add, ← ih (i + 1) gd (some (pI (a * 6 + i))) isL_i (by omega) (by omega) (by omega) (by omega)]
        simp (disch := first | assumption | exact isL_i | exact isL_r | exact isL_n | exact i01a | exact i01b | omega) only [K150_20, K150_23, K150_25, K150_27, K150_30, K150_31, K150_33, K150_34, K150_36, K150_37, K150_39, K150_41, K150_43, K150_44, K150_45, K150_46, K150_47, K150_50, K150_51, K150_54, K150_56, K150_59, K150_62, K150_64, K150_65, K150_68, K150_70, K150_71, K150_72, K150_74, K150_77, r10, r14, r15, r16, r113, r114, r115, r116, r22, r122, r142, r162, r00, r01, r02, r03, r372, r390, r391, r392, r393, r394, r396, r397, wr_id, td_e, tm_e, pu_n, pu_s, up_s, up_k, up_a, ↓reduceIte, Int.reduceLT, Int.reduceLE, Int.reduceEq, Int.reduceNeg, Int.reduceAdd, Int.reduceSub, Int.reduceMul, Int.reduceMod, Int.reduceDiv, Int.cast_ofNat_Int, not_true_eq_false, not_false_eq_true, Int.reduceTDiv, Int.reduceTMod, hg, hbt0, if_pos, if_neg]
/-- the gain and the new set of those had, from what was foreseen -/
theorem c_gainAt (hC : ShC G) (hW : WfA s) (hF : FSn s hz n (s 11).toNat mi) (hA : Adv s s' k) (hk : 0 ≤ k) (hkn : k + 1 ≤ n) (hn8 : n ≤ 8) (hc : 0 ≤ c) (hc' : c ≤ 23) : OkC (d + 2) 150 [pR (some 39), pI (k + 1), pI c, pI (hadB s')] G mi K = K (some (pI (gaR s' hz (s' 0 + 1) c (s 11).toNat 0))) G mi := by
  obtain ⟨⟨⟨k1, k2, k3, l3, k9, l9, k10, l10, k11, l11⟩, ⟨k12, k13, l13, k14, k15, l15, k16, k17, l17, k18, l18⟩, ⟨r10, r14, r15, r16, r113, r114, r115, r116, r22, r122, r142, r162⟩⟩, -, ⟨⟨k0, r00, r01, r02, r03⟩, ⟨k37, r372, k38, l38⟩, ⟨k39, r390, r391, r392, r393, r394, r396, r397⟩, ⟨k40, l40, k41, l41, k42, l42, k43, l43, k44, l44, k45, l45⟩⟩⟩ := id hC
  obtain ⟨⟨⟨z0, z1, z8, z9, z10, z11, z12, z13, z14, z15, z16⟩, hh01, hT, hz17⟩, hWV, hWD, hWB, hWP, hWT, hWZ, hWF, hWK⟩ := id hW
  have hh : ∀ p : Int, 0 ≤ p → p < 6 → (0 ≤ s' (2 + p) ∧ s' (2 + p) ≤ 1) := fun p a b => (hA.2.2.2 p a b).2
  obtain ⟨b1, b2⟩ := hadB_bd hh
  obtain ⟨s1, s2⟩ := sL_64 (s := s) (hz := hz) (a := k + 1) (c := c) (s 11).toNat (by omega)
  obtain ⟨f1, f2, -⟩ := b_anN s1 s2 b1 b2
  have hfr := fun p p0 p6 => adv_fresh (hz := hz) (c := c) (p := p) hA z11.1 z11.2 p0 p6
  have h40 := hF.1 (k + 1) c (by omega) hkn hc (by omega)
  have hwo : ∀ p : Int, 0 ≤ p → p < s 11 → seesP s' hz p (s' 0 + 1) c → mi 41 ((k + 1) * 6 + p) = worthF s' p (s' 0 + 1) := by
    intro p p0 p1 hs
    obtain ⟨e1, e2⟩ := (adv_sees hA p0 (by omega)).1 hs
    rw [hF.2 (k + 1) p (by omega) hkn p0 (by omega) e2.1 e2.2.2, st_worth hA.1 (by omega) p0, hA.2.1, show s 0 + k + 1 = s 0 + (k + 1) by omega]
  have hwb : ∀ i : Int, 0 ≤ i → i < 6 → bt (anN (sL s hz (s 11).toNat (k + 1) c) (hadB s')) i = 1 → 0 ≤ mi 41 ((k + 1) * 6 + i) ∧ mi 41 ((k + 1) * 6 + i) ≤ 30000 := by
    intro i i0 i6 hb
    rw [hfr i i0 i6] at hb
    by_cases e : i < s 11 ∧ seesP s' hz i (s' 0 + 1) c
    · rw [hwo i i0 e.1 e.2, st_worth hA.1 (by omega) i0]
      exact worthF_bd hWV hT i0 i6
    · rw [if_neg e] at hb; exact absurd hb (by decide)
  have hsum := gn_ga (w := fun i => mi 41 ((k + 1) * 6 + i)) z11.2 (fun p p0 p6 => hfr p p0 p6) hwo 6 0 (by decide) (by decide)
  rw [Int.sub_zero] at hsum
  have J := c_gain_lp (d := d + 1) (K := K) hC (c := c) (x := hadB s') (by omega : 1 ≤ k + 1) (by omega) f1 f2 hwb 6 0 0 none isL_n (by decide) (by decide) (by decide) (by decide)
  rw [Int.zero_add] at J
  rw [← hsum, ← J, E150]
  simp (disch := first | assumption | exact isL_i | exact isL_r | exact isL_n | exact i01a | exact i01b | omega) only [K150_0, K150_1, K150_2, K150_3, K150_6, K150_7, K150_8, K150_9, K150_10, K150_12, K150_13, K150_15, K150_16, wr_id, td_e, tm_e, pu_n, pu_s, up_s, up_k, up_a, ↓reduceIte, Int.reduceLT, Int.reduceLE, Int.reduceEq, Int.reduceNeg, Int.reduceAdd, Int.reduceSub, Int.reduceMul, Int.reduceMod, Int.reduceDiv, Int.cast_ofNat_Int, not_true_eq_false, not_false_eq_true, Int.reduceTDiv, Int.reduceTMod, c_seenAt hC, h40]
  rfl
end CL
