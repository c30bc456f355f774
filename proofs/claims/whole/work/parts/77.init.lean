/-! ===== the constructors ===== -/
def s00 : Int → Int := fun j => if j = 17 then -1 else 0
theorem gl_sr {G : Gh} {o : Nat} {j : Int} {v : Option Nat} : gL (setR G o j v) = gL G := rfl
theorem gl_ng {G : Gh} {kd : Nat × Nat} {sl : Nat} : gL (newG G kd sl) = gL G := rfl
theorem gx_sr {G : Gh} {o : Nat} {j : Int} {v : Option Nat} : gX (setR G o j v) = gX G := rfl
theorem gx_ng {G : Gh} {kd : Nat × Nat} {sl : Nat} : gX (newG G kd sl) = gX G := rfl
/-- a new state -/
def SIf (o : Nat) (G : Gh) (mi : Mi) : Prop := (ShS o G ∧ VwS G (o + 3) ∧ gR G o 1 = some (o + 3) ∧ ∀ j : Int, gR G (o + 8) j = none) ∧
  (∀ j : Int, mi o j = 0) ∧ WTb o mi ∧ (mi (o + 1) 3 = 0 ∧ mi (o + 11) 3 = 0 ∧ mi (o + 13) 3 = 0 ∧ mi (o + 15) 3 = 0) ∧ (mi (o + 3) 0 = 8 ∧ mi (o + 3) 1 = 0 ∧ mi (o + 3) 2 = 0 ∧ mi (o + 3) 7 = 0) ∧ ∀ j : Int, mi (o + 10) j = 0
theorem SIf.y {o : Nat} {G G' : Gh} {mi mi' : Mi} (h : SIf o G mi) (hk : ∀ a : Nat, a < 18 → gK G' (o + a) = gK G (o + a)) (hr : ∀ (a : Nat) (j : Int), a < 18 → gR G' (o + a) j = gR G (o + a) j) (hm : ∀ a : Nat, a < 18 → mi' (o + a) = mi (o + a)) : SIf o G' mi' := by
  have hk0 : gK G' o = gK G o := hk 0 (by decide)
  have hr0 : ∀ j : Int, gR G' o j = gR G o j := fun j => hr 0 j (by decide)
  have hm0 : mi' o = mi o := hm 0 (by decide)
  have e3 : ∀ a : Nat, o + 3 + a = o + (3 + a) := fun a => Nat.add_assoc _ _ _
  unfold SIf ShS VwS WTb at h ⊢
  rw [hm0]
  simp only [hk0, hr0, e3, Nat.reduceAdd] at h ⊢
  simp only [hk 1 (by decide), hk 2 (by decide), hk 3 (by decide), hk 4 (by decide), hk 5 (by decide), hk 6 (by decide), hk 8 (by decide), hk 9 (by decide), hk 10 (by decide), hk 11 (by decide), hk 12 (by decide), hk 13 (by decide), hk 14 (by decide), hk 15 (by decide), hk 16 (by decide), hk 17 (by decide),
    hr 1 _ (by decide), hr 3 _ (by decide), hr 8 _ (by decide), hr 11 _ (by decide), hr 13 _ (by decide), hr 15 _ (by decide), hm 1 (by decide), hm 3 (by decide), hm 10 (by decide), hm 11 (by decide), hm 13 (by decide), hm 15 (by decide)]
  exact h
theorem SIf.rs {o : Nat} {G : Gh} {mi : Mi} (h : SIf o G mi) (ho : o = 1 ∨ o = 19) : RS o s00 G mi := by
  obtain ⟨⟨-, hV, h1, -⟩, hz, ⟨⟨w1, w2⟩, ⟨w3, w4⟩, ⟨w5, w6⟩, ⟨w7, w8⟩⟩, ⟨x1, x2, x3, x4⟩, ⟨v0, v1, v2, v7⟩, hr⟩ := h
  refine ⟨⟨⟨hz 2, hz 3, ?_, hz 8, hz 9, hz 10, hz 11, hz 12⟩, ⟨fun p p0 p1 => ?_, fun j j0 j1 => ?_⟩, ⟨⟨w1, w2, x1⟩, fun j j0 j1 => ?_⟩, ⟨⟨w3, w4, x2⟩, fun j j0 j1 => ?_⟩, ⟨⟨w5, w6, x3⟩, fun j j0 j1 => ?_⟩, ⟨⟨w7, w8, x4⟩, fun j j0 j1 => ?_⟩⟩, fun p p0 p1 => ?_, ?_⟩
  · rw [hz]; rfl
  · exact absurd p1 (by show ¬ p < 0; omega)
  · rw [hr]
    unfold s00
    rw [if_neg (by omega)]
  · exact absurd j1 (by show ¬ j < 0; omega)
  · exact absurd j1 (by show ¬ j < 0; omega)
  · exact absurd j1 (by show ¬ j < 0; omega)
  · exact absurd j1 (by show ¬ j < 0; omega)
  · exact absurd p1 (by show ¬ p < 0; omega)
  · exact ⟨o + 3, h1, by omega, hV, ⟨v0, v1, v2⟩, [], rfl, v7, by rw [v7]; decide, trivial⟩
theorem SIf.gb {o : Nat} {G : Gh} {mi : Mi} (h : SIf o G mi) (hN : o + 18 ≤ gN G) : GB o G := by
  refine ⟨fun p T hp => ?_, fun V hV => ?_⟩
  · rw [h.1.2.2.2 p] at hp; cases hp
  · rw [h.1.2.2.1] at hV
    have := Option.some.inj hV
    omega
section CL
variable {d : Nat} {G : Gh} {mi mi' mi'' : Mi} {K : Option PV → Gh → Mi → Prop} {o : Nat} {w l : Int}
theorem t_init {N : Nat} (hk : (gK G o).1 = 8) (ho : ¬ o = gN G) (hw : 1 ≤ w) (hw3 : w ≤ 3) (hl : 1 ≤ l) (hl' : l ≤ 100) (hN : w * l = N) : OkC (d + 1) 79 [pR (some o), pI w, pI l] G mi K = K none (setR (newG G (20, N) N) o 2 (some (gN G))) (up (newM G (up (up mi o 0 w) o 1 l)) o 3 0) := by
  have e1 : (if (1 : Int) < w then w else 1) = w := by split <;> omega
  obtain ⟨f1, f2⟩ := mulb (show 0 ≤ w by omega) hw3 (show 0 ≤ l by omega) hl'
  have f3 : (0 : Int) ≤ (N : Int) := by omega
  have f4 : (N : Int) ≤ 300 := by omega
  have hk2 : (gK (newG G (20, N) N) o).1 = 8 := by rw [ng_k ho]; exact hk
  have hk3 : (gK (setR (newG G (20, N) N) o 2 (some (gN G))) o).1 = 8 := hk2
  rw [E79]
  simp (disch := first | assumption | exact isL_i | exact isL_r | exact isL_n | exact i01a | exact i01b | omega) only [K79_0, K79_1, K79_4, K79_5, K79_6, K79_7, K79_10, K79_13, K79_14, K79_15, K79_16, K79_19, K79_22, K79_23, K79_24, K79_27, K79_28, K79_31, K79_32, K79_34, K79_37, K79_38, K79_39, K79_42, wr_id, td_e, tm_e, pu_n, pu_s, up_s, up_k, up_a, ↓reduceIte, Int.reduceLT, Int.reduceLE, Int.reduceEq, Int.reduceNeg, Int.reduceAdd, Int.reduceSub, Int.reduceMul, Int.reduceMod, Int.reduceDiv, Int.cast_ofNat_Int, not_true_eq_false, not_false_eq_true, Int.reduceTDiv, Int.reduceTMod, e1, hN, Int.toNat_natCast, if_pos, if_neg]
theorem c_sinit (hn : gN G = o + 1) (hk : (gK G o).1 = 7) (hm : ∀ j : Int, mi o j = 0)
    (hK : ∀ G' mi', SIf o G' mi' → (gN G' = o + 18 ∧ gS G' ≤ gS G + 400 ∧ gL G' = gL G ∧ gX G' = gX G) → (∀ a : Nat, a < o → gK G' a = gK G a) → (∀ (a : Nat) (j : Int), a < o → gR G' a j = gR G a j) → (∀ a : Nat, a < o → mi' a = mi a) → (gK G' o).1 = 7 → K none G' mi') : OkC (d + 2) 134 [pR (some o)] G mi K := by
  rw [E134]
  simp (disch := first | assumption | exact isL_i | exact isL_r | exact isL_n | omega | (simp (disch := first | omega | (simp only [gn_ng, gn_sr]; first | done | omega)) only [gk_sr, ng_k, ng_s', gn_ng, gn_sr]; first | done | assumption | omega)) only [K134_0, K134_1, K134_4, K134_5, K134_8, K134_8i, K134_9, K134_10, wr_id, td_e, tm_e, pu_n, pu_s, up_s, up_k, up_a, ↓reduceIte, Int.reduceLT, Int.reduceLE, Int.reduceEq, Int.reduceNeg, Int.reduceAdd, Int.reduceSub, Int.reduceMul, Int.reduceMod, Int.reduceDiv, Int.cast_ofNat_Int, not_true_eq_false, not_false_eq_true, Int.reduceTDiv, Int.reduceTMod, gn_ng, gn_sr, hn, Nat.add_assoc, Nat.reduceAdd]
  have ht : (gK (newG G (8, 0) 4) (o + 1)).1 = 8 := by rw [← hn, ng_s]
  rw [K134_12, t_init (d := d) (N := 100) ht (by rw [gn_ng]; omega) (by decide) (by decide) (by decide) (by decide) rfl]
  simp (disch := first | assumption | exact isL_i | exact isL_r | exact isL_n | omega | (simp (disch := first | omega | (simp only [gn_ng, gn_sr]; first | done | omega)) only [gk_sr, ng_k, ng_s', gn_ng, gn_sr]; first | done | assumption | omega)) only [K134_15, K134_18, K134_19, K134_22, K134_22i, wr_id, td_e, tm_e, pu_n, pu_s, up_s, up_k, up_a, ↓reduceIte, Int.reduceLT, Int.reduceLE, Int.reduceEq, Int.reduceNeg, Int.reduceAdd, Int.reduceSub, Int.reduceMul, Int.reduceMod, Int.reduceDiv, Int.cast_ofNat_Int, not_true_eq_false, not_false_eq_true, Int.reduceTDiv, Int.reduceTMod, gn_ng, gn_sr, hn, Nat.add_assoc, Nat.reduceAdd]
  have A1 : ∀ a : Nat, a < o + 1 → gK (newG (setR (setR (newG (newG G (8, 0) 4) (20, 100) 100) (o + 1) 2 (some (o + 2))) o 0 (some (o + 1))) (11, 0) 10) a = gK G a := fun a ha => by simp (disch := first | omega | (simp only [gn_ng, gn_sr]; first | done | omega)) only [gk_sr, ng_k, ng_s', nw_k, nw_s', ng_r, nr_s, sr_s', sr_ri, sr_ra, gn_ng, gn_sr, gs_ng, gs_sr, up_a, up_s, up_k]
  have A2 : ∀ (a : Nat) (j : Int), a < o → gR (newG (setR (setR (newG (newG G (8, 0) 4) (20, 100) 100) (o + 1) 2 (some (o + 2))) o 0 (some (o + 1))) (11, 0) 10) a j = gR G a j := fun a j ha => by simp (disch := first | omega | (simp only [gn_ng, gn_sr]; first | done | omega)) only [gk_sr, ng_k, ng_s', nw_k, nw_s', ng_r, nr_s, sr_s', sr_ri, sr_ra, gn_ng, gn_sr, gs_ng, gs_sr, up_a, up_s, up_k]
  have A3 : gN (newG (setR (setR (newG (newG G (8, 0) 4) (20, 100) 100) (o + 1) 2 (some (o + 2))) o 0 (some (o + 1))) (11, 0) 10) = o + 4 := by simp only [gn_ng, gn_sr]; omega
  have A4 : gS (newG (setR (setR (newG (newG G (8, 0) 4) (20, 100) 100) (o + 1) 2 (some (o + 2))) o 0 (some (o + 1))) (11, 0) 10) = gS G + 114 := by simp only [gs_ng, gs_sr]
  have A5 : gK (newG (setR (setR (newG (newG G (8, 0) 4) (20, 100) 100) (o + 1) 2 (some (o + 2))) o 0 (some (o + 1))) (11, 0) 10) (o + 1) = (8, 0) := by simp (disch := first | omega | (simp only [gn_ng, gn_sr]; first | done | omega)) only [gk_sr, ng_k, ng_s', nw_k, nw_s', ng_r, nr_s, sr_s', sr_ri, sr_ra, gn_ng, gn_sr, gs_ng, gs_sr, up_a, up_s, up_k]
  have A6 : gK (newG (setR (setR (newG (newG G (8, 0) 4) (20, 100) 100) (o + 1) 2 (some (o + 2))) o 0 (some (o + 1))) (11, 0) 10) (o + 2) = (20, 100) := by simp (disch := first | omega | (simp only [gn_ng, gn_sr]; first | done | omega)) only [gk_sr, ng_k, ng_s', nw_k, nw_s', ng_r, nr_s, sr_s', sr_ri, sr_ra, gn_ng, gn_sr, gs_ng, gs_sr, up_a, up_s, up_k]
  have A7 : gK (newG (setR (setR (newG (newG G (8, 0) 4) (20, 100) 100) (o + 1) 2 (some (o + 2))) o 0 (some (o + 1))) (11, 0) 10) (o + 3) = (11, 0) := by simp (disch := first | omega | (simp only [gn_ng, gn_sr]; first | done | omega)) only [gk_sr, ng_k, ng_s', nw_k, nw_s', ng_r, nr_s, sr_s', sr_ri, sr_ra, gn_ng, gn_sr, gs_ng, gs_sr, up_a, up_s, up_k]
  have A8 : gR (newG (setR (setR (newG (newG G (8, 0) 4) (20, 100) 100) (o + 1) 2 (some (o + 2))) o 0 (some (o + 1))) (11, 0) 10) (o + 1) 2 = some (o + 2) := by simp (disch := first | omega | (simp only [gn_ng, gn_sr]; first | done | omega)) only [gk_sr, ng_k, ng_s', nw_k, nw_s', ng_r, nr_s, sr_s', sr_ri, sr_ra, gn_ng, gn_sr, gs_ng, gs_sr, up_a, up_s, up_k]
  have A9 : gR (newG (setR (setR (newG (newG G (8, 0) 4) (20, 100) 100) (o + 1) 2 (some (o + 2))) o 0 (some (o + 1))) (11, 0) 10) o 0 = some (o + 1) := by simp (disch := first | omega | (simp only [gn_ng, gn_sr]; first | done | omega)) only [gk_sr, ng_k, ng_s', nw_k, nw_s', ng_r, nr_s, sr_s', sr_ri, sr_ra, gn_ng, gn_sr, gs_ng, gs_sr, up_a, up_s, up_k]
  have A10 : gL (newG (setR (setR (newG (newG G (8, 0) 4) (20, 100) 100) (o + 1) 2 (some (o + 2))) o 0 (some (o + 1))) (11, 0) 10) = gL G ∧ gX (newG (setR (setR (newG (newG G (8, 0) 4) (20, 100) 100) (o + 1) 2 (some (o + 2))) o 0 (some (o + 1))) (11, 0) 10) = gX G := ⟨rfl, rfl⟩
  have B1 : ∀ a : Nat, a ≤ o → newM (setR (setR (newG (newG G (8, 0) 4) (20, 100) 100) (o + 1) 2 (some (o + 2))) o 0 (some (o + 1))) (up (newM (newG G (8, 0) 4) (up (up (newM G mi) (o + 1) 0 1) (o + 1) 1 100)) (o + 1) 3 0) a = mi a := fun a ha => by simp (disch := first | omega | (simp only [gn_ng, gn_sr]; first | done | omega)) only [gk_sr, ng_k, ng_s', nw_k, nw_s', ng_r, nr_s, sr_s', sr_ri, sr_ra, gn_ng, gn_sr, gs_ng, gs_sr, up_a, up_s, up_k]
  have B2 : newM (setR (setR (newG (newG G (8, 0) 4) (20, 100) 100) (o + 1) 2 (some (o + 2))) o 0 (some (o + 1))) (up (newM (newG G (8, 0) 4) (up (up (newM G mi) (o + 1) 0 1) (o + 1) 1 100)) (o + 1) 3 0) (o + 1) 0 = 1 := by simp (disch := first | omega | (simp only [gn_ng, gn_sr]; first | done | omega)) only [gk_sr, ng_k, ng_s', nw_k, nw_s', ng_r, nr_s, sr_s', sr_ri, sr_ra, gn_ng, gn_sr, gs_ng, gs_sr, up_a, up_s, up_k]
  have B3 : newM (setR (setR (newG (newG G (8, 0) 4) (20, 100) 100) (o + 1) 2 (some (o + 2))) o 0 (some (o + 1))) (up (newM (newG G (8, 0) 4) (up (up (newM G mi) (o + 1) 0 1) (o + 1) 1 100)) (o + 1) 3 0) (o + 1) 1 = 100 := by simp (disch := first | omega | (simp only [gn_ng, gn_sr]; first | done | omega)) only [gk_sr, ng_k, ng_s', nw_k, nw_s', ng_r, nr_s, sr_s', sr_ri, sr_ra, gn_ng, gn_sr, gs_ng, gs_sr, up_a, up_s, up_k]
  have B4 : newM (setR (setR (newG (newG G (8, 0) 4) (20, 100) 100) (o + 1) 2 (some (o + 2))) o 0 (some (o + 1))) (up (newM (newG G (8, 0) 4) (up (up (newM G mi) (o + 1) 0 1) (o + 1) 1 100)) (o + 1) 3 0) (o + 1) 3 = 0 := by simp (disch := first | omega | (simp only [gn_ng, gn_sr]; first | done | omega)) only [gk_sr, ng_k, ng_s', nw_k, nw_s', ng_r, nr_s, sr_s', sr_ri, sr_ra, gn_ng, gn_sr, gs_ng, gs_sr, up_a, up_s, up_k]
  rw [K134_23]
  revert A1 A2 A3 A4 A5 A6 A7 A8 A9 A10
  generalize newG (setR (setR (newG (newG G (8, 0) 4) (20, 100) 100) (o + 1) 2 (some (o + 2))) o 0 (some (o + 1))) (11, 0) 10 = G1
  intro A1 A2 A3 A4 A5 A6 A7 A8 A9 A10
  revert B1 B2 B3 B4
  generalize newM (setR (setR (newG (newG G (8, 0) 4) (20, 100) 100) (o + 1) 2 (some (o + 2))) o 0 (some (o + 1))) (up (newM (newG G (8, 0) 4) (up (up (newM G mi) (o + 1) 0 1) (o + 1) 1 100)) (o + 1) 3 0) = m1
  intro B1 B2 B3 B4
  refine c_vinit (d := d) (V := o + 3) (by rw [A7]) (by omega) fun G2 m2 hVI hm2 hz2 hv2 => ?_
  obtain ⟨⟨gn2, gs2, gl2, gx2⟩, gk2, gr2, ⟨ga2, gb2, ge2, gf2⟩, gv3, gv5, gv6⟩ := hVI
  obtain ⟨v20, v21, v22, v24, v27, v29⟩ := hv2
  have hn2 : gN G2 = o + 8 := by omega
  have C0 : (gK G2 o).1 = 7 := by rw [gk2 o (by omega), A1 o (by omega)]; exact hk
  have C0' : ∀ a : Nat, a < o → gK G2 a = gK G a := fun a ha => by rw [gk2 a (by omega), A1 a (by omega)]
  have C1 : gK G2 (o + 1) = (8, 0) := by rw [gk2 _ (by omega)]; exact A5
  have C2 : gK G2 (o + 2) = (20, 100) := by rw [gk2 _ (by omega)]; exact A6
  have C3 : gK G2 (o + 3) = (11, 0) := by rw [gk2 _ (by omega)]; exact A7
  rw [A3] at ga2 gb2 ge2 gf2 gv3 gv5 gv6
  have R0 : gR G2 o 0 = some (o + 1) := by rw [gr2 _ _ (by omega) (by omega)]; exact A9
  have R0' : ∀ (a : Nat) (j : Int), a < o → gR G2 a j = gR G a j := fun a j ha => by rw [gr2 _ _ (by omega) (by omega)]; exact A2 a j ha
  have R1 : gR G2 (o + 1) 2 = some (o + 2) := by rw [gr2 _ _ (by omega) (by omega)]; exact A8
  have M0 : ∀ a : Nat, a ≤ o → m2 a = mi a := fun a ha => by rw [hm2 a (by omega) (by omega)]; exact B1 a ha
  have M1 : m2 (o + 1) = m1 (o + 1) := hm2 _ (by omega) (by omega)
  have S2 : gS G2 = gS G + 234 := by omega
  have L2 : gL G2 = gL G ∧ gX G2 = gX G := ⟨gl2.trans A10.1, gx2.trans A10.2⟩
  simp (disch := first | assumption | exact isL_i | exact isL_r | exact isL_n | omega | (simp (disch := first | omega | (simp only [gn_ng, gn_sr]; first | done | omega)) only [gk_sr, ng_k, ng_s', gn_ng, gn_sr]; first | done | assumption | omega)) only [K134_26, K134_29, K134_30, K134_32, K134_35, K134_38, K134_39, K134_41, K134_43, K134_46, K134_47, K134_49, K134_51, K134_54, K134_55, K134_58, K134_58i, K134_59, K134_60, wr_id, td_e, tm_e, pu_n, pu_s, up_s, up_k, up_a, ↓reduceIte, Int.reduceLT, Int.reduceLE, Int.reduceEq, Int.reduceNeg, Int.reduceAdd, Int.reduceSub, Int.reduceMul, Int.reduceMod, Int.reduceDiv, Int.cast_ofNat_Int, not_true_eq_false, not_false_eq_true, Int.reduceTDiv, Int.reduceTMod, pu_n, gn_ng, gn_sr, hn2, Nat.add_assoc, Nat.reduceAdd]
  rw [K134_61, t_init (d := d) (N := 15) (by simp (disch := first | omega | (simp only [gn_ng, gn_sr]; first | done | omega)) only [gk_sr, ng_k, ng_s', nw_k, nw_s', ng_r, nr_s, sr_s', sr_ri, sr_ra, gn_ng, gn_sr, gs_ng, gs_sr, up_a, up_s, up_k]) (by simp only [gn_ng, gn_sr]; omega) (by decide) (by decide) (by decide) (by decide) rfl]
  simp (disch := first | assumption | exact isL_i | exact isL_r | exact isL_n | omega | (simp (disch := first | omega | (simp only [gn_ng, gn_sr]; first | done | omega)) only [gk_sr, ng_k, ng_s', gn_ng, gn_sr]; first | done | assumption | omega)) only [K134_64, K134_67, K134_68, K134_71, K134_71i, K134_72, K134_73, wr_id, td_e, tm_e, pu_n, pu_s, up_s, up_k, up_a, ↓reduceIte, Int.reduceLT, Int.reduceLE, Int.reduceEq, Int.reduceNeg, Int.reduceAdd, Int.reduceSub, Int.reduceMul, Int.reduceMod, Int.reduceDiv, Int.cast_ofNat_Int, not_true_eq_false, not_false_eq_true, Int.reduceTDiv, Int.reduceTMod, pu_n, gn_ng, gn_sr, hn2, Nat.add_assoc, Nat.reduceAdd]
  rw [K134_75, t_init (d := d) (N := 8) (by simp (disch := first | omega | (simp only [gn_ng, gn_sr]; first | done | omega)) only [gk_sr, ng_k, ng_s', nw_k, nw_s', ng_r, nr_s, sr_s', sr_ri, sr_ra, gn_ng, gn_sr, gs_ng, gs_sr, up_a, up_s, up_k]) (by simp only [gn_ng, gn_sr]; omega) (by decide) (by decide) (by decide) (by decide) rfl]
  simp (disch := first | assumption | exact isL_i | exact isL_r | exact isL_n | omega | (simp (disch := first | omega | (simp only [gn_ng, gn_sr]; first | done | omega)) only [gk_sr, ng_k, ng_s', gn_ng, gn_sr]; first | done | assumption | omega)) only [K134_78, K134_81, K134_82, K134_85, K134_85i, K134_86, K134_87, wr_id, td_e, tm_e, pu_n, pu_s, up_s, up_k, up_a, ↓reduceIte, Int.reduceLT, Int.reduceLE, Int.reduceEq, Int.reduceNeg, Int.reduceAdd, Int.reduceSub, Int.reduceMul, Int.reduceMod, Int.reduceDiv, Int.cast_ofNat_Int, not_true_eq_false, not_false_eq_true, Int.reduceTDiv, Int.reduceTMod, pu_n, gn_ng, gn_sr, hn2, Nat.add_assoc, Nat.reduceAdd]
  rw [K134_89, t_init (d := d) (N := 16) (by simp (disch := first | omega | (simp only [gn_ng, gn_sr]; first | done | omega)) only [gk_sr, ng_k, ng_s', nw_k, nw_s', ng_r, nr_s, sr_s', sr_ri, sr_ra, gn_ng, gn_sr, gs_ng, gs_sr, up_a, up_s, up_k]) (by simp only [gn_ng, gn_sr]; omega) (by decide) (by decide) (by decide) (by decide) rfl]
  simp (disch := first | assumption | exact isL_i | exact isL_r | exact isL_n | omega | (simp (disch := first | omega | (simp only [gn_ng, gn_sr]; first | done | omega)) only [gk_sr, ng_k, ng_s', gn_ng, gn_sr]; first | done | assumption | omega)) only [K134_92, K134_95, K134_96, K134_98, K134_100, K134_103, wr_id, td_e, tm_e, pu_n, pu_s, up_s, up_k, up_a, ↓reduceIte, Int.reduceLT, Int.reduceLE, Int.reduceEq, Int.reduceNeg, Int.reduceAdd, Int.reduceSub, Int.reduceMul, Int.reduceMod, Int.reduceDiv, Int.cast_ofNat_Int, not_true_eq_false, not_false_eq_true, Int.reduceTDiv, Int.reduceTMod, pu_n, gn_ng, gn_sr, hn2, Nat.add_assoc, Nat.reduceAdd]
  refine hK _ _ ⟨⟨⟨⟨?_, ?_, ?_, ?_, ?_, ?_, ?_, ?_, ?_, ?_⟩, ⟨?_, ?_, ?_, ?_, ?_, ?_, ?_, ?_, ?_, ?_, ?_⟩, ⟨?_, ?_, ?_, ?_, ?_, ?_, ?_, ?_, ?_, ?_, ?_, ?_⟩⟩, ⟨?_, ⟨?_, ?_⟩, ⟨?_, ?_⟩, ⟨?_, ?_⟩, ?_, ?_, ?_⟩, ?_, fun j => ?_⟩, fun j => ?_, ⟨⟨?_, ?_⟩, ⟨?_, ?_⟩, ⟨?_, ?_⟩, ⟨?_, ?_⟩⟩, ⟨?_, ?_, ?_, ?_⟩, ⟨?_, ?_, ?_, ?_⟩, fun j => ?_⟩ ⟨?_, ?_, ?_, ?_⟩ (fun a ha => ?_) (fun a j ha => ?_) (fun a ha => ?_) ?_
  all_goals try simp (disch := first | omega | (simp only [gn_ng, gn_sr]; first | done | omega)) only [gk_sr, ng_k, ng_s', nw_k, nw_s', ng_r, nr_s, sr_s', sr_ri, sr_ra, gn_ng, gn_sr, gs_ng, gs_sr, up_a, up_s, up_k, Nat.add_assoc, Nat.reduceAdd, C0, C1, C2, C3, ga2, gb2, ge2, gf2, gv3, gv5, gv6, R0, R1, M1, B2, B3, B4, v20, v21, v22, v27, gl_sr, gl_ng, gx_sr, gx_ng, L2.1, L2.2]
  all_goals first
    | (simp only [show Int.toNat 6 = 6 from rfl, show Int.toNat 24 = 24 from rfl]; first | done | omega)
    | exact C0' _ (by assumption)
    | exact R0' _ _ (by assumption)
    | exact M0 _ (by omega)
    | (rw [M0 o (Nat.le_refl _)]; exact hm _)
    | omega
theorem r_init (hn : gN G = 40) (hk : (gK G 39).1 = 4)
    (hK : ∀ G' mi', (gN G' = 46 ∧ gS G' ≤ gS G + 400 ∧ gL G' = gL G ∧ gX G' = gX G) → (∀ a : Nat, a < 40 → gK G' a = gK G a) → (∀ (a : Nat) (j : Int), a < 39 → gR G' a j = gR G a j) → (∀ a : Nat, a < 40 → mi' a = mi a) →
      ((gR G' 39 0 = some 1 ∧ gR G' 39 1 = some 40 ∧ gR G' 39 2 = some 41 ∧ gR G' 39 3 = some 42 ∧ gR G' 39 4 = some 43 ∧ gR G' 39 6 = some 44 ∧ gR G' 39 7 = some 45) ∧ (gK G' 40 = (20, 216) ∧ gK G' 41 = (20, 54) ∧ gK G' 42 = (20, 5) ∧ gK G' 43 = (20, 5) ∧ gK G' 44 = (20, 6) ∧ gK G' 45 = (20, 6))) → K none G' mi') : OkC (d + 1) 147 [pR (some 39), pR (some 1)] G mi K := by
  rw [E147]
  simp (disch := first | assumption | exact isL_i | exact isL_r | exact isL_n | omega | (simp (disch := first | omega | (simp only [gn_ng, gn_sr]; first | done | omega)) only [gk_sr, ng_k, ng_s', gn_ng, gn_sr]; first | done | assumption | omega)) only [K147_0, K147_1, K147_4, K147_5, K147_6, K147_9, K147_10, K147_13, K147_15, K147_18, K147_19, K147_21, K147_23, K147_26, K147_27, K147_28, K147_30, K147_33, K147_34, K147_35, K147_37, K147_40, K147_41, K147_43, K147_45, K147_48, K147_49, K147_51, K147_53, K147_56, wr_id, td_e, tm_e, pu_n, pu_s, up_s, up_k, up_a, ↓reduceIte, Int.reduceLT, Int.reduceLE, Int.reduceEq, Int.reduceNeg, Int.reduceAdd, Int.reduceSub, Int.reduceMul, Int.reduceMod, Int.reduceDiv, Int.cast_ofNat_Int, not_true_eq_false, not_false_eq_true, Int.reduceTDiv, Int.reduceTMod, gn_ng, gn_sr, hn, Nat.reduceAdd]
  refine hK _ _ ⟨?_, ?_, rfl, rfl⟩ (fun a ha => ?_) (fun a j ha => ?_) (fun a ha => ?_) ⟨⟨?_, ?_, ?_, ?_, ?_, ?_, ?_⟩, ⟨?_, ?_, ?_, ?_, ?_, ?_⟩⟩
  all_goals try simp (disch := first | omega | (simp only [gn_ng, gn_sr]; first | done | omega)) only [gk_sr, ng_k, ng_s', nw_k, nw_s', ng_r, nr_s, sr_s', sr_ri, sr_ra, gn_ng, gn_sr, gs_ng, gs_sr, up_a, up_s, up_k]
  all_goals first
    | (simp only [show Int.toNat 6 = 6 from rfl, show Int.toNat 5 = 5 from rfl, show Int.toNat 54 = 54 from rfl, show Int.toNat 216 = 216 from rfl]; first | done | omega)
    | omega
theorem m_init (hn : gN G = 47) (hk : (gK G 46).1 = 13)
    (hK : ∀ G' mi', (gN G' = 55 ∧ gS G' ≤ gS G + 3000 ∧ gL G' = gL G ∧ gX G' = gX G) → (∀ a : Nat, a < 46 → gK G' a = gK G a) → (∀ (a : Nat) (j : Int), a < 46 → gR G' a j = gR G a j) → ShM G' → (∀ a : Nat, a ≤ 46 → mi' a = mi a) → (∀ j : Int, mi' 47 j = s00 j) → (∀ j : Int, mi' 48 j = 0) → K none G' mi') : OkC (d + 1) 0 [pR (some 46)] G mi K := by
  rw [E0]
  simp (disch := first | assumption | exact isL_i | exact isL_r | exact isL_n | omega | (simp (disch := first | omega | (simp only [gn_ng, gn_sr]; first | done | omega)) only [gk_sr, ng_k, ng_s', gn_ng, gn_sr]; first | done | assumption | omega)) only [K0_0, K0_1, K0_4, K0_5, K0_8, K0_10, K0_13, K0_14, K0_17, K0_19, K0_22, K0_23, K0_25, K0_27, K0_30, K0_31, K0_33, K0_35, K0_38, K0_39, K0_41, K0_43, K0_46, K0_47, K0_49, K0_51, K0_54, K0_55, K0_57, K0_59, K0_62, K0_63, K0_65, K0_67, K0_70, wr_id, td_e, tm_e, pu_n, pu_s, up_s, up_k, up_a, ↓reduceIte, Int.reduceLT, Int.reduceLE, Int.reduceEq, Int.reduceNeg, Int.reduceAdd, Int.reduceSub, Int.reduceMul, Int.reduceMod, Int.reduceDiv, Int.cast_ofNat_Int, not_true_eq_false, not_false_eq_true, Int.reduceTDiv, Int.reduceTMod, gn_ng, gn_sr, hn, Nat.reduceAdd]
  have e47 : ∀ (G0 : Gh), gR (setR G0 46 18 (some 54)) 46 1 = gR G0 46 1 := fun G0 => sr_ri (by decide)
  simp (disch := first | assumption | exact isL_i | exact isL_r | exact isL_n | omega | (simp (disch := first | omega | (simp only [gn_ng, gn_sr]; first | done | omega)) only [gk_sr, ng_k, ng_s', gn_ng, gn_sr]; first | done | assumption | omega)) only [K0_71, K0_74, K0_76, K0_77, K0_78, wr_id, td_e, tm_e, pu_n, pu_s, up_s, up_k, up_a, ↓reduceIte, Int.reduceLT, Int.reduceLE, Int.reduceEq, Int.reduceNeg, Int.reduceAdd, Int.reduceSub, Int.reduceMul, Int.reduceMod, Int.reduceDiv, Int.cast_ofNat_Int, not_true_eq_false, not_false_eq_true, Int.reduceTDiv, Int.reduceTMod, gk_sr, ng_k, ng_s', nw_k, nw_s', ng_r, nr_s, sr_s', sr_ri, sr_ra, gn_ng, gn_sr, gs_ng, gs_sr, up_a, up_s, up_k, gn_ng, gn_sr, hn, Nat.reduceAdd]
  refine hK _ _ ⟨?_, ?_, rfl, rfl⟩ (fun a ha => ?_) (fun a j ha => ?_) ⟨⟨?_, ?_, ?_, ?_, ?_, ?_, ?_, ?_, ?_, ?_, ?_⟩, ⟨?_, ?_, ?_, ?_, ?_, ?_⟩, ⟨?_, ?_, ?_, ?_, ?_, ?_, ?_, ?_⟩⟩ (fun a ha => ?_) (fun j => ?_) (fun j => ?_)
  all_goals try simp (disch := first | omega | (simp only [gn_ng, gn_sr]; first | done | omega)) only [gk_sr, ng_k, ng_s', nw_k, nw_s', ng_r, nr_s, sr_s', sr_ri, sr_ra, gn_ng, gn_sr, gs_ng, gs_sr, up_a, up_s, up_k]
  all_goals first
    | (simp only [show Int.toNat 6 = 6 from rfl, show Int.toNat 8 = 8 from rfl, show Int.toNat 20 = 20 from rfl, show Int.toNat 64 = 64 from rfl, show Int.toNat 919 = 919 from rfl]; first | done | omega)
    | exact hk
    | omega
    | skip
  unfold s00
  by_cases h : j = 17
  · rw [if_pos h, h, up_s]
  · rw [if_neg h, up_k h]
    simp (disch := first | omega | (simp only [gn_ng, gn_sr]; first | done | omega)) only [gk_sr, ng_k, ng_s', nw_k, nw_s', ng_r, nr_s, sr_s', sr_ri, sr_ra, gn_ng, gn_sr, gs_ng, gs_sr, up_a, up_s, up_k]
end CL
