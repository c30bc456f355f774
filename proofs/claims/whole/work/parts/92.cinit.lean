/-! ===== the class's constructor ===== -/
section CL
variable {d : Nat} {G : Gh} {mi mi' mi'' : Mi} {K : Option PV → Gh → Mi → Prop} {o : Nat} {w l : Int}
/-- what a new class leaves: its two states, its trace, its search -/
def CIf (G : Gh) (mi : Mi) : Prop := SIf 1 G mi ∧ SIf 19 G mi ∧ ShR G ∧ (mi 37 0 = 1 ∧ mi 37 1 = 20 ∧ mi 37 3 = 0) ∧ mi 0 4 = 0
theorem c_cinit (hn : gN G = 1) (hk : (gK G 0).1 = 12)
    (hK : ∀ G' mi', CIf G' mi' → (gN G' = 46 ∧ gS G' ≤ gS G + 1500 ∧ gL G' = gL G ∧ gX G' = gX G) → K none G' mi') : OkC (d + 3) 158 [pR (some 0)] G mi K := by
  rw [E158]
  simp (disch := first | assumption | exact isL_i | exact isL_r | exact isL_n | omega | (simp (disch := first | omega | (simp only [gn_ng, gn_sr]; first | done | omega)) only [gk_sr, ng_k, ng_s', gn_ng, gn_sr]; first | done | assumption | omega)) only [K158_0, K158_1, K158_4, K158_5, K158_8, K158_8i, wr_id, td_e, tm_e, pu_n, pu_s, up_s, up_k, up_a, ↓reduceIte, Int.reduceLT, Int.reduceLE, Int.reduceEq, Int.reduceNeg, Int.reduceAdd, Int.reduceSub, Int.reduceMul, Int.reduceMod, Int.reduceDiv, Int.cast_ofNat_Int, not_true_eq_false, not_false_eq_true, Int.reduceTDiv, Int.reduceTMod, hn]
  have A1 : gK (newG G (7, 0) 17) 0 = gK G 0 := ng_k (by omega)
  have A2 : gK (newG G (7, 0) 17) 1 = (7, 0) := ng_s' (by omega) (by omega)
  have A3 : gN (newG G (7, 0) 17) = 2 := by rw [gn_ng, hn]
  have A4 : gS (newG G (7, 0) 17) = gS G + 17 := rfl
  have A5 : gL (newG G (7, 0) 17) = gL G ∧ gX (newG G (7, 0) 17) = gX G := ⟨rfl, rfl⟩
  have A6 : newM G mi 1 = fun _ => 0 := nw_s' (by omega) (by omega)
  rw [K158_9]
  revert A1 A2 A3 A4 A5 A6
  generalize newG G (7, 0) 17 = G1
  generalize newM G mi = m1
  intro A1 A2 A3 A4 A5 A6
  refine c_sinit (d := d) (o := 1) A3 (by rw [A2]) (fun j => by rw [A6]) fun G2 m2 hS1 hc2 hk2 hr2 hm2 h72 => ?_
  obtain ⟨b1, b2, b3, b4⟩ := hc2
  have k02 : (gK G2 0).1 = 12 := by rw [hk2 0 (by decide), A1]; exact hk
  have hn2 : gN G2 = 19 := b1
  simp (disch := first | assumption | exact isL_i | exact isL_r | exact isL_n | omega | (simp (disch := first | omega | (simp only [gn_ng, gn_sr]; first | done | omega)) only [gk_sr, ng_k, ng_s', gn_ng, gn_sr]; first | done | assumption | omega)) only [K158_12, K158_15, K158_16, K158_19, K158_19i, wr_id, td_e, tm_e, pu_n, pu_s, up_s, up_k, up_a, ↓reduceIte, Int.reduceLT, Int.reduceLE, Int.reduceEq, Int.reduceNeg, Int.reduceAdd, Int.reduceSub, Int.reduceMul, Int.reduceMod, Int.reduceDiv, Int.cast_ofNat_Int, not_true_eq_false, not_false_eq_true, Int.reduceTDiv, Int.reduceTMod, pu_n, gn_sr, hn2]
  have B1 : gK (newG (setR G2 0 0 (some 1)) (7, 0) 17) 19 = (7, 0) := ng_s' (by rw [gn_sr]; omega) (by rw [gn_sr]; omega)
  have B2 : ∀ a : Nat, a < 19 → gK (newG (setR G2 0 0 (some 1)) (7, 0) 17) a = gK G2 a := fun a ha => by rw [ng_k (by rw [gn_sr]; omega), gk_sr]
  have B3 : ∀ (a : Nat) (j : Int), a < 19 → ¬ a = 0 → gR (newG (setR G2 0 0 (some 1)) (7, 0) 17) a j = gR G2 a j := fun a j ha h0 => by rw [ng_r (by rw [gn_sr]; omega), sr_ra h0]
  have B4 : gR (newG (setR G2 0 0 (some 1)) (7, 0) 17) 0 0 = some 1 := by rw [ng_r (by rw [gn_sr]; omega), sr_s]
  have B5 : gN (newG (setR G2 0 0 (some 1)) (7, 0) 17) = 20 := by rw [gn_ng, gn_sr, hn2]
  have B6 : gS (newG (setR G2 0 0 (some 1)) (7, 0) 17) = gS G2 + 17 := rfl
  have B7 : gL (newG (setR G2 0 0 (some 1)) (7, 0) 17) = gL G2 ∧ gX (newG (setR G2 0 0 (some 1)) (7, 0) 17) = gX G2 := ⟨rfl, rfl⟩
  have B8 : newM (setR G2 0 0 (some 1)) m2 19 = fun _ => 0 := nw_s' (by rw [gn_sr]; omega) (by rw [gn_sr]; omega)
  have B9 : ∀ a : Nat, a < 19 → newM (setR G2 0 0 (some 1)) m2 a = m2 a := fun a ha => nw_k (by rw [gn_sr]; omega)
  rw [K158_20]
  revert B1 B2 B3 B4 B5 B6 B7 B8 B9
  generalize newG (setR G2 0 0 (some 1)) (7, 0) 17 = G3
  generalize newM (setR G2 0 0 (some 1)) m2 = m3
  intro B1 B2 B3 B4 B5 B6 B7 B8 B9
  refine c_sinit (d := d) (o := 19) B5 (by rw [B1]) (fun j => by rw [B8]) fun G4 m4 hS2 hc4 hk4 hr4 hm4 h74 => ?_
  obtain ⟨c1, c2, c3, c4⟩ := hc4
  have k04 : (gK G4 0).1 = 12 := by rw [hk4 0 (by decide), B2 0 (by decide)]; exact k02
  have hn4 : gN G4 = 37 := c1
  have S1 : SIf 1 G4 m4 := hS1.y (fun a ha => by rw [hk4 _ (by omega), B2 _ (by omega)]) (fun a j ha => by rw [hr4 _ _ (by omega), B3 _ _ (by omega) (by omega)]) (fun a ha => by rw [hm4 _ (by omega), B9 _ (by omega)])
  have r00 : gR G4 0 0 = some 1 := by rw [hr4 0 0 (by decide)]; exact B4
  simp (disch := first | assumption | exact isL_i | exact isL_r | exact isL_n | omega | (simp (disch := first | omega | (simp only [gn_ng, gn_sr]; first | done | omega)) only [gk_sr, ng_k, ng_s', gn_ng, gn_sr]; first | done | assumption | omega)) only [K158_23, K158_26, K158_27, K158_30, K158_30i, K158_31, K158_32, wr_id, td_e, tm_e, pu_n, pu_s, up_s, up_k, up_a, ↓reduceIte, Int.reduceLT, Int.reduceLE, Int.reduceEq, Int.reduceNeg, Int.reduceAdd, Int.reduceSub, Int.reduceMul, Int.reduceMod, Int.reduceDiv, Int.cast_ofNat_Int, not_true_eq_false, not_false_eq_true, Int.reduceTDiv, Int.reduceTMod, pu_n, gn_sr, hn4]
  have C1 : (gK (newG (setR G4 0 1 (some 19)) (8, 0) 4) 37).1 = 8 := by rw [ng_s' (by rw [gn_sr]; omega) (by rw [gn_sr]; omega)]
  have C2 : gN (newG (setR G4 0 1 (some 19)) (8, 0) 4) = 38 := by rw [gn_ng, gn_sr, hn4]
  rw [K158_34, t_init (d := d + 1) (N := 20) C1 (by omega) (by decide) (by decide) (by decide) (by decide) rfl]
  simp (disch := first | assumption | exact isL_i | exact isL_r | exact isL_n | omega | (simp (disch := first | omega | (simp only [gn_ng, gn_sr]; first | done | omega)) only [gk_sr, ng_k, ng_s', gn_ng, gn_sr]; first | done | assumption | omega)) only [K158_37, K158_40, K158_41, K158_44, K158_44i, K158_45, wr_id, td_e, tm_e, pu_n, pu_s, up_s, up_k, up_a, ↓reduceIte, Int.reduceLT, Int.reduceLE, Int.reduceEq, Int.reduceNeg, Int.reduceAdd, Int.reduceSub, Int.reduceMul, Int.reduceMod, Int.reduceDiv, Int.cast_ofNat_Int, not_true_eq_false, not_false_eq_true, Int.reduceTDiv, Int.reduceTMod, pu_n, gn_ng, gn_sr, hn4, Nat.reduceAdd]
  simp (disch := first | assumption | exact isL_i | exact isL_r | exact isL_n | omega | (simp (disch := first | omega | (simp only [gn_ng, gn_sr]; first | done | omega)) only [gk_sr, ng_k, ng_s', gn_ng, gn_sr]; first | done | assumption | omega)) only [K158_46, wr_id, td_e, tm_e, pu_n, pu_s, up_s, up_k, up_a, ↓reduceIte, Int.reduceLT, Int.reduceLE, Int.reduceEq, Int.reduceNeg, Int.reduceAdd, Int.reduceSub, Int.reduceMul, Int.reduceMod, Int.reduceDiv, Int.cast_ofNat_Int, not_true_eq_false, not_false_eq_true, Int.reduceTDiv, Int.reduceTMod, gk_sr, ng_k, ng_s', nw_k, nw_s', ng_r, nr_s, sr_s', sr_ri, sr_ra, gn_ng, gn_sr, gs_ng, gs_sr, up_a, up_s, up_k, r00, gn_ng, gn_sr, hn4, Nat.reduceAdd]
  have D1 : ∀ a : Nat, a < 37 → gK (newG (setR (setR (newG (newG (setR G4 0 1 (some 19)) (8, 0) 4) (20, 20) 20) 37 2 (some 38)) 0 2 (some 37)) (4, 0) 10) a = gK G4 a := fun a ha => by simp (disch := first | omega | (simp only [gn_ng, gn_sr]; first | done | omega)) only [gk_sr, ng_k, ng_s', nw_k, nw_s', ng_r, nr_s, sr_s', sr_ri, sr_ra, gn_ng, gn_sr, gs_ng, gs_sr, up_a, up_s, up_k]
  have D2 : ∀ (a : Nat) (j : Int), a < 37 → ¬ a = 0 → gR (newG (setR (setR (newG (newG (setR G4 0 1 (some 19)) (8, 0) 4) (20, 20) 20) 37 2 (some 38)) 0 2 (some 37)) (4, 0) 10) a j = gR G4 a j := fun a j ha h0 => by simp (disch := first | omega | (simp only [gn_ng, gn_sr]; first | done | omega)) only [gk_sr, ng_k, ng_s', nw_k, nw_s', ng_r, nr_s, sr_s', sr_ri, sr_ra, gn_ng, gn_sr, gs_ng, gs_sr, up_a, up_s, up_k]
  have D3 : gR (newG (setR (setR (newG (newG (setR G4 0 1 (some 19)) (8, 0) 4) (20, 20) 20) 37 2 (some 38)) 0 2 (some 37)) (4, 0) 10) 0 0 = some 1 := by simp (disch := first | omega | (simp only [gn_ng, gn_sr]; first | done | omega)) only [gk_sr, ng_k, ng_s', nw_k, nw_s', ng_r, nr_s, sr_s', sr_ri, sr_ra, gn_ng, gn_sr, gs_ng, gs_sr, up_a, up_s, up_k]; exact r00
  have D4 : gR (newG (setR (setR (newG (newG (setR G4 0 1 (some 19)) (8, 0) 4) (20, 20) 20) 37 2 (some 38)) 0 2 (some 37)) (4, 0) 10) 0 1 = some 19 := by simp (disch := first | omega | (simp only [gn_ng, gn_sr]; first | done | omega)) only [gk_sr, ng_k, ng_s', nw_k, nw_s', ng_r, nr_s, sr_s', sr_ri, sr_ra, gn_ng, gn_sr, gs_ng, gs_sr, up_a, up_s, up_k]
  have D5 : gR (newG (setR (setR (newG (newG (setR G4 0 1 (some 19)) (8, 0) 4) (20, 20) 20) 37 2 (some 38)) 0 2 (some 37)) (4, 0) 10) 0 2 = some 37 := by simp (disch := first | omega | (simp only [gn_ng, gn_sr]; first | done | omega)) only [gk_sr, ng_k, ng_s', nw_k, nw_s', ng_r, nr_s, sr_s', sr_ri, sr_ra, gn_ng, gn_sr, gs_ng, gs_sr, up_a, up_s, up_k]
  have D6 : gR (newG (setR (setR (newG (newG (setR G4 0 1 (some 19)) (8, 0) 4) (20, 20) 20) 37 2 (some 38)) 0 2 (some 37)) (4, 0) 10) 37 2 = some 38 := by simp (disch := first | omega | (simp only [gn_ng, gn_sr]; first | done | omega)) only [gk_sr, ng_k, ng_s', nw_k, nw_s', ng_r, nr_s, sr_s', sr_ri, sr_ra, gn_ng, gn_sr, gs_ng, gs_sr, up_a, up_s, up_k]
  have D7 : gK (newG (setR (setR (newG (newG (setR G4 0 1 (some 19)) (8, 0) 4) (20, 20) 20) 37 2 (some 38)) 0 2 (some 37)) (4, 0) 10) 37 = (8, 0) := by simp (disch := first | omega | (simp only [gn_ng, gn_sr]; first | done | omega)) only [gk_sr, ng_k, ng_s', nw_k, nw_s', ng_r, nr_s, sr_s', sr_ri, sr_ra, gn_ng, gn_sr, gs_ng, gs_sr, up_a, up_s, up_k]
  have D8 : gK (newG (setR (setR (newG (newG (setR G4 0 1 (some 19)) (8, 0) 4) (20, 20) 20) 37 2 (some 38)) 0 2 (some 37)) (4, 0) 10) 38 = (20, 20) := by simp (disch := first | omega | (simp only [gn_ng, gn_sr]; first | done | omega)) only [gk_sr, ng_k, ng_s', nw_k, nw_s', ng_r, nr_s, sr_s', sr_ri, sr_ra, gn_ng, gn_sr, gs_ng, gs_sr, up_a, up_s, up_k]
  have D9 : gK (newG (setR (setR (newG (newG (setR G4 0 1 (some 19)) (8, 0) 4) (20, 20) 20) 37 2 (some 38)) 0 2 (some 37)) (4, 0) 10) 39 = (4, 0) := by simp (disch := first | omega | (simp only [gn_ng, gn_sr]; first | done | omega)) only [gk_sr, ng_k, ng_s', nw_k, nw_s', ng_r, nr_s, sr_s', sr_ri, sr_ra, gn_ng, gn_sr, gs_ng, gs_sr, up_a, up_s, up_k]
  have D10 : gN (newG (setR (setR (newG (newG (setR G4 0 1 (some 19)) (8, 0) 4) (20, 20) 20) 37 2 (some 38)) 0 2 (some 37)) (4, 0) 10) = 40 := by simp only [gn_ng, gn_sr, hn4]
  have D11 : gS (newG (setR (setR (newG (newG (setR G4 0 1 (some 19)) (8, 0) 4) (20, 20) 20) 37 2 (some 38)) 0 2 (some 37)) (4, 0) 10) = gS G4 + 34 := by simp only [gs_ng, gs_sr]
  have D12 : gL (newG (setR (setR (newG (newG (setR G4 0 1 (some 19)) (8, 0) 4) (20, 20) 20) 37 2 (some 38)) 0 2 (some 37)) (4, 0) 10) = gL G4 ∧ gX (newG (setR (setR (newG (newG (setR G4 0 1 (some 19)) (8, 0) 4) (20, 20) 20) 37 2 (some 38)) 0 2 (some 37)) (4, 0) 10) = gX G4 := by simp only [gl_ng, gl_sr, gx_ng, gx_sr, and_self]
  have E1 : ∀ a : Nat, a < 37 → newM (setR (setR (newG (newG (setR G4 0 1 (some 19)) (8, 0) 4) (20, 20) 20) 37 2 (some 38)) 0 2 (some 37)) (up (newM (newG (setR G4 0 1 (some 19)) (8, 0) 4) (up (up (newM (setR G4 0 1 (some 19)) m4) 37 0 1) 37 1 20)) 37 3 0) a = m4 a := fun a ha => by simp (disch := first | omega | (simp only [gn_ng, gn_sr]; first | done | omega)) only [gk_sr, ng_k, ng_s', nw_k, nw_s', ng_r, nr_s, sr_s', sr_ri, sr_ra, gn_ng, gn_sr, gs_ng, gs_sr, up_a, up_s, up_k]
  have E2 : newM (setR (setR (newG (newG (setR G4 0 1 (some 19)) (8, 0) 4) (20, 20) 20) 37 2 (some 38)) 0 2 (some 37)) (up (newM (newG (setR G4 0 1 (some 19)) (8, 0) 4) (up (up (newM (setR G4 0 1 (some 19)) m4) 37 0 1) 37 1 20)) 37 3 0) 37 0 = 1 := by simp (disch := first | omega | (simp only [gn_ng, gn_sr]; first | done | omega)) only [gk_sr, ng_k, ng_s', nw_k, nw_s', ng_r, nr_s, sr_s', sr_ri, sr_ra, gn_ng, gn_sr, gs_ng, gs_sr, up_a, up_s, up_k]
  have E3 : newM (setR (setR (newG (newG (setR G4 0 1 (some 19)) (8, 0) 4) (20, 20) 20) 37 2 (some 38)) 0 2 (some 37)) (up (newM (newG (setR G4 0 1 (some 19)) (8, 0) 4) (up (up (newM (setR G4 0 1 (some 19)) m4) 37 0 1) 37 1 20)) 37 3 0) 37 1 = 20 := by simp (disch := first | omega | (simp only [gn_ng, gn_sr]; first | done | omega)) only [gk_sr, ng_k, ng_s', nw_k, nw_s', ng_r, nr_s, sr_s', sr_ri, sr_ra, gn_ng, gn_sr, gs_ng, gs_sr, up_a, up_s, up_k]
  have E4 : newM (setR (setR (newG (newG (setR G4 0 1 (some 19)) (8, 0) 4) (20, 20) 20) 37 2 (some 38)) 0 2 (some 37)) (up (newM (newG (setR G4 0 1 (some 19)) (8, 0) 4) (up (up (newM (setR G4 0 1 (some 19)) m4) 37 0 1) 37 1 20)) 37 3 0) 37 3 = 0 := by simp (disch := first | omega | (simp only [gn_ng, gn_sr]; first | done | omega)) only [gk_sr, ng_k, ng_s', nw_k, nw_s', ng_r, nr_s, sr_s', sr_ri, sr_ra, gn_ng, gn_sr, gs_ng, gs_sr, up_a, up_s, up_k]
  rw [K158_49]
  revert D1 D2 D3 D4 D5 D6 D7 D8 D9 D10 D11 D12
  generalize newG (setR (setR (newG (newG (setR G4 0 1 (some 19)) (8, 0) 4) (20, 20) 20) 37 2 (some 38)) 0 2 (some 37)) (4, 0) 10 = G5
  intro D1 D2 D3 D4 D5 D6 D7 D8 D9 D10 D11 D12
  revert E1 E2 E3 E4
  generalize newM (setR (setR (newG (newG (setR G4 0 1 (some 19)) (8, 0) 4) (20, 20) 20) 37 2 (some 38)) 0 2 (some 37)) (up (newM (newG (setR G4 0 1 (some 19)) (8, 0) 4) (up (up (newM (setR G4 0 1 (some 19)) m4) 37 0 1) 37 1 20)) 37 3 0) = m5
  intro E1 E2 E3 E4
  refine r_init (d := d + 1) D10 (by rw [D9]) fun G6 m6 hc6 hk6 hr6 hm6 hs6 => ?_
  obtain ⟨f1, f2, f3, f4⟩ := hc6
  obtain ⟨⟨x0, x1, x2, x3, x4, x6, x7⟩, ⟨y0, y1, y2, y3, y4, y5⟩⟩ := hs6
  have k06 : (gK G6 0).1 = 12 := by rw [hk6 0 (by decide), D1 0 (by decide)]; exact k04
  simp (disch := first | assumption | exact isL_i | exact isL_r | exact isL_n | omega | (simp (disch := first | omega | (simp only [gn_ng, gn_sr]; first | done | omega)) only [gk_sr, ng_k, ng_s', gn_ng, gn_sr]; first | done | assumption | omega)) only [K158_52, K158_55, K158_56, K158_57, K158_60, wr_id, td_e, tm_e, pu_n, pu_s, up_s, up_k, up_a, ↓reduceIte, Int.reduceLT, Int.reduceLE, Int.reduceEq, Int.reduceNeg, Int.reduceAdd, Int.reduceSub, Int.reduceMul, Int.reduceMod, Int.reduceDiv, Int.cast_ofNat_Int, not_true_eq_false, not_false_eq_true, Int.reduceTDiv, Int.reduceTMod, pu_n]
  have F1 : ∀ a : Nat, gK (setR G6 0 3 (some 39)) a = gK G6 a := fun _ => rfl
  have F2 : ∀ (a : Nat) (j : Int), ¬ a = 0 → gR (setR G6 0 3 (some 39)) a j = gR G6 a j := fun a j h0 => sr_ra h0
  have F3 : ∀ j : Int, ¬ j = 3 → gR (setR G6 0 3 (some 39)) 0 j = gR G6 0 j := fun j h0 => sr_ri h0
  have F4 : ∀ a : Nat, ¬ a = 0 → up m6 0 4 0 a = m6 a := fun a h0 => up_a h0
  have T1 : SIf 1 (setR G6 0 3 (some 39)) (up m6 0 4 0) := S1.y (fun a ha => by rw [F1, hk6 _ (by omega), D1 _ (by omega)]) (fun a j ha => by rw [F2 _ _ (by omega), hr6 _ _ (by omega), D2 _ _ (by omega) (by omega)]) (fun a ha => by rw [F4 _ (by omega), hm6 _ (by omega), E1 _ (by omega)])
  have T2 : SIf 19 (setR G6 0 3 (some 39)) (up m6 0 4 0) := hS2.y (fun a ha => by rw [F1, hk6 _ (by omega), D1 _ (by omega)]) (fun a j ha => by rw [F2 _ _ (by omega), hr6 _ _ (by omega), D2 _ _ (by omega) (by omega)]) (fun a ha => by rw [F4 _ (by omega), hm6 _ (by omega), E1 _ (by omega)])
  refine hK _ _ ⟨T1, T2, ⟨⟨k06, ?_, ?_, ?_, sr_s⟩, ⟨?_, ?_, ?_, ?_⟩, ⟨?_, ?_, ?_, ?_, ?_, ?_, ?_, ?_⟩, ⟨?_, ?_, ?_, ?_, ?_, ?_, ?_, ?_, ?_, ?_, ?_, ?_⟩⟩, ⟨?_, ?_, ?_⟩, up_s⟩ ⟨?_, ?_, ?_, ?_⟩
  · rw [F3 _ (by decide), hr6 _ _ (by decide)]; exact D3
  · rw [F3 _ (by decide), hr6 _ _ (by decide)]; exact D4
  · rw [F3 _ (by decide), hr6 _ _ (by decide)]; exact D5
  · rw [F1, hk6 _ (by decide), D7]
  · rw [F2 _ _ (by decide), hr6 _ _ (by decide)]; exact D6
  · rw [F1, hk6 _ (by decide), D8]
  · rw [F1, hk6 _ (by decide), D8]
  · rw [F1, hk6 _ (by decide), D9]
  · rw [F2 _ _ (by decide)]; exact x0
  · rw [F2 _ _ (by decide)]; exact x1
  · rw [F2 _ _ (by decide)]; exact x2
  · rw [F2 _ _ (by decide)]; exact x3
  · rw [F2 _ _ (by decide)]; exact x4
  · rw [F2 _ _ (by decide)]; exact x6
  · rw [F2 _ _ (by decide)]; exact x7
  · rw [F1, y0]
  · rw [F1, y0]
  · rw [F1, y1]
  · rw [F1, y1]
  · rw [F1, y2]
  · rw [F1, y2]
  · rw [F1, y3]
  · rw [F1, y3]
  · rw [F1, y4]
  · rw [F1, y4]
  · rw [F1, y5]
  · rw [F1, y5]
  · rw [F4 _ (by decide), hm6 _ (by decide)]; exact E2
  · rw [F4 _ (by decide), hm6 _ (by decide)]; exact E3
  · rw [F4 _ (by decide), hm6 _ (by decide)]; exact E4
  · rw [gn_sr]; exact f1
  · rw [gs_sr]; omega
  · rw [gl_sr, f3, D12.1, c3, B7.1, b3, A5.1]
  · rw [gx_sr, f4, D12.2, c4, B7.2, b4, A5.2]
end CL
/-! ===== what holds between two calls ===== -/
def LwI (G : Gh) (mi : Mi) : Prop :=
  (55 ≤ gN G ∧ ShC G ∧ ShM G ∧ GB 1 G ∧ GB 19 G) ∧ (RS 1 (mi 47) G mi ∧ WfA (mi 47)) ∧
  (WTb 19 mi ∧ WfZ (mi 48) ∧ (mi 0 4 = 0 ∨ mi 0 4 = 1) ∧ mi 46 4 = mi 0 4 ∧ (mi 0 4 = 1 → RS 19 (mi 48) G mi ∧ WfA (mi 48))) ∧
  ∃ L : List Int, L.length ≤ 20 ∧ TRc L mi ∧ TRm L mi
theorem wf_s00 : WfA s00 := by
  have e : ∀ j : Int, ¬ j = 17 → s00 j = 0 := fun j h => if_neg h
  have e17 : s00 17 = -1 := if_pos rfl
  have em : manyF s00 = 0 := by unfold manyF; rw [if_pos e17]
  refine ⟨⟨⟨?_, ?_, ?_, ?_, ?_, ?_, ?_, ?_, ?_, ?_, ?_⟩, fun p p0 p6 => ?_, ⟨fun p p0 p6 => ⟨?_, ?_, ?_⟩, fun q q0 q1 => ?_⟩, ?_⟩, ⟨?_, ?_, fun h => absurd e17 h⟩, ⟨?_, fun q q0 q1 => ?_⟩, ⟨?_, fun q q0 q1 => ?_⟩, fun q q0 q1 => ?_, fun q q0 q1 => ?_, fun p p0 p6 => ?_, fun q hq => ?_, fun q q0 q1 => ?_⟩
  · rw [e _ (by decide)]; decide
  · rw [e _ (by decide)]; decide
  · rw [e _ (by decide)]; decide
  · rw [e _ (by decide)]; decide
  · rw [e _ (by decide)]; decide
  · rw [e _ (by decide)]; decide
  · rw [e _ (by decide)]; decide
  · rw [e _ (by decide)]; decide
  · rw [e _ (by decide)]; decide
  · rw [e _ (by decide)]; decide
  · rw [e _ (by decide)]; decide
  · rw [e _ (by omega)]; decide
  · rw [e _ (by omega)]; decide
  · rw [e _ (by omega)]; decide
  · rw [e _ (by omega)]; decide
  · rw [e _ (by omega)]; decide
  · rw [e17, e _ (by decide)]; decide
  · rw [em]; decide
  · unfold stepsF; rw [em]; exact rfl
  · rw [e _ (by decide)]; decide
  · rw [e _ (by decide)] at q1; omega
  · rw [e _ (by decide)]; decide
  · rw [e _ (by decide)] at q1; omega
  · rw [e _ (by omega)]; decide
  · rw [e _ (by omega)]; decide
  · rw [e 11 (by decide)] at p0
    rw [e _ (by omega), e _ (by omega), e _ (by omega), e _ (by omega), e _ (by omega)]; exact ⟨rfl, rfl, rfl, rfl, rfl⟩
  · exact e _ (by omega)
  · rw [e _ (by decide)] at q1; omega
/-- a class's call, then the reference's: what holds goes on -/
theorem LwI.nx {G G1 : Gh} {mi m1 m2 : Mi} {s' : Int → Int} (h : LwI G mi) (hX : GX G G1) (h27 : ∀ j : Int, gR G1 27 j = gR G 27 j) (h191 : gR G1 19 1 = gR G 19 1) (hB : GB 1 G1) (hm1 : ∀ a : Nat, a < gN G → ¬ a ∈ kL → m1 a = mi a) (hR : RS 1 s' G1 m1) (hW : WfA s') (h47 : m2 47 = s') (hs : ScM m1 m2) : LwI G1 m2 := by
  obtain ⟨⟨hN, hC, hG, hB1, hB19⟩, ⟨-, -⟩, ⟨hw, hz, h01, h44, hI⟩, L, hL, ht, hm⟩ := h
  have hN1 : 55 ≤ gN G1 := Nat.le_trans hN hX.1.1
  have k2 : ∀ a : Nat, ¬ a ∈ [46, 47, 49, 50, 51, 52, 53] → m2 a = m1 a := hs.1
  have kk : ∀ a : Nat, a < gN G → ¬ a ∈ kL → ¬ a ∈ [46, 47, 49, 50, 51, 52, 53] → m2 a = mi a := fun a ha h1 h2 => (k2 a h2).trans (hm1 a ha h1)
  have c18 : ∀ c : Nat, c < 18 → ¬ (1 + c) ∈ [46, 47, 49, 50, 51, 52, 53] := fun c hc => by simp only [List.mem_cons, List.not_mem_nil, or_false, not_or]; omega
  have cT : ∀ T : Nat, T = 4 ∨ T = 22 ∨ 55 ≤ T → ∀ c : Nat, c < 4 → ¬ (T + c) ∈ [46, 47, 49, 50, 51, 52, 53] := fun T hT c hc => by simp only [List.mem_cons, List.not_mem_nil, or_false, not_or]; omega
  have e0 : m2 0 = mi 0 := kk 0 (by omega) (by decide) (by decide)
  have e48 : m2 48 = mi 48 := kk 48 (by omega) (by decide) (by decide)
  have e46 : m1 46 = mi 46 := hm1 46 (by omega) (by decide)
  refine ⟨⟨hN1, hC.x hX hN, hG.x hX hN, hB, fun p T hp => ?_, fun V hV => ?_⟩, ⟨?_, by rw [h47]; exact hW⟩, ⟨?_, by rw [e48]; exact hz, by rw [e0]; exact h01, ?_, fun h1 => ?_⟩, L, hL, ?_, ?_⟩
  · have hp' : gR G (19 + 8) p = some T := by rw [← h27]; exact hp
    obtain ⟨f1, f2⟩ := hB19.1 p T hp'
    exact ⟨Nat.lt_of_lt_of_le f1 hX.1.1, by rw [hX.2.1 T f1]; exact f2⟩
  · rw [h191] at hV
    exact Nat.lt_of_lt_of_le (hB19.2 V hV) hX.1.1
  · rw [h47]
    exact hR.keep (Or.inl rfl) hB hN1 (fun c hc => k2 _ (c18 c hc)) (fun T _ hT c hc _ => k2 _ (cT T hT c hc)) (fun _ _ => rfl) (fun _ _ _ _ => rfl) (fun _ => rfl) rfl
  · have e20 : m2 (19 + 1) = mi (19 + 1) := kk _ (by omega) (by decide) (by decide)
    have e30 : m2 (19 + 11) = mi (19 + 11) := kk _ (by omega) (by decide) (by decide)
    have e32 : m2 (19 + 13) = mi (19 + 13) := kk _ (by omega) (by decide) (by decide)
    have e34 : m2 (19 + 15) = mi (19 + 15) := kk _ (by omega) (by decide) (by decide)
    unfold WTb
    rw [e20, e30, e32, e34]
    exact hw
  · rw [hs.2.1, e46, e0]; exact h44
  · rw [e0] at h1
    obtain ⟨r1, r2⟩ := hI h1
    rw [e48]
    refine ⟨r1.keep (Or.inr rfl) hB19 hN (fun c hc => kk _ (by omega) ?_ ?_) (fun T hTl hT c hc hcl => kk _ hcl (nm_k hT c hc) (cT T hT c hc)) (fun x hx => hX.2.1 x hx) (fun x j hx hx2 => hX.2.2 x j hx (by unfold PX; omega)) h27 h191, r2⟩
    · simp only [List.mem_cons, List.not_mem_nil, or_false, not_or]; omega
    · simp only [List.mem_cons, List.not_mem_nil, or_false, not_or]; omega
  · unfold TRc
    rw [kk 37 (by omega) (by decide) (by decide), kk 38 (by omega) (by decide) (by decide)]
    exact ht
  · unfold TRm
    rw [hs.2.2, e46, kk 54 (by omega) (by decide) (by decide)]
    exact hm
/-- where no cell is made -/
theorem LwI.nx0 {G : Gh} {mi m1 m2 : Mi} {s' : Int → Int} (h : LwI G mi) (hm1 : Sc kL mi m1) (hR : RS 1 s' G m1) (hW : WfA s') (h47 : m2 47 = s') (hs : ScM m1 m2) : LwI G m2 :=
  h.nx GX.rf (fun _ => rfl) rfl h.1.2.2.2.1 (fun a _ ha => hm1 a ha) hR hW h47 hs
theorem actB_len {k g : Int} : (actB k g).length ≤ 20 := by
  have h1 := shB_len (k := k)
  have h2 := skB_len (k := k)
  unfold actB
  by_cases c : g = 0
  · rw [if_pos c]; omega
  · rw [if_neg c]
    by_cases c2 : g = 1
    · rw [if_pos c2]; omega
    · rw [if_neg c2]
      unfold tlB
      split
      · simp only [List.length_cons]; omega
      · split
        · simp only [List.length_cons, List.length_append]; omega
        · simp only [List.length_cons]; omega
theorem LwI.act {G : Gh} {mi m1 m2 : Mi} {p k g : Int} (h : LwI G mi) (hs1 : Sc [37, 38] mi m1) (ht1 : if isT (mi 47) p ∧ (0 ≤ g ∧ g ≤ 2) then TRc (actB k g) m1 else TRc [] m1) (hs2 : ScC m1 m2) (ht2 : if isT (mi 47) p ∧ (0 ≤ g ∧ g ≤ 2) then TRm (actB k g) m2 else TRm [] m2) : LwI G m2 := by
  obtain ⟨⟨hN, hC, hG, hB1, hB19⟩, ⟨hR, hW⟩, ⟨hw, hz, h01, h44, hI⟩, -⟩ := h
  have kk : ∀ a : Nat, ¬ a ∈ [37, 38, 46, 54] → m2 a = mi a := fun a ha => by
    simp only [List.mem_cons, List.not_mem_nil, or_false, not_or] at ha
    rw [hs2.1 a (by simp only [List.mem_cons, List.not_mem_nil, or_false, not_or]; omega), hs1 a (by simp only [List.mem_cons, List.not_mem_nil, or_false, not_or]; omega)]
  have cT : ∀ T : Nat, T = 4 ∨ T = 22 ∨ 55 ≤ T → ∀ c : Nat, c < 4 → ¬ (T + c) ∈ [37, 38, 46, 54] := fun T hT c hc => by simp only [List.mem_cons, List.not_mem_nil, or_false, not_or]; omega
  have c1 : ∀ c : Nat, c < 18 → ¬ (1 + c) ∈ [37, 38, 46, 54] := fun c hc => by simp only [List.mem_cons, List.not_mem_nil, or_false, not_or]; omega
  have c19 : ∀ c : Nat, c < 18 → ¬ (19 + c) ∈ [37, 38, 46, 54] := fun c hc => by simp only [List.mem_cons, List.not_mem_nil, or_false, not_or]; omega
  have e0 : m2 0 = mi 0 := kk 0 (by decide)
  have e47 : m2 47 = mi 47 := kk 47 (by decide)
  have e48 : m2 48 = mi 48 := kk 48 (by decide)
  have e46 : m1 46 = mi 46 := hs1 46 (by decide)
  have hTr : ∃ L : List Int, L.length ≤ 20 ∧ TRc L m1 ∧ TRm L m2 := by
    by_cases c : isT (mi 47) p ∧ (0 ≤ g ∧ g ≤ 2)
    · rw [if_pos c] at ht1 ht2
      exact ⟨_, actB_len, ht1, ht2⟩
    · rw [if_neg c] at ht1 ht2
      exact ⟨[], by decide, ht1, ht2⟩
  obtain ⟨L, l1, l2, l3⟩ := hTr
  refine ⟨⟨hN, hC, hG, hB1, hB19⟩, ⟨?_, by rw [e47]; exact hW⟩, ⟨?_, by rw [e48]; exact hz, by rw [e0]; exact h01, ?_, fun h1 => ?_⟩, L, l1, ?_, l3⟩
  · rw [e47]
    exact hR.keep (Or.inl rfl) hB1 hN (fun c hc => kk _ (c1 c hc)) (fun T _ hT c hc _ => kk _ (cT T hT c hc)) (fun _ _ => rfl) (fun _ _ _ _ => rfl) (fun _ => rfl) rfl
  · have e20 : m2 (19 + 1) = mi (19 + 1) := kk _ (by decide)
    have e30 : m2 (19 + 11) = mi (19 + 11) := kk _ (by decide)
    have e32 : m2 (19 + 13) = mi (19 + 13) := kk _ (by decide)
    have e34 : m2 (19 + 15) = mi (19 + 15) := kk _ (by decide)
    unfold WTb
    rw [e20, e30, e32, e34]
    exact hw
  · rw [hs2.2 4 (by decide), e46, e0]; exact h44
  · rw [e0] at h1
    obtain ⟨r1, r2⟩ := hI h1
    rw [e48]
    exact ⟨r1.keep (Or.inr rfl) hB19 hN (fun c hc => kk _ (c19 c hc)) (fun T _ hT c hc _ => kk _ (cT T hT c hc)) (fun _ _ => rfl) (fun _ _ _ _ => rfl) (fun _ => rfl) rfl, r2⟩
  · unfold TRc
    rw [hs2.1 37 (by decide), hs2.1 38 (by decide)]
    exact l2
theorem IMg.sh {G G1 : Gh} (h : IMg G G1) (hN : 55 ≤ gN G) (hC : ShC G) (hG : ShM G) : 55 ≤ gN G1 ∧ ShC G1 ∧ ShM G1 ∧ GB 1 G1 ∧ GB 19 G1 := ⟨by have := h.2.1; omega, hC.x h.1 hN, hG.x h.1 hN, h.2.2.2.1, h.2.2.2.2⟩
theorem LwI.image {G G1 : Gh} {mi m1 m2 : Mi} (h : LwI G mi) (hIM : IMg G G1) (hR1 : RS 1 (mi 47) G1 m1) (hR19 : RS 19 (mi 47) G1 m1) (h0 : m1 0 = (fun j => if j = 4 then 1 else mi 0 j)) (hs1 : Sc (0 :: bcL 19) mi m1) (e2 : m2 47 = mi 47) (e3 : m2 48 = mi 47) (e4 : m2 46 = (fun j => if j = 4 then 1 else m1 46 j)) (hs2 : Sc [46, 48] m1 m2) : LwI G1 m2 := by
  obtain ⟨⟨hN, hC, hG, hB1, hB19⟩, ⟨hR, hW⟩, ⟨hw, hz, h01, h44, hI⟩, L, hL, ht, hm⟩ := h
  have hsh := hIM.sh hN hC hG
  have k2 : ∀ a : Nat, ¬ a = 46 → ¬ a = 48 → m2 a = m1 a := fun a h1 h2 => hs2 a (by simp only [List.mem_cons, List.not_mem_nil, or_false, not_or]; exact ⟨h1, h2⟩)
  have r1 : RS 1 (mi 47) G1 m2 := hR1.keep (Or.inl rfl) hsh.2.2.2.1 hsh.1 (fun c hc => k2 _ (by omega) (by omega)) (fun T _ hT c hc _ => k2 _ (by omega) (by omega)) (fun _ _ => rfl) (fun _ _ _ _ => rfl) (fun _ => rfl) rfl
  have r19 : RS 19 (mi 47) G1 m2 := hR19.keep (Or.inr rfl) hsh.2.2.2.2 hsh.1 (fun c hc => k2 _ (by omega) (by omega)) (fun T _ hT c hc _ => k2 _ (by omega) (by omega)) (fun _ _ => rfl) (fun _ _ _ _ => rfl) (fun _ => rfl) rfl
  have e0 : m2 0 4 = 1 := by rw [k2 0 (by decide) (by decide), h0]; rfl
  refine ⟨hsh, ⟨by rw [e2]; exact r1, by rw [e2]; exact hW⟩, ⟨r19.wt, by rw [e3]; exact hW.2.2.2.2.2.2.2.1, Or.inr e0, ?_, fun _ => ⟨by rw [e3]; exact r19, by rw [e3]; exact hW⟩⟩, L, hL, ?_, ?_⟩
  · rw [e0, e4]; rfl
  · unfold TRc
    rw [k2 37 (by decide) (by decide), k2 38 (by decide) (by decide), hs1 37 (by decide), hs1 38 (by decide)]
    exact ht
  · obtain ⟨m19, m54⟩ := hm
    refine ⟨?_, fun q hq => ?_⟩
    · rw [e4]
      show (if (19 : Int) = 4 then 1 else m1 46 19) = _
      rw [if_neg (by decide), hs1 46 (by decide)]
      exact m19
    · rw [k2 54 (by decide) (by decide), hs1 54 (by decide)]
      exact m54 q hq
theorem LwI.undo {G G1 : Gh} {mi m1 m2 : Mi} (h : LwI G mi) (hIM : IMg G G1) (hR : RS 1 (mi 48) G1 m1 ∧ RS 19 (mi 48) G1 m1) (hWz : WfA (mi 48)) (hs1 : Sc (bcL 1) mi m1) (e2 : m2 47 = mi 48) (hs2 : Sc [47] m1 m2) : LwI G1 m2 := by
  obtain ⟨⟨hN, hC, hG, hB1, hB19⟩, ⟨-, -⟩, ⟨hw, hz, h01, h44, hI⟩, L, hL, ht, hm⟩ := h
  have hsh := hIM.sh hN hC hG
  have k2 : ∀ a : Nat, ¬ a = 47 → m2 a = m1 a := fun a h1 => hs2 a (by simp only [List.mem_cons, List.not_mem_nil, or_false]; exact h1)
  have r1 : RS 1 (mi 48) G1 m2 := hR.1.keep (Or.inl rfl) hsh.2.2.2.1 hsh.1 (fun c hc => k2 _ (by omega)) (fun T _ hT c hc _ => k2 _ (by omega)) (fun _ _ => rfl) (fun _ _ _ _ => rfl) (fun _ => rfl) rfl
  have r19 : RS 19 (mi 48) G1 m2 := hR.2.keep (Or.inr rfl) hsh.2.2.2.2 hsh.1 (fun c hc => k2 _ (by omega)) (fun T _ hT c hc _ => k2 _ (by omega)) (fun _ _ => rfl) (fun _ _ _ _ => rfl) (fun _ => rfl) rfl
  have e0 : m2 0 = mi 0 := by rw [k2 0 (by decide), hs1 0 (by decide)]
  have e46 : m2 46 = mi 46 := by rw [k2 46 (by decide), hs1 46 (by decide)]
  have e48 : m2 48 = mi 48 := by rw [k2 48 (by decide), hs1 48 (by decide)]
  refine ⟨hsh, ⟨by rw [e2]; exact r1, by rw [e2]; exact hWz⟩, ⟨r19.wt, by rw [e48]; exact hz, by rw [e0]; exact h01, by rw [e46, e0]; exact h44, fun _ => ⟨by rw [e48]; exact r19, by rw [e48]; exact hWz⟩⟩, L, hL, ?_, ?_⟩
  · unfold TRc
    rw [k2 37 (by decide), k2 38 (by decide), hs1 37 (by decide), hs1 38 (by decide)]
    exact ht
  · unfold TRm
    rw [e46, k2 54 (by decide), hs1 54 (by decide)]
    exact hm
