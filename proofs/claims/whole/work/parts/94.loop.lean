/-! ===== the law's loop; its start ===== -/
theorem iAnd31 {x : Int} : 0 ≤ iAnd x 31 ∧ iAnd x 31 ≤ 31 := by
  show 0 ≤ (BitVec.ofInt 32 x &&& BitVec.ofInt 32 31).toInt ∧ (BitVec.ofInt 32 x &&& BitVec.ofInt 32 31).toInt ≤ 31
  have h : (BitVec.ofInt 32 x &&& BitVec.ofInt 32 31).toNat ≤ 31 := by
    rw [BitVec.toNat_and]
    exact Nat.le_trans Nat.and_le_right (by decide)
  rw [BitVec.toInt_eq_toNat_cond]
  split <;> omega
section LW
variable {d : Nat} {G : Gh} {mi : Mi} {K : Option PV → Gh → Mi → Prop} {i : Int}
theorem lw_lp : ∀ (n k : Nat) (G : Gh) (mi : Mi), k + n = 513 → LwI G mi → gL G ≤ 2048 → gN G ≤ 55 + 6 * k → gS G ≤ 6000 + 230 * k →
    (∀ G' mi', gN G' ≤ 4000 → gS G' ≤ 200000 → gL G' = gL G → gX G' = gX G → K (some (pI 1)) G' mi') →
    Ok (d + 417) 217 18 [some (pE 0), some (pR (some 0)), some (pR (some 46)), some (pI (4 * k))] [] G mi K := by
  intro n
  induction n with
  | zero =>
    intro k G mi hk hI hL hN hS hK
    rw [K217_18]
    simp (disch := first | assumption | exact isL_i | exact isL_r | exact isL_n | exact i01a | exact i01b | omega) only [K217_19, K217_20, K217_20s, K217_21, K217_22, K217_23, K217_1086, K217_1087, wr_id, td_e, tm_e, pu_n, pu_s, up_s, up_k, up_a, ↓reduceIte, Int.reduceLT, Int.reduceLE, Int.reduceEq, Int.reduceNeg, Int.reduceAdd, Int.reduceSub, Int.reduceMul, Int.reduceMod, Int.reduceDiv, Int.cast_ofNat_Int, not_true_eq_false, not_false_eq_true, Int.reduceTDiv, Int.reduceTMod, if_pos, if_neg]
    exact hK G mi (by omega) (by omega) rfl rfl
  | succ n ih =>
    intro k G mi hk hI hL hN hS hK
    rw [K217_18]
    by_cases c : (gL G : Int) - 4 < 4 * k
    · simp (disch := first | assumption | exact isL_i | exact isL_r | exact isL_n | exact i01a | exact i01b | omega) only [K217_19, K217_20, K217_20s, K217_21, K217_22, K217_23, K217_1086, K217_1087, wr_id, td_e, tm_e, pu_n, pu_s, up_s, up_k, up_a, ↓reduceIte, Int.reduceLT, Int.reduceLE, Int.reduceEq, Int.reduceNeg, Int.reduceAdd, Int.reduceSub, Int.reduceMul, Int.reduceMod, Int.reduceDiv, Int.cast_ofNat_Int, not_true_eq_false, not_false_eq_true, Int.reduceTDiv, Int.reduceTMod, if_pos, if_neg]
      exact hK G mi (by omega) (by omega) rfl rfl
    · have J : ∀ G' mi', LwI G' mi' → gN G' ≤ gN G + 6 → gS G' ≤ gS G + 230 → gL G' = gL G → gX G' = gX G → Ok (d + 417) 217 1080 [some (pE 0), some (pR (some 0)), some (pR (some 46)), some (pI (4 * k))] [] G' mi' K := by
        intro G' mi' hI' hn hs hl hx
        have := ih (k + 1) G' mi' (by omega) hI' (by omega) (by omega) (by omega) (fun G2 m2 a b e f => hK G2 m2 a b (e.trans hl) (f.trans hx))
        rw [show (4 * ((k + 1 : Nat) : Int)) = 4 * (k : Int) + 4 by omega] at this
        simp (disch := first | assumption | exact isL_i | exact isL_r | exact isL_n | exact i01a | exact i01b | omega) only [K217_1080, K217_1083, wr_id, td_e, tm_e, pu_n, pu_s, up_s, up_k, up_a, ↓reduceIte, Int.reduceLT, Int.reduceLE, Int.reduceEq, Int.reduceNeg, Int.reduceAdd, Int.reduceSub, Int.reduceMul, Int.reduceMod, Int.reduceDiv, Int.cast_ofNat_Int, not_true_eq_false, not_false_eq_true, Int.reduceTDiv, Int.reduceTMod]
        exact this
      have h0 : (0 : Int) ≤ 4 * k := by omega
      have h3 : (4 * k : Int) + 3 < gL G := by omega
      simp (disch := first | assumption | exact isL_i | exact isL_r | exact isL_n | exact i01a | exact i01b | omega) only [K217_19, K217_20, K217_20s, K217_21, K217_22, K217_23, K217_26, K217_27, K217_28, K217_28s, K217_29, K217_31, wr_id, td_e, tm_e, pu_n, pu_s, up_s, up_k, up_a, ↓reduceIte, Int.reduceLT, Int.reduceLE, Int.reduceEq, Int.reduceNeg, Int.reduceAdd, Int.reduceSub, Int.reduceMul, Int.reduceMod, Int.reduceDiv, Int.cast_ofNat_Int, not_true_eq_false, not_false_eq_true, Int.reduceTDiv, Int.reduceTMod, if_pos, if_neg]
      obtain ⟨v0, v1⟩ := iAnd31 (x := gX G (4 * k))
      generalize iAnd (gX G (4 * k)) 31 = v at v0 v1 ⊢
      have hv : v = 0 ∨ v = 1 ∨ v = 2 ∨ v = 3 ∨ v = 4 ∨ v = 5 ∨ v = 6 ∨ v = 7 ∨ v = 8 ∨ v = 9 ∨ v = 10 ∨ v = 11 ∨ v = 12 ∨ v = 13 ∨ v = 14 ∨ v = 15 ∨ v = 16 ∨ v = 17 ∨ v = 18 ∨ v = 19 ∨ v = 20 ∨ v = 21 ∨ v = 22 ∨ v = 23 ∨ v = 24 ∨ v = 25 ∨ v = 26 ∨ v = 27 ∨ v = 28 ∨ v = 29 ∨ v = 30 ∨ v = 31 := by omega
      rcases hv with rfl | rfl | rfl | rfl | rfl | rfl | rfl | rfl | rfl | rfl | rfl | rfl | rfl | rfl | rfl | rfl | rfl | rfl | rfl | rfl | rfl | rfl | rfl | rfl | rfl | rfl | rfl | rfl | rfl | rfl | rfl | rfl
      all_goals (rw [K217_32]; simp only [↓reduceIte, Int.reduceEq])
      · exact lw_feed hI h0 h3 hL J
      · exact lw_view hI h0 h3 hL J
      · exact lw_thing hI h0 h3 hL J
      · exact lw_of hI h0 h3 hL J
      · exact lw_then hI h0 h3 hL J
      · exact lw_row hI h0 h3 hL J
      · exact lw_move hI h0 h3 hL J
      · exact lw_had hI h0 h3 hL J
      · exact lw_point hI h0 h3 hL J
      · exact lw_told hI h0 h3 hL J
      · exact lw_pay hI h0 h3 hL J
      · exact lw_tick hI h0 h3 hL J
      · exact lw_pass hI h0 h3 hL J
      · exact lw_look hI h0 h3 hL J
      · exact lw_aim hI h0 h3 hL J
      · exact lw_soon hI h0 h3 hL J
      · exact lw_order hI h0 h3 hL J
      · exact lw_stood hI h0 h3 hL J
      · exact lw_from hI h0 h3 hL J
      · exact lw_firm hI h0 h3 hL J
      · exact lw_odds hI h0 h3 hL J
      · exact lw_mean hI h0 h3 hL J
      · exact lw_plan hI h0 h3 hL J
      · exact lw_done hI h0 h3 hL J
      · exact lw_book hI h0 h3 hL J
      · exact lw_looked hI h0 h3 hL J
      · exact lw_act hI h0 h3 hL J
      · exact lw_trace hI h0 h3 hL J
      · exact lw_as hI h0 h3 hL J
      · exact lw_image hI h0 h3 hL J
      · exact lw_undo hI h0 h3 hL J
      · exact lw_count hI h0 h3 hL J
theorem lw_all (hn : gN G = 0) (hs : gS G = 0) (hL : gL G ≤ 2048) (hK : ∀ G' mi', gN G' ≤ 4000 → gS G' ≤ 200000 → gL G' = gL G → gX G' = gX G → K (some (pI 1)) G' mi') : OkC (d + 417) 217 [pE 0] G mi K := by
  rw [E217]
  simp (disch := first | assumption | exact isL_i | exact isL_r | exact isL_n | omega | (simp (disch := first | omega | (simp only [gn_ng, gn_sr]; first | done | omega)) only [gk_sr, ng_k, ng_s', gn_ng, gn_sr]; first | done | assumption | omega)) only [K217_0, K217_3, K217_3i, wr_id, td_e, tm_e, pu_n, pu_s, up_s, up_k, up_a, ↓reduceIte, Int.reduceLT, Int.reduceLE, Int.reduceEq, Int.reduceNeg, Int.reduceAdd, Int.reduceSub, Int.reduceMul, Int.reduceMod, Int.reduceDiv, Int.cast_ofNat_Int, not_true_eq_false, not_false_eq_true, Int.reduceTDiv, Int.reduceTMod, hn]
  have A1 : (gK (newG G (12, 0) 5) 0).1 = 12 := by rw [ng_s' (by omega) (by omega)]
  have A2 : gN (newG G (12, 0) 5) = 1 := by rw [gn_ng, hn]
  have A3 : gS (newG G (12, 0) 5) = 5 := by rw [gs_ng, hs]
  have A4 : gL (newG G (12, 0) 5) = gL G ∧ gX (newG G (12, 0) 5) = gX G := ⟨rfl, rfl⟩
  rw [K217_4]
  revert A1 A2 A3 A4
  generalize newG G (12, 0) 5 = G1
  generalize newM G mi = m1
  intro A1 A2 A3 A4
  refine c_cinit (d := d + 413) A2 A1 fun G2 m2 hC2 hc2 => ?_
  obtain ⟨hS1, hS19, hSR, ⟨w0, w1, w3⟩, w4⟩ := hC2
  obtain ⟨b1, b2, b3, b4⟩ := hc2
  simp (disch := first | assumption | exact isL_i | exact isL_r | exact isL_n | omega | (simp (disch := first | omega | (simp only [gn_ng, gn_sr]; first | done | omega)) only [gk_sr, ng_k, ng_s', gn_ng, gn_sr]; first | done | assumption | omega)) only [K217_7, K217_8, K217_11, K217_11i, wr_id, td_e, tm_e, pu_n, pu_s, up_s, up_k, up_a, ↓reduceIte, Int.reduceLT, Int.reduceLE, Int.reduceEq, Int.reduceNeg, Int.reduceAdd, Int.reduceSub, Int.reduceMul, Int.reduceMod, Int.reduceDiv, Int.cast_ofNat_Int, not_true_eq_false, not_false_eq_true, Int.reduceTDiv, Int.reduceTMod, pu_n, b1]
  have B1 : gK (newG G2 (13, 0) 23) 46 = (13, 0) := ng_s' (by omega) (by omega)
  have B2 : ∀ a : Nat, a < 46 → gK (newG G2 (13, 0) 23) a = gK G2 a := fun a ha => ng_k (by omega)
  have B3 : ∀ (a : Nat) (j : Int), a < 46 → gR (newG G2 (13, 0) 23) a j = gR G2 a j := fun a j ha => ng_r (by omega)
  have B4 : gN (newG G2 (13, 0) 23) = 47 := by rw [gn_ng, b1]
  have B5 : gS (newG G2 (13, 0) 23) = gS G2 + 23 := rfl
  have B6 : gL (newG G2 (13, 0) 23) = gL G2 ∧ gX (newG G2 (13, 0) 23) = gX G2 := ⟨rfl, rfl⟩
  have B7 : newM G2 m2 46 = fun _ => 0 := nw_s' (by omega) (by omega)
  have B8 : ∀ a : Nat, a < 46 → newM G2 m2 a = m2 a := fun a ha => nw_k (by omega)
  rw [K217_12]
  revert B1 B2 B3 B4 B5 B6 B7 B8
  generalize newG G2 (13, 0) 23 = G3
  generalize newM G2 m2 = m3
  intro B1 B2 B3 B4 B5 B6 B7 B8
  refine m_init (d := d + 415) B4 (by rw [B1]) fun G4 m4 hc4 hk4 hr4 hM4 hm4 h47 h48 => ?_
  obtain ⟨c1, c2, c3, c4⟩ := hc4
  simp (disch := first | assumption | exact isL_i | exact isL_r | exact isL_n | omega | (simp (disch := first | omega | (simp only [gn_ng, gn_sr]; first | done | omega)) only [gk_sr, ng_k, ng_s', gn_ng, gn_sr]; first | done | assumption | omega)) only [K217_15, K217_16, K217_17, wr_id, td_e, tm_e, pu_n, pu_s, up_s, up_k, up_a, ↓reduceIte, Int.reduceLT, Int.reduceLE, Int.reduceEq, Int.reduceNeg, Int.reduceAdd, Int.reduceSub, Int.reduceMul, Int.reduceMod, Int.reduceDiv, Int.cast_ofNat_Int, not_true_eq_false, not_false_eq_true, Int.reduceTDiv, Int.reduceTMod, pu_n]
  have gk : ∀ a : Nat, a < 46 → gK G4 a = gK G2 a := fun a ha => by rw [hk4 a ha, B2 a ha]
  have gr : ∀ (a : Nat) (j : Int), a < 46 → gR G4 a j = gR G2 a j := fun a j ha => by rw [hr4 a j ha, B3 a j ha]
  have gm : ∀ a : Nat, a < 46 → m4 a = m2 a := fun a ha => by rw [hm4 a (by omega), B8 a ha]
  have T1 : SIf 1 G4 m4 := hS1.y (fun a ha => gk _ (by omega)) (fun a j ha => gr _ _ (by omega)) (fun a ha => gm _ (by omega))
  have T19 : SIf 19 G4 m4 := hS19.y (fun a ha => gk _ (by omega)) (fun a j ha => gr _ _ (by omega)) (fun a ha => gm _ (by omega))
  have TR : ShR G4 := by
    unfold ShR
    rw [gk 0 (by decide), gk 37 (by decide), gk 38 (by decide), gk 39 (by decide), gk 40 (by decide), gk 41 (by decide), gk 42 (by decide), gk 43 (by decide), gk 44 (by decide), gk 45 (by decide)]
    simp only [gr 0 _ (by decide), gr 37 _ (by decide), gr 39 _ (by decide)]
    exact hSR
  have e47 : m4 47 = s00 := funext h47
  have e0 : m4 0 4 = 0 := by rw [gm 0 (by decide)]; exact w4
  have e46 : m4 46 = fun _ => 0 := by rw [hm4 46 (Nat.le_refl _)]; exact B7
  have hLw : LwI G4 m4 := by
    refine ⟨⟨by omega, ⟨T1.1.1, T19.1.1, TR⟩, hM4, T1.gb (by omega), T19.gb (by omega)⟩, ⟨by rw [e47]; exact T1.rs (Or.inl rfl), by rw [e47]; exact wf_s00⟩, ⟨T19.2.2.1, fun j _ => h48 j, Or.inl e0, by rw [e0, e46], fun h => by rw [e0] at h; exact absurd h (by decide)⟩, [], by decide, ⟨⟨?_, ?_, ?_⟩, fun i hi => absurd hi (Nat.not_lt_zero i)⟩, ⟨by rw [e46]; rfl, fun i hi => absurd hi (Nat.not_lt_zero i)⟩⟩
    · rw [gm 37 (by decide)]; exact w0
    · rw [gm 37 (by decide)]; exact w1
    · rw [gm 37 (by decide)]; exact w3
  have eL : gL G4 = gL G := by rw [c3, B6.1, b3, A4.1]
  have eX : gX G4 = gX G := by rw [c4, B6.2, b4, A4.2]
  exact lw_lp (d := d) 513 0 G4 m4 rfl hLw (by omega) (by omega) (by omega) (fun G' mi' x y z u => hK G' mi' x y (z.trans eL) (u.trans eX))
end LW
