/-! ===== constant texts ===== -/
def idxF (B : List Int) (v : Int) : Nat → Nat → Int
  | 0, _ => -1
  | m + 1, k => if B.getD k 0 = v then (k : Int) else idxF B v m (k + 1)
theorem sTx_len : sTexts.length = 8 := by decide
theorem sBy_b {t i : Nat} (ht : t < 8) (hi : i < (sBytes t).length) : 0 ≤ (sBytes t).getD i 0 ∧ (sBytes t).getD i 0 ≤ 127 := by
  have h20 : ∀ t : Fin 8, (sBytes t.1).length ≤ 20 := by decide
  have h : ∀ t : Fin 8, ∀ i : Fin 20, 0 ≤ (sBytes t.1).getD i.1 0 ∧ (sBytes t.1).getD i.1 0 ≤ 127 := by decide +kernel
  exact h ⟨t, ht⟩ ⟨i, Nat.lt_of_lt_of_le hi (h20 ⟨t, ht⟩)⟩
theorem sBy_l {t : Nat} (ht : t < 8) : (sBytes t).length ≤ 20 := by
  have h20 : ∀ t : Fin 8, (sBytes t.1).length ≤ 20 := by decide
  exact h20 ⟨t, ht⟩
theorem b_255 {b : Int} (h0 : 0 ≤ b) (h1 : b ≤ 127) : iAnd b 255 = b ∧ iB b = b ∧ iShr b 0 = b :=
  finN (N := 128) (P := fun b => iAnd b 255 = b ∧ iB b = b ∧ iShr b 0 = b) (by decide +kernel) h0 (by omega)
section CL
variable {d : Nat} {G : Gh} {mi : Mi} {K : Option PV → Gh → Mi → Prop} {t : Nat} {i v a b : Int}
theorem x_rcv (ht : t < 8) : rcv G (pE (2 * t + 1)) = 500 := by
  show (if (2 * t + 1) % 2 = 1 ∧ 2 * t + 1 < 2 * sTexts.length then (500 : Int) else -1) = 500
  rw [sTx_len, if_pos (by omega)]
theorem x_len (ht : t < 8) : OkC (d + 1) 205 [pE (2 * t + 1)] G mi K = K (some (pI (sBytes t).length)) G mi := by
  have hr := x_rcv (G := G) ht
  have e1 : (2 * t + 1 + 1) / 2 - 1 = t := by omega
  have h0 : ¬ 2 * t + 1 + 1 = 0 := by omega
  have h1 : (2 * t + 1 + 1) % 2 = 0 := by omega
  have h2 : 2 * t + 1 + 1 ≤ 2 * sTexts.length := by rw [sTx_len]; omega
  have hl := sBy_l ht
  obtain ⟨-, -, e2⟩ := b_255 (b := ((sBytes t).length : Int)) (by omega) (by omega)
  have hc : OkC d 209 [pE (2 * t + 1)] G mi (fun r G' mi' => Ok (d + 1) 205 9 [some (pE (2 * t + 1))] (pu r [pI ((sBytes t).length : Int)]) G' mi' K) = Ok (d + 1) 205 9 [some (pE (2 * t + 1))] [pI 0, pI ((sBytes t).length : Int)] G mi K := by
    rw [E209]
    simp (disch := first | assumption | exact isL_i | exact isL_r | exact isL_n | exact i01a | exact i01b | omega) only [K209_0, K209_3, K209_6, K209_7, K209_10, K209_13, K209_14, wr_id, td_e, tm_e, pu_n, pu_s, up_s, up_k, up_a, ↓reduceIte, Int.reduceLT, Int.reduceLE, Int.reduceEq, Int.reduceNeg, Int.reduceAdd, Int.reduceSub, Int.reduceMul, Int.reduceMod, Int.reduceDiv, Int.cast_ofNat_Int, not_true_eq_false, not_false_eq_true, Int.reduceTDiv, Int.reduceTMod, if_pos, if_neg]
  rw [E205]
  simp (disch := first | assumption | exact isL_i | exact isL_r | exact isL_n | exact i01a | exact i01b | omega) only [K205_0, K205_1, K205_4, K205_4b, K205_5, wr_id, td_e, tm_e, pu_n, pu_s, up_s, up_k, up_a, ↓reduceIte, Int.reduceLT, Int.reduceLE, Int.reduceEq, Int.reduceNeg, Int.reduceAdd, Int.reduceSub, Int.reduceMul, Int.reduceMod, Int.reduceDiv, Int.cast_ofNat_Int, not_true_eq_false, not_false_eq_true, Int.reduceTDiv, Int.reduceTMod, e1]
  rw [K205_6 hr]
  refine hc.trans ?_
  simp (disch := first | assumption | exact isL_i | exact isL_r | exact isL_n | exact i01a | exact i01b | omega) only [K205_9, K205_10, wr_id, td_e, tm_e, pu_n, pu_s, up_s, up_k, up_a, ↓reduceIte, Int.reduceLT, Int.reduceLE, Int.reduceEq, Int.reduceNeg, Int.reduceAdd, Int.reduceSub, Int.reduceMul, Int.reduceMod, Int.reduceDiv, Int.cast_ofNat_Int, not_true_eq_false, not_false_eq_true, Int.reduceTDiv, Int.reduceTMod, e2]
theorem x_lat (ht : t < 8) : OkC d 210 [pE (2 * t + 1)] G mi K = K (some (pI 1)) G mi := by
  have hr := x_rcv (G := G) ht
  rw [E210]
  simp (disch := first | assumption | exact isL_i | exact isL_r | exact isL_n | exact i01a | exact i01b | omega) only [K210_0, K210_3, K210_6, K210_7, K210_10, K210_13, K210_14, K210_17, K210_18, wr_id, td_e, tm_e, pu_n, pu_s, up_s, up_k, up_a, ↓reduceIte, Int.reduceLT, Int.reduceLE, Int.reduceEq, Int.reduceNeg, Int.reduceAdd, Int.reduceSub, Int.reduceMul, Int.reduceMod, Int.reduceDiv, Int.cast_ofNat_Int, not_true_eq_false, not_false_eq_true, Int.reduceTDiv, Int.reduceTMod, if_pos, if_neg]
theorem x_chk (h0 : 0 ≤ a) (h1 : a < b) : OkC (d + 1) 211 [pI a, pI b] G mi K = K none G mi := by
  have hp : ∀ K', OkC d 216 [pI a, pI b, pE 1000] G mi K' = K' (some (pI a)) G mi := by
    intro K'
    rw [E216]
    simp (disch := first | assumption | exact isL_i | exact isL_r | exact isL_n | exact i01a | exact i01b | omega) only [K216_0, K216_1, K216_4, K216_5, K216_6, K216_9, K216_10, K216_11, K216_16, K216_17, wr_id, td_e, tm_e, pu_n, pu_s, up_s, up_k, up_a, ↓reduceIte, Int.reduceLT, Int.reduceLE, Int.reduceEq, Int.reduceNeg, Int.reduceAdd, Int.reduceSub, Int.reduceMul, Int.reduceMod, Int.reduceDiv, Int.cast_ofNat_Int, not_true_eq_false, not_false_eq_true, Int.reduceTDiv, Int.reduceTMod, if_pos, if_neg]
  rw [E211]
  simp (disch := first | assumption | exact isL_i | exact isL_r | exact isL_n | exact i01a | exact i01b | omega) only [K211_0, K211_1, K211_2, K211_5, K211_8, K211_8i, K211_9, wr_id, td_e, tm_e, pu_n, pu_s, up_s, up_k, up_a, ↓reduceIte, Int.reduceLT, Int.reduceLE, Int.reduceEq, Int.reduceNeg, Int.reduceAdd, Int.reduceSub, Int.reduceMul, Int.reduceMod, Int.reduceDiv, Int.cast_ofNat_Int, not_true_eq_false, not_false_eq_true, Int.reduceTDiv, Int.reduceTMod, hp]
theorem x_charAt {i : Nat} (ht : t < 8) (hi : i < (sBytes t).length) : OkC (d + 4) 206 [pE (2 * t + 1), pI i] G mi K = K (some (pI ((sBytes t).getD i 0))) G mi := by
  have hr := x_rcv (G := G) ht
  have e1 : (2 * t + 1 + 1) / 2 - 1 = t := by omega
  have h0 : ¬ 2 * t + 1 + 1 = 0 := by omega
  have h0' : 0 < 2 * t + 1 + 1 := by omega
  have h1 : (2 * t + 1 + 1) % 2 = 0 := by omega
  have h2 : 2 * t + 1 + 1 ≤ 2 * sTexts.length := by rw [sTx_len]; omega
  have hil : (i : Int) < ((sBytes ((2 * t + 1 + 1) / 2 - 1)).length : Nat) := by rw [e1]; omega
  have hi0 : (0 : Int) ≤ i := by omega
  obtain ⟨b1, b2⟩ := sBy_b ht hi
  obtain ⟨e2, -, -⟩ := b_255 b1 b2
  have hl : ∀ K', OkC (d + 3) 212 [pE (2 * t + 1 + 1), pI i] G mi K' = K' (some (pI ((sBytes t).getD i 0))) G mi := by
    intro K'
    rw [E212]
    simp (disch := first | assumption | exact isL_i | exact isL_r | exact isL_n | exact i01a | exact i01b | omega) only [K212_0, K212_1, K212_2, K212_2b, K212_3, K212_6, K212_7, K212_8, K212_8b, K212_9, K212_12, K212_13, K212_14, wr_id, td_e, tm_e, pu_n, pu_s, up_s, up_k, up_a, ↓reduceIte, Int.reduceLT, Int.reduceLE, Int.reduceEq, Int.reduceNeg, Int.reduceAdd, Int.reduceSub, Int.reduceMul, Int.reduceMod, Int.reduceDiv, Int.cast_ofNat_Int, not_true_eq_false, not_false_eq_true, Int.reduceTDiv, Int.reduceTMod, x_chk, e1, e2, Int.toNat_natCast]
  rw [E206]
  simp (disch := first | assumption | exact isL_i | exact isL_r | exact isL_n | exact i01a | exact i01b | omega) only [K206_0, wr_id, td_e, tm_e, pu_n, pu_s, up_s, up_k, up_a, ↓reduceIte, Int.reduceLT, Int.reduceLE, Int.reduceEq, Int.reduceNeg, Int.reduceAdd, Int.reduceSub, Int.reduceMul, Int.reduceMod, Int.reduceDiv, Int.cast_ofNat_Int, not_true_eq_false, not_false_eq_true, Int.reduceTDiv, Int.reduceTMod]
  rw [K206_1 hr, x_lat ht]
  simp (disch := first | assumption | exact isL_i | exact isL_r | exact isL_n | exact i01a | exact i01b | omega) only [K206_4, K206_7, K206_8, K206_11, K206_12, K206_15, K206_16, K206_17, K206_20, wr_id, td_e, tm_e, pu_n, pu_s, up_s, up_k, up_a, ↓reduceIte, Int.reduceLT, Int.reduceLE, Int.reduceEq, Int.reduceNeg, Int.reduceAdd, Int.reduceSub, Int.reduceMul, Int.reduceMod, Int.reduceDiv, Int.cast_ofNat_Int, not_true_eq_false, not_false_eq_true, Int.reduceTDiv, Int.reduceTMod, hl, if_pos, if_neg]
theorem x_idx_lp (ht : t < 8) (h0v : 0 ≤ v) (h1v : v ≤ 127) {x2 : Option PV} : ∀ (m k : Nat), k + m = (sBytes t).length →
    Ok d 215 7 [some (pE (2 * t + 1 + 1)), some (pI v), x2, some (pI ((sBytes t).length : Int)), some (pI v), some (pI k)] [] G mi K = K (some (pI (idxF (sBytes t) v m k))) G mi := by
  have e1 : (2 * t + 1 + 1) / 2 - 1 = t := by omega
  have h0' : 0 < 2 * t + 1 + 1 := by omega
  have h1 : (2 * t + 1 + 1) % 2 = 0 := by omega
  have h2 : 2 * t + 1 + 1 ≤ 2 * sTexts.length := by rw [sTx_len]; omega
  have hl := sBy_l ht
  intro m
  induction m with
  | zero =>
    intro k hk
    rw [K215_7]
    simp (disch := first | assumption | exact isL_i | exact isL_r | exact isL_n | exact i01a | exact i01b | omega) only [K215_9, K215_10, K215_31, K215_32, wr_id, td_e, tm_e, pu_n, pu_s, up_s, up_k, up_a, ↓reduceIte, Int.reduceLT, Int.reduceLE, Int.reduceEq, Int.reduceNeg, Int.reduceAdd, Int.reduceSub, Int.reduceMul, Int.reduceMod, Int.reduceDiv, Int.cast_ofNat_Int, not_true_eq_false, not_false_eq_true, Int.reduceTDiv, Int.reduceTMod, if_pos, if_neg, idxF]
  | succ m ih =>
    intro k hk
    have hil : (k : Int) < ((sBytes ((2 * t + 1 + 1) / 2 - 1)).length : Nat) := by rw [e1]; omega
    have hi0 : (0 : Int) ≤ k := by omega
    simp only [idxF]
    rw [K215_7]
    by_cases c : (sBytes t).getD k 0 = v
    · rw [if_pos c]
      simp (disch := first | assumption | exact isL_i | exact isL_r | exact isL_n | exact i01a | exact i01b | omega) only [K215_9, K215_10, K215_13, K215_14, K215_16, K215_16b, K215_17, K215_19, K215_22, K215_24, wr_id, td_e, tm_e, pu_n, pu_s, up_s, up_k, up_a, ↓reduceIte, Int.reduceLT, Int.reduceLE, Int.reduceEq, Int.reduceNeg, Int.reduceAdd, Int.reduceSub, Int.reduceMul, Int.reduceMod, Int.reduceDiv, Int.cast_ofNat_Int, not_true_eq_false, not_false_eq_true, Int.reduceTDiv, Int.reduceTMod, e1, Int.toNat_natCast, if_pos, if_neg]
    · rw [if_neg c, ← ih (k + 1) (by omega)]
      simp (disch := first | assumption | exact isL_i | exact isL_r | exact isL_n | exact i01a | exact i01b | omega) only [K215_9, K215_10, K215_13, K215_14, K215_16, K215_16b, K215_17, K215_19, K215_25, K215_28, wr_id, td_e, tm_e, pu_n, pu_s, up_s, up_k, up_a, ↓reduceIte, Int.reduceLT, Int.reduceLE, Int.reduceEq, Int.reduceNeg, Int.reduceAdd, Int.reduceSub, Int.reduceMul, Int.reduceMod, Int.reduceDiv, Int.cast_ofNat_Int, not_true_eq_false, not_false_eq_true, Int.reduceTDiv, Int.reduceTMod, e1, Int.toNat_natCast, if_pos, if_neg]
      rfl
theorem x_indexOf (ht : t < 8) (h0v : 0 ≤ v) (h1v : v ≤ 127) : OkC (d + 4) 207 [pE (2 * t + 1), pI v] G mi K = K (some (pI (idxF (sBytes t) v (sBytes t).length 0))) G mi := by
  have hr := x_rcv (G := G) ht
  have e1 : (2 * t + 1 + 1) / 2 - 1 = t := by omega
  have h0 : ¬ 2 * t + 1 + 1 = 0 := by omega
  have h1 : (2 * t + 1 + 1) % 2 = 0 := by omega
  have h2 : 2 * t + 1 + 1 ≤ 2 * sTexts.length := by rw [sTx_len]; omega
  have hl := sBy_l ht
  have hl0 : 0 < (sBytes t).length := by
    have h : ∀ t : Fin 8, 0 < (sBytes t.1).length := by decide
    exact h ⟨t, ht⟩
  obtain ⟨-, e2, -⟩ := b_255 h0v h1v
  have hce : ∀ K', OkC (d + 1) 213 [pI v] G mi K' = K' (some (pI 1)) G mi := by
    intro K'
    rw [E213]
    simp (disch := first | assumption | exact isL_i | exact isL_r | exact isL_n | exact i01a | exact i01b | omega) only [K213_0, K213_1, K213_4, K213_5, K213_8, K213_11, K213_12, K213_15, K213_16, wr_id, td_e, tm_e, pu_n, pu_s, up_s, up_k, up_a, ↓reduceIte, Int.reduceLT, Int.reduceLE, Int.reduceEq, Int.reduceNeg, Int.reduceAdd, Int.reduceSub, Int.reduceMul, Int.reduceMod, Int.reduceDiv, Int.cast_ofNat_Int, not_true_eq_false, not_false_eq_true, Int.reduceTDiv, Int.reduceTMod, if_pos, if_neg]
  have hio : ∀ K', OkC (d + 2) 214 [pE (2 * t + 1 + 1), pI v, pI 0, pI ((sBytes t).length : Int)] G mi K' = K' (some (pI (idxF (sBytes t) v (sBytes t).length 0))) G mi := by
    intro K'
    rw [E214]
    simp (disch := first | assumption | exact isL_i | exact isL_r | exact isL_n | exact i01a | exact i01b | omega) only [K214_0, K214_1, K214_4, K214_7, K214_8, K214_9, K214_10, K214_11, K214_14, K214_15, K214_16, K214_17, K214_17b, K214_18, K214_21, K214_22, K214_23, K214_24, K214_27, K214_28, K214_29, K214_30, K214_31, K214_32, wr_id, td_e, tm_e, pu_n, pu_s, up_s, up_k, up_a, ↓reduceIte, Int.reduceLT, Int.reduceLE, Int.reduceEq, Int.reduceNeg, Int.reduceAdd, Int.reduceSub, Int.reduceMul, Int.reduceMod, Int.reduceDiv, Int.cast_ofNat_Int, not_true_eq_false, not_false_eq_true, Int.reduceTDiv, Int.reduceTMod, hce, e1, if_pos, if_neg, Int.lt_irrefl]
    rw [K214_33, E215]
    simp (disch := first | assumption | exact isL_i | exact isL_r | exact isL_n | exact i01a | exact i01b | omega) only [K215_0, K215_1, K215_2, K215_4, K215_5, wr_id, td_e, tm_e, pu_n, pu_s, up_s, up_k, up_a, ↓reduceIte, Int.reduceLT, Int.reduceLE, Int.reduceEq, Int.reduceNeg, Int.reduceAdd, Int.reduceSub, Int.reduceMul, Int.reduceMod, Int.reduceDiv, Int.cast_ofNat_Int, not_true_eq_false, not_false_eq_true, Int.reduceTDiv, Int.reduceTMod, e2]
    refine (x_idx_lp ht h0v h1v (sBytes t).length 0 (by omega)).trans ?_
    simp (disch := first | assumption | exact isL_i | exact isL_r | exact isL_n | exact i01a | exact i01b | omega) only [K214_36, wr_id, td_e, tm_e, pu_n, pu_s, up_s, up_k, up_a, ↓reduceIte, Int.reduceLT, Int.reduceLE, Int.reduceEq, Int.reduceNeg, Int.reduceAdd, Int.reduceSub, Int.reduceMul, Int.reduceMod, Int.reduceDiv, Int.cast_ofNat_Int, not_true_eq_false, not_false_eq_true, Int.reduceTDiv, Int.reduceTMod]
  have h3 : ∀ K', OkC (d + 3) 208 [pE (2 * t + 1), pI v, pI 0] G mi K' = K' (some (pI (idxF (sBytes t) v (sBytes t).length 0))) G mi := by
    intro K'
    rw [E208]
    simp (disch := first | assumption | exact isL_i | exact isL_r | exact isL_n | exact i01a | exact i01b | omega) only [K208_0, wr_id, td_e, tm_e, pu_n, pu_s, up_s, up_k, up_a, ↓reduceIte, Int.reduceLT, Int.reduceLE, Int.reduceEq, Int.reduceNeg, Int.reduceAdd, Int.reduceSub, Int.reduceMul, Int.reduceMod, Int.reduceDiv, Int.cast_ofNat_Int, not_true_eq_false, not_false_eq_true, Int.reduceTDiv, Int.reduceTMod]
    rw [K208_1 hr, x_lat ht]
    simp (disch := first | assumption | exact isL_i | exact isL_r | exact isL_n | exact i01a | exact i01b | omega) only [K208_4, K208_7, K208_8, K208_11, K208_12, K208_13, wr_id, td_e, tm_e, pu_n, pu_s, up_s, up_k, up_a, ↓reduceIte, Int.reduceLT, Int.reduceLE, Int.reduceEq, Int.reduceNeg, Int.reduceAdd, Int.reduceSub, Int.reduceMul, Int.reduceMod, Int.reduceDiv, Int.cast_ofNat_Int, not_true_eq_false, not_false_eq_true, Int.reduceTDiv, Int.reduceTMod, if_pos, if_neg]
    rw [K208_14 hr, x_len (d := d + 1) ht]
    simp (disch := first | assumption | exact isL_i | exact isL_r | exact isL_n | exact i01a | exact i01b | omega) only [K208_17, K208_20, K208_36, wr_id, td_e, tm_e, pu_n, pu_s, up_s, up_k, up_a, ↓reduceIte, Int.reduceLT, Int.reduceLE, Int.reduceEq, Int.reduceNeg, Int.reduceAdd, Int.reduceSub, Int.reduceMul, Int.reduceMod, Int.reduceDiv, Int.cast_ofNat_Int, not_true_eq_false, not_false_eq_true, Int.reduceTDiv, Int.reduceTMod, hio]
  rw [E207]
  simp (disch := first | assumption | exact isL_i | exact isL_r | exact isL_n | exact i01a | exact i01b | omega) only [K207_0, K207_1, K207_2, wr_id, td_e, tm_e, pu_n, pu_s, up_s, up_k, up_a, ↓reduceIte, Int.reduceLT, Int.reduceLE, Int.reduceEq, Int.reduceNeg, Int.reduceAdd, Int.reduceSub, Int.reduceMul, Int.reduceMod, Int.reduceDiv, Int.cast_ofNat_Int, not_true_eq_false, not_false_eq_true, Int.reduceTDiv, Int.reduceTMod]
  rw [K207_3 hr, h3]
  simp (disch := first | assumption | exact isL_i | exact isL_r | exact isL_n | exact i01a | exact i01b | omega) only [K207_6, wr_id, td_e, tm_e, pu_n, pu_s, up_s, up_k, up_a, ↓reduceIte, Int.reduceLT, Int.reduceLE, Int.reduceEq, Int.reduceNeg, Int.reduceAdd, Int.reduceSub, Int.reduceMul, Int.reduceMod, Int.reduceDiv, Int.cast_ofNat_Int, not_true_eq_false, not_false_eq_true, Int.reduceTDiv, Int.reduceTMod]
end CL
