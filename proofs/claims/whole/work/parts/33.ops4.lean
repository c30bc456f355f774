/-! ===== pay, soon, order ===== -/
def payF (s : Int → Int) : Int := if 99 < (if 0 < telF s 204 0 then s 8 else 0) + coinF s then 99 else (if 0 < telF s 204 0 then s 8 else 0) + coinF s
def oPay' (s : Int → Int) : Int × (Int → Int) := if s 9 = 9999 then (-3, s) else (payF s, sH (sH s 9 (s 9 + 1)) 8 (payF s))
def hazF (s : Int → Int) : Int := telF s 209 0
def oSoon (s : Int → Int) (p : Int) : Int := if isT s p then (if soonF s (hazF s) p (s 1) (s 0) 40 1 = 1000000000 then -5 else soonF s (hazF s) p (s 1) (s 0) 40 1) else -1
theorem st_tel {s s' : Int → Int} {w n : Int} (h17 : s' 17 = s 17) (h : s 17 ≠ -1 → s' (w + s 17) = s (w + s 17)) : telF s' w n = telF s w n := by
  unfold telF
  rw [h17]
  by_cases c : s 17 = -1
  · rw [if_pos c, if_pos c]
  · rw [if_neg c, if_neg c, h c]
section MO
variable {d : Nat} {G : Gh} {mi : Mi} {K : Option PV → Gh → Mi → Prop} {p t v w a b c k n g : Int}
theorem ScM.u46 {mi : Mi} {v : Int} {k : Int} (h : ¬ k = 4) (h' : ¬ k = 19) : ScM mi (up mi 46 k v) := ⟨sc_up (by decide), up_k (fun e => h e.symm), up_k (fun e => h' e.symm)⟩
theorem m_asItIs' (hG : ShM G) (h1 : -1 ≤ mi 47 17) (h4 : mi 47 17 ≤ 4) : OkC (d + 1) 6 [pR (some 46)] G mi K = K none G (up mi 46 5 (hazF (mi 47))) := m_asItIs hG h1 h4
theorem m_soon (hG : ShM G) (hT : WfT (mi 47)) (h1 : -1 ≤ mi 47 17) (h4 : mi 47 17 ≤ 4) (hn : 0 ≤ mi 47 11) (hn' : mi 47 11 ≤ 6) (ht : 0 ≤ mi 47 0) (htt : mi 47 0 ≤ 9999) (hc : 0 ≤ mi 47 1) (hc' : mi 47 1 ≤ 23) (hK : ∀ mi', mi' 47 = mi 47 → ScM mi mi' → K (some (pI (oSoon (mi 47) p))) G mi') : OkC (d + 3) 51 [pR (some 46), pI p] G mi K := by
  obtain ⟨⟨k46, k47, l47, k48, l48, k49, l49, k50, l50, k51, l51⟩, ⟨k52, l52, k53, l53, k54, l54⟩, ⟨g1, g2, g3, g11, g12, g15, g16, g18⟩⟩ := id hG
  rw [E51]
  unfold oSoon at hK
  by_cases hp : isT (mi 47) p
  · rw [if_pos hp] at hK
    simp (disch := first | assumption | exact isL_i | exact isL_r | exact isL_n | exact i01a | exact i01b | omega | (simp (disch := decide) only [up_a, up_s, up_k]; first | assumption | omega)) only [K51_0, K51_1, K51_2, K51_5, K51_8, K51_9, K51_10, K51_11, K51_14, K51_15, K51_16, K51_17, K51_20, K51_21, K51_22, K51_23, K51_26, K51_27, K51_28, g1, g2, g3, g11, g12, g15, g16, g18, wr_id, td_e, tm_e, pu_n, pu_s, up_s, up_k, up_a, ↓reduceIte, Int.reduceLT, Int.reduceLE, Int.reduceEq, Int.reduceNeg, Int.reduceAdd, Int.reduceSub, Int.reduceMul, Int.reduceMod, Int.reduceDiv, Int.cast_ofNat_Int, not_true_eq_false, not_false_eq_true, Int.reduceTDiv, Int.reduceTMod, m_isThing, m_asItIs', if_pos, if_neg]
    rw [m_ticksTo hG (by rw [up_a (by decide)]; exact hT) hp.1 (by omega) ht (by omega) hc hc', up_a (by decide), up_s]
    by_cases hf : soonF (mi 47) (hazF (mi 47)) p (mi 47 1) (mi 47 0) 40 1 = 1000000000
    · rw [if_pos hf] at hK
      simp (disch := first | assumption | exact isL_i | exact isL_r | exact isL_n | exact i01a | exact i01b | omega) only [K51_31, K51_32, K51_33, K51_35, K51_38, K51_40, K51_43, K51_44, wr_id, td_e, tm_e, pu_n, pu_s, up_s, up_k, up_a, ↓reduceIte, Int.reduceLT, Int.reduceLE, Int.reduceEq, Int.reduceNeg, Int.reduceAdd, Int.reduceSub, Int.reduceMul, Int.reduceMod, Int.reduceDiv, Int.cast_ofNat_Int, not_true_eq_false, not_false_eq_true, Int.reduceTDiv, Int.reduceTMod, if_pos, if_neg]
      exact hK _ (up_a (by decide)) (ScM.u46 (by decide) (by decide))
    · rw [if_neg hf] at hK
      simp (disch := first | assumption | exact isL_i | exact isL_r | exact isL_n | exact i01a | exact i01b | omega) only [K51_31, K51_32, K51_33, K51_35, K51_38, K51_40, K51_43, K51_44, wr_id, td_e, tm_e, pu_n, pu_s, up_s, up_k, up_a, ↓reduceIte, Int.reduceLT, Int.reduceLE, Int.reduceEq, Int.reduceNeg, Int.reduceAdd, Int.reduceSub, Int.reduceMul, Int.reduceMod, Int.reduceDiv, Int.cast_ofNat_Int, not_true_eq_false, not_false_eq_true, Int.reduceTDiv, Int.reduceTMod, if_pos, if_neg]
      exact hK _ (up_a (by decide)) (ScM.u46 (by decide) (by decide))
  · rw [if_neg hp] at hK
    simp (disch := first | assumption | exact isL_i | exact isL_r | exact isL_n | exact i01a | exact i01b | omega) only [K51_0, K51_1, K51_2, K51_5, K51_8, K51_9, K51_10, K51_11, K51_14, K51_15, K51_16, K51_17, K51_20, K51_21, K51_22, K51_23, K51_26, K51_27, K51_28, K51_31, K51_32, K51_33, K51_35, K51_38, K51_40, K51_43, K51_44, g1, g2, g3, g11, g12, g15, g16, g18, wr_id, td_e, tm_e, pu_n, pu_s, up_s, up_k, up_a, ↓reduceIte, Int.reduceLT, Int.reduceLE, Int.reduceEq, Int.reduceNeg, Int.reduceAdd, Int.reduceSub, Int.reduceMul, Int.reduceMod, Int.reduceDiv, Int.cast_ofNat_Int, not_true_eq_false, not_false_eq_true, Int.reduceTDiv, Int.reduceTMod, m_isThing, if_pos, if_neg]
    exact hK _ rfl ScM.rf
theorem m_pay (hG : ShM G) (hV : WfV (mi 47)) (h1 : -1 ≤ mi 47 17) (h4 : mi 47 17 ≤ 4) (h8 : 0 ≤ mi 47 8) (h8' : mi 47 8 ≤ 99) (h9 : 0 ≤ mi 47 9) (h9' : mi 47 9 ≤ 9999) (hK : ∀ mi', mi' 47 = (oPay' (mi 47)).2 → ScM mi mi' → K (some (pI (oPay' (mi 47)).1)) G mi') : OkC (d + 3) 41 [pR (some 46)] G mi K := by
  obtain ⟨⟨k46, k47, l47, k48, l48, k49, l49, k50, l50, k51, l51⟩, ⟨k52, l52, k53, l53, k54, l54⟩, ⟨g1, g2, g3, g11, g12, g15, g16, g18⟩⟩ := id hG
  have hcb := coinF_bd hV
  rw [E41]
  unfold oPay' at hK
  by_cases c0 : mi 47 9 = 9999
  · rw [if_pos c0] at hK
    simp (disch := first | assumption | exact isL_i | exact isL_r | exact isL_n | exact i01a | exact i01b | omega) only [K41_0, K41_1, K41_4, K41_6, K41_7, K41_10, K41_13, K41_15, K41_16, K41_17, K41_20, K41_22, K41_23, K41_24, K41_25, K41_26, K41_27, K41_28, K41_31, K41_32, K41_35, K41_38, K41_39, K41_42, K41_44, K41_45, K41_48, K41_49, K41_50, K41_53, K41_54, K41_55, K41_56, K41_59, K41_61, K41_62, K41_64, K41_67, K41_69, K41_72, K41_73, K41_74, K41_75, K41_78, K41_80, K41_81, g1, g2, g3, g11, g12, g15, g16, g18, wr_id, td_e, tm_e, pu_n, pu_s, up_s, up_k, up_a, ↓reduceIte, Int.reduceLT, Int.reduceLE, Int.reduceEq, Int.reduceNeg, Int.reduceAdd, Int.reduceSub, Int.reduceMul, Int.reduceMod, Int.reduceDiv, Int.cast_ofNat_Int, not_true_eq_false, not_false_eq_true, Int.reduceTDiv, Int.reduceTMod, if_pos, if_neg]
    exact hK _ rfl ScM.rf
  · rw [if_neg c0] at hK
    have e17 : up mi 47 9 (mi 47 9 + 1) 47 17 = mi 47 17 := up_k (by decide)
    have et : telF (up mi 47 9 (mi 47 9 + 1) 47) 204 0 = telF (mi 47) 204 0 := st_tel e17 (fun _ => up_k (by omega))
    have ec : coinF (up mi 47 9 (mi 47 9 + 1) 47) = coinF (mi 47) := by unfold coinF; rw [st_tel e17 (fun _ => up_k (by omega))]
    by_cases c1 : 0 < telF (mi 47) 204 0
    · by_cases c2 : 99 < mi 47 8 + coinF (mi 47)
      all_goals simp (disch := first | assumption | exact isL_i | exact isL_r | exact isL_n | exact i01a | exact i01b | omega | (simp (disch := decide) only [up_a, up_s, up_k]; first | assumption | omega)) only [K41_0, K41_1, K41_4, K41_6, K41_7, K41_10, K41_13, K41_15, K41_16, K41_17, K41_20, K41_22, K41_23, K41_24, K41_25, K41_26, K41_27, K41_28, K41_31, K41_32, K41_35, K41_38, K41_39, K41_42, K41_44, K41_45, K41_48, K41_49, K41_50, K41_53, K41_54, K41_55, K41_56, K41_59, K41_61, K41_62, K41_64, K41_67, K41_69, K41_72, K41_73, K41_74, K41_75, K41_78, K41_80, K41_81, g1, g2, g3, g11, g12, g15, g16, g18, wr_id, td_e, tm_e, pu_n, pu_s, up_s, up_k, up_a, ↓reduceIte, Int.reduceLT, Int.reduceLE, Int.reduceEq, Int.reduceNeg, Int.reduceAdd, Int.reduceSub, Int.reduceMul, Int.reduceMod, Int.reduceDiv, Int.cast_ofNat_Int, not_true_eq_false, not_false_eq_true, Int.reduceTDiv, Int.reduceTMod, m_coin', m_tel, et, ec, if_pos, if_neg]
      · have ep : payF (mi 47) = 99 := by unfold payF; rw [if_pos c1, if_pos c2]
        rw [ep] at hK
        exact hK _ (by rw [up_sH, up_sH]) (ScM.u47.tr ScM.u47)
      · have ep : payF (mi 47) = mi 47 8 + coinF (mi 47) := by unfold payF; rw [if_pos c1, if_neg c2]
        rw [ep] at hK
        exact hK _ (by rw [up_sH, up_sH]) (ScM.u47.tr ScM.u47)
    · simp (disch := first | assumption | exact isL_i | exact isL_r | exact isL_n | exact i01a | exact i01b | omega | (simp (disch := decide) only [up_a, up_s, up_k]; first | assumption | omega)) only [K41_0, K41_1, K41_4, K41_6, K41_7, K41_10, K41_13, K41_15, K41_16, K41_17, K41_20, K41_22, K41_23, K41_24, K41_25, K41_26, K41_27, K41_28, K41_31, K41_32, K41_35, K41_38, K41_39, K41_42, K41_44, K41_45, K41_48, K41_49, K41_50, K41_53, K41_54, K41_55, K41_56, K41_59, K41_61, K41_62, K41_64, K41_67, K41_69, K41_72, K41_73, K41_74, K41_75, K41_78, K41_80, K41_81, g1, g2, g3, g11, g12, g15, g16, g18, wr_id, td_e, tm_e, pu_n, pu_s, up_s, up_k, up_a, ↓reduceIte, Int.reduceLT, Int.reduceLE, Int.reduceEq, Int.reduceNeg, Int.reduceAdd, Int.reduceSub, Int.reduceMul, Int.reduceMod, Int.reduceDiv, Int.cast_ofNat_Int, not_true_eq_false, not_false_eq_true, Int.reduceTDiv, Int.reduceTMod, m_coin', m_tel, et, ec, if_pos, if_neg, Int.zero_add]
      have ep : payF (mi 47) = coinF (mi 47) := by unfold payF; rw [if_neg c1, Int.zero_add, if_neg (by omega)]
      rw [ep] at hK
      exact hK _ (by rw [up_sH, up_sH]) (ScM.u47.tr ScM.u47)
end MO
