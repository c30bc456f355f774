/-! ===== the class: then, looked, as, from, firm, soon ===== -/
def tldG (s : Int → Int) (p hm pc : Int) : Nat → Int → Int
  | 0, _ => 1
  | n + 1, k => if s (60 + k) = p ∧ ¬ plc (s (18 + p)) hm pc (s (36 + 4 * p + (s 0 + s (65 + k)) % 4)) (s 0 + s (65 + k)) = s (70 + k) then 0 else tldG s p hm pc n (k + 1)
theorem toldF_z {s : Int → Int} {p : Int} : ∀ (n : Nat) (k : Int), toldF s p n k 0 = 0 := by
  intro n
  induction n with
  | zero => intro k; rfl
  | succ n ih => intro k; simp only [toldF]; rw [if_pos trivial]; exact ih (k + 1)
theorem told30 {s : Int → Int} {p c : Int} (h0 : 0 ≤ p) (h6 : p < 6) : ∀ (n : Nat) (k : Int), 0 ≤ k → toldF (sH s (30 + p) c) p n k 1 = tldG s p c (s (24 + p)) n k := by
  intro n
  induction n with
  | zero => intro k _; rfl
  | succ n ih =>
    intro k hk
    simp only [toldF, tldG]
    rw [if_neg (by decide)]
    have e : atF (sH s (30 + p) c) p (s 0 + s (65 + k)) = plc (s (18 + p)) c (s (24 + p)) (s (36 + 4 * p + (s 0 + s (65 + k)) % 4)) (s 0 + s (65 + k)) := by
      unfold atF
      rw [sH_k (by omega), sH_s, sH_k (by omega), sH_k (by omega)]
    rw [sH_k (by omega), sH_k (by omega), sH_k (by omega), sH_k (by omega), e]
    split
    · exact toldF_z n (k + 1)
    · exact ih (k + 1) (by omega)
theorem told24 {s : Int → Int} {p c : Int} (h0 : 0 ≤ p) (h6 : p < 6) : ∀ (n : Nat) (k : Int), 0 ≤ k → toldF (sH s (24 + p) c) p n k 1 = tldG s p (s (30 + p)) c n k := by
  intro n
  induction n with
  | zero => intro k _; rfl
  | succ n ih =>
    intro k hk
    simp only [toldF, tldG]
    rw [if_neg (by decide)]
    have e : atF (sH s (24 + p) c) p (s 0 + s (65 + k)) = plc (s (18 + p)) (s (30 + p)) c (s (36 + 4 * p + (s 0 + s (65 + k)) % 4)) (s 0 + s (65 + k)) := by
      unfold atF
      rw [sH_k (by omega), sH_k (by omega), sH_s, sH_k (by omega)]
    rw [sH_k (by omega), sH_k (by omega), sH_k (by omega), sH_k (by omega), e]
    split
    · exact toldF_z n (k + 1)
    · exact ih (k + 1) (by omega)
section CL
variable {d : Nat} {G : Gh} {mi : Mi} {K : Option PV → Gh → Mi → Prop} {o o' T : Nat} {s : Int → Int} {p t v w a b c k n g q x lim hm pc : Int}
theorem c_stood_lp (hC : ShC G) (hR : RS 1 s G mi) (hW : WfA s) (h0 : 0 ≤ p) (h1 : p < s 11) (hTh : RTh G mi T (s (18 + p)) p (s (24 + p))) (hh0 : 0 ≤ hm) (hh1 : hm ≤ 23) (hp0 : 0 ≤ pc) (hp1 : pc ≤ 9) : ∀ (n : Nat) (k : Int) (x5 x6 : Option PV), isL x5 = false → isL x6 = false → k + n = s 13 → 0 ≤ k →
    Ok (d + 4) 145 3 [some (pR (some 1)), some (pR (some T)), some (pI hm), some (pI pc), some (pI k), x5, x6] [] G mi K = K (some (pI (tldG s p hm pc n k))) G mi := by
  obtain ⟨⟨⟨k1, k2, k3, l3, k9, l9, k10, l10, k11, l11⟩, ⟨k12, k13, l13, k14, k15, l15, k16, k17, l17, k18, l18⟩, ⟨r10, r14, r15, r16, r113, r114, r115, r116, r22, r122, r142, r162⟩⟩, -, ⟨⟨k0, r00, r01, r02, r03⟩, ⟨k37, r372, k38, l38⟩, ⟨k39, r390, r391, r392, r393, r394, r396, r397⟩, ⟨k40, l40, k41, l41, k42, l42, k43, l43, k44, l44, k45, l45⟩⟩⟩ := id hC
  obtain ⟨⟨n2, n3, n7, n8, n9, n10, n11, n12⟩, ⟨hm1, hm2⟩, ⟨⟨t0, t1, t3⟩, ht4⟩, ⟨⟨u0, u1, u3⟩, hu4⟩, ⟨⟨p0, p1, p3⟩, hp4⟩, ⟨⟨b0, b1, b3⟩, hb4⟩⟩ := hR.o
  obtain ⟨⟨⟨z0, z1, z8, z9, z10, z11, z12, z13, z14, z15, z16⟩, hh01, hT, hz17⟩, hWV, hWD, hWB, hWP, hWT, hWZ, hWF, hWK⟩ := id hW
  obtain ⟨c1, c2, c3, c4, c5⟩ := id hTh
  have hth : thg (gK G T).1 = true := by rw [c1]; exact kcl_thg
  obtain ⟨⟨q1, q2⟩, ⟨q3, q4⟩, ⟨q5, q6⟩⟩ := hT.1 p h0 (by omega)
  intro n
  induction n with
  | zero =>
    intro k x5 x6 r5 r6 hk k0
    rw [K145_3]
    simp (disch := first | assumption | exact isL_i | exact isL_r | exact isL_n | exact i01a | exact i01b | omega) only [K145_5, K145_6, K145_9, K145_12, K145_94, K145_95, r10, r14, r15, r16, r113, r114, r115, r116, r22, r122, r142, r162, r00, r01, r02, r03, r372, r390, r391, r392, r393, r394, r396, r397, n2, n3, n7, n8, n9, n10, n11, n12, t0, t1, t3, u0, u1, u3, p0, p1, p3, b0, b1, b3, wr_id, td_e, tm_e, pu_n, pu_s, up_s, up_k, up_a, ↓reduceIte, Int.reduceLT, Int.reduceLE, Int.reduceEq, Int.reduceNeg, Int.reduceAdd, Int.reduceSub, Int.reduceMul, Int.reduceMod, Int.reduceDiv, Int.cast_ofNat_Int, not_true_eq_false, not_false_eq_true, Int.reduceTDiv, Int.reduceTMod, t_size, if_pos, if_neg]
    rfl
  | succ n ih =>
    intro k x5 x6 r5 r6 hk k0
    obtain ⟨e1, e2, e3⟩ := hu4 k k0 (by omega)
    obtain ⟨d1, d2⟩ := hWD.2 k k0 (by omega)
    obtain ⟨q7, q8⟩ := hT.2 (36 + 4 * p + (s 0 + s (65 + k)) % 4) (by omega) (by omega)
    have hkk : 0 ≤ k ∧ k < s 13 := ⟨k0, by omega⟩
    have gt : ∀ (b : Int) (d' : Nat) (K' : Option PV → Gh → Mi → Prop), 0 ≤ b → b < 3 → OkC d' 84 [pR (some 12), pI k, pI b] G mi K' = K' (some (pI (mi 13 (k * 3 + b)))) G mi := by
      intro b d' K' b0 b3
      rw [t_get (o := 12) (o' := 13) k12 r122 k13 (by omega) (by omega) (by omega) (by omega) (by omega) (by rw [u0, u1]; omega) b0 (by omega), u0, u3, if_pos hkk]
    have J : ∀ y5 y6, isL y5 = false → isL y6 = false → Ok (d + 4) 145 54 [some (pR (some 1)), some (pR (some T)), some (pI hm), some (pI pc), some (pI k), some (pI (s 0 + s (65 + k))), some (pI (plc (s (18 + p)) hm pc (s (36 + 4 * p + (s 0 + s (65 + k)) % 4)) (s 0 + s (65 + k))))] [] G mi K = K (some (pI (tldG s p hm pc (n + 1) k))) G mi := by
      intro y5 y6 _ _
      simp only [tldG]
      by_cases f1 : s (60 + k) = p
      · by_cases f2 : plc (s (18 + p)) hm pc (s (36 + 4 * p + (s 0 + s (65 + k)) % 4)) (s 0 + s (65 + k)) = s (70 + k)
        · rw [if_neg (fun h => h.2 f2), ← ih (k + 1) (some (pI (s 0 + s (65 + k)))) (some (pI (plc (s (18 + p)) hm pc (s (36 + 4 * p + (s 0 + s (65 + k)) % 4)) (s 0 + s (65 + k))))) isL_i isL_i (by omega) (by omega)]
          simp (disch := first | assumption | exact isL_i | exact isL_r | exact isL_n | exact i01a | exact i01b | omega) only [K145_54, K145_55, K145_58, K145_60, K145_61, K145_64, K145_65, K145_68, K145_71, K145_72, K145_75, K145_77, K145_78, K145_81, K145_83, K145_86, K145_87, K145_88, K145_91, r10, r14, r15, r16, r113, r114, r115, r116, r22, r122, r142, r162, r00, r01, r02, r03, r372, r390, r391, r392, r393, r394, r396, r397, n2, n3, n7, n8, n9, n10, n11, n12, t0, t1, t3, u0, u1, u3, p0, p1, p3, b0, b1, b3, wr_id, td_e, tm_e, pu_n, pu_s, up_s, up_k, up_a, ↓reduceIte, Int.reduceLT, Int.reduceLE, Int.reduceEq, Int.reduceNeg, Int.reduceAdd, Int.reduceSub, Int.reduceMul, Int.reduceMod, Int.reduceDiv, Int.cast_ofNat_Int, not_true_eq_false, not_false_eq_true, Int.reduceTDiv, Int.reduceTMod, gt, Int.add_zero, e1, e3, c3, if_pos, if_neg]
        · rw [if_pos ⟨f1, f2⟩]
          simp (disch := first | assumption | exact isL_i | exact isL_r | exact isL_n | exact i01a | exact i01b | omega) only [K145_54, K145_55, K145_58, K145_60, K145_61, K145_64, K145_65, K145_68, K145_71, K145_72, K145_75, K145_77, K145_78, K145_81, K145_83, K145_86, K145_87, K145_88, K145_91, r10, r14, r15, r16, r113, r114, r115, r116, r22, r122, r142, r162, r00, r01, r02, r03, r372, r390, r391, r392, r393, r394, r396, r397, n2, n3, n7, n8, n9, n10, n11, n12, t0, t1, t3, u0, u1, u3, p0, p1, p3, b0, b1, b3, wr_id, td_e, tm_e, pu_n, pu_s, up_s, up_k, up_a, ↓reduceIte, Int.reduceLT, Int.reduceLE, Int.reduceEq, Int.reduceNeg, Int.reduceAdd, Int.reduceSub, Int.reduceMul, Int.reduceMod, Int.reduceDiv, Int.cast_ofNat_Int, not_true_eq_false, not_false_eq_true, Int.reduceTDiv, Int.reduceTMod, gt, Int.add_zero, e1, e3, c3, if_pos, if_neg]
      · rw [if_neg (fun h => f1 h.1), ← ih (k + 1) (some (pI (s 0 + s (65 + k)))) (some (pI (plc (s (18 + p)) hm pc (s (36 + 4 * p + (s 0 + s (65 + k)) % 4)) (s 0 + s (65 + k))))) isL_i isL_i (by omega) (by omega)]
        simp (disch := first | assumption | exact isL_i | exact isL_r | exact isL_n | exact i01a | exact i01b | omega) only [K145_54, K145_55, K145_58, K145_60, K145_61, K145_64, K145_65, K145_68, K145_71, K145_72, K145_75, K145_77, K145_78, K145_81, K145_83, K145_86, K145_87, K145_88, K145_91, r10, r14, r15, r16, r113, r114, r115, r116, r22, r122, r142, r162, r00, r01, r02, r03, r372, r390, r391, r392, r393, r394, r396, r397, n2, n3, n7, n8, n9, n10, n11, n12, t0, t1, t3, u0, u1, u3, p0, p1, p3, b0, b1, b3, wr_id, td_e, tm_e, pu_n, pu_s, up_s, up_k, up_a, ↓reduceIte, Int.reduceLT, Int.reduceLE, Int.reduceEq, Int.reduceNeg, Int.reduceAdd, Int.reduceSub, Int.reduceMul, Int.reduceMod, Int.reduceDiv, Int.cast_ofNat_Int, not_true_eq_false, not_false_eq_true, Int.reduceTDiv, Int.reduceTMod, gt, Int.add_zero, e1, c3, if_pos, if_neg]
    rw [← J x5 x6 r5 r6, K145_3]
    simp (disch := first | assumption | exact isL_i | exact isL_r | exact isL_n | exact i01a | exact i01b | omega) only [K145_5, K145_6, K145_9, K145_12, K145_15, K145_16, K145_19, K145_20, K145_23, K145_25, K145_26, K145_29, K145_30, K145_32, K145_33, K145_35, K145_36, K145_37, K145_38, K145_39, K145_42, K145_44, K145_45, K145_46, r10, r14, r15, r16, r113, r114, r115, r116, r22, r122, r142, r162, r00, r01, r02, r03, r372, r390, r391, r392, r393, r394, r396, r397, n2, n3, n7, n8, n9, n10, n11, n12, t0, t1, t3, u0, u1, u3, p0, p1, p3, b0, b1, b3, wr_id, td_e, tm_e, pu_n, pu_s, up_s, up_k, up_a, ↓reduceIte, Int.reduceLT, Int.reduceLE, Int.reduceEq, Int.reduceNeg, Int.reduceAdd, Int.reduceSub, Int.reduceMul, Int.reduceMod, Int.reduceDiv, Int.cast_ofNat_Int, not_true_eq_false, not_false_eq_true, Int.reduceTDiv, Int.reduceTMod, t_size, gt, e2, c3, c_rowNumber hC hR, if_pos, if_neg]
    rcases k7 q1 q2 with e | e | e | e | e | e | e
    all_goals
      rw [e] at c1
      simp only [kcl, ↓reduceIte, Int.reduceEq] at c1
      simp (disch := first | assumption | exact isL_i | exact isL_r | exact isL_n | exact i01a | exact i01b | omega) only [K145_49c1, K145_49c2, K145_49c3, K145_49c5, K145_49c6, K145_49c9, K145_49c10, K145_52, wr_id, td_e, tm_e, pu_n, pu_s, up_s, up_k, up_a, ↓reduceIte, Int.reduceLT, Int.reduceLE, Int.reduceEq, Int.reduceNeg, Int.reduceAdd, Int.reduceSub, Int.reduceMul, Int.reduceMod, Int.reduceDiv, Int.cast_ofNat_Int, not_true_eq_false, not_false_eq_true, Int.reduceTDiv, Int.reduceTMod, c_plG, c_plO, c_plB, c_plP, c_plD, plc, e]
theorem c_stoodIsSo (hC : ShC G) (hR : RS 1 s G mi) (hW : WfA s) (h0 : 0 ≤ p) (h1 : p < s 11) (hTh : RTh G mi T (s (18 + p)) p (s (24 + p))) (hh0 : 0 ≤ hm) (hh1 : hm ≤ 23) (hp0 : 0 ≤ pc) (hp1 : pc ≤ 9) :
    OkC (d + 4) 145 [pR (some 1), pR (some T), pI hm, pI pc] G mi K = K (some (pI (tldG s p hm pc (s 13).toNat 0))) G mi := by
  obtain ⟨⟨⟨z0, z1, z8, z9, z10, z11, z12, z13, z14, z15, z16⟩, hh01, hT, hz17⟩, hWV, hWD, hWB, hWP, hWT, hWZ, hWF, hWK⟩ := id hW
  rw [E145]
  simp (disch := first | assumption | exact isL_i | exact isL_r | exact isL_n | exact i01a | exact i01b | omega) only [K145_0, K145_1, wr_id, td_e, tm_e, pu_n, pu_s, up_s, up_k, up_a, ↓reduceIte, Int.reduceLT, Int.reduceLE, Int.reduceEq, Int.reduceNeg, Int.reduceAdd, Int.reduceSub, Int.reduceMul, Int.reduceMod, Int.reduceDiv, Int.cast_ofNat_Int, not_true_eq_false, not_false_eq_true, Int.reduceTDiv, Int.reduceTMod]
  exact c_stood_lp hC hR hW h0 h1 hTh hh0 hh1 hp0 hp1 _ 0 none none isL_n isL_n (by omega) (by decide)
theorem tldG_01 : ∀ (m : Nat) (j : Int), 0 ≤ tldG s p hm pc m j ∧ tldG s p hm pc m j ≤ 1 := by
  intro m
  induction m with
  | zero => intro j; show (0 : Int) ≤ 1 ∧ (1 : Int) ≤ 1; decide
  | succ m ih =>
    intro j
    simp only [tldG]
    split
    · decide
    · exact ih (j + 1)
theorem c_from_lp (hC : ShC G) (hR : RS 1 s G mi) (hW : WfA s) (h0 : 0 ≤ p) (h1 : p < s 11) (hTh : RTh G mi T (s (18 + p)) p (s (24 + p))) : ∀ (m c : Nat) (a : Int), c + m = 24 → 0 ≤ a → a < 2 ^ c →
    Ok (d + 5) 177 20 [some (pR (some 0)), some (pI p), some (pR (some T)), some (pI a), some (pI c)] [] G mi K = K (some (pI (fromL s p m c a))) G mi := by
  obtain ⟨⟨⟨k1, k2, k3, l3, k9, l9, k10, l10, k11, l11⟩, ⟨k12, k13, l13, k14, k15, l15, k16, k17, l17, k18, l18⟩, ⟨r10, r14, r15, r16, r113, r114, r115, r116, r22, r122, r142, r162⟩⟩, -, ⟨⟨k0, r00, r01, r02, r03⟩, ⟨k37, r372, k38, l38⟩, ⟨k39, r390, r391, r392, r393, r394, r396, r397⟩, ⟨k40, l40, k41, l41, k42, l42, k43, l43, k44, l44, k45, l45⟩⟩⟩ := id hC
  obtain ⟨⟨⟨z0, z1, z8, z9, z10, z11, z12, z13, z14, z15, z16⟩, hh01, hT, hz17⟩, hWV, hWD, hWB, hWP, hWT, hWZ, hWF, hWK⟩ := id hW
  obtain ⟨c1, c2, c3, c4, c5⟩ := id hTh
  have hth : thg (gK G T).1 = true := by rw [c1]; exact kcl_thg
  obtain ⟨⟨q1, q2⟩, ⟨q3, q4⟩, ⟨q5, q6⟩⟩ := hT.1 p h0 (by omega)
  intro m
  induction m with
  | zero =>
    intro c a hc ha ha'
    rw [K177_20]
    simp (disch := first | assumption | exact isL_i | exact isL_r | exact isL_n | exact i01a | exact i01b | omega) only [K177_22, K177_24, K177_57, K177_58, wr_id, td_e, tm_e, pu_n, pu_s, up_s, up_k, up_a, ↓reduceIte, Int.reduceLT, Int.reduceLE, Int.reduceEq, Int.reduceNeg, Int.reduceAdd, Int.reduceSub, Int.reduceMul, Int.reduceMod, Int.reduceDiv, Int.cast_ofNat_Int, not_true_eq_false, not_false_eq_true, Int.reduceTDiv, Int.reduceTMod, if_pos, if_neg]
    rfl
  | succ m ih =>
    intro c a hc ha ha'
    simp only [fromL]
    have h01 := tldG_01 (s := s) (p := p) (hm := (c : Int)) (pc := s (24 + p)) (s 13).toNat 0
    have hi := i1s (by omega : c < 24) ha ha'
    have hps : (2 : Int) ^ (c + 1) = 2 ^ c * 2 := Int.pow_succ 2 c
    rw [told30 h0 (by omega) (s 13).toNat 0 (by decide), K177_20]
    simp (disch := first | assumption | exact isL_i | exact isL_r | exact isL_n | exact i01a | exact i01b | omega) only [K177_22, K177_24, K177_27, K177_28, K177_31, K177_32, K177_34, K177_35, r10, r14, r15, r16, r113, r114, r115, r116, r22, r122, r142, r162, r00, r01, r02, r03, r372, r390, r391, r392, r393, r394, r396, r397, wr_id, td_e, tm_e, pu_n, pu_s, up_s, up_k, up_a, ↓reduceIte, Int.reduceLT, Int.reduceLE, Int.reduceEq, Int.reduceNeg, Int.reduceAdd, Int.reduceSub, Int.reduceMul, Int.reduceMod, Int.reduceDiv, Int.cast_ofNat_Int, not_true_eq_false, not_false_eq_true, Int.reduceTDiv, Int.reduceTMod, c4, if_pos, if_neg]
    rw [K177_38 k1, c_stoodIsSo hC hR hW h0 h1 hTh (by omega) (by omega) q3 q4]
    by_cases hto : tldG s p (c : Int) (s (24 + p)) (s 13).toNat 0 = 1
    · rw [if_pos hto, ← ih (c + 1) (a + 2 ^ c) (by omega) (by omega) (by omega)]
      simp (disch := first | assumption | exact isL_i | exact isL_r | exact isL_n | exact i01a | exact i01b | omega) only [K177_41, K177_44, K177_45, K177_46, K177_48, K177_49, K177_50, K177_51, K177_54, wr_id, td_e, tm_e, pu_n, pu_s, up_s, up_k, up_a, ↓reduceIte, Int.reduceLT, Int.reduceLE, Int.reduceEq, Int.reduceNeg, Int.reduceAdd, Int.reduceSub, Int.reduceMul, Int.reduceMod, Int.reduceDiv, Int.cast_ofNat_Int, not_true_eq_false, not_false_eq_true, Int.reduceTDiv, Int.reduceTMod, hto, hi, if_pos, if_neg]
      rfl
    · rw [if_neg hto, ← ih (c + 1) a (by omega) ha (by omega)]
      have hto0 : tldG s p (c : Int) (s (24 + p)) (s 13).toNat 0 = 0 := by omega
      simp (disch := first | assumption | exact isL_i | exact isL_r | exact isL_n | exact i01a | exact i01b | omega) only [K177_41, K177_44, K177_45, K177_46, K177_48, K177_49, K177_50, K177_51, K177_54, wr_id, td_e, tm_e, pu_n, pu_s, up_s, up_k, up_a, ↓reduceIte, Int.reduceLT, Int.reduceLE, Int.reduceEq, Int.reduceNeg, Int.reduceAdd, Int.reduceSub, Int.reduceMul, Int.reduceMod, Int.reduceDiv, Int.cast_ofNat_Int, not_true_eq_false, not_false_eq_true, Int.reduceTDiv, Int.reduceTMod, hto0, if_pos, if_neg]
      rfl
theorem c_from (hC : ShC G) (hR : RS 1 s G mi) (hW : WfA s) : OkC (d + 5) 177 [pR (some 0), pI p] G mi K = K (some (pI (oFrom s p))) G mi := by
  obtain ⟨⟨⟨k1, k2, k3, l3, k9, l9, k10, l10, k11, l11⟩, ⟨k12, k13, l13, k14, k15, l15, k16, k17, l17, k18, l18⟩, ⟨r10, r14, r15, r16, r113, r114, r115, r116, r22, r122, r142, r162⟩⟩, -, ⟨⟨k0, r00, r01, r02, r03⟩, ⟨k37, r372, k38, l38⟩, ⟨k39, r390, r391, r392, r393, r394, r396, r397⟩, ⟨k40, l40, k41, l41, k42, l42, k43, l43, k44, l44, k45, l45⟩⟩⟩ := id hC
  obtain ⟨⟨⟨z0, z1, z8, z9, z10, z11, z12, z13, z14, z15, z16⟩, hh01, hT, hz17⟩, hWV, hWD, hWB, hWP, hWT, hWZ, hWF, hWK⟩ := id hW
  rw [E177]
  unfold oFrom
  by_cases hp : isT s p
  · obtain ⟨T, g1, g2, hTh⟩ := hR.2.1 p hp.1 hp.2
    have g1 : gR G 9 p = some T := g1
    rw [if_pos hp]
    simp (disch := first | assumption | exact isL_i | exact isL_r | exact isL_n | exact i01a | exact i01b | omega) only [K177_0, K177_1, K177_4, K177_5, K177_8, K177_9, K177_10, K177_10n, K177_13, K177_14, K177_15, K177_16, K177_17, K177_18, r10, r14, r15, r16, r113, r114, r115, r116, r22, r122, r142, r162, r00, r01, r02, r03, r372, r390, r391, r392, r393, r394, r396, r397, wr_id, td_e, tm_e, pu_n, pu_s, up_s, up_k, up_a, ↓reduceIte, Int.reduceLT, Int.reduceLE, Int.reduceEq, Int.reduceNeg, Int.reduceAdd, Int.reduceSub, Int.reduceMul, Int.reduceMod, Int.reduceDiv, Int.cast_ofNat_Int, not_true_eq_false, not_false_eq_true, Int.reduceTDiv, Int.reduceTMod, c_find hC hR z11.2, if_pos hp, g1, reduceCtorEq, if_pos, if_neg]
    exact c_from_lp hC hR hW hp.1 hp.2 hTh 24 0 0 (by decide) (by decide) (by decide)
  · rw [if_neg hp]
    simp (disch := first | assumption | exact isL_i | exact isL_r | exact isL_n | exact i01a | exact i01b | omega) only [K177_0, K177_1, K177_4, K177_5, K177_8, K177_9, K177_10, K177_10n, K177_13, K177_14, K177_15, K177_16, K177_17, K177_18, r10, r14, r15, r16, r113, r114, r115, r116, r22, r122, r142, r162, r00, r01, r02, r03, r372, r390, r391, r392, r393, r394, r396, r397, wr_id, td_e, tm_e, pu_n, pu_s, up_s, up_k, up_a, ↓reduceIte, Int.reduceLT, Int.reduceLE, Int.reduceEq, Int.reduceNeg, Int.reduceAdd, Int.reduceSub, Int.reduceMul, Int.reduceMod, Int.reduceDiv, Int.cast_ofNat_Int, not_true_eq_false, not_false_eq_true, Int.reduceTDiv, Int.reduceTMod, c_find hC hR z11.2, if_neg hp, if_pos, if_neg]
theorem c_firm_lp (hC : ShC G) (hR : RS 1 s G mi) (hW : WfA s) (h0 : 0 ≤ p) (h1 : p < s 11) (hTh : RTh G mi T (s (18 + p)) p (s (24 + p))) : ∀ (m : Nat) (a b : Int), m ≤ 10 → 0 ≤ a → a + m ≤ 100 →
    Ok (d + 5) 178 35 [some (pR (some 0)), some (pI p), some (pI w), some (pR (some T)), some (pI a), some (pI b), some (pI (m - 1))] [] G mi K = K (some (pI (if w = 0 then (firmL s p m (a, b)).1 else (firmL s p m (a, b)).2))) G mi := by
  obtain ⟨⟨⟨k1, k2, k3, l3, k9, l9, k10, l10, k11, l11⟩, ⟨k12, k13, l13, k14, k15, l15, k16, k17, l17, k18, l18⟩, ⟨r10, r14, r15, r16, r113, r114, r115, r116, r22, r122, r142, r162⟩⟩, -, ⟨⟨k0, r00, r01, r02, r03⟩, ⟨k37, r372, k38, l38⟩, ⟨k39, r390, r391, r392, r393, r394, r396, r397⟩, ⟨k40, l40, k41, l41, k42, l42, k43, l43, k44, l44, k45, l45⟩⟩⟩ := id hC
  obtain ⟨⟨⟨z0, z1, z8, z9, z10, z11, z12, z13, z14, z15, z16⟩, hh01, hT, hz17⟩, hWV, hWD, hWB, hWP, hWT, hWZ, hWF, hWK⟩ := id hW
  obtain ⟨c1, c2, c3, c4, c5⟩ := id hTh
  obtain ⟨⟨q1, q2⟩, ⟨q3, q4⟩, ⟨q5, q6⟩⟩ := hT.1 p h0 (by omega)
  intro m
  induction m with
  | zero =>
    intro a b hm ha ha'
    rw [K178_35]
    simp only [firmL]
    by_cases hw : w = 0
    · rw [if_pos hw]
      simp (disch := first | assumption | exact isL_i | exact isL_r | exact isL_n | exact i01a | exact i01b | omega) only [K178_37, K178_74, K178_75, K178_78, K178_80, K178_83, K178_85, wr_id, td_e, tm_e, pu_n, pu_s, up_s, up_k, up_a, ↓reduceIte, Int.reduceLT, Int.reduceLE, Int.reduceEq, Int.reduceNeg, Int.reduceAdd, Int.reduceSub, Int.reduceMul, Int.reduceMod, Int.reduceDiv, Int.cast_ofNat_Int, not_true_eq_false, not_false_eq_true, Int.reduceTDiv, Int.reduceTMod, if_pos, if_neg]
    · rw [if_neg hw]
      simp (disch := first | assumption | exact isL_i | exact isL_r | exact isL_n | exact i01a | exact i01b | omega) only [K178_37, K178_74, K178_75, K178_78, K178_80, K178_83, K178_85, wr_id, td_e, tm_e, pu_n, pu_s, up_s, up_k, up_a, ↓reduceIte, Int.reduceLT, Int.reduceLE, Int.reduceEq, Int.reduceNeg, Int.reduceAdd, Int.reduceSub, Int.reduceMul, Int.reduceMod, Int.reduceDiv, Int.cast_ofNat_Int, not_true_eq_false, not_false_eq_true, Int.reduceTDiv, Int.reduceTMod, if_pos, if_neg]
  | succ m ih =>
    intro a b hm ha ha'
    simp only [firmL]
    have en : ((m + 1 : Nat) : Int) - 1 = m := by omega
    have h01 := tldG_01 (s := s) (p := p) (hm := s (30 + p)) (pc := (m : Int)) (s 13).toNat 0
    rw [told24 h0 (by omega) (s 13).toNat 0 (by decide), K178_35, en]
    simp (disch := first | assumption | exact isL_i | exact isL_r | exact isL_n | exact i01a | exact i01b | omega) only [K178_37, K178_40, K178_41, K178_44, K178_45, K178_46, K178_49, K178_50, K178_53, r10, r14, r15, r16, r113, r114, r115, r116, r22, r122, r142, r162, r00, r01, r02, r03, r372, r390, r391, r392, r393, r394, r396, r397, wr_id, td_e, tm_e, pu_n, pu_s, up_s, up_k, up_a, ↓reduceIte, Int.reduceLT, Int.reduceLE, Int.reduceEq, Int.reduceNeg, Int.reduceAdd, Int.reduceSub, Int.reduceMul, Int.reduceMod, Int.reduceDiv, Int.cast_ofNat_Int, not_true_eq_false, not_false_eq_true, Int.reduceTDiv, Int.reduceTMod, c_homeOf hC hR z11.2 h0 h1, if_pos, if_neg]
    rw [K178_55 k1, c_stoodIsSo hC hR hW h0 h1 hTh q5 q6 (by omega) (by omega)]
    by_cases hto : tldG s p (s (30 + p)) (m : Int) (s 13).toNat 0 = 1
    · rw [if_pos hto, ← ih (a + 1) (m : Int) (by omega) (by omega) (by omega)]
      simp (disch := first | assumption | exact isL_i | exact isL_r | exact isL_n | exact i01a | exact i01b | omega) only [K178_58, K178_61, K178_64, K178_66, K178_68, K178_71, wr_id, td_e, tm_e, pu_n, pu_s, up_s, up_k, up_a, ↓reduceIte, Int.reduceLT, Int.reduceLE, Int.reduceEq, Int.reduceNeg, Int.reduceAdd, Int.reduceSub, Int.reduceMul, Int.reduceMod, Int.reduceDiv, Int.cast_ofNat_Int, not_true_eq_false, not_false_eq_true, Int.reduceTDiv, Int.reduceTMod, hto, if_pos, if_neg, Int.sub_eq_add_neg]
    · rw [if_neg hto, ← ih a b (by omega) (by omega) (by omega)]
      have hto0 : tldG s p (s (30 + p)) (m : Int) (s 13).toNat 0 = 0 := by omega
      simp (disch := first | assumption | exact isL_i | exact isL_r | exact isL_n | exact i01a | exact i01b | omega) only [K178_58, K178_61, K178_64, K178_66, K178_68, K178_71, wr_id, td_e, tm_e, pu_n, pu_s, up_s, up_k, up_a, ↓reduceIte, Int.reduceLT, Int.reduceLE, Int.reduceEq, Int.reduceNeg, Int.reduceAdd, Int.reduceSub, Int.reduceMul, Int.reduceMod, Int.reduceDiv, Int.cast_ofNat_Int, not_true_eq_false, not_false_eq_true, Int.reduceTDiv, Int.reduceTMod, hto0, if_pos, if_neg, Int.sub_eq_add_neg]
theorem c_firm (hC : ShC G) (hR : RS 1 s G mi) (hW : WfA s) : OkC (d + 5) 178 [pR (some 0), pI p, pI k] G mi K = K (some (pI (oFirm s p k))) G mi := by
  obtain ⟨⟨⟨k1, k2, k3, l3, k9, l9, k10, l10, k11, l11⟩, ⟨k12, k13, l13, k14, k15, l15, k16, k17, l17, k18, l18⟩, ⟨r10, r14, r15, r16, r113, r114, r115, r116, r22, r122, r142, r162⟩⟩, -, ⟨⟨k0, r00, r01, r02, r03⟩, ⟨k37, r372, k38, l38⟩, ⟨k39, r390, r391, r392, r393, r394, r396, r397⟩, ⟨k40, l40, k41, l41, k42, l42, k43, l43, k44, l44, k45, l45⟩⟩⟩ := id hC
  obtain ⟨⟨⟨z0, z1, z8, z9, z10, z11, z12, z13, z14, z15, z16⟩, hh01, hT, hz17⟩, hWV, hWD, hWB, hWP, hWT, hWZ, hWF, hWK⟩ := id hW
  rw [E178]
  unfold oFirm
  by_cases hp : isT s p
  · obtain ⟨T, g1, g2, hTh⟩ := hR.2.1 p hp.1 hp.2
    have g1 : gR G 9 p = some T := g1
    by_cases hk : 0 ≤ k ∧ k ≤ 1
    · rw [if_pos ⟨hp, hk⟩]
      simp (disch := first | assumption | exact isL_i | exact isL_r | exact isL_n | exact i01a | exact i01b | omega) only [K178_0, K178_1, K178_4, K178_5, K178_8, K178_9, K178_10, K178_10n, K178_13, K178_14, K178_15, K178_16, K178_19, K178_22, K178_23, K178_24, K178_25, K178_27, K178_29, K178_31, K178_33, r10, r14, r15, r16, r113, r114, r115, r116, r22, r122, r142, r162, r00, r01, r02, r03, r372, r390, r391, r392, r393, r394, r396, r397, wr_id, td_e, tm_e, pu_n, pu_s, up_s, up_k, up_a, ↓reduceIte, Int.reduceLT, Int.reduceLE, Int.reduceEq, Int.reduceNeg, Int.reduceAdd, Int.reduceSub, Int.reduceMul, Int.reduceMod, Int.reduceDiv, Int.cast_ofNat_Int, not_true_eq_false, not_false_eq_true, Int.reduceTDiv, Int.reduceTMod, c_find hC hR z11.2, c_within, if_pos hp, g1, reduceCtorEq, if_pos, if_neg]
      exact c_firm_lp hC hR hW hp.1 hp.2 hTh 10 0 (-5) (by decide) (by decide) (by decide)
    · rw [if_neg (fun h => hk h.2)]
      simp (disch := first | assumption | exact isL_i | exact isL_r | exact isL_n | exact i01a | exact i01b | omega) only [K178_0, K178_1, K178_4, K178_5, K178_8, K178_9, K178_10, K178_10n, K178_13, K178_14, K178_15, K178_16, K178_19, K178_22, K178_23, K178_24, K178_25, K178_27, K178_29, K178_31, K178_33, r10, r14, r15, r16, r113, r114, r115, r116, r22, r122, r142, r162, r00, r01, r02, r03, r372, r390, r391, r392, r393, r394, r396, r397, wr_id, td_e, tm_e, pu_n, pu_s, up_s, up_k, up_a, ↓reduceIte, Int.reduceLT, Int.reduceLE, Int.reduceEq, Int.reduceNeg, Int.reduceAdd, Int.reduceSub, Int.reduceMul, Int.reduceMod, Int.reduceDiv, Int.cast_ofNat_Int, not_true_eq_false, not_false_eq_true, Int.reduceTDiv, Int.reduceTMod, c_find hC hR z11.2, c_within, if_pos hp, g1, reduceCtorEq, if_pos, if_neg]
  · rw [if_neg (fun h => hp h.1)]
    simp (disch := first | assumption | exact isL_i | exact isL_r | exact isL_n | exact i01a | exact i01b | omega) only [K178_0, K178_1, K178_4, K178_5, K178_8, K178_9, K178_10, K178_10n, K178_13, K178_14, K178_15, K178_16, K178_19, K178_22, K178_23, K178_24, K178_25, K178_27, K178_29, K178_31, K178_33, r10, r14, r15, r16, r113, r114, r115, r116, r22, r122, r142, r162, r00, r01, r02, r03, r372, r390, r391, r392, r393, r394, r396, r397, wr_id, td_e, tm_e, pu_n, pu_s, up_s, up_k, up_a, ↓reduceIte, Int.reduceLT, Int.reduceLE, Int.reduceEq, Int.reduceNeg, Int.reduceAdd, Int.reduceSub, Int.reduceMul, Int.reduceMod, Int.reduceDiv, Int.cast_ofNat_Int, not_true_eq_false, not_false_eq_true, Int.reduceTDiv, Int.reduceTMod, c_find hC hR z11.2, if_neg hp, if_pos, if_neg]
end CL
