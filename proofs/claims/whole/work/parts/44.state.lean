/-! ===== the class's state holds what the reference's row of numbers holds ===== -/
def RNn (o : Nat) (s : Int → Int) (mi : Mi) : Prop := mi o 2 = s 12 ∧ mi o 3 = s 11 ∧ mi o 7 = hadB s ∧ mi o 8 = s 0 ∧ mi o 9 = s 1 ∧ mi o 10 = s 8 ∧ mi o 11 = s 9 ∧ mi o 12 = s 10
def RNh (o : Nat) (s : Int → Int) (mi : Mi) : Prop := (∀ p : Int, 0 ≤ p → p < s 11 → mi (o + 9) p = s (30 + p)) ∧ (∀ j : Int, 0 ≤ j → j < 24 → mi (o + 10) j = s (36 + j))
def RNt (o : Nat) (s : Int → Int) (mi : Mi) : Prop := (mi (o + 1) 0 = 1 ∧ mi (o + 1) 1 = 100 ∧ mi (o + 1) 3 = s 16) ∧ ∀ j : Int, 0 ≤ j → j < s 16 → mi (o + 2) j = s (99 + j)
def RNs (o : Nat) (s : Int → Int) (mi : Mi) : Prop := (mi (o + 11) 0 = 3 ∧ mi (o + 11) 1 = 5 ∧ mi (o + 11) 3 = s 13) ∧ ∀ j : Int, 0 ≤ j → j < s 13 → mi (o + 12) (j * 3) = s (60 + j) ∧ mi (o + 12) (j * 3 + 1) = s (65 + j) ∧ mi (o + 12) (j * 3 + 2) = s (70 + j)
def RNp (o : Nat) (s : Int → Int) (mi : Mi) : Prop := (mi (o + 13) 0 = 1 ∧ mi (o + 13) 1 = 8 ∧ mi (o + 13) 3 = s 14) ∧ ∀ j : Int, 0 ≤ j → j < s 14 → mi (o + 14) j = s (75 + j)
def RNb (o : Nat) (s : Int → Int) (mi : Mi) : Prop := (mi (o + 15) 0 = 2 ∧ mi (o + 15) 1 = 8 ∧ mi (o + 15) 3 = s 15) ∧ ∀ j : Int, 0 ≤ j → j < s 15 → mi (o + 16) (j * 2) = s (83 + j) ∧ mi (o + 16) (j * 2 + 1) = s (91 + j)
def RT (o : Nat) (s : Int → Int) (G : Gh) (mi : Mi) : Prop := ∀ p : Int, 0 ≤ p → p < s 11 → ∃ T, gR G (o + 8) p = some T ∧ 55 ≤ T ∧ RTh G mi T (s (18 + p)) p (s (24 + p))
def RVw (s : Int → Int) (G : Gh) (mi : Mi) (V : Nat) : Prop := (V = 4 ∨ V = 22 ∨ 55 ≤ V) ∧ VwS G V ∧ (mi V 0 = coinF s ∧ mi V 1 = telF s 204 0 ∧ mi V 2 = telF s 209 0) ∧ ∃ L, flC L = stepsF s ∧ mi V 7 = L.length ∧ mi V 7 ≤ 10 ∧ CCr (mi (V + 1)) (mi (V + 2)) (mi (V + 3)) L 0 0
def RV (o : Nat) (s : Int → Int) (G : Gh) (mi : Mi) : Prop := ∃ V, gR G o 1 = some V ∧ RVw s G mi V
def RS (o : Nat) (s : Int → Int) (G : Gh) (mi : Mi) : Prop := (RNn o s mi ∧ RNh o s mi ∧ RNt o s mi ∧ RNs o s mi ∧ RNp o s mi ∧ RNb o s mi) ∧ RT o s G mi ∧ RV o s G mi
/-- cells that a question of the class may change -/
abbrev qL : List Nat := [18, 39, 40, 41, 42, 43, 44, 45]
/-- cells that a call of the class may change -/
abbrev kL : List Nat := [1, 2, 3, 10, 11, 12, 13, 14, 15, 16, 17, 18, 39, 40, 41, 42, 43, 44, 45]
theorem nm_k {T : Nat} (h : T = 4 ∨ T = 22 ∨ 55 ≤ T) (a : Nat) (ha : a < 4) : ¬ T + a ∈ kL := by
  simp only [List.mem_cons, List.not_mem_nil, or_false, not_or]
  omega
theorem nm_q {T : Nat} (h : T = 4 ∨ T = 22 ∨ 55 ≤ T) (a : Nat) (ha : a < 4) : ¬ T + a ∈ qL := by
  simp only [List.mem_cons, List.not_mem_nil, or_false, not_or]
  omega
theorem RT.sc {o : Nat} {s s' : Int → Int} {G : Gh} {mi mi' : Mi} (h : RT o s G mi) (hs : Sc kL mi mi') (e11 : s' 11 = s 11) (e : ∀ p : Int, 0 ≤ p → p < s 11 → s' (18 + p) = s (18 + p) ∧ s' (24 + p) = s (24 + p)) : RT o s' G mi' := by
  intro p h0 h1
  rw [e11] at h1
  obtain ⟨T, t1, t2, t3, t4, t5, t6, t7⟩ := h p h0 h1
  have eT : mi' T = mi T := hs T (nm_k (Or.inr (Or.inr t2)) 0 (by decide))
  obtain ⟨e1, e2⟩ := e p h0 h1
  exact ⟨T, t1, t2, by rw [e1]; exact t3, by rw [eT, e1]; exact t4, by rw [eT]; exact t5, by rw [eT, e2]; exact t6, t7⟩
theorem RVw.sc {s s' : Int → Int} {G : Gh} {mi mi' : Mi} {V : Nat} (h : RVw s G mi V) (hs : Sc kL mi mi') (ec : coinF s' = coinF s) (ea : telF s' 204 0 = telF s 204 0) (eh : telF s' 209 0 = telF s 209 0) (es : stepsF s' = stepsF s) : RVw s' G mi' V := by
  obtain ⟨h1, h2, ⟨h3, h4, h5⟩, L, h6, h7, h8, h9⟩ := h
  have eV : mi' V = mi V := hs V (nm_k h1 0 (by decide))
  have e1 : mi' (V + 1) = mi (V + 1) := hs _ (nm_k h1 1 (by decide))
  have e2 : mi' (V + 2) = mi (V + 2) := hs _ (nm_k h1 2 (by decide))
  have e3 : mi' (V + 3) = mi (V + 3) := hs _ (nm_k h1 3 (by decide))
  exact ⟨h1, h2, ⟨by rw [eV, ec]; exact h3, by rw [eV, ea]; exact h4, by rw [eV, eh]; exact h5⟩, L, by rw [es]; exact h6, by rw [eV]; exact h7, by rw [eV]; exact h8, by rw [e1, e2, e3]; exact h9⟩
theorem RV.sc {o : Nat} {s s' : Int → Int} {G : Gh} {mi mi' : Mi} (h : RV o s G mi) (hs : Sc kL mi mi') (ec : coinF s' = coinF s) (ea : telF s' 204 0 = telF s 204 0) (eh : telF s' 209 0 = telF s 209 0) (es : stepsF s' = stepsF s) : RV o s' G mi' := by
  obtain ⟨V, h1, h2⟩ := h
  exact ⟨V, h1, h2.sc hs ec ea eh es⟩
theorem q_k {mi mi' : Mi} (h : Sc qL mi mi') : Sc kL mi mi' := h.wk (by decide)
theorem RS.q {s : Int → Int} {G : Gh} {mi mi' : Mi} (h : RS 1 s G mi) (hs : Sc qL mi mi') : RS 1 s G mi' := by
  obtain ⟨⟨h1, h2, h3, h4, h5, h6⟩, hT, hV⟩ := h
  have e1 : mi' 1 = mi 1 := hs _ (by decide)
  have e2 : mi' (1 + 1) = mi (1 + 1) := hs _ (by decide)
  have e3 : mi' (1 + 2) = mi (1 + 2) := hs _ (by decide)
  have e10 : mi' (1 + 9) = mi (1 + 9) := hs _ (by decide)
  have e11 : mi' (1 + 10) = mi (1 + 10) := hs _ (by decide)
  have e12 : mi' (1 + 11) = mi (1 + 11) := hs _ (by decide)
  have e13 : mi' (1 + 12) = mi (1 + 12) := hs _ (by decide)
  have e14 : mi' (1 + 13) = mi (1 + 13) := hs _ (by decide)
  have e15 : mi' (1 + 14) = mi (1 + 14) := hs _ (by decide)
  have e16 : mi' (1 + 15) = mi (1 + 15) := hs _ (by decide)
  have e17 : mi' (1 + 16) = mi (1 + 16) := hs _ (by decide)
  refine ⟨⟨?_, ?_, ?_, ?_, ?_, ?_⟩, hT.sc (q_k hs) rfl (fun _ _ _ => ⟨rfl, rfl⟩), hV.sc (q_k hs) rfl rfl rfl rfl⟩
  · unfold RNn; rw [e1]; exact h1
  · unfold RNh; rw [e10, e11]; exact h2
  · unfold RNt; rw [e2, e3]; exact h3
  · unfold RNs; rw [e12, e13]; exact h4
  · unfold RNp; rw [e14, e15]; exact h5
  · unfold RNb; rw [e16, e17]; exact h6
-- #def RG obtain ⟨⟨⟨n2, n3, n7, n8, n9, n10, n11, n12⟩, ⟨hm1, hm2⟩, ⟨⟨t0, t1, t3⟩, ht4⟩, ⟨⟨u0, u1, u3⟩, hu4⟩, ⟨⟨p0, p1, p3⟩, hp4⟩, ⟨⟨b0, b1, b3⟩, hb4⟩⟩, hRT, hRV⟩ := id hR
section CL
variable {d : Nat} {G : Gh} {mi : Mi} {K : Option PV → Gh → Mi → Prop} {T V : Nat} {s : Int → Int} {p t v w a b c k n g q x hm pc ex : Int}
theorem c_find (hC : ShC G) (hR : RS 1 s G mi) (hn : s 11 ≤ 6) : OkC d 135 [pR (some 1), pI p] G mi K = K (some (pR (if isT s p then gR G 9 p else none))) G mi := by
  obtain ⟨⟨⟨k1, k2, k3, l3, k9, l9, k10, l10, k11, l11⟩, ⟨k12, k13, l13, k14, k15, l15, k16, k17, l17, k18, l18⟩, ⟨r10, r14, r15, r16, r113, r114, r115, r116, r22, r122, r142, r162⟩⟩, -, ⟨⟨k0, r00, r01, r02, r03⟩, ⟨k37, r372, k38, l38⟩, ⟨k39, r390, r391, r392, r393, r394, r396, r397⟩, ⟨k40, l40, k41, l41, k42, l42, k43, l43, k44, l44, k45, l45⟩⟩⟩ := id hC
  obtain ⟨⟨⟨n2, n3, n7, n8, n9, n10, n11, n12⟩, ⟨hm1, hm2⟩, ⟨⟨t0, t1, t3⟩, ht4⟩, ⟨⟨u0, u1, u3⟩, hu4⟩, ⟨⟨p0, p1, p3⟩, hp4⟩, ⟨⟨b0, b1, b3⟩, hb4⟩⟩, hRT, hRV⟩ := id hR
  rw [E135]
  by_cases h : 0 ≤ p
  · by_cases h' : p < s 11
    · rw [if_pos ⟨h, h'⟩]
      simp (disch := first | assumption | exact isL_i | exact isL_r | exact isL_n | exact i01a | exact i01b | omega) only [K135_0, K135_1, K135_4, K135_5, K135_6, K135_9, K135_12, K135_13, K135_14, K135_17, K135_18, K135_21, K135_22, K135_25, K135_26, K135_27, K135_30, K135_31, r10, r14, r15, r16, r113, r114, r115, r116, r22, r122, r142, r162, r00, r01, r02, r03, r372, r390, r391, r392, r393, r394, r396, r397, wr_id, td_e, tm_e, pu_n, pu_s, up_s, up_k, up_a, ↓reduceIte, Int.reduceLT, Int.reduceLE, Int.reduceEq, Int.reduceNeg, Int.reduceAdd, Int.reduceSub, Int.reduceMul, Int.reduceMod, Int.reduceDiv, Int.cast_ofNat_Int, not_true_eq_false, not_false_eq_true, Int.reduceTDiv, Int.reduceTMod, l9, n3, if_pos, if_neg]
    · rw [if_neg (fun e => h' e.2)]
      simp (disch := first | assumption | exact isL_i | exact isL_r | exact isL_n | exact i01a | exact i01b | omega) only [K135_0, K135_1, K135_4, K135_5, K135_6, K135_9, K135_12, K135_13, K135_14, K135_17, K135_18, K135_21, K135_22, K135_25, K135_26, K135_27, K135_30, K135_31, r10, r14, r15, r16, r113, r114, r115, r116, r22, r122, r142, r162, r00, r01, r02, r03, r372, r390, r391, r392, r393, r394, r396, r397, wr_id, td_e, tm_e, pu_n, pu_s, up_s, up_k, up_a, ↓reduceIte, Int.reduceLT, Int.reduceLE, Int.reduceEq, Int.reduceNeg, Int.reduceAdd, Int.reduceSub, Int.reduceMul, Int.reduceMod, Int.reduceDiv, Int.cast_ofNat_Int, not_true_eq_false, not_false_eq_true, Int.reduceTDiv, Int.reduceTMod, n3, if_pos, if_neg]
  · rw [if_neg (fun e => h e.1)]
    simp (disch := first | assumption | exact isL_i | exact isL_r | exact isL_n | exact i01a | exact i01b | omega) only [K135_0, K135_1, K135_4, K135_5, K135_6, K135_9, K135_12, K135_13, K135_14, K135_17, K135_18, K135_21, K135_22, K135_25, K135_26, K135_27, K135_30, K135_31, r10, r14, r15, r16, r113, r114, r115, r116, r22, r122, r142, r162, r00, r01, r02, r03, r372, r390, r391, r392, r393, r394, r396, r397, wr_id, td_e, tm_e, pu_n, pu_s, up_s, up_k, up_a, ↓reduceIte, Int.reduceLT, Int.reduceLE, Int.reduceEq, Int.reduceNeg, Int.reduceAdd, Int.reduceSub, Int.reduceMul, Int.reduceMod, Int.reduceDiv, Int.cast_ofNat_Int, not_true_eq_false, not_false_eq_true, Int.reduceTDiv, Int.reduceTMod, n3, if_pos, if_neg]
theorem c_homeOf (hC : ShC G) (hR : RS 1 s G mi) (hn : s 11 ≤ 6) (h0 : 0 ≤ p) (h1 : p < s 11) : OkC (d + 1) 137 [pR (some 1), pI p] G mi K = K (some (pI (s (30 + p)))) G mi := by
  obtain ⟨⟨⟨k1, k2, k3, l3, k9, l9, k10, l10, k11, l11⟩, ⟨k12, k13, l13, k14, k15, l15, k16, k17, l17, k18, l18⟩, ⟨r10, r14, r15, r16, r113, r114, r115, r116, r22, r122, r142, r162⟩⟩, -, ⟨⟨k0, r00, r01, r02, r03⟩, ⟨k37, r372, k38, l38⟩, ⟨k39, r390, r391, r392, r393, r394, r396, r397⟩, ⟨k40, l40, k41, l41, k42, l42, k43, l43, k44, l44, k45, l45⟩⟩⟩ := id hC
  obtain ⟨⟨⟨n2, n3, n7, n8, n9, n10, n11, n12⟩, ⟨hm1, hm2⟩, ⟨⟨t0, t1, t3⟩, ht4⟩, ⟨⟨u0, u1, u3⟩, hu4⟩, ⟨⟨p0, p1, p3⟩, hp4⟩, ⟨⟨b0, b1, b3⟩, hb4⟩⟩, hRT, hRV⟩ := id hR
  have e : mi 10 p = s (30 + p) := hm1 p h0 h1
  rw [E137]
  simp (disch := first | assumption | exact isL_i | exact isL_r | exact isL_n | exact i01a | exact i01b | omega) only [K137_0, K137_1, K137_4, K137_5, K137_8, K137_11, K137_12, K137_15, K137_16, K137_17, K137_20, K137_21, r10, r14, r15, r16, r113, r114, r115, r116, r22, r122, r142, r162, r00, r01, r02, r03, r372, r390, r391, r392, r393, r394, r396, r397, wr_id, td_e, tm_e, pu_n, pu_s, up_s, up_k, up_a, ↓reduceIte, Int.reduceLT, Int.reduceLE, Int.reduceEq, Int.reduceNeg, Int.reduceAdd, Int.reduceSub, Int.reduceMul, Int.reduceMod, Int.reduceDiv, Int.cast_ofNat_Int, not_true_eq_false, not_false_eq_true, Int.reduceTDiv, Int.reduceTMod, c_isIn, l10, e, if_pos, if_neg]
theorem c_rowNumber (hC : ShC G) (hR : RS 1 s G mi) (h0 : 0 ≤ p) (h1 : p < 6) (k0 : 0 ≤ k) (k3 : k ≤ 3) : OkC (d + 1) 139 [pR (some 1), pI p, pI k] G mi K = K (some (pI (s (36 + 4 * p + k)))) G mi := by
  obtain ⟨⟨⟨k1, k2, k3, l3, k9, l9, k10, l10, k11, l11⟩, ⟨k12, k13, l13, k14, k15, l15, k16, k17, l17, k18, l18⟩, ⟨r10, r14, r15, r16, r113, r114, r115, r116, r22, r122, r142, r162⟩⟩, -, ⟨⟨k0, r00, r01, r02, r03⟩, ⟨k37, r372, k38, l38⟩, ⟨k39, r390, r391, r392, r393, r394, r396, r397⟩, ⟨k40, l40, k41, l41, k42, l42, k43, l43, k44, l44, k45, l45⟩⟩⟩ := id hC
  obtain ⟨⟨⟨n2, n3, n7, n8, n9, n10, n11, n12⟩, ⟨hm1, hm2⟩, ⟨⟨t0, t1, t3⟩, ht4⟩, ⟨⟨u0, u1, u3⟩, hu4⟩, ⟨⟨p0, p1, p3⟩, hp4⟩, ⟨⟨b0, b1, b3⟩, hb4⟩⟩, hRT, hRV⟩ := id hR
  have e : mi 11 (p * 4 + k) = s (36 + 4 * p + k) := by
    have := hm2 (p * 4 + k) (by omega) (by omega)
    rw [show 36 + (p * 4 + k) = 36 + 4 * p + k by omega] at this
    exact this
  rw [E139]
  simp (disch := first | assumption | exact isL_i | exact isL_r | exact isL_n | exact i01a | exact i01b | omega) only [K139_0, K139_1, K139_2, K139_3, K139_4, K139_5, K139_6, K139_7, K139_10, K139_11, K139_14, K139_17, K139_18, K139_21, K139_22, K139_23, K139_26, K139_27, r10, r14, r15, r16, r113, r114, r115, r116, r22, r122, r142, r162, r00, r01, r02, r03, r372, r390, r391, r392, r393, r394, r396, r397, wr_id, td_e, tm_e, pu_n, pu_s, up_s, up_k, up_a, ↓reduceIte, Int.reduceLT, Int.reduceLE, Int.reduceEq, Int.reduceNeg, Int.reduceAdd, Int.reduceSub, Int.reduceMul, Int.reduceMod, Int.reduceDiv, Int.cast_ofNat_Int, not_true_eq_false, not_false_eq_true, Int.reduceTDiv, Int.reduceTMod, c_isIn, l11, e, if_pos, if_neg]
theorem hadB_bt {s : Int → Int} (hh : ∀ p : Int, 0 ≤ p → p < 6 → (0 ≤ s (2 + p) ∧ s (2 + p) ≤ 1)) (h0 : 0 ≤ p) (h6 : p < 6) : bt (hadB s) p = s (2 + p) := by
  have a0 := hh 0 (by decide) (by decide)
  have a1 := hh 1 (by decide) (by decide)
  have a2 := hh 2 (by decide) (by decide)
  have a3 := hh 3 (by decide) (by decide)
  have a4 := hh 4 (by decide) (by decide)
  have a5 := hh 5 (by decide) (by decide)
  simp only [Int.reduceAdd] at a0 a1 a2 a3 a4 a5
  have h : p = 0 ∨ p = 1 ∨ p = 2 ∨ p = 3 ∨ p = 4 ∨ p = 5 := by omega
  unfold bt hadB
  rcases h with rfl | rfl | rfl | rfl | rfl | rfl
  · rw [show p2 0 = 1 by decide]; simp only [Int.reduceAdd]; omega
  · rw [show p2 1 = 2 by decide]; simp only [Int.reduceAdd]; omega
  · rw [show p2 2 = 4 by decide]; simp only [Int.reduceAdd]; omega
  · rw [show p2 3 = 8 by decide]; simp only [Int.reduceAdd]; omega
  · rw [show p2 4 = 16 by decide]; simp only [Int.reduceAdd]; omega
  · rw [show p2 5 = 32 by decide]; simp only [Int.reduceAdd]; omega
theorem c_isHad (hC : ShC G) (hR : RS 1 s G mi) (hh : ∀ p : Int, 0 ≤ p → p < 6 → (0 ≤ s (2 + p) ∧ s (2 + p) ≤ 1)) (h0 : 0 ≤ p) (h6 : p < 6) : OkC d 141 [pR (some 1), pI p] G mi K = K (some (pI (if s (2 + p) = 1 then 1 else 0))) G mi := by
  obtain ⟨⟨⟨k1, k2, k3, l3, k9, l9, k10, l10, k11, l11⟩, ⟨k12, k13, l13, k14, k15, l15, k16, k17, l17, k18, l18⟩, ⟨r10, r14, r15, r16, r113, r114, r115, r116, r22, r122, r142, r162⟩⟩, -, ⟨⟨k0, r00, r01, r02, r03⟩, ⟨k37, r372, k38, l38⟩, ⟨k39, r390, r391, r392, r393, r394, r396, r397⟩, ⟨k40, l40, k41, l41, k42, l42, k43, l43, k44, l44, k45, l45⟩⟩⟩ := id hC
  obtain ⟨⟨⟨n2, n3, n7, n8, n9, n10, n11, n12⟩, ⟨hm1, hm2⟩, ⟨⟨t0, t1, t3⟩, ht4⟩, ⟨⟨u0, u1, u3⟩, hu4⟩, ⟨⟨p0, p1, p3⟩, hp4⟩, ⟨⟨b0, b1, b3⟩, hb4⟩⟩, hRT, hRV⟩ := id hR
  obtain ⟨h1, h2⟩ := hadB_bd hh
  have e1 := b_get h1 h2 h0 h6
  rw [hadB_bt hh h0 h6] at e1
  rw [E141]
  simp (disch := first | assumption | exact isL_i | exact isL_r | exact isL_n | exact i01a | exact i01b | omega) only [K141_0, K141_1, K141_4, K141_5, K141_6, K141_7, K141_8, K141_9, K141_12, K141_13, K141_16, K141_17, r10, r14, r15, r16, r113, r114, r115, r116, r22, r122, r142, r162, r00, r01, r02, r03, r372, r390, r391, r392, r393, r394, r396, r397, wr_id, td_e, tm_e, pu_n, pu_s, up_s, up_k, up_a, ↓reduceIte, Int.reduceLT, Int.reduceLE, Int.reduceEq, Int.reduceNeg, Int.reduceAdd, Int.reduceSub, Int.reduceMul, Int.reduceMod, Int.reduceDiv, Int.cast_ofNat_Int, not_true_eq_false, not_false_eq_true, Int.reduceTDiv, Int.reduceTMod, n7, e1]
  repeat' split
  all_goals first | rfl | (exfalso; omega)
theorem c_cellOn (hC : ShC G) (hR : RS 1 s G mi) (hT : WfT s) (hn : s 11 ≤ 6) (h0 : 0 ≤ p) (h1 : p < s 11) (hTh : RTh G mi T (s (18 + p)) p (s (24 + p))) (ht : 0 ≤ t) (htt : t ≤ 20000) : OkC (d + 3) 142 [pR (some 1), pR (some T), pI t] G mi K = K (some (pI (atF s p t))) G mi := by
  obtain ⟨⟨⟨k1, k2, k3, l3, k9, l9, k10, l10, k11, l11⟩, ⟨k12, k13, l13, k14, k15, l15, k16, k17, l17, k18, l18⟩, ⟨r10, r14, r15, r16, r113, r114, r115, r116, r22, r122, r142, r162⟩⟩, -, ⟨⟨k0, r00, r01, r02, r03⟩, ⟨k37, r372, k38, l38⟩, ⟨k39, r390, r391, r392, r393, r394, r396, r397⟩, ⟨k40, l40, k41, l41, k42, l42, k43, l43, k44, l44, k45, l45⟩⟩⟩ := id hC
  obtain ⟨c1, c2, c3, c4, c5⟩ := hTh
  have hth : thg (gK G T).1 = true := by rw [c1]; exact kcl_thg
  obtain ⟨⟨q1, q2⟩, ⟨q3, q4⟩, ⟨q5, q6⟩⟩ := hT.1 p h0 (by omega)
  obtain ⟨q7, q8⟩ := hT.2 (36 + 4 * p + t % 4) (by omega) (by omega)
  rw [E142]
  simp (disch := first | assumption | exact isL_i | exact isL_r | exact isL_n | exact i01a | exact i01b | omega) only [K142_0, K142_1, K142_2, K142_3, K142_4, K142_7, K142_10, K142_11, K142_14, K142_15, K142_16, K142_19, K142_20, K142_21, K142_22, r10, r14, r15, r16, r113, r114, r115, r116, r22, r122, r142, r162, r00, r01, r02, r03, r372, r390, r391, r392, r393, r394, r396, r397, wr_id, td_e, tm_e, pu_n, pu_s, up_s, up_k, up_a, ↓reduceIte, Int.reduceLT, Int.reduceLE, Int.reduceEq, Int.reduceNeg, Int.reduceAdd, Int.reduceSub, Int.reduceMul, Int.reduceMod, Int.reduceDiv, Int.cast_ofNat_Int, not_true_eq_false, not_false_eq_true, Int.reduceTDiv, Int.reduceTMod, c3, c4, c_homeOf hC hR, c_rowNumber hC hR]
  unfold atF
  rcases k7 q1 q2 with e | e | e | e | e | e | e
  all_goals
    rw [e] at c1 ⊢
    simp only [kcl, ↓reduceIte, Int.reduceEq] at c1
    simp (disch := first | assumption | exact isL_i | exact isL_r | exact isL_n | exact i01a | exact i01b | omega) only [K142_25c1, K142_25c2, K142_25c3, K142_25c5, K142_25c6, K142_25c9, K142_25c10, K142_28, wr_id, td_e, tm_e, pu_n, pu_s, up_s, up_k, up_a, ↓reduceIte, Int.reduceLT, Int.reduceLE, Int.reduceEq, Int.reduceNeg, Int.reduceAdd, Int.reduceSub, Int.reduceMul, Int.reduceMod, Int.reduceDiv, Int.cast_ofNat_Int, not_true_eq_false, not_false_eq_true, Int.reduceTDiv, Int.reduceTMod, c_plG, c_plO, c_plB, c_plP, c_plD, plc]
theorem c_baseOn8 (hC : ShC G) (hR : RS 1 s G mi) (hV : WfV s) (hT : WfT s) (hn : s 11 ≤ 6) (h0 : 0 ≤ p) (h1 : p < s 11) (hTh : RTh G mi T (s (18 + p)) p (s (24 + p))) (ht : 0 ≤ t) (htt : t ≤ 20000) (hK : ∀ mi', Sc [18] mi mi' → K (some (pI (baseF s p t))) G mi') : OkC (d + 3) 143 [pR (some 1), pR (some T), pI (atF s p t), pI t] G mi K := by
  obtain ⟨⟨⟨k1, k2, k3, l3, k9, l9, k10, l10, k11, l11⟩, ⟨k12, k13, l13, k14, k15, l15, k16, k17, l17, k18, l18⟩, ⟨r10, r14, r15, r16, r113, r114, r115, r116, r22, r122, r142, r162⟩⟩, -, ⟨⟨k0, r00, r01, r02, r03⟩, ⟨k37, r372, k38, l38⟩, ⟨k39, r390, r391, r392, r393, r394, r396, r397⟩, ⟨k40, l40, k41, l41, k42, l42, k43, l43, k44, l44, k45, l45⟩⟩⟩ := id hC
  obtain ⟨⟨⟨n2, n3, n7, n8, n9, n10, n11, n12⟩, ⟨hm1, hm2⟩, ⟨⟨t0, t1, t3⟩, ht4⟩, ⟨⟨u0, u1, u3⟩, hu4⟩, ⟨⟨p0, p1, p3⟩, hp4⟩, ⟨⟨b0, b1, b3⟩, hb4⟩⟩, hRT, hRV⟩ := id hR
  obtain ⟨V, v1, v2, v3, -, L, v4, v5, v6, v7⟩ := hRV
  obtain ⟨c1, c2, c3, c4, c5⟩ := hTh
  have hth : thg (gK G T).1 = true := by rw [c1]; exact kcl_thg
  have kV : (gK G V).1 = 11 := v3.1
  have k18' : 20 ≤ (gK G 18).1 := by omega
  have hT55 : ¬ T = 18 := by
    intro e
    rw [e, k18] at c1
    have := kcl_thg (k := s (18 + p))
    rw [← c1] at this
    exact absurd this (by decide)
  have nV : ∀ a : Nat, a < 4 → ∀ m2 : Mi, Sc [18] mi m2 → m2 (V + a) = mi (V + a) := fun a ha m2 h => h _ (fun hc => nm_q v2 a ha (by simp only [List.mem_cons, List.not_mem_nil, or_false] at hc ⊢; exact Or.inl hc))
  have eB : baseF s p t = evS (fbF s p t) (flC L) [] 0 := by rw [v4]; rfl
  rw [E143]
  simp (disch := first | assumption | exact isL_i | exact isL_r | exact isL_n | exact i01a | exact i01b | omega | (simp (disch := decide) only [up_a, up_s, up_k]; first | assumption | omega)) only [K143_0, K143_1, K143_4, K143_5, K143_7, K143_10, K143_11, K143_12, K143_13, K143_16, K143_17, K143_18, K143_21, K143_22, K143_23, K143_26, K143_27, K143_28, K143_31, K143_32, K143_33, K143_36, K143_37, K143_38, K143_41, K143_42, K143_43, K143_46, K143_47, K143_48, K143_49, K143_50, K143_53, K143_54, K143_55, K143_57, K143_58, K143_59, K143_60, K143_63, K143_64, K143_65, K143_68, K143_69, K143_70, K143_73, K143_74, r10, r14, r15, r16, r113, r114, r115, r116, r22, r122, r142, r162, r00, r01, r02, r03, r372, r390, r391, r392, r393, r394, r396, r397, wr_id, td_e, tm_e, pu_n, pu_s, up_s, up_k, up_a, ↓reduceIte, Int.reduceLT, Int.reduceLE, Int.reduceEq, Int.reduceNeg, Int.reduceAdd, Int.reduceSub, Int.reduceMul, Int.reduceMod, Int.reduceDiv, Int.cast_ofNat_Int, not_true_eq_false, not_false_eq_true, Int.reduceTDiv, Int.reduceTMod, l18, v1, c2, c3, c4, n10, if_pos, if_neg]
  have hsc : Sc [18] mi (up (up (up (up (up (up mi 18 0 p) 18 1 (s (18 + p))) 18 2 (s (24 + p))) 18 3 (atF s p t)) 18 4 (t % 10)) 18 5 (s 8)) := (((((Sc.rf.u (by decide)).u (by decide)).u (by decide)).u (by decide)).u (by decide)).u (by decide)
  have f0 := nV 0 (by decide) _ hsc
  have f1 := nV 1 (by decide) _ hsc
  have f2 := nV 2 (by decide) _ hsc
  have f3 := nV 3 (by decide) _ hsc
  simp only [Nat.add_zero] at f0
  rw [K143_77 kV, c_baseBy (L := L) (fb := fbF s p t) v3 k18 l18 ?_ (by rw [f0]; exact v5) (by rw [f0]; exact v6) (by rw [f1, f2, f3]; exact v7)]
  · simp (disch := first | assumption | exact isL_i | exact isL_r | exact isL_n | exact i01a | exact i01b | omega) only [K143_80, wr_id, td_e, tm_e, pu_n, pu_s, up_s, up_k, up_a, ↓reduceIte, Int.reduceLT, Int.reduceLE, Int.reduceEq, Int.reduceNeg, Int.reduceAdd, Int.reduceSub, Int.reduceMul, Int.reduceMod, Int.reduceDiv, Int.cast_ofNat_Int, not_true_eq_false, not_false_eq_true, Int.reduceTDiv, Int.reduceTMod]
    rw [← eB]
    exact hK _ hsc
  · intro k k0 k6
    have hk : k = 0 ∨ k = 1 ∨ k = 2 ∨ k = 3 ∨ k = 4 ∨ k = 5 := by omega
    rcases hk with rfl | rfl | rfl | rfl | rfl | rfl
    all_goals simp (disch := decide) only [up_k, up_s, fbF, ↓reduceIte, Int.reduceEq]
theorem c_worthOn8 (hC : ShC G) (hR : RS 1 s G mi) (hV : WfV s) (hT : WfT s) (hn : s 11 ≤ 6) (h0 : 0 ≤ p) (h1 : p < s 11) (h55 : 55 ≤ T) (hTh : RTh G mi T (s (18 + p)) p (s (24 + p))) (ht : 0 ≤ t) (htt : t ≤ 20000) (hK : ∀ mi', Sc [18] mi mi' → K (some (pI (worthF s p t))) G mi') : OkC (d + 4) 144 [pR (some 1), pR (some T), pI (atF s p t), pI t] G mi K := by
  obtain ⟨⟨⟨k1, k2, k3, l3, k9, l9, k10, l10, k11, l11⟩, ⟨k12, k13, l13, k14, k15, l15, k16, k17, l17, k18, l18⟩, ⟨r10, r14, r15, r16, r113, r114, r115, r116, r22, r122, r142, r162⟩⟩, -, ⟨⟨k0, r00, r01, r02, r03⟩, ⟨k37, r372, k38, l38⟩, ⟨k39, r390, r391, r392, r393, r394, r396, r397⟩, ⟨k40, l40, k41, l41, k42, l42, k43, l43, k44, l44, k45, l45⟩⟩⟩ := id hC
  obtain ⟨c1, c2, c3, c4, c5⟩ := id hTh
  obtain ⟨⟨q1, q2⟩, ⟨q3, q4⟩, ⟨q5, q6⟩⟩ := hT.1 p h0 (by omega)
  obtain ⟨hb1, hb2⟩ := baseF_bd hV (p := p) (t := t)
  obtain ⟨ha, ha'⟩ := atF_wf hT h0 (by omega) (t := t)
  rw [E144]
  simp (disch := first | assumption | exact isL_i | exact isL_r | exact isL_n | exact i01a | exact i01b | omega) only [K144_0, K144_1, K144_2, K144_3, K144_4, K144_5, r10, r14, r15, r16, r113, r114, r115, r116, r22, r122, r142, r162, r00, r01, r02, r03, r372, r390, r391, r392, r393, r394, r396, r397, wr_id, td_e, tm_e, pu_n, pu_s, up_s, up_k, up_a, ↓reduceIte, Int.reduceLT, Int.reduceLE, Int.reduceEq, Int.reduceNeg, Int.reduceAdd, Int.reduceSub, Int.reduceMul, Int.reduceMod, Int.reduceDiv, Int.cast_ofNat_Int, not_true_eq_false, not_false_eq_true, Int.reduceTDiv, Int.reduceTMod]
  rw [K144_6 k1]
  refine c_baseOn8 hC hR hV hT hn h0 h1 hTh ht htt fun m1 hs => ?_
  have hK := hK m1 hs
  have eT : m1 T = mi T := (hs.wk (by decide) : Sc qL mi m1) T (nm_q (Or.inr (Or.inr h55)) 0 (by decide))
  have hth : thg (gK G T).1 = true := by rw [c1]; exact kcl_thg
  have d4 : m1 T 2 = s (24 + p) := by rw [eT]; exact c4
  have d5 : 0 ≤ m1 T 2 := by rw [d4]; exact q3
  have d6 : m1 T 2 ≤ 9 := by rw [d4]; exact q4
  have hb := td2_bd (x := 4 + baseF s p t) (by omega) (by omega)
  have hw := wthF_bd (k := s (18 + p)) (c := atF s p t) hb1 hb2 q3 q4
  have J : ∀ x, x = wthF (s (18 + p)) (s (24 + p)) (atF s p t) (baseF s p t) → Ok (d + 4) 144 13 [some (pR (some 1)), some (pR (some T)), some (pI (atF s p t)), some (pI t)] [pI x, pI 0] G m1 K := by
    intro x hx
    subst hx
    unfold worthF mx0 at hK
    simp (disch := first | assumption | exact isL_i | exact isL_r | exact isL_n | exact i01a | exact i01b | omega) only [K144_13, K144_16, wr_id, td_e, tm_e, pu_n, pu_s, up_s, up_k, up_a, ↓reduceIte, Int.reduceLT, Int.reduceLE, Int.reduceEq, Int.reduceNeg, Int.reduceAdd, Int.reduceSub, Int.reduceMul, Int.reduceMod, Int.reduceDiv, Int.cast_ofNat_Int, not_true_eq_false, not_false_eq_true, Int.reduceTDiv, Int.reduceTMod]
    split
    · rw [if_neg (by omega)] at hK; exact hK
    · split at hK
      · exact hK
      · rw [show wthF (s (18 + p)) (s (24 + p)) (atF s p t) (baseF s p t) = 0 by omega] at hK; exact hK
  rcases k7 q1 q2 with e | e | e | e | e | e | e
  all_goals
    rw [e] at c1
    simp only [kcl, ↓reduceIte, Int.reduceEq] at c1
    simp (disch := first | assumption | exact isL_i | exact isL_r | exact isL_n | exact i01a | exact i01b | omega) only [K144_9, K144_10c1, K144_10c2, K144_10c3, K144_10c5, K144_10c6, K144_10c9, K144_10c10, wr_id, td_e, tm_e, pu_n, pu_s, up_s, up_k, up_a, ↓reduceIte, Int.reduceLT, Int.reduceLE, Int.reduceEq, Int.reduceNeg, Int.reduceAdd, Int.reduceSub, Int.reduceMul, Int.reduceMod, Int.reduceDiv, Int.cast_ofNat_Int, not_true_eq_false, not_false_eq_true, Int.reduceTDiv, Int.reduceTMod, c_woG, c_woO, c_woB, c_woP, c_woI, c_woD, c_woH, d4]
    exact J _ (by rw [e]; simp only [wthF, ↓reduceIte, Int.reduceEq])
theorem c_baseOn (hC : ShC G) (hR : RS 1 s G mi) (hV : WfV s) (hT : WfT s) (hn : s 11 ≤ 6) (h0 : 0 ≤ p) (h1 : p < s 11) (hTh : RTh G mi T (s (18 + p)) p (s (24 + p))) (ht : 0 ≤ t) (htt : t ≤ 20000) (hK : ∀ mi', Sc qL mi mi' → K (some (pI (baseF s p t))) G mi') : OkC (d + 3) 143 [pR (some 1), pR (some T), pI (atF s p t), pI t] G mi K :=
  c_baseOn8 hC hR hV hT hn h0 h1 hTh ht htt (fun mi' h => hK mi' (h.wk (by decide)))
theorem c_worthOn (hC : ShC G) (hR : RS 1 s G mi) (hV : WfV s) (hT : WfT s) (hn : s 11 ≤ 6) (h0 : 0 ≤ p) (h1 : p < s 11) (h55 : 55 ≤ T) (hTh : RTh G mi T (s (18 + p)) p (s (24 + p))) (ht : 0 ≤ t) (htt : t ≤ 20000) (hK : ∀ mi', Sc qL mi mi' → K (some (pI (worthF s p t))) G mi') : OkC (d + 4) 144 [pR (some 1), pR (some T), pI (atF s p t), pI t] G mi K :=
  c_worthOn8 hC hR hV hT hn h0 h1 h55 hTh ht htt (fun mi' h => hK mi' (h.wk (by decide)))
end CL
