/-! ===== cells made: what stays ===== -/
theorem ng_k {G : Gh} {kd : Nat × Nat} {sl a : Nat} (h : ¬ a = gN G) : gK (newG G kd sl) a = gK G a := if_neg h
theorem ng_s {G : Gh} {kd : Nat × Nat} {sl : Nat} : gK (newG G kd sl) (gN G) = kd := if_pos rfl
theorem ng_r {G : Gh} {kd : Nat × Nat} {sl a : Nat} {j : Int} (h : ¬ a = gN G) : gR (newG G kd sl) a j = gR G a j := if_neg h
theorem nw_k {G : Gh} {mi : Mi} {a : Nat} (h : ¬ a = gN G) : newM G mi a = mi a := by
  funext j; exact if_neg h
theorem nw_s {G : Gh} {mi : Mi} {j : Int} : newM G mi (gN G) j = 0 := if_pos rfl
theorem sr_s {G : Gh} {o : Nat} {j : Int} {v : Option Nat} : gR (setR G o j v) o j = v := if_pos ⟨rfl, rfl⟩
theorem sr_r {G : Gh} {o a : Nat} {i j : Int} {v : Option Nat} (h : ¬ (a = o ∧ i = j)) : gR (setR G o j v) a i = gR G a i := if_neg h
theorem sr_ra {G : Gh} {o a : Nat} {i j : Int} {v : Option Nat} (h : ¬ a = o) : gR (setR G o j v) a i = gR G a i := sr_r (fun e => h e.1)
theorem sr_ri {G : Gh} {o : Nat} {i j : Int} {v : Option Nat} (h : ¬ i = j) : gR (setR G o j v) o i = gR G o i := sr_r (fun e => h e.2)
/-- references that may change -/
def PX (a : Nat) (j : Int) : Prop := a = 9 ∨ a = 27 ∨ (a = 1 ∨ a = 19) ∧ j = 1
def GX (G G' : Gh) : Prop := (gN G ≤ gN G' ∧ gL G' = gL G ∧ gX G' = gX G) ∧ (∀ a : Nat, a < gN G → gK G' a = gK G a) ∧ (∀ (a : Nat) (j : Int), a < gN G → ¬ PX a j → gR G' a j = gR G a j)
theorem GX.rf {G : Gh} : GX G G := ⟨⟨Nat.le_refl _, rfl, rfl⟩, fun _ _ => rfl, fun _ _ _ _ => rfl⟩
theorem GX.tr {G G' G'' : Gh} (h : GX G G') (h' : GX G' G'') : GX G G'' := by
  obtain ⟨⟨a1, a2, a3⟩, a4, a5⟩ := h
  obtain ⟨⟨b1, b2, b3⟩, b4, b5⟩ := h'
  exact ⟨⟨Nat.le_trans a1 b1, b2.trans a2, b3.trans a3⟩, fun a ha => (b4 a (by omega)).trans (a4 a ha), fun a j ha hp => (b5 a j (by omega) hp).trans (a5 a j ha hp)⟩
theorem GX.nw {G : Gh} {kd : Nat × Nat} {sl : Nat} : GX G (newG G kd sl) := ⟨⟨Nat.le_succ _, rfl, rfl⟩, fun a ha => ng_k (by omega), fun a j ha _ => ng_r (by omega)⟩
theorem GX.sr {G : Gh} {o : Nat} {j : Int} {v : Option Nat} (h : PX o j) : GX G (setR G o j v) := ⟨⟨Nat.le_refl _, rfl, rfl⟩, fun _ _ => rfl, fun a i _ hp => sr_r (fun e => hp (by rw [e.1, e.2]; exact h))⟩
theorem ShS.x {o : Nat} {G G' : Gh} (h : ShS o G) (hx : GX G G') (hN : 55 ≤ gN G) (ho : o = 1 ∨ o = 19) : ShS o G' := by
  obtain ⟨-, hk, hr⟩ := hx
  have hk' : ∀ a : Nat, a ≤ 17 → gK G' (o + a) = gK G (o + a) := fun a ha => hk _ (by omega)
  have hk0 : gK G' o = gK G o := hk _ (by omega)
  have hr0 : ∀ j : Int, ¬ j = 1 → gR G' o j = gR G o j := fun j hj => hr _ _ (by omega) (by unfold PX; omega)
  have hr' : ∀ a : Nat, 1 ≤ a → a ≤ 17 → ¬ a = 8 → ∀ j : Int, gR G' (o + a) j = gR G (o + a) j := fun a h1 ha h8 j => hr _ _ (by omega) (by unfold PX; omega)
  unfold ShS
  rw [hk0, hk' 1 (by decide), hk' 2 (by decide), hk' 8 (by decide), hk' 9 (by decide), hk' 10 (by decide), hk' 11 (by decide), hk' 12 (by decide), hk' 13 (by decide), hk' 14 (by decide), hk' 15 (by decide), hk' 16 (by decide), hk' 17 (by decide)]
  rw [hr0 0 (by decide), hr0 4 (by decide), hr0 5 (by decide), hr0 6 (by decide), hr0 13 (by decide), hr0 14 (by decide), hr0 15 (by decide), hr0 16 (by decide), hr' 1 (by decide) (by decide) (by decide), hr' 11 (by decide) (by decide) (by decide), hr' 13 (by decide) (by decide) (by decide), hr' 15 (by decide) (by decide) (by decide)]
  exact h
theorem ShR.x {G G' : Gh} (h : ShR G) (hx : GX G G') (hN : 55 ≤ gN G) : ShR G' := by
  obtain ⟨-, hk, hr⟩ := hx
  have hk' : ∀ a : Nat, a < 55 → gK G' a = gK G a := fun a ha => hk _ (by omega)
  have hr' : ∀ a : Nat, a = 0 ∨ a = 37 ∨ a = 39 → ∀ j : Int, gR G' a j = gR G a j := fun a ha j => hr _ _ (by omega) (by unfold PX; omega)
  unfold ShR
  rw [hk' 0 (by decide), hk' 37 (by decide), hk' 38 (by decide), hk' 39 (by decide), hk' 40 (by decide), hk' 41 (by decide), hk' 42 (by decide), hk' 43 (by decide), hk' 44 (by decide), hk' 45 (by decide)]
  simp only [hr' 0 (by decide), hr' 37 (by decide), hr' 39 (by decide)]
  exact h
theorem ShC.x {G G' : Gh} (h : ShC G) (hx : GX G G') (hN : 55 ≤ gN G) : ShC G' := ⟨ShS.x (shS1 h.1) hx hN (Or.inl rfl), h.2.1.x hx hN (Or.inr rfl), h.2.2.x hx hN⟩
theorem ShM.x {G G' : Gh} (h : ShM G) (hx : GX G G') (hN : 55 ≤ gN G) : ShM G' := by
  obtain ⟨-, hk, hr⟩ := hx
  have hk' : ∀ a : Nat, a < 55 → gK G' a = gK G a := fun a ha => hk _ (by omega)
  have hr' : ∀ j : Int, gR G' 46 j = gR G 46 j := fun j => hr _ _ (by omega) (by unfold PX; omega)
  unfold ShM
  rw [hk' 46 (by decide), hk' 47 (by decide), hk' 48 (by decide), hk' 49 (by decide), hk' 50 (by decide), hk' 51 (by decide), hk' 52 (by decide), hk' 53 (by decide), hk' 54 (by decide)]
  simp only [hr']
  exact h
/-- what a state holds was made before -/
def GB (o : Nat) (G : Gh) : Prop := (∀ (p : Int) (T : Nat), gR G (o + 8) p = some T → T < gN G ∧ thg (gK G T).1 = true) ∧ (∀ V : Nat, gR G o 1 = some V → V + 3 < gN G)
theorem RVw.x {s s' : Int → Int} {G G' : Gh} {mi mi' : Mi} {V : Nat} (h : RVw s G mi V) (hV : V + 3 < gN G) (hx : GX G G') (hm : ∀ a : Nat, a < gN G → ¬ a ∈ kL → mi' a = mi a) (ec : coinF s' = coinF s) (ea : telF s' 204 0 = telF s 204 0) (eh : telF s' 209 0 = telF s 209 0) (es : stepsF s' = stepsF s) : RVw s' G' mi' V := by
  obtain ⟨h1, ⟨w1, w2, w3, w4, w5, w6, w7⟩, ⟨h3, h4, h5⟩, L, h6, h7, h8, h9⟩ := h
  obtain ⟨-, hk, hr⟩ := hx
  have eV : mi' V = mi V := hm V (by omega) (nm_k h1 0 (by decide))
  have e1 : mi' (V + 1) = mi (V + 1) := hm _ (by omega) (nm_k h1 1 (by decide))
  have e2 : mi' (V + 2) = mi (V + 2) := hm _ (by omega) (nm_k h1 2 (by decide))
  have e3 : mi' (V + 3) = mi (V + 3) := hm _ (by omega) (nm_k h1 3 (by decide))
  have r : ∀ j : Int, gR G' V j = gR G V j := fun j => hr _ _ (by omega) (by unfold PX; omega)
  refine ⟨h1, ⟨?_, ?_, ?_, ?_, ?_, ?_, ?_⟩, ⟨by rw [eV, ec]; exact h3, by rw [eV, ea]; exact h4, by rw [eV, eh]; exact h5⟩, L, by rw [es]; exact h6, by rw [eV]; exact h7, by rw [eV]; exact h8, by rw [e1, e2, e3]; exact h9⟩
  · rw [hk _ (by omega)]; exact w1
  · rw [hk _ (by omega)]; exact w2
  · rw [hk _ (by omega)]; exact w3
  · rw [hk _ (by omega)]; exact w4
  · rw [r]; exact w5
  · rw [r]; exact w6
  · rw [r]; exact w7
theorem RTh.x {G G' : Gh} {mi mi' : Mi} {T : Nat} {k p v : Int} (h : RTh G mi T k p v) (h55 : 55 ≤ T) (hT : T < gN G) (hx : GX G G') (hm : ∀ a : Nat, a < gN G → ¬ a ∈ kL → mi' a = mi a) : RTh G' mi' T k p v := by
  obtain ⟨h1, h2, h3, h4, h5⟩ := h
  obtain ⟨-, hk, hr⟩ := hx
  have eT : mi' T = mi T := hm T hT (nm_k (Or.inr (Or.inr h55)) 0 (by decide))
  exact ⟨by rw [hk _ hT]; exact h1, by rw [eT]; exact h2, by rw [eT]; exact h3, by rw [eT]; exact h4, by rw [hr _ _ hT (by unfold PX; omega)]; exact h5⟩
section CL
variable {d : Nat} {G : Gh} {mi : Mi} {K : Option PV → Gh → Mi → Prop} {o o' T : Nat} {s s' : Int → Int} {p t v w a b c k n g q x lim hm pc ah ce u l hz y : Int} {L : List Int} {rr : Option Nat}
theorem c_init (hk : thg (gK G T).1 = true) : OkC (d + 1) 87 [pR (some T), pI k, pI n, pI v, pR rr] G mi K = K none (setR G T 3 rr) (up (up (up mi T 0 k) T 1 n) T 2 v) := by
  rw [E87]
  simp (disch := first | assumption | exact isL_i | exact isL_r | exact isL_n | exact i01a | exact i01b | omega) only [K87_0, K87_1, K87_4, K87_5, K87_6, K87_9, K87_10, K87_11, K87_14, K87_15, K87_16, K87_19, K87_20, K87_22, K87_25, wr_id, td_e, tm_e, pu_n, pu_s, up_s, up_k, up_a, ↓reduceIte, Int.reduceLT, Int.reduceLE, Int.reduceEq, Int.reduceNeg, Int.reduceAdd, Int.reduceSub, Int.reduceMul, Int.reduceMod, Int.reduceDiv, Int.cast_ofNat_Int, not_true_eq_false, not_false_eq_true, Int.reduceTDiv, Int.reduceTMod]
theorem c_initO (hk : thg (gK G T).1 = true) : OkC (d + 2) 98 [pR (some T), pI k, pI n, pI v, pR rr] G mi K = K none (setR G T 3 rr) (up (up (up mi T 0 k) T 1 n) T 2 v) := by
  rw [E98]
  simp (disch := first | assumption | exact isL_i | exact isL_r | exact isL_n | exact i01a | exact i01b | omega) only [K98_0, K98_1, K98_2, K98_3, K98_4, K98_6, K98_9, wr_id, td_e, tm_e, pu_n, pu_s, up_s, up_k, up_a, ↓reduceIte, Int.reduceLT, Int.reduceLE, Int.reduceEq, Int.reduceNeg, Int.reduceAdd, Int.reduceSub, Int.reduceMul, Int.reduceMod, Int.reduceDiv, Int.cast_ofNat_Int, not_true_eq_false, not_false_eq_true, Int.reduceTDiv, Int.reduceTMod, c_init]
theorem c_initH (hk : thg (gK G T).1 = true) : OkC (d + 2) 102 [pR (some T), pI k, pI n, pI v, pR rr] G mi K = K none (setR G T 3 rr) (up (up (up mi T 0 k) T 1 n) T 2 v) := by
  rw [E102]
  simp (disch := first | assumption | exact isL_i | exact isL_r | exact isL_n | exact i01a | exact i01b | omega) only [K102_0, K102_1, K102_2, K102_3, K102_4, K102_6, K102_9, wr_id, td_e, tm_e, pu_n, pu_s, up_s, up_k, up_a, ↓reduceIte, Int.reduceLT, Int.reduceLE, Int.reduceEq, Int.reduceNeg, Int.reduceAdd, Int.reduceSub, Int.reduceMul, Int.reduceMod, Int.reduceDiv, Int.cast_ofNat_Int, not_true_eq_false, not_false_eq_true, Int.reduceTDiv, Int.reduceTMod, c_init]
theorem c_initB (hk : thg (gK G T).1 = true) : OkC (d + 2) 94 [pR (some T), pI k, pI n, pI v, pR rr] G mi K = K none (setR G T 3 rr) (up (up (up mi T 0 k) T 1 n) T 2 v) := by
  rw [E94]
  simp (disch := first | assumption | exact isL_i | exact isL_r | exact isL_n | exact i01a | exact i01b | omega) only [K94_0, K94_1, K94_2, K94_3, K94_4, K94_6, K94_9, wr_id, td_e, tm_e, pu_n, pu_s, up_s, up_k, up_a, ↓reduceIte, Int.reduceLT, Int.reduceLE, Int.reduceEq, Int.reduceNeg, Int.reduceAdd, Int.reduceSub, Int.reduceMul, Int.reduceMod, Int.reduceDiv, Int.cast_ofNat_Int, not_true_eq_false, not_false_eq_true, Int.reduceTDiv, Int.reduceTMod, c_init]
theorem c_initP (hk : thg (gK G T).1 = true) : OkC (d + 3) 105 [pR (some T), pI k, pI n, pI v, pR rr] G mi K = K none (setR G T 3 rr) (up (up (up mi T 0 k) T 1 n) T 2 v) := by
  rw [E105]
  simp (disch := first | assumption | exact isL_i | exact isL_r | exact isL_n | exact i01a | exact i01b | omega) only [K105_0, K105_1, K105_2, K105_3, K105_4, K105_6, K105_9, wr_id, td_e, tm_e, pu_n, pu_s, up_s, up_k, up_a, ↓reduceIte, Int.reduceLT, Int.reduceLE, Int.reduceEq, Int.reduceNeg, Int.reduceAdd, Int.reduceSub, Int.reduceMul, Int.reduceMod, Int.reduceDiv, Int.cast_ofNat_Int, not_true_eq_false, not_false_eq_true, Int.reduceTDiv, Int.reduceTMod, c_initO]
theorem c_initI (hk : thg (gK G T).1 = true) : OkC (d + 3) 109 [pR (some T), pI k, pI n, pI v, pR rr] G mi K = K none (setR G T 3 rr) (up (up (up mi T 0 k) T 1 n) T 2 v) := by
  rw [E109]
  simp (disch := first | assumption | exact isL_i | exact isL_r | exact isL_n | exact i01a | exact i01b | omega) only [K109_0, K109_1, K109_2, K109_3, K109_4, K109_6, K109_9, wr_id, td_e, tm_e, pu_n, pu_s, up_s, up_k, up_a, ↓reduceIte, Int.reduceLT, Int.reduceLE, Int.reduceEq, Int.reduceNeg, Int.reduceAdd, Int.reduceSub, Int.reduceMul, Int.reduceMod, Int.reduceDiv, Int.cast_ofNat_Int, not_true_eq_false, not_false_eq_true, Int.reduceTDiv, Int.reduceTMod, c_initH]
theorem c_initD (hk : thg (gK G T).1 = true) : OkC (d + 3) 113 [pR (some T), pI k, pI n, pI v, pR rr] G mi K = K none (setR G T 3 rr) (up (up (up mi T 0 k) T 1 n) T 2 v) := by
  rw [E113]
  simp (disch := first | assumption | exact isL_i | exact isL_r | exact isL_n | exact i01a | exact i01b | omega) only [K113_0, K113_1, K113_2, K113_3, K113_4, K113_6, K113_9, wr_id, td_e, tm_e, pu_n, pu_s, up_s, up_k, up_a, ↓reduceIte, Int.reduceLT, Int.reduceLE, Int.reduceEq, Int.reduceNeg, Int.reduceAdd, Int.reduceSub, Int.reduceMul, Int.reduceMod, Int.reduceDiv, Int.cast_ofNat_Int, not_true_eq_false, not_false_eq_true, Int.reduceTDiv, Int.reduceTMod, c_initB]
theorem c_newThing (hC : ShC G) (hN : 55 ≤ gN G) (h0 : 0 ≤ k) (h6 : k ≤ 6) : OkC (d + 4) 202 [pR (some 0), pI k, pI n, pI v] G mi K = K (some (pR (some (gN G)))) (setR (newG G (kcl k, 0) 4) (gN G) 3 (some 37)) (up (up (up (newM G mi) (gN G) 0 k) (gN G) 1 n) (gN G) 2 v) := by
  obtain ⟨⟨⟨k1, k2, k3, l3, k9, l9, k10, l10, k11, l11⟩, ⟨k12, k13, l13, k14, k15, l15, k16, k17, l17, k18, l18⟩, ⟨r10, r14, r15, r16, r113, r114, r115, r116, r22, r122, r142, r162⟩⟩, -, ⟨⟨k0, r00, r01, r02, r03⟩, ⟨k37, r372, k38, l38⟩, ⟨k39, r390, r391, r392, r393, r394, r396, r397⟩, ⟨k40, l40, k41, l41, k42, l42, k43, l43, k44, l44, k45, l45⟩⟩⟩ := id hC
  have e0 : ¬ 0 = gN G := by omega
  rcases k7 h0 h6 with rfl | rfl | rfl | rfl | rfl | rfl | rfl
  · have ht : thg (gK (newG G (9, 0) 4) (gN G)).1 = true := by rw [ng_s]; rfl
    have hk0 : (gK (newG G (9, 0) 4) 0).1 = 12 := by rw [ng_k e0]; exact k0
    have hr0 : gR (newG G (9, 0) 4) 0 2 = some 37 := by rw [ng_r e0]; exact r02
    rw [E202]
    simp (disch := first | assumption | exact isL_i | exact isL_r | exact isL_n | exact i01a | exact i01b | omega) only [K202_0, K202_1, K202_40, K202_43, K202_43i, K202_44, K202_45, K202_46, K202_47, K202_48, K202_51, K202_54, K202_55, K202_58, K202_58i, K202_59, K202_60, K202_61, K202_62, K202_63, K202_66, K202_69, K202_70, K202_73, K202_73i, K202_74, K202_75, K202_76, K202_77, K202_78, K202_81, K202_84, K202_85, K202_88, K202_88i, K202_89, K202_90, K202_91, K202_92, K202_93, K202_96, K202_99, K202_100, K202_103, K202_103i, K202_104, K202_105, K202_106, K202_107, K202_108, K202_111, K202_114, K202_115, K202_118, K202_118i, K202_119, K202_120, K202_121, K202_122, K202_123, K202_126, K202_129, K202_130, K202_133, K202_133i, K202_134, K202_135, K202_136, K202_137, K202_138, K202_141, K202_144, wr_id, td_e, tm_e, pu_n, pu_s, up_s, up_k, up_a, ↓reduceIte, Int.reduceLT, Int.reduceLE, Int.reduceEq, Int.reduceNeg, Int.reduceAdd, Int.reduceSub, Int.reduceMul, Int.reduceMod, Int.reduceDiv, Int.cast_ofNat_Int, not_true_eq_false, not_false_eq_true, Int.reduceTDiv, Int.reduceTMod, hr0, c_init, kcl]
  · have ht : thg (gK (newG G (2, 0) 4) (gN G)).1 = true := by rw [ng_s]; rfl
    have hk0 : (gK (newG G (2, 0) 4) 0).1 = 12 := by rw [ng_k e0]; exact k0
    have hr0 : gR (newG G (2, 0) 4) 0 2 = some 37 := by rw [ng_r e0]; exact r02
    rw [E202]
    simp (disch := first | assumption | exact isL_i | exact isL_r | exact isL_n | exact i01a | exact i01b | omega) only [K202_0, K202_1, K202_40, K202_43, K202_43i, K202_44, K202_45, K202_46, K202_47, K202_48, K202_51, K202_54, K202_55, K202_58, K202_58i, K202_59, K202_60, K202_61, K202_62, K202_63, K202_66, K202_69, K202_70, K202_73, K202_73i, K202_74, K202_75, K202_76, K202_77, K202_78, K202_81, K202_84, K202_85, K202_88, K202_88i, K202_89, K202_90, K202_91, K202_92, K202_93, K202_96, K202_99, K202_100, K202_103, K202_103i, K202_104, K202_105, K202_106, K202_107, K202_108, K202_111, K202_114, K202_115, K202_118, K202_118i, K202_119, K202_120, K202_121, K202_122, K202_123, K202_126, K202_129, K202_130, K202_133, K202_133i, K202_134, K202_135, K202_136, K202_137, K202_138, K202_141, K202_144, wr_id, td_e, tm_e, pu_n, pu_s, up_s, up_k, up_a, ↓reduceIte, Int.reduceLT, Int.reduceLE, Int.reduceEq, Int.reduceNeg, Int.reduceAdd, Int.reduceSub, Int.reduceMul, Int.reduceMod, Int.reduceDiv, Int.cast_ofNat_Int, not_true_eq_false, not_false_eq_true, Int.reduceTDiv, Int.reduceTMod, hr0, c_initO, kcl]
  · have ht : thg (gK (newG G (3, 0) 4) (gN G)).1 = true := by rw [ng_s]; rfl
    have hk0 : (gK (newG G (3, 0) 4) 0).1 = 12 := by rw [ng_k e0]; exact k0
    have hr0 : gR (newG G (3, 0) 4) 0 2 = some 37 := by rw [ng_r e0]; exact r02
    rw [E202]
    simp (disch := first | assumption | exact isL_i | exact isL_r | exact isL_n | exact i01a | exact i01b | omega) only [K202_0, K202_1, K202_40, K202_43, K202_43i, K202_44, K202_45, K202_46, K202_47, K202_48, K202_51, K202_54, K202_55, K202_58, K202_58i, K202_59, K202_60, K202_61, K202_62, K202_63, K202_66, K202_69, K202_70, K202_73, K202_73i, K202_74, K202_75, K202_76, K202_77, K202_78, K202_81, K202_84, K202_85, K202_88, K202_88i, K202_89, K202_90, K202_91, K202_92, K202_93, K202_96, K202_99, K202_100, K202_103, K202_103i, K202_104, K202_105, K202_106, K202_107, K202_108, K202_111, K202_114, K202_115, K202_118, K202_118i, K202_119, K202_120, K202_121, K202_122, K202_123, K202_126, K202_129, K202_130, K202_133, K202_133i, K202_134, K202_135, K202_136, K202_137, K202_138, K202_141, K202_144, wr_id, td_e, tm_e, pu_n, pu_s, up_s, up_k, up_a, ↓reduceIte, Int.reduceLT, Int.reduceLE, Int.reduceEq, Int.reduceNeg, Int.reduceAdd, Int.reduceSub, Int.reduceMul, Int.reduceMod, Int.reduceDiv, Int.cast_ofNat_Int, not_true_eq_false, not_false_eq_true, Int.reduceTDiv, Int.reduceTMod, hr0, c_initH, kcl]
  · have ht : thg (gK (newG G (1, 0) 4) (gN G)).1 = true := by rw [ng_s]; rfl
    have hk0 : (gK (newG G (1, 0) 4) 0).1 = 12 := by rw [ng_k e0]; exact k0
    have hr0 : gR (newG G (1, 0) 4) 0 2 = some 37 := by rw [ng_r e0]; exact r02
    rw [E202]
    simp (disch := first | assumption | exact isL_i | exact isL_r | exact isL_n | exact i01a | exact i01b | omega) only [K202_0, K202_1, K202_40, K202_43, K202_43i, K202_44, K202_45, K202_46, K202_47, K202_48, K202_51, K202_54, K202_55, K202_58, K202_58i, K202_59, K202_60, K202_61, K202_62, K202_63, K202_66, K202_69, K202_70, K202_73, K202_73i, K202_74, K202_75, K202_76, K202_77, K202_78, K202_81, K202_84, K202_85, K202_88, K202_88i, K202_89, K202_90, K202_91, K202_92, K202_93, K202_96, K202_99, K202_100, K202_103, K202_103i, K202_104, K202_105, K202_106, K202_107, K202_108, K202_111, K202_114, K202_115, K202_118, K202_118i, K202_119, K202_120, K202_121, K202_122, K202_123, K202_126, K202_129, K202_130, K202_133, K202_133i, K202_134, K202_135, K202_136, K202_137, K202_138, K202_141, K202_144, wr_id, td_e, tm_e, pu_n, pu_s, up_s, up_k, up_a, ↓reduceIte, Int.reduceLT, Int.reduceLE, Int.reduceEq, Int.reduceNeg, Int.reduceAdd, Int.reduceSub, Int.reduceMul, Int.reduceMod, Int.reduceDiv, Int.cast_ofNat_Int, not_true_eq_false, not_false_eq_true, Int.reduceTDiv, Int.reduceTMod, hr0, c_initB, kcl]
  · have ht : thg (gK (newG G (5, 0) 4) (gN G)).1 = true := by rw [ng_s]; rfl
    have hk0 : (gK (newG G (5, 0) 4) 0).1 = 12 := by rw [ng_k e0]; exact k0
    have hr0 : gR (newG G (5, 0) 4) 0 2 = some 37 := by rw [ng_r e0]; exact r02
    rw [E202]
    simp (disch := first | assumption | exact isL_i | exact isL_r | exact isL_n | exact i01a | exact i01b | omega) only [K202_0, K202_1, K202_40, K202_43, K202_43i, K202_44, K202_45, K202_46, K202_47, K202_48, K202_51, K202_54, K202_55, K202_58, K202_58i, K202_59, K202_60, K202_61, K202_62, K202_63, K202_66, K202_69, K202_70, K202_73, K202_73i, K202_74, K202_75, K202_76, K202_77, K202_78, K202_81, K202_84, K202_85, K202_88, K202_88i, K202_89, K202_90, K202_91, K202_92, K202_93, K202_96, K202_99, K202_100, K202_103, K202_103i, K202_104, K202_105, K202_106, K202_107, K202_108, K202_111, K202_114, K202_115, K202_118, K202_118i, K202_119, K202_120, K202_121, K202_122, K202_123, K202_126, K202_129, K202_130, K202_133, K202_133i, K202_134, K202_135, K202_136, K202_137, K202_138, K202_141, K202_144, wr_id, td_e, tm_e, pu_n, pu_s, up_s, up_k, up_a, ↓reduceIte, Int.reduceLT, Int.reduceLE, Int.reduceEq, Int.reduceNeg, Int.reduceAdd, Int.reduceSub, Int.reduceMul, Int.reduceMod, Int.reduceDiv, Int.cast_ofNat_Int, not_true_eq_false, not_false_eq_true, Int.reduceTDiv, Int.reduceTMod, hr0, c_initP, kcl]
  · have ht : thg (gK (newG G (6, 0) 4) (gN G)).1 = true := by rw [ng_s]; rfl
    have hk0 : (gK (newG G (6, 0) 4) 0).1 = 12 := by rw [ng_k e0]; exact k0
    have hr0 : gR (newG G (6, 0) 4) 0 2 = some 37 := by rw [ng_r e0]; exact r02
    rw [E202]
    simp (disch := first | assumption | exact isL_i | exact isL_r | exact isL_n | exact i01a | exact i01b | omega) only [K202_0, K202_1, K202_40, K202_43, K202_43i, K202_44, K202_45, K202_46, K202_47, K202_48, K202_51, K202_54, K202_55, K202_58, K202_58i, K202_59, K202_60, K202_61, K202_62, K202_63, K202_66, K202_69, K202_70, K202_73, K202_73i, K202_74, K202_75, K202_76, K202_77, K202_78, K202_81, K202_84, K202_85, K202_88, K202_88i, K202_89, K202_90, K202_91, K202_92, K202_93, K202_96, K202_99, K202_100, K202_103, K202_103i, K202_104, K202_105, K202_106, K202_107, K202_108, K202_111, K202_114, K202_115, K202_118, K202_118i, K202_119, K202_120, K202_121, K202_122, K202_123, K202_126, K202_129, K202_130, K202_133, K202_133i, K202_134, K202_135, K202_136, K202_137, K202_138, K202_141, K202_144, wr_id, td_e, tm_e, pu_n, pu_s, up_s, up_k, up_a, ↓reduceIte, Int.reduceLT, Int.reduceLE, Int.reduceEq, Int.reduceNeg, Int.reduceAdd, Int.reduceSub, Int.reduceMul, Int.reduceMod, Int.reduceDiv, Int.cast_ofNat_Int, not_true_eq_false, not_false_eq_true, Int.reduceTDiv, Int.reduceTMod, hr0, c_initI, kcl]
  · have ht : thg (gK (newG G (10, 0) 4) (gN G)).1 = true := by rw [ng_s]; rfl
    have hk0 : (gK (newG G (10, 0) 4) 0).1 = 12 := by rw [ng_k e0]; exact k0
    have hr0 : gR (newG G (10, 0) 4) 0 2 = some 37 := by rw [ng_r e0]; exact r02
    rw [E202]
    simp (disch := first | assumption | exact isL_i | exact isL_r | exact isL_n | exact i01a | exact i01b | omega) only [K202_0, K202_1, K202_40, K202_43, K202_43i, K202_44, K202_45, K202_46, K202_47, K202_48, K202_51, K202_54, K202_55, K202_58, K202_58i, K202_59, K202_60, K202_61, K202_62, K202_63, K202_66, K202_69, K202_70, K202_73, K202_73i, K202_74, K202_75, K202_76, K202_77, K202_78, K202_81, K202_84, K202_85, K202_88, K202_88i, K202_89, K202_90, K202_91, K202_92, K202_93, K202_96, K202_99, K202_100, K202_103, K202_103i, K202_104, K202_105, K202_106, K202_107, K202_108, K202_111, K202_114, K202_115, K202_118, K202_118i, K202_119, K202_120, K202_121, K202_122, K202_123, K202_126, K202_129, K202_130, K202_133, K202_133i, K202_134, K202_135, K202_136, K202_137, K202_138, K202_141, K202_144, wr_id, td_e, tm_e, pu_n, pu_s, up_s, up_k, up_a, ↓reduceIte, Int.reduceLT, Int.reduceLE, Int.reduceEq, Int.reduceNeg, Int.reduceAdd, Int.reduceSub, Int.reduceMul, Int.reduceMod, Int.reduceDiv, Int.cast_ofNat_Int, not_true_eq_false, not_false_eq_true, Int.reduceTDiv, Int.reduceTMod, hr0, c_initD, kcl]
theorem oThing_s (hW : WfA s) (hn : ¬ s 11 = 6) {s' : Int → Int} (hs : s' = sH (sH (sH (sH (sH (sH (sH (sH (sH s (18 + s 11) k) (24 + s 11) v) (30 + s 11) c) (2 + s 11) 0) (36 + 4 * s 11) 0) (36 + 4 * s 11 + 1) 0) (36 + 4 * s 11 + 2) 0) (36 + 4 * s 11 + 3) 0) 11 (s 11 + 1)) :
    s' 11 = s 11 + 1 ∧ s' (18 + s 11) = k ∧ s' (24 + s 11) = v ∧ s' (30 + s 11) = c ∧ ∀ j : Int, ¬ j = 11 → ¬ j = 18 + s 11 → ¬ j = 24 + s 11 → ¬ j = 30 + s 11 → s' j = s j := by
  obtain ⟨⟨⟨z0, z1, z8, z9, z10, z11, z12, z13, z14, z15, z16⟩, hh01, hT, hz17⟩, hWV, hWD, hWB, hWP, hWT, hWZ, hWF, hWK⟩ := id hW
  subst hs
  obtain ⟨w1, w2, w3, w4, w5⟩ := hWZ (s 11) (Int.le_refl _) (by omega)
  refine ⟨sH_s, ?_, ?_, ?_, fun j j1 j2 j3 j4 => ?_⟩
  · simp (disch := omega) only [sH_k, sH_s]
  · simp (disch := omega) only [sH_k, sH_s]
  · simp (disch := omega) only [sH_k, sH_s]
  · by_cases e1 : j = 2 + s 11
    · subst e1; simp (disch := omega) only [sH_k, sH_s]; exact w1.symm
    · by_cases e2 : j = 36 + 4 * s 11
      · subst e2; simp (disch := omega) only [sH_k, sH_s]; exact w2.symm
      · by_cases e3 : j = 36 + 4 * s 11 + 1
        · subst e3; simp (disch := omega) only [sH_k, sH_s]; exact w3.symm
        · by_cases e4 : j = 36 + 4 * s 11 + 2
          · subst e4; simp (disch := omega) only [sH_k, sH_s]; exact w4.symm
          · by_cases e5 : j = 36 + 4 * s 11 + 3
            · subst e5; simp (disch := omega) only [sH_k, sH_s]; exact w5.symm
            · simp (disch := omega) only [sH_k]
end CL
