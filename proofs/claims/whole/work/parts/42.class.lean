/-! ===== the class: cells 0 (the object), 1 .. 18 and 19 .. 36 (two states), 37, 38 (trace), 39 .. 45 (search) ===== -/
def kcl (k : Int) : Nat := if k = 1 then 2 else if k = 2 then 3 else if k = 3 then 1 else if k = 4 then 5 else if k = 5 then 6 else if k = 6 then 10 else 9
theorem kcl_thg {k : Int} : thg (kcl k) = true := by
  unfold kcl
  repeat' split
  all_goals rfl
def ShS (o : Nat) (G : Gh) : Prop :=
  ((gK G o).1 = 7 ∧ (gK G (o + 1)).1 = 8 ∧ (gK G (o + 2)).1 = 20 ∧ (gK G (o + 2)).2 = 100 ∧ (gK G (o + 8)).1 = 22 ∧ (gK G (o + 8)).2 = 6 ∧ (gK G (o + 9)).1 = 20 ∧ (gK G (o + 9)).2 = 6 ∧ (gK G (o + 10)).1 = 20 ∧ (gK G (o + 10)).2 = 24) ∧
  ((gK G (o + 11)).1 = 8 ∧ (gK G (o + 12)).1 = 20 ∧ (gK G (o + 12)).2 = 15 ∧ (gK G (o + 13)).1 = 8 ∧ (gK G (o + 14)).1 = 20 ∧ (gK G (o + 14)).2 = 8 ∧ (gK G (o + 15)).1 = 8 ∧ (gK G (o + 16)).1 = 20 ∧ (gK G (o + 16)).2 = 16 ∧ (gK G (o + 17)).1 = 20 ∧ (gK G (o + 17)).2 = 6) ∧
  (gR G o 0 = some (o + 1) ∧ gR G o 4 = some (o + 8) ∧ gR G o 5 = some (o + 9) ∧ gR G o 6 = some (o + 10) ∧ gR G o 13 = some (o + 11) ∧ gR G o 14 = some (o + 13) ∧ gR G o 15 = some (o + 15) ∧ gR G o 16 = some (o + 17) ∧ gR G (o + 1) 2 = some (o + 2) ∧ gR G (o + 11) 2 = some (o + 12) ∧ gR G (o + 13) 2 = some (o + 14) ∧ gR G (o + 15) 2 = some (o + 16))
def ShR (G : Gh) : Prop :=
  ((gK G 0).1 = 12 ∧ gR G 0 0 = some 1 ∧ gR G 0 1 = some 19 ∧ gR G 0 2 = some 37 ∧ gR G 0 3 = some 39) ∧
  ((gK G 37).1 = 8 ∧ gR G 37 2 = some 38 ∧ (gK G 38).1 = 20 ∧ (gK G 38).2 = 20) ∧
  ((gK G 39).1 = 4 ∧ gR G 39 0 = some 1 ∧ gR G 39 1 = some 40 ∧ gR G 39 2 = some 41 ∧ gR G 39 3 = some 42 ∧ gR G 39 4 = some 43 ∧ gR G 39 6 = some 44 ∧ gR G 39 7 = some 45) ∧
  ((gK G 40).1 = 20 ∧ (gK G 40).2 = 216 ∧ (gK G 41).1 = 20 ∧ (gK G 41).2 = 54 ∧ (gK G 42).1 = 20 ∧ (gK G 42).2 = 5 ∧ (gK G 43).1 = 20 ∧ (gK G 43).2 = 5 ∧ (gK G 44).1 = 20 ∧ (gK G 44).2 = 6 ∧ (gK G 45).1 = 20 ∧ (gK G 45).2 = 6)
/-- a state's cells, told with their own numbers -/
def ShS1 (G : Gh) : Prop :=
  ((gK G 1).1 = 7 ∧ (gK G 2).1 = 8 ∧ (gK G 3).1 = 20 ∧ (gK G 3).2 = 100 ∧ (gK G 9).1 = 22 ∧ (gK G 9).2 = 6 ∧ (gK G 10).1 = 20 ∧ (gK G 10).2 = 6 ∧ (gK G 11).1 = 20 ∧ (gK G 11).2 = 24) ∧
  ((gK G 12).1 = 8 ∧ (gK G 13).1 = 20 ∧ (gK G 13).2 = 15 ∧ (gK G 14).1 = 8 ∧ (gK G 15).1 = 20 ∧ (gK G 15).2 = 8 ∧ (gK G 16).1 = 8 ∧ (gK G 17).1 = 20 ∧ (gK G 17).2 = 16 ∧ (gK G 18).1 = 20 ∧ (gK G 18).2 = 6) ∧
  (gR G 1 0 = some 2 ∧ gR G 1 4 = some 9 ∧ gR G 1 5 = some 10 ∧ gR G 1 6 = some 11 ∧ gR G 1 13 = some 12 ∧ gR G 1 14 = some 14 ∧ gR G 1 15 = some 16 ∧ gR G 1 16 = some 18 ∧ gR G 2 2 = some 3 ∧ gR G 12 2 = some 13 ∧ gR G 14 2 = some 15 ∧ gR G 16 2 = some 17)
theorem shS1 {G : Gh} (h : ShS1 G) : ShS 1 G := h
def ShC (G : Gh) : Prop := ShS1 G ∧ ShS 19 G ∧ ShR G
-- #def CG obtain ⟨⟨⟨k1, k2, k3, l3, k9, l9, k10, l10, k11, l11⟩, ⟨k12, k13, l13, k14, k15, l15, k16, k17, l17, k18, l18⟩, ⟨r10, r14, r15, r16, r113, r114, r115, r116, r22, r122, r142, r162⟩⟩, -, ⟨⟨k0, r00, r01, r02, r03⟩, ⟨k37, r372, k38, l38⟩, ⟨k39, r390, r391, r392, r393, r394, r396, r397⟩, ⟨k40, l40, k41, l41, k42, l42, k43, l43, k44, l44, k45, l45⟩⟩⟩ := id hC
-- #def SC r10, r14, r15, r16, r113, r114, r115, r116, r22, r122, r142, r162, r00, r01, r02, r03, r372, r390, r391, r392, r393, r394, r396, r397
/-- a thing's cell -/
def RTh (G : Gh) (mi : Mi) (T : Nat) (k p v : Int) : Prop := (gK G T).1 = kcl k ∧ mi T 0 = k ∧ mi T 1 = p ∧ mi T 2 = v ∧ gR G T 3 = some 37
section CL
variable {d : Nat} {G : Gh} {mi : Mi} {K : Option PV → Gh → Mi → Prop} {T : Nat} {p t v w a b c k n g q x hm pc ex : Int} {r : Option Nat ⊕ Nat} {aa : PV}
theorem c_isIn {o : Nat} (hk : 20 ≤ (gK G o).1) : OkC d 192 [pR (some o), pI v] G mi K = K (some (pI (if 0 ≤ v ∧ v < (gK G o).2 then 1 else 0))) G mi := by
  rw [E192]
  simp (disch := first | assumption | exact isL_i | exact isL_r | exact isL_n | exact i01a | exact i01b | omega) only [K192_0, K192_1, K192_4, K192_5, K192_6, K192_7, K192_10, K192_11, K192_14, K192_15, wr_id, td_e, tm_e, pu_n, pu_s, up_s, up_k, up_a, ↓reduceIte, Int.reduceLT, Int.reduceLE, Int.reduceEq, Int.reduceNeg, Int.reduceAdd, Int.reduceSub, Int.reduceMul, Int.reduceMod, Int.reduceDiv, Int.cast_ofNat_Int, not_true_eq_false, not_false_eq_true, Int.reduceTDiv, Int.reduceTMod]
  repeat' split
  all_goals first | rfl | (exfalso; omega)
theorem c_within : OkC d 191 [pI v, pI a, pI b] G mi K = K (some (pI (if a ≤ v ∧ v ≤ b then 1 else 0))) G mi := by
  rw [E191]
  simp (disch := first | assumption | exact isL_i | exact isL_r | exact isL_n | exact i01a | exact i01b | omega) only [K191_0, K191_1, K191_2, K191_5, K191_6, K191_7, K191_10, K191_11, K191_14, K191_15, wr_id, td_e, tm_e, pu_n, pu_s, up_s, up_k, up_a, ↓reduceIte, Int.reduceLT, Int.reduceLE, Int.reduceEq, Int.reduceNeg, Int.reduceAdd, Int.reduceSub, Int.reduceMul, Int.reduceMod, Int.reduceDiv, Int.cast_ofNat_Int, not_true_eq_false, not_false_eq_true, Int.reduceTDiv, Int.reduceTMod]
  repeat' split
  all_goals first | rfl | (exfalso; omega)
theorem c_isCell : OkC (d + 1) 194 [pI v] G mi K = K (some (pI (if 0 ≤ v ∧ v ≤ 23 then 1 else 0))) G mi := by
  rw [E194]
  simp (disch := first | assumption | exact isL_i | exact isL_r | exact isL_n | exact i01a | exact i01b | omega) only [K194_0, K194_1, K194_2, K194_4, K194_7, wr_id, td_e, tm_e, pu_n, pu_s, up_s, up_k, up_a, ↓reduceIte, Int.reduceLT, Int.reduceLE, Int.reduceEq, Int.reduceNeg, Int.reduceAdd, Int.reduceSub, Int.reduceMul, Int.reduceMod, Int.reduceDiv, Int.cast_ofNat_Int, not_true_eq_false, not_false_eq_true, Int.reduceTDiv, Int.reduceTMod, c_within]
theorem c_bit (h0 : 0 ≤ v) (h1 : v ≤ 1) : OkC d 195 [pI v] G mi K = K (some (pI v)) G mi := by
  rw [E195]
  have h : v = 0 ∨ v = 1 := by omega
  rcases h with rfl | rfl
  all_goals simp (disch := first | assumption | exact isL_i | exact isL_r | exact isL_n | exact i01a | exact i01b | omega) only [K195_0, K195_1, K195_4, K195_5, K195_8, K195_9, wr_id, td_e, tm_e, pu_n, pu_s, up_s, up_k, up_a, ↓reduceIte, Int.reduceLT, Int.reduceLE, Int.reduceEq, Int.reduceNeg, Int.reduceAdd, Int.reduceSub, Int.reduceMul, Int.reduceMod, Int.reduceDiv, Int.cast_ofNat_Int, not_true_eq_false, not_false_eq_true, Int.reduceTDiv, Int.reduceTMod, if_pos, if_neg]
theorem c_rowOf (h0 : 0 ≤ v) : OkC d 196 [pI v] G mi K = K (some (pI (v / 6))) G mi := by
  rw [E196]
  simp (disch := first | assumption | exact isL_i | exact isL_r | exact isL_n | exact i01a | exact i01b | omega) only [K196_0, K196_1, K196_3, K196_4, wr_id, td_e, tm_e, pu_n, pu_s, up_s, up_k, up_a, ↓reduceIte, Int.reduceLT, Int.reduceLE, Int.reduceEq, Int.reduceNeg, Int.reduceAdd, Int.reduceSub, Int.reduceMul, Int.reduceMod, Int.reduceDiv, Int.cast_ofNat_Int, not_true_eq_false, not_false_eq_true, Int.reduceTDiv, Int.reduceTMod]
theorem c_columnOf (h0 : 0 ≤ v) : OkC d 197 [pI v] G mi K = K (some (pI (v % 6))) G mi := by
  rw [E197]
  simp (disch := first | assumption | exact isL_i | exact isL_r | exact isL_n | exact i01a | exact i01b | omega) only [K197_0, K197_1, K197_3, K197_4, wr_id, td_e, tm_e, pu_n, pu_s, up_s, up_k, up_a, ↓reduceIte, Int.reduceLT, Int.reduceLE, Int.reduceEq, Int.reduceNeg, Int.reduceAdd, Int.reduceSub, Int.reduceMul, Int.reduceMod, Int.reduceDiv, Int.cast_ofNat_Int, not_true_eq_false, not_false_eq_true, Int.reduceTDiv, Int.reduceTMod]
theorem c_far (ha : 0 ≤ a) (ha' : a ≤ 23) (hb : 0 ≤ b) (hb' : b ≤ 23) : OkC (d + 1) 198 [pI a, pI b] G mi K = K (some (pI (farF a b))) G mi := by
  rw [E198]
  unfold farF
  simp (disch := first | assumption | exact isL_i | exact isL_r | exact isL_n | exact i01a | exact i01b | omega) only [K198_0, K198_1, K198_4, K198_5, K198_8, K198_9, K198_12, K198_13, K198_16, K198_17, K198_20, K198_21, K198_24, K198_25, wr_id, td_e, tm_e, pu_n, pu_s, up_s, up_k, up_a, ↓reduceIte, Int.reduceLT, Int.reduceLE, Int.reduceEq, Int.reduceNeg, Int.reduceAdd, Int.reduceSub, Int.reduceMul, Int.reduceMod, Int.reduceDiv, Int.cast_ofNat_Int, not_true_eq_false, not_false_eq_true, Int.reduceTDiv, Int.reduceTMod, c_rowOf, c_columnOf]
  repeat' split
  all_goals (congr 3; omega)
theorem c_moved (h0 : 0 ≤ a) (h1 : a ≤ 23) : OkC (d + 1) 199 [pI a, pI v] G mi K = K (some (pI (brt a v))) G mi := by
  rw [E199]
  simp (disch := first | assumption | exact isL_i | exact isL_r | exact isL_n | exact i01a | exact i01b | omega) only [K199_0, K199_1, K199_32, K199_33, K199_36, K199_39, K199_40, K199_42, K199_43, K199_46, K199_47, K199_48, K199_49, K199_52, K199_53, K199_56, K199_57, K199_58, K199_59, K199_62, K199_63, K199_64, K199_65, K199_68, K199_69, K199_72, K199_73, K199_75, K199_76, K199_79, K199_80, K199_81, K199_82, K199_85, K199_88, K199_89, K199_90, K199_91, K199_94, K199_95, K199_96, K199_97, wr_id, td_e, tm_e, pu_n, pu_s, up_s, up_k, up_a, ↓reduceIte, Int.reduceLT, Int.reduceLE, Int.reduceEq, Int.reduceNeg, Int.reduceAdd, Int.reduceSub, Int.reduceMul, Int.reduceMod, Int.reduceDiv, Int.cast_ofNat_Int, not_true_eq_false, not_false_eq_true, Int.reduceTDiv, Int.reduceTMod, c_rowOf, c_columnOf]
  unfold brt
  repeat' split
  all_goals first | rfl | (exfalso; omega)
/-! ===== what kinds of things do ===== -/
theorem c_plG : OkC d 88 [.inr (.inr r), pI t, pI hm, pI pc, pI ex] G mi K = K (some (pI hm)) G mi := by
  rw [E88]
  simp (disch := first | assumption | exact isL_i | exact isL_r | exact isL_n | exact i01a | exact i01b | omega) only [K88_0, K88_1, wr_id, td_e, tm_e, pu_n, pu_s, up_s, up_k, up_a, ↓reduceIte, Int.reduceLT, Int.reduceLE, Int.reduceEq, Int.reduceNeg, Int.reduceAdd, Int.reduceSub, Int.reduceMul, Int.reduceMod, Int.reduceDiv, Int.cast_ofNat_Int, not_true_eq_false, not_false_eq_true, Int.reduceTDiv, Int.reduceTMod]
theorem c_plO (h0 : 0 ≤ hm) (h1 : hm ≤ 23) (ht : 0 ≤ t) (htt : t ≤ 20000) : OkC d 99 [.inr (.inr r), pI t, pI hm, pI pc, pI ex] G mi K = K (some (pI (hm / 6 * 6 + (hm % 6 + t) % 6))) G mi := by
  rw [E99]
  simp (disch := first | assumption | exact isL_i | exact isL_r | exact isL_n | exact i01a | exact i01b | omega) only [K99_0, K99_1, K99_3, K99_4, K99_6, K99_7, K99_9, K99_10, K99_12, K99_13, K99_14, K99_16, K99_17, K99_18, wr_id, td_e, tm_e, pu_n, pu_s, up_s, up_k, up_a, ↓reduceIte, Int.reduceLT, Int.reduceLE, Int.reduceEq, Int.reduceNeg, Int.reduceAdd, Int.reduceSub, Int.reduceMul, Int.reduceMod, Int.reduceDiv, Int.cast_ofNat_Int, not_true_eq_false, not_false_eq_true, Int.reduceTDiv, Int.reduceTMod]
  congr 3
  omega
theorem c_plB (h0 : 0 ≤ hm) (h1 : hm ≤ 23) (ht : 0 ≤ t) (htt : t ≤ 20000) (hp : 0 ≤ pc) (hp' : pc ≤ 9) : OkC d 95 [.inr (.inr r), pI t, pI hm, pI pc, pI ex] G mi K = K (some (pI ((hm + pc * t) % 24))) G mi := by
  obtain ⟨f1, f2⟩ := mulb hp hp' ht htt
  rw [E95]
  simp (disch := first | assumption | exact isL_i | exact isL_r | exact isL_n | exact i01a | exact i01b | omega) only [K95_0, K95_1, K95_2, K95_3, K95_4, K95_5, K95_7, K95_8, wr_id, td_e, tm_e, pu_n, pu_s, up_s, up_k, up_a, ↓reduceIte, Int.reduceLT, Int.reduceLE, Int.reduceEq, Int.reduceNeg, Int.reduceAdd, Int.reduceSub, Int.reduceMul, Int.reduceMod, Int.reduceDiv, Int.cast_ofNat_Int, not_true_eq_false, not_false_eq_true, Int.reduceTDiv, Int.reduceTMod]
theorem c_plP (hk : (gK G T).1 = 5) (h0 : 0 ≤ hm) (h1 : hm ≤ 23) (ht : 0 ≤ t) (htt : t ≤ 20000) : OkC (d + 1) 106 [pR (some T), pI t, pI hm, pI pc, pI ex] G mi K = K (some (pI (hm / 6 * 6 + (hm % 6 + t / 2) % 6))) G mi := by
  rw [E106]
  simp (disch := first | assumption | exact isL_i | exact isL_r | exact isL_n | exact i01a | exact i01b | omega) only [K106_0, K106_1, K106_2, K106_3, K106_4, K106_5, K106_6, K106_8, K106_11, wr_id, td_e, tm_e, pu_n, pu_s, up_s, up_k, up_a, ↓reduceIte, Int.reduceLT, Int.reduceLE, Int.reduceEq, Int.reduceNeg, Int.reduceAdd, Int.reduceSub, Int.reduceMul, Int.reduceMod, Int.reduceDiv, Int.cast_ofNat_Int, not_true_eq_false, not_false_eq_true, Int.reduceTDiv, Int.reduceTMod, c_plO]
theorem c_plD (hk : (gK G T).1 = 10) (h0 : 0 ≤ hm) (h1 : hm ≤ 23) (ht : 0 ≤ t) (htt : t ≤ 20000) (hp : 0 ≤ pc) (hp' : pc ≤ 9) (he : 0 ≤ ex) (he' : ex ≤ 9) : OkC (d + 1) 114 [pR (some T), pI t, pI hm, pI pc, pI ex] G mi K = K (some (pI ((hm + pc * t + ex) % 24))) G mi := by
  obtain ⟨f1, f2⟩ := mulb hp hp' ht htt
  rw [E114]
  simp (disch := first | assumption | exact isL_i | exact isL_r | exact isL_n | exact i01a | exact i01b | omega) only [K114_0, K114_1, K114_2, K114_3, K114_4, K114_6, K114_9, K114_11, K114_12, K114_14, K114_15, wr_id, td_e, tm_e, pu_n, pu_s, up_s, up_k, up_a, ↓reduceIte, Int.reduceLT, Int.reduceLE, Int.reduceEq, Int.reduceNeg, Int.reduceAdd, Int.reduceSub, Int.reduceMul, Int.reduceMod, Int.reduceDiv, Int.cast_ofNat_Int, not_true_eq_false, not_false_eq_true, Int.reduceTDiv, Int.reduceTMod, c_plB]
  congr 3
  omega
theorem c_dmG (h0 : 0 ≤ a) : OkC (d + 1) 89 [.inr (.inr r), pI a, pI b] G mi K = K (some (pI (if a / 6 < b then 1 else 0))) G mi := by
  rw [E89]
  simp (disch := first | assumption | exact isL_i | exact isL_r | exact isL_n | exact i01a | exact i01b | omega) only [K89_0, K89_1, K89_4, K89_5, K89_8, K89_9, K89_12, K89_13, wr_id, td_e, tm_e, pu_n, pu_s, up_s, up_k, up_a, ↓reduceIte, Int.reduceLT, Int.reduceLE, Int.reduceEq, Int.reduceNeg, Int.reduceAdd, Int.reduceSub, Int.reduceMul, Int.reduceMod, Int.reduceDiv, Int.cast_ofNat_Int, not_true_eq_false, not_false_eq_true, Int.reduceTDiv, Int.reduceTMod, c_rowOf]
  repeat' split
  all_goals first | rfl | (exfalso; omega)
theorem c_dmI : OkC d 110 [.inr (.inr r), pI a, pI b] G mi K = K (some (pI 0)) G mi := by
  rw [E110]
  simp (disch := first | assumption | exact isL_i | exact isL_r | exact isL_n | exact i01a | exact i01b | omega) only [K110_0, K110_1, wr_id, td_e, tm_e, pu_n, pu_s, up_s, up_k, up_a, ↓reduceIte, Int.reduceLT, Int.reduceLE, Int.reduceEq, Int.reduceNeg, Int.reduceAdd, Int.reduceSub, Int.reduceMul, Int.reduceMod, Int.reduceDiv, Int.cast_ofNat_Int, not_true_eq_false, not_false_eq_true, Int.reduceTDiv, Int.reduceTMod]
theorem c_woG (h0 : -14000 ≤ b) (h1 : b ≤ 14000) : OkC d 90 [.inr (.inr r), pI b, pI a] G mi K = K (some (pI (4 + b))) G mi := by
  rw [E90]
  simp (disch := first | assumption | exact isL_i | exact isL_r | exact isL_n | exact i01a | exact i01b | omega) only [K90_0, K90_1, K90_2, K90_3, wr_id, td_e, tm_e, pu_n, pu_s, up_s, up_k, up_a, ↓reduceIte, Int.reduceLT, Int.reduceLE, Int.reduceEq, Int.reduceNeg, Int.reduceAdd, Int.reduceSub, Int.reduceMul, Int.reduceMod, Int.reduceDiv, Int.cast_ofNat_Int, not_true_eq_false, not_false_eq_true, Int.reduceTDiv, Int.reduceTMod]
theorem c_woO (h0 : -14000 ≤ b) (h1 : b ≤ 14000) : OkC d 100 [.inr (.inr r), pI b, pI a] G mi K = K (some (pI (5 + b))) G mi := by
  rw [E100]
  simp (disch := first | assumption | exact isL_i | exact isL_r | exact isL_n | exact i01a | exact i01b | omega) only [K100_0, K100_1, K100_2, K100_3, wr_id, td_e, tm_e, pu_n, pu_s, up_s, up_k, up_a, ↓reduceIte, Int.reduceLT, Int.reduceLE, Int.reduceEq, Int.reduceNeg, Int.reduceAdd, Int.reduceSub, Int.reduceMul, Int.reduceMod, Int.reduceDiv, Int.cast_ofNat_Int, not_true_eq_false, not_false_eq_true, Int.reduceTDiv, Int.reduceTMod]
theorem c_woH (hk : (gK G T).1 = 3 ∨ (gK G T).1 = 6) (h0 : -14000 ≤ b) (h1 : b ≤ 14000) : OkC (d + 1) 103 [pR (some T), pI b, pI a] G mi K = K (some (pI ((4 + b).tdiv 2))) G mi := by
  rw [E103]
  rcases hk with hk | hk
  all_goals simp (disch := first | assumption | exact isL_i | exact isL_r | exact isL_n | exact i01a | exact i01b | omega) only [K103_0, K103_1, K103_2, K103_3c3, K103_3c6, K103_6, K103_7, K103_8, wr_id, td_e, tm_e, pu_n, pu_s, up_s, up_k, up_a, ↓reduceIte, Int.reduceLT, Int.reduceLE, Int.reduceEq, Int.reduceNeg, Int.reduceAdd, Int.reduceSub, Int.reduceMul, Int.reduceMod, Int.reduceDiv, Int.cast_ofNat_Int, not_true_eq_false, not_false_eq_true, Int.reduceTDiv, Int.reduceTMod, c_woG]
theorem c_woB (hk : thg (gK G T).1 = true) (hv : 0 ≤ mi T 2) (hv' : mi T 2 ≤ 9) (h0 : -14000 ≤ b) (h1 : b ≤ 14000) : OkC d 96 [pR (some T), pI b, pI a] G mi K = K (some (pI (b + mi T 2))) G mi := by
  rw [E96]
  simp (disch := first | assumption | exact isL_i | exact isL_r | exact isL_n | exact i01a | exact i01b | omega) only [K96_0, K96_1, K96_2, K96_5, K96_6, wr_id, td_e, tm_e, pu_n, pu_s, up_s, up_k, up_a, ↓reduceIte, Int.reduceLT, Int.reduceLE, Int.reduceEq, Int.reduceNeg, Int.reduceAdd, Int.reduceSub, Int.reduceMul, Int.reduceMod, Int.reduceDiv, Int.cast_ofNat_Int, not_true_eq_false, not_false_eq_true, Int.reduceTDiv, Int.reduceTMod]
theorem c_woP (hk : (gK G T).1 = 5) (ha : 0 ≤ a) (h0 : -14000 ≤ b) (h1 : b ≤ 14000) : OkC (d + 1) 107 [pR (some T), pI b, pI a] G mi K = K (some (pI ((5 + b) * (if a % 6 = 0 then 2 else 1)))) G mi := by
  rw [E107]
  by_cases h : a % 6 = 0
  · rw [if_pos h]
    simp (disch := first | assumption | exact isL_i | exact isL_r | exact isL_n | exact i01a | exact i01b | omega) only [K107_0, K107_1, K107_2, K107_3, K107_6, K107_7, K107_8, K107_11, K107_14, K107_15, K107_16, K107_17, K107_20, K107_21, wr_id, td_e, tm_e, pu_n, pu_s, up_s, up_k, up_a, ↓reduceIte, Int.reduceLT, Int.reduceLE, Int.reduceEq, Int.reduceNeg, Int.reduceAdd, Int.reduceSub, Int.reduceMul, Int.reduceMod, Int.reduceDiv, Int.cast_ofNat_Int, not_true_eq_false, not_false_eq_true, Int.reduceTDiv, Int.reduceTMod, c_woO, c_columnOf, if_pos, if_neg]
  · rw [if_neg h, Int.mul_one]
    simp (disch := first | assumption | exact isL_i | exact isL_r | exact isL_n | exact i01a | exact i01b | omega) only [K107_0, K107_1, K107_2, K107_3, K107_6, K107_7, K107_8, K107_11, K107_14, K107_15, K107_16, K107_17, K107_20, K107_21, wr_id, td_e, tm_e, pu_n, pu_s, up_s, up_k, up_a, ↓reduceIte, Int.reduceLT, Int.reduceLE, Int.reduceEq, Int.reduceNeg, Int.reduceAdd, Int.reduceSub, Int.reduceMul, Int.reduceMod, Int.reduceDiv, Int.cast_ofNat_Int, not_true_eq_false, not_false_eq_true, Int.reduceTDiv, Int.reduceTMod, c_woO, c_columnOf, if_pos, if_neg]
theorem c_woI (hk : (gK G T).1 = 6) (hv : 0 ≤ mi T 2) (hv' : mi T 2 ≤ 9) (h0 : -14000 ≤ b) (h1 : b ≤ 14000) : OkC (d + 2) 111 [pR (some T), pI b, pI a] G mi K = K (some (pI ((4 + b).tdiv 2 + mi T 2))) G mi := by
  have hk' : (gK G T).1 = 3 ∨ (gK G T).1 = 6 := Or.inr hk
  have hth : thg (gK G T).1 = true := by rw [hk]; rfl
  have hd := td2_bd (x := 4 + b) (by omega) (by omega)
  rw [E111]
  simp (disch := first | assumption | exact isL_i | exact isL_r | exact isL_n | exact i01a | exact i01b | omega) only [K111_0, K111_1, K111_2, K111_3, K111_6, K111_7, K111_10, K111_11, wr_id, td_e, tm_e, pu_n, pu_s, up_s, up_k, up_a, ↓reduceIte, Int.reduceLT, Int.reduceLE, Int.reduceEq, Int.reduceNeg, Int.reduceAdd, Int.reduceSub, Int.reduceMul, Int.reduceMod, Int.reduceDiv, Int.cast_ofNat_Int, not_true_eq_false, not_false_eq_true, Int.reduceTDiv, Int.reduceTMod, c_woH]
theorem c_woD (hk : (gK G T).1 = 10) (hv : 0 ≤ mi T 2) (hv' : mi T 2 ≤ 9) (h0 : -14000 ≤ b) (h1 : b ≤ 14000) : OkC (d + 2) 115 [pR (some T), pI b, pI a] G mi K = K (some (pI (b + mi T 2 + 1))) G mi := by
  have hth : thg (gK G T).1 = true := by rw [hk]; rfl
  rw [E115]
  simp (disch := first | assumption | exact isL_i | exact isL_r | exact isL_n | exact i01a | exact i01b | omega) only [K115_0, K115_1, K115_2, K115_3, K115_6, K115_7, K115_8, wr_id, td_e, tm_e, pu_n, pu_s, up_s, up_k, up_a, ↓reduceIte, Int.reduceLT, Int.reduceLE, Int.reduceEq, Int.reduceNeg, Int.reduceAdd, Int.reduceSub, Int.reduceMul, Int.reduceMod, Int.reduceDiv, Int.cast_ofNat_Int, not_true_eq_false, not_false_eq_true, Int.reduceTDiv, Int.reduceTMod, c_woB]
end CL
