/-! ===== the class reads a view ===== -/
theorem gk_sr {G : Gh} {o a : Nat} {j : Int} {v : Option Nat} : gK (setR G o j v) a = gK G a := rfl
theorem gn_sr {G : Gh} {o : Nat} {j : Int} {v : Option Nat} : gN (setR G o j v) = gN G := rfl
theorem gn_ng {G : Gh} {kd : Nat × Nat} {sl : Nat} : gN (newG G kd sl) = gN G + 1 := rfl
theorem gs_sr {G : Gh} {o : Nat} {j : Int} {v : Option Nat} : gS (setR G o j v) = gS G := rfl
theorem gs_ng {G : Gh} {kd : Nat × Nat} {sl : Nat} : gS (newG G kd sl) = gS G + sl := rfl
theorem ng_s' {G : Gh} {kd : Nat × Nat} {sl a : Nat} (h : a ≤ gN G) (h' : gN G ≤ a) : gK (newG G kd sl) a = kd := if_pos (Nat.le_antisymm h h')
theorem nw_s' {G : Gh} {mi : Mi} {a : Nat} (h : a ≤ gN G) (h' : gN G ≤ a) : newM G mi a = fun _ => 0 := by
  funext j; exact if_pos (Nat.le_antisymm h h')
theorem nr_s {G : Gh} {kd : Nat × Nat} {sl a : Nat} {j : Int} (h : a ≤ gN G) (h' : gN G ≤ a) : gR (newG G kd sl) a j = none := if_pos (Nat.le_antisymm h h')
theorem sr_s' {G : Gh} {o a : Nat} {i j : Int} {v : Option Nat} (h : ¬ ¬ a = o) (h' : ¬ ¬ i = j) : gR (setR G o j v) a i = v := if_pos ⟨Classical.not_not.mp h, Classical.not_not.mp h'⟩
def vwB (x : Int × Option (List Cl)) : Int := match x with
  | (j, none) => j
  | (_, some _) => -1
section CL
variable {d : Nat} {G : Gh} {mi mi' mi'' : Mi} {K : Option PV → Gh → Mi → Prop} {V Sg : Nat} {p t v a b c k n g q e i j op x r : Int} {h : Int → Int} {s : Int → Int} {u w : Nat} {cs : List Cl}
theorem c_rdf_end (hV : ShV G V Sg e) (hS : SgF h e) (hs : StC h V Sg e j mi) (h0 : 0 ≤ j) {x1 x2 : Option PV} : Ok (d + 414) 118 37 [some (pR (some V)), x1, x2] [] G mi K = K (some (pI (if h j = -1 then -1 else j))) G mi := by
  obtain ⟨⟨kV, ⟨kA, lA⟩, ⟨kB, lB⟩, ⟨kE, lE⟩, v3, v5, v6⟩, v8, kSg, lSg, ⟨nS0, nS1, nS2, nS3⟩⟩ := id hV
  have h9 := hs.1
  simp (disch := first | assumption | exact isL_i | exact isL_r | exact isL_n | exact i01a | exact i01b | omega) only [K118_37, wr_id, td_e, tm_e, pu_n, pu_s, up_s, up_k, up_a, ↓reduceIte, Int.reduceLT, Int.reduceLE, Int.reduceEq, Int.reduceNeg, Int.reduceAdd, Int.reduceSub, Int.reduceMul, Int.reduceMod, Int.reduceDiv, Int.cast_ofNat_Int, not_true_eq_false, not_false_eq_true, Int.reduceTDiv, Int.reduceTMod]
  rw [K118_38 kV, c_next (d := d + 413) hV hS hs h0]
  by_cases c : h j = -1
  · rw [if_pos c]
    simp (disch := first | assumption | exact isL_i | exact isL_r | exact isL_n | exact i01a | exact i01b | omega) only [K118_41, K118_42, K118_45, K118_46, K118_49, K118_50, K118_53, wr_id, td_e, tm_e, pu_n, pu_s, up_s, up_k, up_a, ↓reduceIte, Int.reduceLT, Int.reduceLE, Int.reduceEq, Int.reduceNeg, Int.reduceAdd, Int.reduceSub, Int.reduceMul, Int.reduceMod, Int.reduceDiv, Int.cast_ofNat_Int, not_true_eq_false, not_false_eq_true, Int.reduceTDiv, Int.reduceTMod, c, if_pos, if_neg]
  · rw [if_neg c]
    simp (disch := first | assumption | exact isL_i | exact isL_r | exact isL_n | exact i01a | exact i01b | omega) only [K118_41, K118_42, K118_45, K118_46, K118_49, K118_50, K118_53, wr_id, td_e, tm_e, pu_n, pu_s, up_s, up_k, up_a, ↓reduceIte, Int.reduceLT, Int.reduceLE, Int.reduceEq, Int.reduceNeg, Int.reduceAdd, Int.reduceSub, Int.reduceMul, Int.reduceMod, Int.reduceDiv, Int.cast_ofNat_Int, not_true_eq_false, not_false_eq_true, Int.reduceTDiv, Int.reduceTMod, h9, if_pos, if_neg]
theorem c_rdf_lp (hV : ShV G V Sg e) (hS : SgF h e) (he : e ≤ 100) {x1 : Option PV} (hx1 : isL x1 = false) : ∀ (m : Nat) (mi : Mi) (j : Int) (cs : List Cl), m ≤ 9 → 0 ≤ j → j ≤ e → StC h V Sg e j mi → CI V cs mi → cs.length + m ≤ 10 →
    (∀ mi', Sc [V, V + 1, V + 2, V + 3] mi mi' → (∀ cs', (vwL h m j cs).2 = some cs' → CI V cs' mi') → K (some (pI (vwB (vwL h m j cs)))) G mi') →
    Ok (d + 414) 118 19 [some (pR (some V)), x1, some (pI (9 - m))] [] G mi K := by
  obtain ⟨⟨kV, ⟨kA, lA⟩, ⟨kB, lB⟩, ⟨kE, lE⟩, v3, v5, v6⟩, v8, kSg, lSg, ⟨nS0, nS1, nS2, nS3⟩⟩ := id hV
  intro m
  have eE : ∀ (j : Int) (cs : List Cl) (mi : Mi), CI V cs mi → (∀ mi', Sc [V, V + 1, V + 2, V + 3] mi mi' → (∀ cs', (if h j = -1 then ((j, some cs) : Int × Option (List Cl)) else (j, none)).2 = some cs' → CI V cs' mi') → K (some (pI (vwB (if h j = -1 then (j, some cs) else (j, none))))) G mi') → K (some (pI (if h j = -1 then -1 else j))) G mi := by
    intro j cs mi hc hK
    have := hK mi Sc.rf
    by_cases c : h j = -1
    · simp only [if_pos c] at this ⊢
      exact this (fun cs' hcs => by
        have := Option.some.inj hcs
        subst this
        exact hc)
    · simp only [if_neg c] at this ⊢
      exact this (fun cs' hcs => by cases hcs)
  induction m with
  | zero =>
    intro mi j cs hm h0 hj hs hc hl hK
    simp only [vwL] at hK
    simp (disch := first | assumption | exact isL_i | exact isL_r | exact isL_n | exact i01a | exact i01b | omega) only [K118_19, K118_22, K118_23, K118_25, wr_id, td_e, tm_e, pu_n, pu_s, up_s, up_k, up_a, ↓reduceIte, Int.reduceLT, Int.reduceLE, Int.reduceEq, Int.reduceNeg, Int.reduceAdd, Int.reduceSub, Int.reduceMul, Int.reduceMod, Int.reduceDiv, Int.cast_ofNat_Int, not_true_eq_false, not_false_eq_true, Int.reduceTDiv, Int.reduceTMod, if_pos, if_neg]
    rw [c_rdf_end hV hS hs h0]
    exact eE j cs mi hc hK
  | succ m ih =>
    intro mi j cs hm h0 hj hs hc hl hK
    simp only [vwL] at hK
    simp (disch := first | assumption | exact isL_i | exact isL_r | exact isL_n | exact i01a | exact i01b | omega) only [K118_19, K118_22, K118_23, K118_25, K118_28, K118_29, wr_id, td_e, tm_e, pu_n, pu_s, up_s, up_k, up_a, ↓reduceIte, Int.reduceLT, Int.reduceLE, Int.reduceEq, Int.reduceNeg, Int.reduceAdd, Int.reduceSub, Int.reduceMul, Int.reduceMod, Int.reduceDiv, Int.cast_ofNat_Int, not_true_eq_false, not_false_eq_true, Int.reduceTDiv, Int.reduceTMod, if_pos, if_neg]
    rw [K118_31 kV, c_take (d := d + 412) hV hS hs h0 (by omega)]
    by_cases c : h j = 59
    · rw [if_pos c] at hK ⊢
      have hie := sg_lt (i := j) hS (by omega)
      have hs1 : StC h V Sg e (j + 1) (up mi V 9 (j + 1)) := hs.pp hV (by omega)
      obtain ⟨p1, p2⟩ := clF_p (i := j + 1) hS he (by omega) (by omega)
      simp (disch := first | assumption | exact isL_i | exact isL_r | exact isL_n | exact i01a | exact i01b | omega) only [K118_34, K118_7, wr_id, td_e, tm_e, pu_n, pu_s, up_s, up_k, up_a, ↓reduceIte, Int.reduceLT, Int.reduceLE, Int.reduceEq, Int.reduceNeg, Int.reduceAdd, Int.reduceSub, Int.reduceMul, Int.reduceMod, Int.reduceDiv, Int.cast_ofNat_Int, not_true_eq_false, not_false_eq_true, Int.reduceTDiv, Int.reduceTMod, if_pos, if_neg]
      rw [K118_8 kV]
      refine c_clause (d := d) hV hS he hs1 hc.mv (by omega) (by omega) (by omega) fun m2 hsc h9 hcc => ?_
      have hsc1 : Sc [V, V + 1, V + 2, V + 3] mi m2 := (sc_up (by simp)).tr hsc
      rcases hcl : clF h (j + 1) with ⟨k, _ | cl⟩
      · rw [hcl] at h9 hK
        dsimp only at h9 hK
        simp (disch := first | assumption | exact isL_i | exact isL_r | exact isL_n | exact i01a | exact i01b | omega) only [K118_11, K118_14, K118_15, K118_18, wr_id, td_e, tm_e, pu_n, pu_s, up_s, up_k, up_a, ↓reduceIte, Int.reduceLT, Int.reduceLE, Int.reduceEq, Int.reduceNeg, Int.reduceAdd, Int.reduceSub, Int.reduceMul, Int.reduceMod, Int.reduceDiv, Int.cast_ofNat_Int, not_true_eq_false, not_false_eq_true, Int.reduceTDiv, Int.reduceTMod, pu_s, okK, h9, if_pos, if_neg]
        exact hK m2 hsc1 (fun cs' hcs => by cases hcs)
      · rw [hcl] at h9 hK hcc p1
        obtain ⟨g1, g2⟩ := hcc cl rfl
        dsimp only at h9 hK g2 p1
        simp (disch := first | assumption | exact isL_i | exact isL_r | exact isL_n | exact i01a | exact i01b | omega) only [K118_11, wr_id, td_e, tm_e, pu_n, pu_s, up_s, up_k, up_a, ↓reduceIte, Int.reduceLT, Int.reduceLE, Int.reduceEq, Int.reduceNeg, Int.reduceAdd, Int.reduceSub, Int.reduceMul, Int.reduceMod, Int.reduceDiv, Int.cast_ofNat_Int, not_true_eq_false, not_false_eq_true, Int.reduceTDiv, Int.reduceTMod, pu_s, okK, if_pos, if_neg]
        have J := ih m2 k (cs ++ [cl]) (by omega) (by omega) p1.2 g2 g1 (by rw [List.length_append, List.length_singleton]; omega) (fun mi' hs' hx => hK mi' (hsc1.tr hs') hx)
        rw [show (9 : Int) - ((m + 1 : Nat) : Int) + 1 = 9 - (m : Int) by omega]
        exact J
    · rw [if_neg c] at hK ⊢
      simp (disch := first | assumption | exact isL_i | exact isL_r | exact isL_n | exact i01a | exact i01b | omega) only [K118_34, wr_id, td_e, tm_e, pu_n, pu_s, up_s, up_k, up_a, ↓reduceIte, Int.reduceLT, Int.reduceLE, Int.reduceEq, Int.reduceNeg, Int.reduceAdd, Int.reduceSub, Int.reduceMul, Int.reduceMod, Int.reduceDiv, Int.cast_ofNat_Int, not_true_eq_false, not_false_eq_true, Int.reduceTDiv, Int.reduceTMod, if_pos, if_neg]
      rw [c_rdf_end hV hS hs h0]
      exact eE j cs mi hc hK
theorem c_readFrom (hV : ShV (setR G V 8 (some Sg)) V Sg e) (hS : SgF h e) (he0 : 0 ≤ e) (he : e ≤ 100) (hs : StC h V Sg e 0 mi) (hc : CI V [] mi)
    (hK : ∀ mi', Sc [V, V + 1, V + 2, V + 3] mi mi' → (∀ cs', (vwF h).2 = some cs' → CI V cs' mi') → K (some (pI (vwB (vwF h)))) (setR G V 8 (some Sg)) mi') :
    OkC (d + 414) 118 [pR (some V), pR (some Sg)] G mi K := by
  have hV' := hV
  obtain ⟨⟨kV, ⟨kA, lA⟩, ⟨kB, lB⟩, ⟨kE, lE⟩, v3, v5, v6⟩, v8, kSg, lSg, ⟨nS0, nS1, nS2, nS3⟩⟩ := id hV
  have kV0 : (gK G V).1 = 11 := kV
  obtain ⟨p1, p2⟩ := clF_p (i := 0) hS he (Int.le_refl _) he0
  rw [E118]
  simp (disch := first | assumption | exact isL_i | exact isL_r | exact isL_n | exact i01a | exact i01b | omega) only [K118_0, K118_1, K118_2, K118_5, K118_6, K118_7, wr_id, td_e, tm_e, pu_n, pu_s, up_s, up_k, up_a, ↓reduceIte, Int.reduceLT, Int.reduceLE, Int.reduceEq, Int.reduceNeg, Int.reduceAdd, Int.reduceSub, Int.reduceMul, Int.reduceMod, Int.reduceDiv, Int.cast_ofNat_Int, not_true_eq_false, not_false_eq_true, Int.reduceTDiv, Int.reduceTMod]
  rw [K118_8 kV]
  refine c_clause (d := d) (cs := []) hV' hS he hs hc (by decide) (Int.le_refl _) he0 fun m2 hsc h9 hcc => ?_
  unfold vwF at hK
  rcases hcl : clF h 0 with ⟨k, _ | cl⟩
  · rw [hcl] at h9 hK
    dsimp only at h9 hK
    simp (disch := first | assumption | exact isL_i | exact isL_r | exact isL_n | exact i01a | exact i01b | omega) only [K118_11, K118_14, K118_15, K118_18, wr_id, td_e, tm_e, pu_n, pu_s, up_s, up_k, up_a, ↓reduceIte, Int.reduceLT, Int.reduceLE, Int.reduceEq, Int.reduceNeg, Int.reduceAdd, Int.reduceSub, Int.reduceMul, Int.reduceMod, Int.reduceDiv, Int.cast_ofNat_Int, not_true_eq_false, not_false_eq_true, Int.reduceTDiv, Int.reduceTMod, pu_s, okK, h9, if_pos, if_neg]
    exact hK m2 hsc (fun cs' hcs => by cases hcs)
  · rw [hcl] at h9 hK hcc p1
    obtain ⟨g1, g2⟩ := hcc cl rfl
    dsimp only at h9 hK g2 p1
    simp (disch := first | assumption | exact isL_i | exact isL_r | exact isL_n | exact i01a | exact i01b | omega) only [K118_11, wr_id, td_e, tm_e, pu_n, pu_s, up_s, up_k, up_a, ↓reduceIte, Int.reduceLT, Int.reduceLE, Int.reduceEq, Int.reduceNeg, Int.reduceAdd, Int.reduceSub, Int.reduceMul, Int.reduceMod, Int.reduceDiv, Int.cast_ofNat_Int, not_true_eq_false, not_false_eq_true, Int.reduceTDiv, Int.reduceTMod, pu_s, okK, if_pos, if_neg]
    exact c_rdf_lp (d := d) (x1 := some (pR (some Sg))) hV' hS he isL_r 9 m2 k [cl] (by decide) p1.1 p1.2 g2 g1 (by simp) (fun mi' hs' hx => hK mi' (hsc.tr hs') hx)
/-- the tape's signs, in a new row -/
theorem c_firstColumn_lp {o : Nat} (hk : (gK G 2).1 = 8) (hr : gR G 2 2 = some 3) (hk3 : (gK G 3).1 = 20) (hl3 : (gK G 3).2 = 100) (hko : (gK G o).1 = 20) (hlo : (gK G o).2 = e.toNat) (ho : 4 ≤ o) (he0 : 0 ≤ e) (he : e ≤ 100) {mi0 : Mi} (t0 : mi0 2 0 = 1) (t1 : mi0 2 1 = 100) (t3 : mi0 2 3 = e)
    (hK : ∀ mi', (∀ a : Nat, ¬ a = o → mi' a = mi0 a) → (∀ j : Int, 0 ≤ j → j < e → mi' o j = mi0 3 j) → K (some (pR (some o))) G mi') : ∀ (m : Nat) (mi : Mi) (r : Int), r + m = e → 0 ≤ r → (∀ a : Nat, ¬ a = o → mi a = mi0 a) → (∀ j : Int, 0 ≤ j → j < r → mi o j = mi0 3 j) →
    Ok (d + 1) 85 16 [some (pR (some 2)), some (pR (some o)), some (pI r)] [] G mi K := by
  have hk20 : 20 ≤ (gK G o).1 := by omega
  have hlo' : ((gK G o).2 : Int) = e := by omega
  intro m
  induction m with
  | zero =>
    intro mi r hm h0 hf hj
    rw [K85_16]
    simp (disch := first | assumption | exact isL_i | exact isL_r | exact isL_n | exact i01a | exact i01b | omega) only [K85_17, K85_18, K85_19, K85_37, K85_38, wr_id, td_e, tm_e, pu_n, pu_s, up_s, up_k, up_a, ↓reduceIte, Int.reduceLT, Int.reduceLE, Int.reduceEq, Int.reduceNeg, Int.reduceAdd, Int.reduceSub, Int.reduceMul, Int.reduceMod, Int.reduceDiv, Int.cast_ofNat_Int, not_true_eq_false, not_false_eq_true, Int.reduceTDiv, Int.reduceTMod, hlo', if_pos, if_neg]
    exact hK mi hf (fun j j0 j1 => hj j j0 (by omega))
  | succ m ih =>
    intro mi r hm h0 hf hj
    have e2 : mi 2 = mi0 2 := hf 2 (by omega)
    have e3 : mi 3 = mi0 3 := hf 3 (by omega)
    rw [K85_16]
    simp (disch := first | assumption | exact isL_i | exact isL_r | exact isL_n | exact i01a | exact i01b | omega) only [K85_17, K85_18, K85_19, K85_22, K85_23, K85_24, K85_25, K85_26, wr_id, td_e, tm_e, pu_n, pu_s, up_s, up_k, up_a, ↓reduceIte, Int.reduceLT, Int.reduceLE, Int.reduceEq, Int.reduceNeg, Int.reduceAdd, Int.reduceSub, Int.reduceMul, Int.reduceMod, Int.reduceDiv, Int.cast_ofNat_Int, not_true_eq_false, not_false_eq_true, Int.reduceTDiv, Int.reduceTMod, hlo', if_pos, if_neg]
    rw [K85_27 hk, t_get (o := 2) (o' := 3) hk hr hk3 (by rw [e2]; omega) (by rw [e2]; omega) (by rw [e2]; omega) (by rw [e2]; omega) (by rw [e2]; omega) (by rw [e2, t0, t1]; omega) (by decide) (by rw [e2]; omega), e2, t0, t3, Int.mul_one, Int.add_zero, if_pos ⟨h0, by omega⟩, e3]
    simp (disch := first | assumption | exact isL_i | exact isL_r | exact isL_n | exact i01a | exact i01b | omega) only [K85_30, K85_31, K85_34, wr_id, td_e, tm_e, pu_n, pu_s, up_s, up_k, up_a, ↓reduceIte, Int.reduceLT, Int.reduceLE, Int.reduceEq, Int.reduceNeg, Int.reduceAdd, Int.reduceSub, Int.reduceMul, Int.reduceMod, Int.reduceDiv, Int.cast_ofNat_Int, not_true_eq_false, not_false_eq_true, Int.reduceTDiv, Int.reduceTMod, pu_s]
    refine ih _ (r + 1) (by omega) (by omega) (fun a ha => by rw [up_a ha]; exact hf a ha) (fun j j0 j1 => ?_)
    by_cases e : j = r
    · subst e; exact up_s
    · rw [up_k e]; exact hj j j0 (by omega)
theorem c_firstColumn (hN : 55 ≤ gN G) (hk : (gK G 2).1 = 8) (hr : gR G 2 2 = some 3) (hk3 : (gK G 3).1 = 20) (hl3 : (gK G 3).2 = 100) (he0 : 0 ≤ e) (he : e ≤ 100) (t0 : mi 2 0 = 1) (t1 : mi 2 1 = 100) (t3 : mi 2 3 = e)
    (hK : ∀ mi', (∀ a : Nat, ¬ a = gN G → mi' a = mi a) → (∀ j : Int, 0 ≤ j → j < e → mi' (gN G) j = mi 3 j) → K (some (pR (some (gN G)))) (newG G (20, e.toNat) e.toNat) mi') : OkC (d + 1) 85 [pR (some 2)] G mi K := by
  rw [E85]
  simp (disch := first | assumption | exact isL_i | exact isL_r | exact isL_n | exact i01a | exact i01b | omega) only [K85_0, K85_1, K85_4, K85_5, K85_8, K85_11, K85_13, K85_14, K85_15, wr_id, td_e, tm_e, pu_n, pu_s, up_s, up_k, up_a, ↓reduceIte, Int.reduceLT, Int.reduceLE, Int.reduceEq, Int.reduceNeg, Int.reduceAdd, Int.reduceSub, Int.reduceMul, Int.reduceMod, Int.reduceDiv, Int.cast_ofNat_Int, not_true_eq_false, not_false_eq_true, Int.reduceTDiv, Int.reduceTMod, t1, t3, if_pos, if_neg]
  have n2 : ¬ 2 = gN G := by omega
  have n3 : ¬ 3 = gN G := by omega
  have hm : ∀ a : Nat, ¬ a = gN G → newM G mi a = mi a := fun a ha => nw_k ha
  refine c_firstColumn_lp (G := newG G (20, e.toNat) e.toNat) (mi0 := newM G mi) (e := e) (by rw [ng_k n2]; exact hk) (by rw [ng_r n2]; exact hr) (by rw [ng_k n3]; exact hk3) (by rw [ng_k n3]; exact hl3) (by rw [ng_s]) (by rw [ng_s]) (by omega) he0 he (by rw [hm 2 n2]; exact t0) (by rw [hm 2 n2]; exact t1) (by rw [hm 2 n2]; exact t3) (fun mi' h1 h2 => hK mi' (fun a ha => (h1 a ha).trans (hm a ha)) (fun j j0 j1 => by rw [h2 j j0 j1, hm 3 n3])) e.toNat _ 0 (by omega) (Int.le_refl _) (fun _ _ => rfl) (fun j j0 j1 => absurd j1 (by omega))
/-- a new view's cells -/
def VIn (G G' : Gh) (V : Nat) : Prop := (gN G' = gN G + 4 ∧ gS G' = gS G + 120 ∧ gL G' = gL G ∧ gX G' = gX G) ∧ (∀ a : Nat, a < gN G → gK G' a = gK G a) ∧ (∀ (a : Nat) (j : Int), a < gN G → ¬ a = V → gR G' a j = gR G a j) ∧ (gK G' (gN G) = (20, 100) ∧ gK G' (gN G + 1) = (20, 10) ∧ gK G' (gN G + 2) = (20, 10) ∧ gK G' (gN G + 3) = (20, 0)) ∧ gR G' V 3 = some (gN G) ∧ gR G' V 5 = some (gN G + 1) ∧ gR G' V 6 = some (gN G + 2)
-- #def DG (disch := first | assumption | exact isL_i | exact isL_r | exact isL_n | omega | (simp (disch := first | omega | (simp only [gn_ng, gn_sr]; first | done | omega)) only [gk_sr, ng_k, ng_s', gn_ng, gn_sr]; first | done | assumption | omega))
-- #def GL gk_sr, ng_k, ng_s', nw_k, nw_s', ng_r, nr_s, sr_s', sr_ri, sr_ra, gn_ng, gn_sr, gs_ng, gs_sr, up_a, up_s, up_k
-- #def DK (disch := first | omega | (simp only [gn_ng, gn_sr]; first | done | omega))
theorem c_vinit (hk : (gK G V).1 = 11) (hV : V < gN G)
    (hK : ∀ G' mi', VIn G G' V → (∀ a : Nat, a < gN G → ¬ a = V → mi' a = mi a) → (∀ a : Nat, gN G ≤ a → a < gN G + 4 → ∀ j : Int, mi' a j = 0) → (mi' V 0 = 8 ∧ mi' V 1 = 0 ∧ mi' V 2 = 0 ∧ mi' V 4 = 0 ∧ mi' V 7 = 0 ∧ mi' V 9 = 0) → K none G' mi') : OkC (d + 1) 117 [pR (some V)] G mi K := by
  rw [E117]
  simp (disch := first | assumption | exact isL_i | exact isL_r | exact isL_n | omega | (simp (disch := first | omega | (simp only [gn_ng, gn_sr]; first | done | omega)) only [gk_sr, ng_k, ng_s', gn_ng, gn_sr]; first | done | assumption | omega)) only [K117_0, K117_1, K117_4, K117_5, K117_7, K117_10, K117_11, K117_12, K117_15, K117_16, K117_17, K117_20, K117_21, K117_23, K117_25, K117_28, K117_29, K117_30, K117_33, K117_34, K117_36, K117_38, K117_41, K117_42, K117_44, K117_46, K117_49, K117_50, K117_51, K117_54, K117_55, K117_56, K117_58, K117_61, K117_62, K117_63, K117_66, wr_id, td_e, tm_e, pu_n, pu_s, up_s, up_k, up_a, ↓reduceIte, Int.reduceLT, Int.reduceLE, Int.reduceEq, Int.reduceNeg, Int.reduceAdd, Int.reduceSub, Int.reduceMul, Int.reduceMod, Int.reduceDiv, Int.cast_ofNat_Int, not_true_eq_false, not_false_eq_true, Int.reduceTDiv, Int.reduceTMod]
  refine hK _ _ ⟨⟨rfl, rfl, rfl, rfl⟩, fun a ha => ?_, fun a j ha hv => ?_, ⟨?_, ?_, ?_, ?_⟩, ?_, ?_, ?_⟩ (fun a ha hv => ?_) (fun a a0 a1 j => ?_) ⟨?_, ?_, ?_, ?_, ?_, ?_⟩
  · simp (disch := first | omega | (simp only [gn_ng, gn_sr]; first | done | omega)) only [gk_sr, ng_k, ng_s', nw_k, nw_s', ng_r, nr_s, sr_s', sr_ri, sr_ra, gn_ng, gn_sr, gs_ng, gs_sr, up_a, up_s, up_k]
  · simp (disch := first | omega | (simp only [gn_ng, gn_sr]; first | done | omega)) only [gk_sr, ng_k, ng_s', nw_k, nw_s', ng_r, nr_s, sr_s', sr_ri, sr_ra, gn_ng, gn_sr, gs_ng, gs_sr, up_a, up_s, up_k]
  · simp (disch := first | omega | (simp only [gn_ng, gn_sr]; first | done | omega)) only [gk_sr, ng_k, ng_s', nw_k, nw_s', ng_r, nr_s, sr_s', sr_ri, sr_ra, gn_ng, gn_sr, gs_ng, gs_sr, up_a, up_s, up_k]; rfl
  · simp (disch := first | omega | (simp only [gn_ng, gn_sr]; first | done | omega)) only [gk_sr, ng_k, ng_s', nw_k, nw_s', ng_r, nr_s, sr_s', sr_ri, sr_ra, gn_ng, gn_sr, gs_ng, gs_sr, up_a, up_s, up_k]; rfl
  · simp (disch := first | omega | (simp only [gn_ng, gn_sr]; first | done | omega)) only [gk_sr, ng_k, ng_s', nw_k, nw_s', ng_r, nr_s, sr_s', sr_ri, sr_ra, gn_ng, gn_sr, gs_ng, gs_sr, up_a, up_s, up_k]; rfl
  · simp (disch := first | omega | (simp only [gn_ng, gn_sr]; first | done | omega)) only [gk_sr, ng_k, ng_s', nw_k, nw_s', ng_r, nr_s, sr_s', sr_ri, sr_ra, gn_ng, gn_sr, gs_ng, gs_sr, up_a, up_s, up_k]; rfl
  · simp (disch := first | omega | (simp only [gn_ng, gn_sr]; first | done | omega)) only [gk_sr, ng_k, ng_s', nw_k, nw_s', ng_r, nr_s, sr_s', sr_ri, sr_ra, gn_ng, gn_sr, gs_ng, gs_sr, up_a, up_s, up_k]
  · simp (disch := first | omega | (simp only [gn_ng, gn_sr]; first | done | omega)) only [gk_sr, ng_k, ng_s', nw_k, nw_s', ng_r, nr_s, sr_s', sr_ri, sr_ra, gn_ng, gn_sr, gs_ng, gs_sr, up_a, up_s, up_k]
  · simp (disch := first | omega | (simp only [gn_ng, gn_sr]; first | done | omega)) only [gk_sr, ng_k, ng_s', nw_k, nw_s', ng_r, nr_s, sr_s', sr_ri, sr_ra, gn_ng, gn_sr, gs_ng, gs_sr, up_a, up_s, up_k]
  · simp (disch := first | omega | (simp only [gn_ng, gn_sr]; first | done | omega)) only [gk_sr, ng_k, ng_s', nw_k, nw_s', ng_r, nr_s, sr_s', sr_ri, sr_ra, gn_ng, gn_sr, gs_ng, gs_sr, up_a, up_s, up_k]
  · have h4 : a = gN G ∨ a = gN G + 1 ∨ a = gN G + 2 ∨ a = gN G + 3 := by omega
    rcases h4 with rfl | rfl | rfl | rfl
    all_goals simp (disch := first | omega | (simp only [gn_ng, gn_sr]; first | done | omega)) only [gk_sr, ng_k, ng_s', nw_k, nw_s', ng_r, nr_s, sr_s', sr_ri, sr_ra, gn_ng, gn_sr, gs_ng, gs_sr, up_a, up_s, up_k]
  · simp (disch := first | omega | (simp only [gn_ng, gn_sr]; first | done | omega)) only [gk_sr, ng_k, ng_s', nw_k, nw_s', ng_r, nr_s, sr_s', sr_ri, sr_ra, gn_ng, gn_sr, gs_ng, gs_sr, up_a, up_s, up_k]
  · simp (disch := first | omega | (simp only [gn_ng, gn_sr]; first | done | omega)) only [gk_sr, ng_k, ng_s', nw_k, nw_s', ng_r, nr_s, sr_s', sr_ri, sr_ra, gn_ng, gn_sr, gs_ng, gs_sr, up_a, up_s, up_k]
  · simp (disch := first | omega | (simp only [gn_ng, gn_sr]; first | done | omega)) only [gk_sr, ng_k, ng_s', nw_k, nw_s', ng_r, nr_s, sr_s', sr_ri, sr_ra, gn_ng, gn_sr, gs_ng, gs_sr, up_a, up_s, up_k]
  · simp (disch := first | omega | (simp only [gn_ng, gn_sr]; first | done | omega)) only [gk_sr, ng_k, ng_s', nw_k, nw_s', ng_r, nr_s, sr_s', sr_ri, sr_ra, gn_ng, gn_sr, gs_ng, gs_sr, up_a, up_s, up_k]
  · simp (disch := first | omega | (simp only [gn_ng, gn_sr]; first | done | omega)) only [gk_sr, ng_k, ng_s', nw_k, nw_s', ng_r, nr_s, sr_s', sr_ri, sr_ra, gn_ng, gn_sr, gs_ng, gs_sr, up_a, up_s, up_k]
  · simp (disch := first | omega | (simp only [gn_ng, gn_sr]; first | done | omega)) only [gk_sr, ng_k, ng_s', nw_k, nw_s', ng_r, nr_s, sr_s', sr_ri, sr_ra, gn_ng, gn_sr, gs_ng, gs_sr, up_a, up_s, up_k]
end CL
