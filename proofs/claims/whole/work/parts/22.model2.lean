/-! ===== bounds; the numbers above place 7 alone decide ===== -/
-- #def DJ (disch := first | assumption | exact isL_i | exact isL_r | exact isL_n | exact i01a | exact i01b | omega | (simp (disch := decide) only [up_a, up_s, up_k]; first | assumption | omega))
theorem seg_len {s : Int → Int} : ∀ (n : Nat) (a : Int), (seg s a n).length = n := by
  intro n
  induction n with
  | zero => intro a; rfl
  | succ n ih => intro a; simp only [seg, List.length_cons, ih]
theorem evS_bd {fb : Int → Int} : ∀ (xs : List Int) (k : Nat) (st : List Bool) (a : Int), wfS xs k → a - 100 * xs.length ≤ evS fb xs st a ∧ evS fb xs st a ≤ a + 100 * xs.length := by
  intro xs
  induction xs with
  | nil => intro k st a _; simp only [evS, List.length_nil]; omega
  | cons x r ih =>
    intro k st a h
    simp only [wfS] at h
    obtain ⟨-, h⟩ := h
    have hw : ∃ k', wfS r k' ∧ (x ≤ -10 → -109 ≤ x ∨ -299 ≤ x ∧ x ≤ -200) := by
      by_cases h0 : 0 ≤ x
      · rw [if_pos h0] at h; exact ⟨_, h.2.2.2, by omega⟩
      · rw [if_neg h0] at h
        by_cases h1 : x = -1
        · rw [if_pos h1] at h; exact ⟨_, h.2, by omega⟩
        · rw [if_neg h1] at h
          by_cases h2 : -10 < x
          · rw [if_pos h2] at h; exact ⟨_, h.2.2, by omega⟩
          · rw [if_neg h2] at h; exact ⟨_, h.2.2, fun _ => h.2.1⟩
    obtain ⟨k', hr, hb⟩ := hw
    have had : -100 ≤ adF x st ∧ adF x st ≤ 100 := by
      unfold adF amt
      by_cases hc : x ≤ -10
      · have := hb hc
        repeat' split
        all_goals omega
      · rw [if_neg (by omega)]; omega
    have := ih k' (stp fb x st) (a + adF x st) hr
    simp only [evS, List.length_cons]
    omega
theorem baseF_bd {s : Int → Int} (hV : WfV s) {p t : Int} : -14000 ≤ baseF s p t ∧ baseF s p t ≤ 14000 := by
  have h := evS_bd (fb := fbF s p t) _ _ [] 0 hV.2.1
  rw [show (stepsF s).length = (manyF s).toNat from seg_len _ _] at h
  have := hV.1
  unfold baseF
  omega
theorem td2_bd {x : Int} (h : -20000 ≤ x) (h' : x ≤ 20000) : -20000 ≤ x.tdiv 2 ∧ x.tdiv 2 ≤ 20000 := by
  by_cases hx : 0 ≤ x
  · rw [td_e hx]; omega
  · have e : x = -(-x) := by omega
    rw [e, Int.neg_tdiv, td_e (by omega : 0 ≤ -x)]; omega
theorem mx0_bd {x : Int} (h' : x ≤ 30000) : 0 ≤ mx0 x ∧ mx0 x ≤ 30000 := by
  unfold mx0; split <;> omega
theorem wthF_bd {k v c b : Int} (h : -14000 ≤ b) (h' : b ≤ 14000) (hv : 0 ≤ v) (hv' : v ≤ 9) : -30000 ≤ wthF k v c b ∧ wthF k v c b ≤ 30000 := by
  have := td2_bd (x := 4 + b) (by omega) (by omega)
  unfold wthF
  repeat' split
  all_goals omega
theorem worthF_bd {s : Int → Int} (hV : WfV s) (hT : WfT s) {p t : Int} (h0 : 0 ≤ p) (h6 : p < 6) : 0 ≤ worthF s p t ∧ worthF s p t ≤ 30000 := by
  have hb := baseF_bd hV (p := p) (t := t)
  have hv := (hT.1 p h0 h6).2.1
  exact mx0_bd (wthF_bd hb.1 hb.2 hv.1 hv.2).2
def Stat (s s' : Int → Int) : Prop := ∀ j : Int, 8 ≤ j → s' j = s j
theorem Stat.rf {s : Int → Int} : Stat s s := fun _ _ => rfl
theorem Stat.tr {s s' s'' : Int → Int} (h : Stat s s') (h' : Stat s' s'') : Stat s s'' := fun j hj => (h' j hj).trans (h j hj)
theorem st_at {s s' : Int → Int} (h : Stat s s') {p t : Int} (h0 : 0 ≤ p) : atF s' p t = atF s p t := by
  unfold atF
  rw [h _ (by omega), h _ (by omega), h _ (by omega), h _ (by omega)]
theorem st_seg {s s' : Int → Int} (h : Stat s s') : ∀ (n : Nat) (a : Int), 8 ≤ a → seg s' a n = seg s a n := by
  intro n
  induction n with
  | zero => intro a _; rfl
  | succ n ih => intro a ha; simp only [seg]; rw [h a ha, ih _ (by omega)]
theorem st_many {s s' : Int → Int} (h : Stat s s') (h17 : -1 ≤ s 17) : manyF s' = manyF s := by
  unfold manyF
  rw [h 17 (by omega), h _ (by omega)]
theorem st_steps {s s' : Int → Int} (h : Stat s s') (h17 : -1 ≤ s 17) : stepsF s' = stepsF s := by
  unfold stepsF
  rw [st_many h h17, h 17 (by omega), st_seg h _ _ (by omega)]
theorem st_fb {s s' : Int → Int} (h : Stat s s') {p t : Int} (h0 : 0 ≤ p) : fbF s' p t = fbF s p t := by
  funext k
  unfold fbF
  rw [st_at h h0, h _ (by omega), h _ (by omega), h _ (by omega)]
theorem st_base {s s' : Int → Int} (h : Stat s s') (h17 : -1 ≤ s 17) {p t : Int} (h0 : 0 ≤ p) : baseF s' p t = baseF s p t := by
  unfold baseF
  rw [st_fb h h0, st_steps h h17]
theorem st_worth {s s' : Int → Int} (h : Stat s s') (h17 : -1 ≤ s 17) {p t : Int} (h0 : 0 ≤ p) : worthF s' p t = worthF s p t := by
  unfold worthF
  rw [st_base h h17 h0, st_at h h0, h _ (by omega), h _ (by omega)]
theorem st_dim {s s' : Int → Int} (h : Stat s s') {hz p t : Int} (h0 : 0 ≤ p) : dimP s' hz p t = dimP s hz p t := by
  unfold dimP
  rw [st_at h h0, h _ (by omega)]
theorem st_T {s s' : Int → Int} (h : Stat s s') (hT : WfT s) : WfT s' := by
  refine ⟨fun p h0 h6 => ?_, fun k h1 h2 => ?_⟩
  · rw [h _ (by omega), h _ (by omega), h _ (by omega)]; exact hT.1 p h0 h6
  · rw [h _ (by omega)]; exact hT.2 k h1 h2
theorem st_V {s s' : Int → Int} (h : Stat s s') (h17 : -1 ≤ s 17) (hV : WfV s) : WfV s' := by
  unfold WfV
  rw [st_many h h17, st_steps h h17, h 17 (by omega)]
  refine ⟨hV.1, hV.2.1, fun hn => ?_⟩
  rw [h _ (by omega), h _ (by omega), h _ (by omega)]
  exact hV.2.2 hn
theorem Sc.u {l : List Nat} {mi mi' : Mi} {o : Nat} {k v : Int} (h : Sc l mi mi') (ho : o ∈ l) : Sc l mi (up mi' o k v) := h.tr (sc_up ho)
section MO
variable {d : Nat} {G : Gh} {mi : Mi} {K : Option PV → Gh → Mi → Prop} {p t v w a b : Int}
theorem m_baseOf (hG : ShM G) (hT : WfT (mi 47)) (hV : WfV (mi 47)) (h1 : -1 ≤ mi 47 17) (h4 : mi 47 17 ≤ 4) (h0 : 0 ≤ p) (h6 : p < 6) (ht : 0 ≤ t) (htt : t ≤ 20000)
    (hK : ∀ mi', Sc [50, 51] mi mi' → K (some (pI (baseF (mi 47) p t))) G mi') : OkC (d + 1) 28 [pR (some 46), pI p, pI t] G mi K := by
  obtain ⟨⟨k46, k47, l47, k48, l48, k49, l49, k50, l50, k51, l51⟩, ⟨k52, l52, k53, l53, k54, l54⟩, ⟨g1, g2, g3, g11, g12, g15, g16, g18⟩⟩ := id hG
  have hm := hV.1
  rw [E28]
  simp (disch := first | assumption | exact isL_i | exact isL_r | exact isL_n | exact i01a | exact i01b | omega | (simp (disch := decide) only [up_a, up_s, up_k]; first | assumption | omega)) only [K28_0, K28_1, K28_4, K28_5, K28_6, K28_7, K28_8, K28_11, K28_12, K28_13, K28_16, K28_18, K28_19, K28_20, K28_21, K28_22, K28_23, K28_26, K28_27, K28_28, K28_31, K28_33, K28_34, K28_35, K28_36, K28_37, K28_38, K28_41, K28_42, g1, g2, g3, g11, g12, g15, g16, g18, wr_id, td_e, tm_e, pu_n, pu_s, up_s, up_k, up_a, ↓reduceIte, Int.reduceLT, Int.reduceLE, Int.reduceEq, Int.reduceNeg, Int.reduceAdd, Int.reduceSub, Int.reduceMul, Int.reduceMod, Int.reduceDiv, Int.cast_ofNat_Int, not_true_eq_false, not_false_eq_true, Int.reduceTDiv, Int.reduceTMod]
  rw [K28_43, K28_44, K28_45 k46, m_isAt hG (by rw [up_a (by decide), up_a (by decide), up_a (by decide)]; exact hT) h0 h6 ht htt]
  simp (disch := first | assumption | exact isL_i | exact isL_r | exact isL_n | exact i01a | exact i01b | omega | (simp (disch := decide) only [up_a, up_s, up_k]; first | assumption | omega)) only [K28_48, K28_49, K28_50, K28_53, K28_54, K28_55, K28_57, K28_58, K28_59, K28_60, K28_63, K28_64, K28_65, K28_68, K28_70, K28_71, K28_72, K28_73, K28_74, K28_75, K28_78, K28_79, K28_82, K28_84, K28_87, K28_90, K28_91, K28_94, K28_96, K28_97, K28_98, K28_99, K28_101, K28_102, K28_104, K28_106, g1, g2, g3, g11, g12, g15, g16, g18, wr_id, td_e, tm_e, pu_n, pu_s, up_s, up_k, up_a, ↓reduceIte, Int.reduceLT, Int.reduceLE, Int.reduceEq, Int.reduceNeg, Int.reduceAdd, Int.reduceSub, Int.reduceMul, Int.reduceMod, Int.reduceDiv, Int.cast_ofNat_Int, not_true_eq_false, not_false_eq_true, Int.reduceTDiv, Int.reduceTMod, m_tellsOf]
  refine m_base_lp hG (s := mi 47) (fb := fbF (mi 47) p t) (manyF (mi 47)).toNat _ [] 0 _ 0 none none none none isL_n isL_n isL_n isL_n ?_ ?_ trivial rfl (by decide) hV.2.1 ?_ (by omega) (by omega) (by omega) (by omega) (fun mi' hsc => hK mi' ?_)
  · simp (disch := decide) only [up_a]
  · intro k k0 k6
    have hk : k = 0 ∨ k = 1 ∨ k = 2 ∨ k = 3 ∨ k = 4 ∨ k = 5 := by omega
    rcases hk with rfl | rfl | rfl | rfl | rfl | rfl
    all_goals simp (disch := decide) only [up_k, up_s, fbF, ↓reduceIte, Int.reduceEq]
  · show 219 + 140 * mi 47 17 + manyF (mi 47) = _
    omega
  · exact ((((((Sc.rf.u (by decide)).u (by decide)).u (by decide)).u (by decide)).u (by decide)).u (by decide)).tr (hsc.wk (by decide))
theorem m_worthOf (hG : ShM G) (hT : WfT (mi 47)) (hV : WfV (mi 47)) (h1 : -1 ≤ mi 47 17) (h4 : mi 47 17 ≤ 4) (h0 : 0 ≤ p) (h6 : p < 6) (ht : 0 ≤ t) (htt : t ≤ 20000)
    (hK : ∀ mi', Sc [50, 51] mi mi' → K (some (pI (worthF (mi 47) p t))) G mi') : OkC (d + 2) 29 [pR (some 46), pI p, pI t] G mi K := by
  obtain ⟨⟨k46, k47, l47, k48, l48, k49, l49, k50, l50, k51, l51⟩, ⟨k52, l52, k53, l53, k54, l54⟩, ⟨g1, g2, g3, g11, g12, g15, g16, g18⟩⟩ := id hG
  obtain ⟨hb1, hb2⟩ := baseF_bd hV (p := p) (t := t)
  obtain ⟨-, ⟨hv, hv'⟩, -⟩ := hT.1 p h0 h6
  obtain ⟨ha, ha'⟩ := atF_wf hT h0 h6 (t := t)
  rw [E29]
  simp (disch := first | assumption | exact isL_i | exact isL_r | exact isL_n | exact i01a | exact i01b | omega | (simp (disch := decide) only [up_a, up_s, up_k]; first | assumption | omega)) only [K29_0, K29_1, K29_2, K29_3, g1, g2, g3, g11, g12, g15, g16, g18, wr_id, td_e, tm_e, pu_n, pu_s, up_s, up_k, up_a, ↓reduceIte, Int.reduceLT, Int.reduceLE, Int.reduceEq, Int.reduceNeg, Int.reduceAdd, Int.reduceSub, Int.reduceMul, Int.reduceMod, Int.reduceDiv, Int.cast_ofNat_Int, not_true_eq_false, not_false_eq_true, Int.reduceTDiv, Int.reduceTMod]
  refine m_baseOf hG hT hV h1 h4 h0 h6 ht htt fun mi' hsc => ?_
  have e47 : mi' 47 = mi 47 := hsc 47 (by decide)
  have hT' : WfT (mi' 47) := by rw [e47]; exact hT
  have hd := td2_bd (x := 4 + baseF (mi 47) p t) (by omega) (by omega)
  have hK' := hK mi' hsc
  have hm := mx0_bd (wthF_bd (k := mi 47 (18 + p)) (c := atF (mi 47) p t) hb1 hb2 hv hv').2
  have hw := (wthF_bd (k := mi 47 (18 + p)) (c := atF (mi 47) p t) hb1 hb2 hv hv')
  have J : ∀ x, x = wthF (mi 47 (18 + p)) (mi 47 (24 + p)) (atF (mi 47) p t) (baseF (mi 47) p t) → ∀ y2 y3, Ok (d + 2) 29 158 [some (pR (some 46)), some (pI p), y2, y3, some (pI x)] [] G mi' K := by
    intro x hx y2 y3
    subst hx
    unfold worthF mx0 at hK'
    simp (disch := first | assumption | exact isL_i | exact isL_r | exact isL_n | exact i01a | exact i01b | omega | (simp (disch := decide) only [up_a, up_s, up_k]; first | assumption | omega)) only [K29_158, K29_160, K29_163, K29_164, K29_167, K29_169]
    split
    · rw [if_neg (by omega)] at hK'; exact hK'
    · rw [if_pos (by omega)] at hK'; exact hK'
  simp only [wthF] at J
  simp (disch := first | assumption | exact isL_i | exact isL_r | exact isL_n | exact i01a | exact i01b | omega | (simp (disch := decide) only [up_a, up_s, up_k]; first | assumption | omega)) only [K29_6, K29_7, K29_8, K29_9, K29_10, K29_12, K29_13, K29_16, K29_18, K29_19, K29_20, K29_21, K29_60, K29_61, K29_62, K29_63, K29_65, K29_68, K29_69, K29_70, K29_71, K29_72, K29_73, K29_75, K29_78, K29_79, K29_80, K29_83, K29_85, K29_86, K29_87, K29_88, K29_89, K29_91, K29_94, K29_95, K29_96, K29_97, K29_98, K29_99, K29_100, K29_103, K29_105, K29_106, K29_109, K29_110, K29_113, K29_114, K29_115, K29_117, K29_120, K29_121, K29_122, K29_123, K29_124, K29_125, K29_126, K29_129, K29_131, K29_132, K29_133, K29_134, K29_135, K29_137, K29_140, K29_141, K29_142, K29_145, K29_147, K29_148, K29_149, K29_150, K29_151, K29_152, K29_153, K29_155, g1, g2, g3, g11, g12, g15, g16, g18, wr_id, td_e, tm_e, pu_n, pu_s, up_s, up_k, up_a, ↓reduceIte, Int.reduceLT, Int.reduceLE, Int.reduceEq, Int.reduceNeg, Int.reduceAdd, Int.reduceSub, Int.reduceMul, Int.reduceMod, Int.reduceDiv, Int.cast_ofNat_Int, not_true_eq_false, not_false_eq_true, Int.reduceTDiv, Int.reduceTMod, e47, m_isAt]
  repeat' split
  all_goals exact J _ (by simp (disch := omega) only [if_pos, if_neg, Int.mul_one]) _ _
/-! ===== a tick goes ===== -/
theorem m_asItIs (hG : ShM G) (h1 : -1 ≤ mi 47 17) (h4 : mi 47 17 ≤ 4) : OkC (d + 1) 6 [pR (some 46)] G mi K = K none G (up mi 46 5 (if mi 47 17 = -1 then 0 else mi 47 (209 + mi 47 17))) := by
  obtain ⟨⟨k46, k47, l47, k48, l48, k49, l49, k50, l50, k51, l51⟩, ⟨k52, l52, k53, l53, k54, l54⟩, ⟨g1, g2, g3, g11, g12, g15, g16, g18⟩⟩ := id hG
  rw [E6]
  simp (disch := first | assumption | exact isL_i | exact isL_r | exact isL_n | exact i01a | exact i01b | omega | (simp (disch := decide) only [up_a, up_s, up_k]; first | assumption | omega)) only [K6_0, K6_1, K6_2, K6_5, K6_6, K6_9, K6_12, g1, g2, g3, g11, g12, g15, g16, g18, wr_id, td_e, tm_e, pu_n, pu_s, up_s, up_k, up_a, ↓reduceIte, Int.reduceLT, Int.reduceLE, Int.reduceEq, Int.reduceNeg, Int.reduceAdd, Int.reduceSub, Int.reduceMul, Int.reduceMod, Int.reduceDiv, Int.cast_ofNat_Int, not_true_eq_false, not_false_eq_true, Int.reduceTDiv, Int.reduceTMod, m_tellsOf]
theorem m_coin (hG : ShM G) (h1 : -1 ≤ mi 47 17) (h4 : mi 47 17 ≤ 4) : OkC (d + 1) 25 [pR (some 46)] G mi K = K (some (pI (if (if mi 47 17 = -1 then 8 else mi 47 (199 + mi 47 17)) = 0 then 1 else (if mi 47 17 = -1 then 8 else mi 47 (199 + mi 47 17))))) G mi := by
  obtain ⟨⟨k46, k47, l47, k48, l48, k49, l49, k50, l50, k51, l51⟩, ⟨k52, l52, k53, l53, k54, l54⟩, ⟨g1, g2, g3, g11, g12, g15, g16, g18⟩⟩ := id hG
  rw [E25]
  by_cases h : mi 47 17 = -1
  · simp (disch := first | assumption | exact isL_i | exact isL_r | exact isL_n | exact i01a | exact i01b | omega | (simp (disch := decide) only [up_a, up_s, up_k]; first | assumption | omega)) only [K25_0, K25_1, K25_4, K25_6, K25_9, K25_10, K25_11, K25_14, K25_15, K25_18, K25_19, g1, g2, g3, g11, g12, g15, g16, g18, wr_id, td_e, tm_e, pu_n, pu_s, up_s, up_k, up_a, ↓reduceIte, Int.reduceLT, Int.reduceLE, Int.reduceEq, Int.reduceNeg, Int.reduceAdd, Int.reduceSub, Int.reduceMul, Int.reduceMod, Int.reduceDiv, Int.cast_ofNat_Int, not_true_eq_false, not_false_eq_true, Int.reduceTDiv, Int.reduceTMod, m_tellsOf, if_pos h]
  · by_cases h' : mi 47 (199 + mi 47 17) = 0
    all_goals simp (disch := first | assumption | exact isL_i | exact isL_r | exact isL_n | exact i01a | exact i01b | omega | (simp (disch := decide) only [up_a, up_s, up_k]; first | assumption | omega)) only [K25_0, K25_1, K25_4, K25_6, K25_9, K25_10, K25_11, K25_14, K25_15, K25_18, K25_19, g1, g2, g3, g11, g12, g15, g16, g18, wr_id, td_e, tm_e, pu_n, pu_s, up_s, up_k, up_a, ↓reduceIte, Int.reduceLT, Int.reduceLE, Int.reduceEq, Int.reduceNeg, Int.reduceAdd, Int.reduceSub, Int.reduceMul, Int.reduceMod, Int.reduceDiv, Int.cast_ofNat_Int, not_true_eq_false, not_false_eq_true, Int.reduceTDiv, Int.reduceTMod, m_tellsOf, if_pos, if_neg]
end MO
abbrev seesP (s : Int → Int) (hz p t c : Int) : Prop := s (2 + p) = 0 ∧ atF s p t = c ∧ ¬ dimP s hz p t
def gaR (s : Int → Int) (hz t c : Int) : Nat → Int → Int
  | 0, _ => 0
  | n + 1, p => (if seesP s hz p t c then worthF s p t else 0) + gaR s hz t c n (p + 1)
def gsp (s : Int → Int) (hz t c p : Int) : Int → Int := fun j => if j = 0 then t else if j = 1 then c else if 2 ≤ j ∧ j < 2 + p ∧ seesP s hz (j - 2) t c then 1 else s j
def gs (s : Int → Int) (hz k : Int) : Int → Int := if k = 5 then (fun j => if j = 0 then s 0 + 1 else s j) else gsp s hz (s 0 + 1) (brt (s 1) k) (s 11)
def gaT (s : Int → Int) (hz k : Int) : Int := if k = 5 then 0 else gaR s hz (s 0 + 1) (brt (s 1) k) (s 11).toNat 0
theorem gsp_st {s : Int → Int} {hz t c p : Int} (hp : p ≤ 6) : Stat s (gsp s hz t c p) := by
  intro j hj
  unfold gsp
  rw [if_neg (by omega), if_neg (by omega), if_neg (by omega)]
theorem gs_st {s : Int → Int} {hz k : Int} (hn : s 11 ≤ 6) : Stat s (gs s hz k) := by
  unfold gs
  split
  · intro j hj
    show (if j = 0 then s 0 + 1 else s j) = s j
    rw [if_neg (by omega)]
  · exact gsp_st hn
