/-! ===== the reference: its cells are 46 (the object) and 47 .. 54 ===== -/
def ShM (G : Gh) : Prop := ((gK G 46).1 = 13 ∧ (gK G 47).1 = 20 ∧ (gK G 47).2 = 919 ∧ (gK G 48).1 = 20 ∧ (gK G 48).2 = 919 ∧ (gK G 49).1 = 20 ∧ (gK G 49).2 = 8 ∧ (gK G 50).1 = 20 ∧ (gK G 50).2 = 6 ∧ (gK G 51).1 = 21 ∧ (gK G 51).2 = 64) ∧
  ((gK G 52).1 = 20 ∧ (gK G 52).2 = 6 ∧ (gK G 53).1 = 20 ∧ (gK G 53).2 = 6 ∧ (gK G 54).1 = 20 ∧ (gK G 54).2 = 20) ∧
  (gR G 46 1 = some 47 ∧ gR G 46 2 = some 48 ∧ gR G 46 3 = some 49 ∧ gR G 46 11 = some 50 ∧ gR G 46 12 = some 51 ∧ gR G 46 15 = some 52 ∧ gR G 46 16 = some 53 ∧ gR G 46 18 = some 54)
theorem sm1 {G : Gh} (h : ShM G) : (gK G 46).1 = 13 := h.1.1
theorem sm2 {G : Gh} (h : ShM G) : (gK G 47).1 = 20 := h.1.2.1
theorem sm3 {G : Gh} (h : ShM G) : (gK G 47).2 = 919 := h.1.2.2.1
theorem sm4 {G : Gh} (h : ShM G) : gR G 46 1 = some 47 := h.2.2.1
-- #def SM sm1 hG, sm2 hG, sm3 hG, sm4 hG
-- #def AR wr_id, td_e, tm_e, isL_i, isL_r, isL_n, Int.reduceLT, Int.reduceLE, Int.reduceEq, Nat.cast_ofNat
def plc (kind home v extra tick : Int) : Int := if kind = 1 then home / 6 * 6 + (home % 6 + tick) % 6 else if kind = 3 then (home + v * tick) % 24 else if kind = 4 then home / 6 * 6 + (home % 6 + tick / 2) % 6 else if kind = 6 then (home + v * tick + extra) % 24 else home
def WfM (mi : Mi) : Prop := (∀ p : Int, 0 ≤ p → p < 6 → (0 ≤ mi 47 (18 + p) ∧ mi 47 (18 + p) ≤ 6) ∧ (0 ≤ mi 47 (24 + p) ∧ mi 47 (24 + p) ≤ 9) ∧ (0 ≤ mi 47 (30 + p) ∧ mi 47 (30 + p) ≤ 23)) ∧ (∀ k : Int, 36 ≤ k → k < 60 → 0 ≤ mi 47 k ∧ mi 47 k ≤ 9)
set_option maxRecDepth 100000 in
theorem m_isAt {d : Nat} {G : Gh} {mi : Mi} {K : Option PV → Gh → Mi → Prop} {p tick : Int} (hG : ShM G) (hW : WfM mi) (h0 : 0 ≤ p) (h6 : p < 6) (ht : 0 ≤ tick) (htt : tick ≤ 20000) :
    OkC d 26 [pR (some 46), pI p, pI tick] G mi K = K (some (pI (plc (mi 47 (18 + p)) (mi 47 (30 + p)) (mi 47 (24 + p)) (mi 47 (36 + 4 * p + tick % 4)) tick))) G mi := by
  obtain ⟨⟨a1, a2⟩, ⟨b1, b2⟩, ⟨c1, c2⟩⟩ := hW.1 p h0 h6
  obtain ⟨e1, e2⟩ := hW.2 (36 + 4 * p + tick % 4) (by omega) (by omega)
  obtain ⟨f1, f2⟩ := mulb b1 b2 ht htt
  rw [E26]
  simp (disch := omega) only [K26_0, K26_1, K26_4, K26_6, K26_7, K26_8, K26_9, K26_10, K26_11, K26_14, K26_16, K26_17, K26_18, K26_19, K26_56, K26_57, K26_59, K26_60, K26_62, K26_63, K26_64, K26_66, K26_67, K26_68, K26_69, K26_71, K26_72, K26_73, K26_74, K26_75, K26_76, K26_79, K26_81, K26_82, K26_83, K26_84, K26_85, K26_86, K26_87, K26_89, K26_90, K26_91, K26_92, K26_94, K26_95, K26_97, K26_98, K26_99, K26_101, K26_102, K26_103, K26_104, K26_105, K26_106, K26_108, K26_109, K26_110, K26_111, K26_112, K26_113, K26_116, K26_118, K26_119, K26_120, K26_121, K26_122, K26_123, K26_124, K26_125, K26_128, K26_130, K26_131, K26_132, K26_133, K26_134, K26_135, K26_136, K26_137, K26_138, K26_139, K26_140, K26_142, K26_143, K26_144, K26_145, sm1 hG, sm2 hG, sm3 hG, sm4 hG, wr_id, td_e, tm_e, isL_i, isL_r, isL_n, Int.reduceLT, Int.reduceLE, Int.reduceEq, Nat.cast_ofNat]
  unfold plc
  trace_state
  sorry
