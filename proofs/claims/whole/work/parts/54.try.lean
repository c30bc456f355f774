/-! ===== all rows of doings, tried by the class ===== -/
theorem bestF_add {g : Int → Int} : ∀ (m n : Nat) (r : Int) (b : Int × Int), bestF g (m + n) r b = bestF g n (r + m) (bestF g m r b) := by
  intro m
  induction m with
  | zero => intro n r b; rw [Nat.zero_add]; show _ = bestF g n (r + ((0 : Nat) : Int)) b; rw [show r + ((0 : Nat) : Int) = r by omega]
  | succ m ih =>
    intro n r b
    rw [show m + 1 + n = (m + n) + 1 by omega]
    simp only [bestF]
    rw [ih n (r + 1), show r + 1 + (m : Int) = r + ((m + 1 : Nat) : Int) by omega]
theorem bestF_m {g : Int → Int} : ∀ (n : Nat) (r : Int) (b : Int × Int), -1 ≤ b.2 → (∀ q : Int, 0 ≤ g q) → -1 ≤ (bestF g n r b).2 := by
  intro n
  induction n with
  | zero => intro r b h _; exact h
  | succ n ih =>
    intro r b h hg
    simp only [bestF]
    refine ih (r + 1) _ ?_ hg
    split
    · have := hg r; dsimp only; omega
    · exact h
def RW (k r : Int) (mi : Mi) : Prop := ∀ j : Int, 0 ≤ j → j < k → mi 42 j = r / pw (k - 1 - j) % 5
def BR (n : Int) (b : Int × Int) (mi : Mi) : Prop := mi 39 5 = b.2 ∧ (0 ≤ b.2 → ∀ j : Int, 0 ≤ j → j < n → mi 43 j = b.1 / pw (n - 1 - j) % 5)
theorem pw_5 {r q : Int} {m : Int} (h0 : 0 ≤ m) (h4 : m ≤ 4) (hr : 0 ≤ r) (q0 : 0 ≤ q) (q5 : q < 5) : (r * 5 + q) / pw (m + 1) = r / pw m := by
  have h : m = 0 ∨ m = 1 ∨ m = 2 ∨ m = 3 ∨ m = 4 := by omega
  rcases h with rfl | rfl | rfl | rfl | rfl
  · rw [show pw (0 + 1) = 5 by decide, show pw 0 = 1 by decide]; omega
  · rw [show pw (1 + 1) = 25 by decide, show pw 1 = 5 by decide]; omega
  · rw [show pw (2 + 1) = 125 by decide, show pw 2 = 25 by decide]; omega
  · rw [show pw (3 + 1) = 625 by decide, show pw 3 = 125 by decide]; omega
  · rw [show pw (4 + 1) = 3125 by decide, show pw 4 = 625 by decide]; omega
theorem rw_up {k r q : Int} {mi mi' : Mi} (hk : 0 ≤ k) (hk' : k ≤ 4) (hr : 0 ≤ r) (q0 : 0 ≤ q) (q5 : q < 5) (h : RW k r mi) (he : ∀ j : Int, 0 ≤ j → j < k → mi' 42 j = mi 42 j) (hq : mi' 42 k = q) : RW (k + 1) (r * 5 + q) mi' := by
  intro j j0 j1
  by_cases e : j = k
  · subst e
    rw [hq, show j + 1 - 1 - j = 0 by omega, show pw 0 = 1 by decide]
    omega
  · rw [he j j0 (by omega), h j j0 (by omega), show k + 1 - 1 - j = (k - 1 - j) + 1 by omega, pw_5 (by omega) (by omega) hr q0 q5]
theorem rw_dn {k r q : Int} {mi : Mi} (hk : 0 ≤ k) (hk' : k ≤ 4) (hr : 0 ≤ r) (q0 : 0 ≤ q) (q5 : q < 5) (h : RW (k + 1) (r * 5 + q) mi) : RW k r mi := by
  intro j j0 j1
  rw [h j j0 (by omega), show k + 1 - 1 - j = (k - 1 - j) + 1 by omega, pw_5 (by omega) (by omega) hr q0 q5]
section CL
variable {d : Nat} {G : Gh} {mi : Mi} {K : Option PV → Gh → Mi → Prop} {o o' T : Nat} {s s' : Int → Int} {p t v w a b c k n g q x lim hm pc ah ce u l hz y : Int} {L : List Int}
theorem c_copy {N : Nat} (ha : (gK G o).1 = 20) (hb : (gK G o').1 = 20) (hab : o ≠ o') (la : (gK G o).2 = N) (lb : (gK G o').2 = N) : OkC (d + 1) 193 [pR (some o), pR (some o')] G mi K = K none G (cpy mi o 0 o' 0 N) := by
  have ka : 20 ≤ (gK G o).1 := by omega
  have kb : 20 ≤ (gK G o').1 := by omega
  have h4 : (0 : Int) + (N : Int) ≤ (gK G o).2 := by omega
  have h5 : (0 : Int) + (N : Int) ≤ (gK G o').2 := by omega
  rw [E193]
  simp (disch := first | assumption | exact isL_i | exact isL_r | exact isL_n | exact i01a | exact i01b | omega) only [K193_0, K193_1, K193_2, K193_3, K193_4, K193_5, K193_6, K193_7, K193_8, K193_11, K193_14, wr_id, td_e, tm_e, pu_n, pu_s, up_s, up_k, up_a, ↓reduceIte, Int.reduceLT, Int.reduceLE, Int.reduceEq, Int.reduceNeg, Int.reduceAdd, Int.reduceSub, Int.reduceMul, Int.reduceMod, Int.reduceDiv, Int.cast_ofNat_Int, not_true_eq_false, not_false_eq_true, Int.reduceTDiv, Int.reduceTMod, la, lb, if_pos, if_neg, Int.lt_irrefl, ite_self]
theorem cpy_o {a b : Nat} {N : Int} {c : Nat} (h : ¬ c = b) : cpy mi a 0 b 0 N c = mi c := by
  funext j
  unfold cpy
  rw [if_neg (fun e => h e.1)]
theorem cpy_i {a b : Nat} {N : Int} {j : Int} (h0 : 0 ≤ j) (h1 : j < N) : cpy mi a 0 b 0 N b j = mi a j := by
  unfold cpy
  rw [if_pos ⟨rfl, h0, by omega⟩, show 0 + (j - 0) = j by omega]
theorem Sc.cpy {l : List Nat} {a b : Nat} {N : Int} (h : b ∈ l) : Sc l mi (cpy mi a 0 b 0 N) := fun c hc => cpy_o (fun e => hc (e ▸ h))
theorem FSn.sc {mi' : Mi} {i : Nat} (h : FSn s hz n i mi) (hs : Sc [39, 42, 43, 44, 45] mi mi') : FSn s hz n i mi' := by
  unfold FSn
  rw [hs 40 (by decide), hs 41 (by decide)]
  exact h
/-- what a trial changes -/
def ScT (mi mi' : Mi) : Prop := Sc [39, 42, 43] mi mi' ∧ ∀ j : Int, ¬ j = 5 → mi' 39 j = mi 39 j
theorem ScT.rf : ScT mi mi := ⟨Sc.rf, fun _ _ => rfl⟩
theorem ScT.tr {mi' mi'' : Mi} (h : ScT mi mi') (h' : ScT mi' mi'') : ScT mi mi'' := ⟨h.1.tr h'.1, fun j hj => (h'.2 j hj).trans (h.2 j hj)⟩
theorem c_try (hC : ShC G) (hW : WfA s) {N : Int} (hn5 : n ≤ 5) (hnN : n ≤ N) (hN8 : N ≤ 8) : ∀ (e : Nat) (mi : Mi) (k : Nat) (r : Int) (b : Int × Int) (K : Option PV → Gh → Mi → Prop), k + e = n → 0 ≤ r → FSn s hz N (s 11).toNat mi → RW k r mi → BR n b mi → -1 ≤ b.2 →
    (∀ mi', RW k r mi' → BR n (bestF (fun q => (simP s hz n.toNat q).2) (5 ^ e) (r * 5 ^ e) b) mi' → ScT mi mi' → K none G mi') →
    OkC (d + e + 3) 152 [pR (some 39), pI k, pI n, pI ((simP s hz k r).1 1), pI (hadB (simP s hz k r).1), pI (simP s hz k r).2] G mi K := by
  obtain ⟨⟨⟨k1, k2, k3, l3, k9, l9, k10, l10, k11, l11⟩, ⟨k12, k13, l13, k14, k15, l15, k16, k17, l17, k18, l18⟩, ⟨r10, r14, r15, r16, r113, r114, r115, r116, r22, r122, r142, r162⟩⟩, -, ⟨⟨k0, r00, r01, r02, r03⟩, ⟨k37, r372, k38, l38⟩, ⟨k39, r390, r391, r392, r393, r394, r396, r397⟩, ⟨k40, l40, k41, l41, k42, l42, k43, l43, k44, l44, k45, l45⟩⟩⟩ := id hC
  obtain ⟨⟨⟨z0, z1, z8, z9, z10, z11, z12, z13, z14, z15, z16⟩, hh01, hT, hz17⟩, hWV, hWD, hWB, hWP, hWT, hWZ, hWF, hWK⟩ := id hW
  have k42' : 20 ≤ (gK G 42).1 := by omega
  have hWG := hW.g
  have hg0 : ∀ (m : Nat) (q : Int), 0 ≤ (simP s hz m q).2 := fun m q => (simP_wf hWG z1.1 z1.2 m q).2.2.2.1
  intro e
  induction e with
  | zero =>
    intro mi k r b K hke hr hF hRW hBR hb hK
    have hkn : (k : Int) = n := by omega
    have hkn' : n.toNat = k := by omega
    have hK : ∀ mi', RW k r mi' → BR n (if b.2 < (simP s hz k r).2 then (r, (simP s hz k r).2) else b) mi' → ScT mi mi' → K none G mi' := by
      intro mi' h1 h2 h3
      refine hK mi' h1 ?_ h3
      rw [hkn']
      show BR n (bestF _ 1 (r * 1) b) mi'
      rw [Int.mul_one]
      exact h2
    rw [E152]
    by_cases hb2 : b.2 < (simP s hz k r).2
    · have h39 := hBR.1
      rw [if_pos hb2] at hK
      simp (disch := first | assumption | exact isL_i | exact isL_r | exact isL_n | exact i01a | exact i01b | omega) only [K152_0, K152_1, K152_2, K152_5, K152_6, K152_9, K152_10, K152_13, K152_16, K152_18, K152_19, K152_22, K152_25, K152_26, K152_28, K152_31, K152_32, K152_35, K152_36, r10, r14, r15, r16, r113, r114, r115, r116, r22, r122, r142, r162, r00, r01, r02, r03, r372, r390, r391, r392, r393, r394, r396, r397, wr_id, td_e, tm_e, pu_n, pu_s, up_s, up_k, up_a, ↓reduceIte, Int.reduceLT, Int.reduceLE, Int.reduceEq, Int.reduceNeg, Int.reduceAdd, Int.reduceSub, Int.reduceMul, Int.reduceMod, Int.reduceDiv, Int.cast_ofNat_Int, not_true_eq_false, not_false_eq_true, Int.reduceTDiv, Int.reduceTMod, h39, if_pos, if_neg]
      rw [K152_39, c_copy (N := 5) k42 k43 (by decide) l42 l43]
      simp (disch := first | assumption | exact isL_i | exact isL_r | exact isL_n | exact i01a | exact i01b | omega) only [K152_42, wr_id, td_e, tm_e, pu_n, pu_s, up_s, up_k, up_a, ↓reduceIte, Int.reduceLT, Int.reduceLE, Int.reduceEq, Int.reduceNeg, Int.reduceAdd, Int.reduceSub, Int.reduceMul, Int.reduceMod, Int.reduceDiv, Int.cast_ofNat_Int, not_true_eq_false, not_false_eq_true, Int.reduceTDiv, Int.reduceTMod]
      refine hK _ (fun j j0 j1 => ?_) ⟨?_, fun _ j j0 j1 => ?_⟩ ⟨((Sc.rf.u (by decide)).tr (Sc.cpy (by decide))), fun j hj => ?_⟩
      · rw [cpy_o (by decide), up_a (by decide)]; exact hRW j j0 j1
      · rw [cpy_o (by decide), up_s]
      · rw [cpy_i j0 (by omega), up_a (by decide), hRW j j0 (by omega), hkn]
      · rw [cpy_o (by decide), up_k hj]
    · have h39 := hBR.1
      rw [if_neg hb2] at hK
      simp (disch := first | assumption | exact isL_i | exact isL_r | exact isL_n | exact i01a | exact i01b | omega) only [K152_0, K152_1, K152_2, K152_5, K152_6, K152_9, K152_10, K152_13, K152_16, K152_18, K152_19, K152_22, K152_25, K152_26, K152_28, K152_31, K152_32, K152_35, K152_36, K152_39, K152_42, r10, r14, r15, r16, r113, r114, r115, r116, r22, r122, r142, r162, r00, r01, r02, r03, r372, r390, r391, r392, r393, r394, r396, r397, wr_id, td_e, tm_e, pu_n, pu_s, up_s, up_k, up_a, ↓reduceIte, Int.reduceLT, Int.reduceLE, Int.reduceEq, Int.reduceNeg, Int.reduceAdd, Int.reduceSub, Int.reduceMul, Int.reduceMod, Int.reduceDiv, Int.cast_ofNat_Int, not_true_eq_false, not_false_eq_true, Int.reduceTDiv, Int.reduceTMod, h39, if_pos, if_neg]
      exact hK mi hRW hBR ScT.rf
  | succ e ih =>
    intro mi k r b K hke hr hF hRW hBR hb hK
    have hk4 : k ≤ 4 := by omega
    obtain ⟨f1, f2, f3, f4, f5⟩ := simP_wf (hz := hz) hWG z1.1 z1.2 k r
    have hA : Adv s (simP s hz k r).1 k := by
      have : ∀ (m : Nat) (q : Int), Adv s (simP s hz m q).1 m := by
        intro m
        induction m with
        | zero => intro q; exact Adv.rf z1 hh01
        | succ m ihm =>
          intro q
          simp only [simP]
          have := (ihm (q / 5)).st (hz := hz) (q := q % 5) z11.2
          rw [show ((m + 1 : Nat) : Int) = (m : Int) + 1 by omega]
          exact this
      exact this k r
    have hhs : ∀ p : Int, 0 ≤ p → p < 6 → (0 ≤ (simP s hz k r).1 (2 + p) ∧ (simP s hz k r).1 (2 + p) ≤ 1) := fun p p0 p6 => (hA.2.2.2 p p0 p6).2
    -- the loop over the doings
    have LP : ∀ (m : Nat) (mi1 : Mi) (q : Nat) (x8 x9 : Option PV), isL x8 = false → isL x9 = false → q + m = 5 → RW k r mi1 → BR n (bestF (fun q => (simP s hz n.toNat q).2) (5 ^ e * q) (r * 5 ^ (e + 1)) b) mi1 → ScT mi mi1 →
        Ok (d + (e + 1) + 3) 152 51 [some (pR (some 39)), some (pI k), some (pI n), some (pI ((simP s hz k r).1 1)), some (pI (hadB (simP s hz k r).1)), some (pI (simP s hz k r).2), some (pI (k + 1)), some (pI q), x8, x9] [] G mi1 K := by
      intro m
      induction m with
      | zero =>
        intro mi1 q x8 x9 r8 r9 hq h1 h2 h3
        have hq5 : q = 5 := by omega
        subst hq5
        rw [K152_51]
        simp (disch := first | assumption | exact isL_i | exact isL_r | exact isL_n | exact i01a | exact i01b | omega) only [K152_53, K152_54, K152_116, wr_id, td_e, tm_e, pu_n, pu_s, up_s, up_k, up_a, ↓reduceIte, Int.reduceLT, Int.reduceLE, Int.reduceEq, Int.reduceNeg, Int.reduceAdd, Int.reduceSub, Int.reduceMul, Int.reduceMod, Int.reduceDiv, Int.cast_ofNat_Int, not_true_eq_false, not_false_eq_true, Int.reduceTDiv, Int.reduceTMod, if_pos, if_neg]
        exact hK mi1 h1 (by rw [Nat.pow_succ]; exact h2) h3
      | succ m ihm =>
        intro mi1 q x8 x9 r8 r9 hq h1 h2 h3
        have hq5 : (q : Int) < 5 := by omega
        have hq0 : (0 : Int) ≤ q := by omega
        obtain ⟨t1, t2⟩ := brt_in (k := (q : Int)) f3.1 f3.2
        have hF1 : FSn s hz N (s 11).toNat mi1 := hF.sc (h3.1.wk (by decide))
        have hF2 : FSn s hz N (s 11).toNat (up mi1 42 k q) := hF1.sc (sc_up (by decide))
        have h40 : up mi1 42 k q 40 (((k : Int) + 1) * 24 + brt ((simP s hz k r).1 1) q) = sL s hz (s 11).toNat (k + 1) (brt ((simP s hz k r).1 1) q) := hF2.1 _ _ (by omega) (by omega) t1 (by omega)
        have h40' : mi1 40 (((k : Int) + 1) * 24 + brt ((simP s hz k r).1 1) q) = sL s hz (s 11).toNat (k + 1) (brt ((simP s hz k r).1 1) q) := by rw [← h40, up_a (by decide)]
        have e11 : (simP s hz k r).1 11 = s 11 := f1 11 (by decide)
        have hqd : (r * 5 + q) / 5 = r := by omega
        have hqm : (r * 5 + q) % 5 = q := by omega
        have eG : gaT (simP s hz k r).1 hz q = gaR (simP s hz k r).1 hz ((simP s hz k r).1 0 + 1) (brt ((simP s hz k r).1 1) q) (s 11).toNat 0 := by
          unfold gaT
          rw [if_neg (by omega), e11]
        have eH : iOr (hadB (simP s hz k r).1) (sL s hz (s 11).toNat (k + 1) (brt ((simP s hz k r).1 1) q)) = hadB (gs (simP s hz k r).1 hz q) := by
          rw [adv_had hA z11.1 z11.2]
          unfold gs
          rw [if_neg (by omega), e11]
        have eS1 : (simP s hz (k + 1) (r * 5 + q)).1 = gs (simP s hz k r).1 hz q := by simp only [simP]; rw [hqd, hqm]
        have eS2 : (simP s hz (k + 1) (r * 5 + q)).2 = (simP s hz k r).2 + gaT (simP s hz k r).1 hz q := by simp only [simP]; rw [hqd, hqm]
        have eC : brt ((simP s hz k r).1 1) q = gs (simP s hz k r).1 hz q 1 := by
          unfold gs
          rw [if_neg (by omega)]
          unfold gsp
          rw [if_neg (by decide), if_pos rfl]
        have hgb := gaT_bd (hWG.st f1) (hz := hz) (k := (q : Int))
        rw [K152_51]
        simp (disch := first | assumption | exact isL_i | exact isL_r | exact isL_n | exact i01a | exact i01b | omega) only [K152_53, K152_54, K152_57, K152_58, K152_61, K152_62, K152_64, K152_65, K152_66, K152_68, K152_71, K152_73, K152_74, K152_76, K152_78, r10, r14, r15, r16, r113, r114, r115, r116, r22, r122, r142, r162, r00, r01, r02, r03, r372, r390, r391, r392, r393, r394, r396, r397, wr_id, td_e, tm_e, pu_n, pu_s, up_s, up_k, up_a, ↓reduceIte, Int.reduceLT, Int.reduceLE, Int.reduceEq, Int.reduceNeg, Int.reduceAdd, Int.reduceSub, Int.reduceMul, Int.reduceMod, Int.reduceDiv, Int.cast_ofNat_Int, not_true_eq_false, not_false_eq_true, Int.reduceTDiv, Int.reduceTMod, c_moved, if_pos, if_neg]
        rw [K152_80 k39, c_gainAt hC hW hF2 hA (by omega) (by omega) hN8 t1 t2, ← eG]
        simp (disch := first | assumption | exact isL_i | exact isL_r | exact isL_n | exact i01a | exact i01b | omega) only [K152_83, K152_85, K152_86, K152_88, K152_89, K152_91, K152_93, K152_94, K152_96, K152_98, K152_101, K152_102, K152_104, K152_106, r10, r14, r15, r16, r113, r114, r115, r116, r22, r122, r142, r162, r00, r01, r02, r03, r372, r390, r391, r392, r393, r394, r396, r397, wr_id, td_e, tm_e, pu_n, pu_s, up_s, up_k, up_a, ↓reduceIte, Int.reduceLT, Int.reduceLE, Int.reduceEq, Int.reduceNeg, Int.reduceAdd, Int.reduceSub, Int.reduceMul, Int.reduceMod, Int.reduceDiv, Int.cast_ofNat_Int, not_true_eq_false, not_false_eq_true, Int.reduceTDiv, Int.reduceTMod, c_seenAt hC, h40', eH]
        rw [K152_107 k39]
        have J := ih (up mi1 42 k q) (k + 1) (r * 5 + q) (bestF (fun q => (simP s hz n.toNat q).2) (5 ^ e * q) (r * 5 ^ (e + 1)) b) (fun r0 G' mi' => Ok (d + (e + 1) + 3) 152 110 [some (pR (some 39)), some (pI k), some (pI n), some (pI ((simP s hz k r).1 1)), some (pI (hadB (simP s hz k r).1)), some (pI (simP s hz k r).2), some (pI (k + 1)), some (pI q), some (pI (brt ((simP s hz k r).1 1) q)), some (pI (gaT (simP s hz k r).1 hz q))] (pu r0 []) G' mi' K)
          (by omega) (by omega) hF2 (by
            have := rw_up (mi := mi1) (mi' := up mi1 42 k q) (by omega) (by omega) hr hq0 hq5 h1 (fun j j0 j1 => up_k (by omega)) up_s
            rw [show ((k + 1 : Nat) : Int) = (k : Int) + 1 by omega]; exact this)
          ⟨by rw [up_a (by decide)]; exact h2.1, by rw [up_a (by decide)]; exact h2.2⟩ (bestF_m _ _ _ hb (fun q => hg0 _ q)) (fun mi' g1 g2 g3 => ?_)
        · rw [eS1, eS2, ← eC] at J
          exact J
        · simp (disch := first | assumption | exact isL_i | exact isL_r | exact isL_n | exact i01a | exact i01b | omega) only [K152_110, K152_113, wr_id, td_e, tm_e, pu_n, pu_s, up_s, up_k, up_a, ↓reduceIte, Int.reduceLT, Int.reduceLE, Int.reduceEq, Int.reduceNeg, Int.reduceAdd, Int.reduceSub, Int.reduceMul, Int.reduceMod, Int.reduceDiv, Int.cast_ofNat_Int, not_true_eq_false, not_false_eq_true, Int.reduceTDiv, Int.reduceTMod]
          rw [show ((k + 1 : Nat) : Int) = (k : Int) + 1 by omega] at g1
          have h1' := rw_dn (by omega) (by omega) hr hq0 hq5 g1
          have hst : ScT mi mi' := h3.tr (ScT.tr ⟨sc_up (by decide), fun j hj => by rw [up_a (by decide)]⟩ g3)
          have := ihm mi' (q + 1) (some (pI (brt ((simP s hz k r).1 1) q))) (some (pI (gaT (simP s hz k r).1 hz q))) isL_i isL_i (by omega) h1' ?_ hst
          · exact this
          · have e5 : 5 ^ e * (q + 1) = 5 ^ e * q + 5 ^ e := by rw [Nat.mul_add, Nat.mul_one]
            rw [e5, bestF_add]
            have er : r * 5 ^ (e + 1) + ((5 ^ e * q : Nat) : Int) = (r * 5 + q) * 5 ^ e := by
              rw [Int.natCast_mul, Int.natCast_pow, Int.pow_succ, Int.add_mul, Int.mul_assoc r 5, Int.mul_comm (5 : Int) (5 ^ e), Int.mul_comm (q : Int)]
              rfl
            rw [er]
            exact g2
    rw [E152]
    simp (disch := first | assumption | exact isL_i | exact isL_r | exact isL_n | exact i01a | exact i01b | omega) only [K152_0, K152_1, K152_2, K152_5, K152_6, K152_9, K152_10, K152_13, K152_43, K152_44, K152_45, K152_46, K152_48, K152_49, r10, r14, r15, r16, r113, r114, r115, r116, r22, r122, r142, r162, r00, r01, r02, r03, r372, r390, r391, r392, r393, r394, r396, r397, wr_id, td_e, tm_e, pu_n, pu_s, up_s, up_k, up_a, ↓reduceIte, Int.reduceLT, Int.reduceLE, Int.reduceEq, Int.reduceNeg, Int.reduceAdd, Int.reduceSub, Int.reduceMul, Int.reduceMod, Int.reduceDiv, Int.cast_ofNat_Int, not_true_eq_false, not_false_eq_true, Int.reduceTDiv, Int.reduceTMod, c_isIn, l42, if_pos, if_neg]
    have := LP 5 mi 0 none none isL_n isL_n (by decide) hRW hBR ScT.rf
    exact this
end CL
