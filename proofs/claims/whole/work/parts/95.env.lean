/-! ===== what the start gives ===== -/
abbrev FL : List Cond := flatC (Cond.and given_1 narrow_1)
def tmS : Nat → Term
  | 0 => .string "CoinTelescope$View" 79
  | 1 => .string "CoinTelescope$View" 100
  | 2 => .string "CoinTelescope$View" 106
  | 3 => .string "CoinTelescopeModel" 124
  | 4 => .string "CoinTelescopeModel" 129
  | 5 => .string "CoinTelescopeModel" 131
  | 6 => .string "CoinTelescopeModel" 116
  | _ => .string "CoinTelescopeModel" 122
theorem fl_sz : ∀ i, i < sTexts.length → sLens.getD i 0 < 2 ^ 31 := by decide +kernel
theorem fl_ex : ∀ i, i < sTexts.length → Cond.exactly (tmS i) "java/lang/String" ∈ FL := by decide +kernel
theorem fl_co : ∀ i, i < sTexts.length → Cond.eq (.field (tmS i) "java/lang/String" "coder" "B") (.int 0) ∈ FL := by decide +kernel
theorem fl_ar : ∀ i, i < sTexts.length → Cond.arrayOf (.field (tmS i) "java/lang/String" "value" "[B") .byte ∈ FL := by decide +kernel
theorem fl_le : ∀ i, i < sTexts.length → Cond.eq (.length (.field (tmS i) "java/lang/String" "value" "[B")) (.int (Int32.ofNat (sLens.getD i 0))) ∈ FL := by decide +kernel
theorem fl_el : ∀ i, i < sTexts.length → ∀ j, j < sLens.getD i 0 → Cond.eq (.elem (.field (tmS i) "java/lang/String" "value" "[B") (.int (Int32.ofNat j))) (.int ((sByts.getD i []).getD j 0)) ∈ FL := by decide +kernel
theorem fl_ne : ∀ i, i < sTexts.length → ∀ j, j < sTexts.length → i = j ∨ Cond.not (Cond.eq (tmS i) (tmS j)) ∈ FL ∨ Cond.not (Cond.eq (tmS j) (tmS i)) ∈ FL := by decide +kernel
theorem fl_p1 : Cond.eq (.string "CoinTelescope$View" 100) (.string "CoinTelescopeModel" 98) ∈ FL := by decide +kernel
theorem fl_p2 : Cond.eq (.string "CoinTelescope$View" 106) (.string "CoinTelescopeModel" 104) ∈ FL := by decide +kernel
theorem fl_cs : Cond.eq (.static "java/lang/String" "COMPACT_STRINGS" "Z") (.int 1) ∈ FL := by decide +kernel
theorem fl_sf : Cond.isRef (.static "jdk/internal/util/Preconditions" "SIOOBE_FORMATTER" "Ljava/util/function/BiFunction;") ∈ FL := by decide +kernel
theorem fl_nc : ∀ q ∈ ncastL, Cond.not (.castable q.1 q.2) ∈ FL := by decide +kernel
theorem tb_st : ∀ q ∈ strL, Cond.stringRef q.1 q.2.1 q.2.2.1 ∈ lw_tbl := by decide +kernel
theorem tb_ne : ∀ q ∈ nestL, Cond.methodLinkNest q.1 q.2.1 q.2.2.1 q.2.2.2 ∈ lw_tbl := by decide +kernel
theorem tb_ca : ∀ q ∈ castL, Cond.castable q.1 q.2 ∈ lw_tbl := by decide +kernel
theorem tb_in : ∀ k, k < 13 → Cond.instantiable (clCc k).1 (clCc k).2.2 ∈ lw_tbl := by decide +kernel
theorem tb_ai : Cond.arrayClass .int ∈ lw_tbl := by decide +kernel
theorem tb_az : Cond.arrayClass .boolean ∈ lw_tbl := by decide +kernel
theorem tb_ao : Cond.arrayOver (.object "CoinTelescope$Thing") ∈ lw_tbl := by decide +kernel
theorem tb_l1 : Cond.laysStatic "java/lang/String" "COMPACT_STRINGS" "Z" ∈ lw_tbl := by decide +kernel
theorem tb_l2 : Cond.laysStatic "jdk/internal/util/Preconditions" "SIOOBE_FORMATTER" "Ljava/util/function/BiFunction;" ∈ lw_tbl := by decide +kernel
theorem tb_i1 : Cond.initialized "java/lang/String" ∈ lw_tbl := by decide +kernel
theorem tb_i2 : Cond.initialized "jdk/internal/util/Preconditions" ∈ lw_tbl := by decide +kernel
theorem env_start {s : State} {b L : Nat} {ys : Nat → Int32} (hts : ∀ w ∈ lw_tbl, w.before #[Value.ref b] s = true) (hX : va_X b L ys s s.heap) (hbl : b < s.heap.size) (hL : L ≤ 2048) (hgv : (Cond.and given_1 narrow_1).before #[Value.ref b] s = true) :
    ∃ X : Cx, xb X = s.heap.size ∧ xs X = (b, L, ys) ∧ EnvU X s s.heap := by
  have hs := flat_of_before _ hgv
  have hA : ∀ a : Nat, a < s.heap.size → ¬ (fun q : Nat => s.heap.size ≤ q) a := fun a h => Nat.not_le.mpr h
  have h0 : ∀ k : Nat, ∃ q : ClassId × (Nat → Nat), k < 13 → u_Kn s (clCc k).1 (clCc k).2.1 (clCc k).2.2 q.1 q.2 := by
    intro k
    by_cases hk : k < 13
    · obtain ⟨cC, iS, h⟩ := u_known (C := (clCc k).1) (T := (clCc k).2.1) (N := (clCc k).2.2) (n := (clCc k).2.2) hts (fun w hw => (List.mem_filter.mp (cl_in hk w hw)).1) (hts _ (tb_in k hk))
      exact ⟨(cC, iS), fun _ => h⟩
    · exact ⟨(0, fun _ => 0), fun h => absurd h hk⟩
  obtain ⟨f, hf⟩ := Classical.axiomOfChoice h0
  obtain ⟨cI, kI, compI, i1, i2, i3⟩ := Cond.arrayClass_spec (hts _ tb_ai)
  obtain ⟨cZ, kZ, compZ, z1, z2, z3⟩ := Cond.arrayClass_spec (hts _ tb_az)
  obtain ⟨comp, cT, kT, t1, t2, t3, t4, t5⟩ := Cond.arrayOver_spec (hts _ tb_ao)
  obtain ⟨adK, adV, hSt, hev⟩ := vk_Sof (s := s) (args := #[Value.ref b]) (N := sTexts.length) (tm := tmS) (len := sLens) (byt := sByts) (A := fun q => s.heap.size ≤ q) fl_sz (fun i hi => hs _ (fl_ex i hi)) (fun i hi => hs _ (fl_co i hi)) (fun i hi => hs _ (fl_ar i hi)) (fun i hi => hs _ (fl_le i hi)) (fun i hi j hj => hs _ (fl_el i hi j hj)) (fun i j hi hj hij => by
    rcases fl_ne i hi j hj with h | h | h
    · exact absurd h hij
    · exact Or.inl (hs _ h)
    · exact Or.inr (hs _ h)) hA
  have hR : ∀ q ∈ strL, vk_R q.1 q.2.1 q.2.2.1 (adK q.2.2.2) s := by
    have e : ∀ q ∈ strL, (Term.string q.1 q.2.1).eval #[Value.ref b] s none [] s = some (.ref (adK q.2.2.2)) := by
      have g0 := hev 0 (by decide)
      have g1 := hev 1 (by decide)
      have g2 := hev 2 (by decide)
      have g3 := hev 3 (by decide)
      have g4 := hev 4 (by decide)
      have g5 := hev 5 (by decide)
      have g6 := hev 6 (by decide)
      have g7 := hev 7 (by decide)
      have d1 := va_eqR (hs _ fl_p1) g1
      have d2 := va_eqR (hs _ fl_p2) g2
      unfold strL
      intro q hq
      simp only [List.mem_cons, List.not_mem_nil, or_false] at hq
      rcases hq with rfl | rfl | rfl | rfl | rfl | rfl | rfl | rfl | rfl | rfl
      all_goals first
        | exact g0
        | exact g1
        | exact g2
        | exact g3
        | exact g4
        | exact g5
        | exact g6
        | exact g7
        | exact d1
        | exact d2
    exact fun q hq => vk_R.of (hts _ (tb_st q hq)) (e q hq)
  have hZ1 : va_Z "java/lang/String" "COMPACT_STRINGS" "Z" (.int 1) (fun q => s.heap.size ≤ q) s s.heap := va_Zof (hts _ tb_l1) (hts _ tb_i1) (va_eqt (hs _ fl_cs)) hA
  have hZ2 : ∃ v : Value, va_Z "jdk/internal/util/Preconditions" "SIOOBE_FORMATTER" "Ljava/util/function/BiFunction;" v (fun q => s.heap.size ≤ q) s s.heap ∧ (v = .null ∨ ∃ a, v = .ref a) := by
    rcases va_Zqof (hts _ tb_l2) (hts _ tb_i2) (hs _ fl_sf) hA with h | ⟨t, h⟩
    · exact ⟨_, h, Or.inl rfl⟩
    · exact ⟨_, h, Or.inr ⟨t, rfl⟩⟩
  obtain ⟨vF, hF, hF2⟩ := hZ2
  refine ⟨((fun k => (f k).1, fun k => (f k).2), (cI, cZ, cT), s.heap.size, adK, adV, (b, L, ys), vF), rfl, rfl, ⟨?_, ?_⟩, ⟨hX, hbl, hL⟩, hSt, hR, hZ1, ⟨hF, hF2⟩, fun q hq => va_Nw.of rfl (hts _ (tb_ne q hq)), fun q hq => va_Nw.of rfl (hts _ (tb_ca q hq)), fun q hq => va_Nc.of (hs _ (fl_nc q hq)), va_AO.of (hts _ tb_ao)⟩
  · intro c q hq
    have hc : c < 13 := (List.getElem?_eq_some_iff.mp hq).1
    rw [cl_get hc] at hq
    have := Option.some.inj hq
    subst this
    exact hf c hc
  · intro k q hq
    match k, hq with
    | 0, hq =>
      have := Option.some.inj hq
      subst this
      exact ⟨fun n z => ⟨fun k h => (by cases h), kI, i2, compI, i3⟩, i1⟩
    | 1, hq =>
      have := Option.some.inj hq
      subst this
      exact ⟨fun n z => ⟨fun k h => (by cases h), kZ, z2, compZ, z3⟩, z1⟩
    | 2, hq =>
      have := Option.some.inj hq
      subst this
      exact ⟨fun n z => ⟨fun k h => (by cases h), kT, t3, comp, t4⟩, kT, comp, t3, t4, t1, t5⟩
    | k + 3, hq => simp [tysX] at hq
