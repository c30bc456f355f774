/-! ===== the ranges stay ===== -/
theorem WfV.c {s s' : Int → Int} (hV : WfV s) (h17 : -1 ≤ s 17) (h : ∀ j : Int, j = 17 ∨ 199 ≤ j → s' j = s j) : WfV s' := by
  obtain ⟨-, -, -, y4, y5⟩ := vw_c h17 h
  unfold WfV
  rw [y5, y4, h 17 (Or.inl rfl)]
  refine ⟨hV.1, hV.2.1, fun hn => ?_⟩
  rw [h _ (by omega), h _ (by omega), h _ (by omega)]
  exact hV.2.2 hn
def WCj (s : Int → Int) (j v : Int) : Prop :=
  (0 ≤ j ∧ j < 199 ∧ ¬ j = 12 ∧ ¬ j = 17) ∧ (j = 0 → 0 ≤ v ∧ v ≤ 9999) ∧ (j = 1 → 0 ≤ v ∧ v ≤ 23) ∧ (2 ≤ j → j < 8 → 0 ≤ v ∧ v ≤ 1 ∧ (2 + s 11 ≤ j → v = 0)) ∧ (j = 8 → 0 ≤ v ∧ v ≤ 99) ∧ (j = 9 → 0 ≤ v ∧ v ≤ 9999) ∧ (j = 10 → 0 ≤ v ∧ v ≤ 9999999) ∧ (j = 11 → s 11 ≤ v ∧ v ≤ 6) ∧
  (j = 13 → 0 ≤ v ∧ v ≤ 5 ∧ (s 13 < v → v = s 13 + 1 ∧ 0 ≤ s (65 + s 13) ∧ s (65 + s 13) ≤ 40)) ∧ (j = 14 → 0 ≤ v ∧ v ≤ 8) ∧ (j = 15 → 0 ≤ v ∧ v ≤ 8 ∧ (s 15 < v → v = s 15 + 1 ∧ 0 ≤ s (83 + s 15) ∧ s (83 + s 15) < s 11)) ∧ (j = 16 → 0 ≤ v ∧ v ≤ 100) ∧
  (18 ≤ j → j < 24 → 0 ≤ v ∧ v ≤ 6) ∧ (24 ≤ j → j < 30 → 0 ≤ v ∧ v ≤ 9) ∧ (30 ≤ j → j < 36 → 0 ≤ v ∧ v ≤ 23) ∧ (36 ≤ j → j < 60 → 0 ≤ v ∧ v ≤ 9 ∧ (36 + 4 * s 11 ≤ j → v = 0)) ∧
  (65 ≤ j → j < 70 → 65 + s 13 ≤ j) ∧ (75 ≤ j → j < 83 → 0 ≤ v ∧ v ≤ 5) ∧ (83 ≤ j → j < 91 → 83 + s 15 ≤ j) ∧ (99 ≤ j → 0 ≤ v ∧ v ≤ 127)
-- #def WP (by unfold WCj; refine ⟨?_, ?_, ?_, ?_, ?_, ?_, ?_, ?_, ?_, ?_, ?_, ?_, ?_, ?_, ?_, ?_, ?_, ?_, ?_, ?_⟩ <;> intros <;> omega)
theorem WfA.set {s : Int → Int} {j v : Int} (hW : WfA s) (hc : WCj s j v) : WfA (sH s j v) := by
  obtain ⟨⟨⟨z0, z1, z8, z9, z10, z11, z12, z13, z14, z15, z16⟩, hh01, hT, hz17⟩, hWV, hWD, hWB, hWP, hWT, hWZ, hWF, hWK⟩ := id hW
  obtain ⟨j0, j1, j12, j17⟩ := hc.1
  have e : ∀ i : Int, sH s j v i = if i = j then v else s i := fun _ => rfl
  have k : ∀ i : Int, ¬ i = j → sH s j v i = s i := fun i hi => sH_k hi
  have h11 : s 11 ≤ sH s j v 11 := by
    rw [e]; split
    · exact (hc.2.2.2.2.2.2.2.1 (by omega)).1
    · exact Int.le_refl _
  refine ⟨⟨⟨?_, ?_, ?_, ?_, ?_, ?_, ?_, ?_, ?_, ?_, ?_⟩, fun p p0 p6 => ?_, ⟨fun p p0 p6 => ⟨?_, ?_, ?_⟩, fun q q0 q1 => ?_⟩, ?_⟩, hWV.c hz17.1 (fun i hi => k i (by omega)), ⟨?_, fun q q0 q1 => ?_⟩, ⟨?_, fun q q0 q1 => ?_⟩, fun q q0 q1 => ?_, fun q q0 q1 => ?_, fun p p0 p6 => ?_, fun q hq => ?_, fun q q0 q1 => ?_⟩
  · rw [e]; split; exact hc.2.1 (by omega); exact z0
  · rw [e]; split; exact hc.2.2.1 (by omega); exact z1
  · rw [e]; split; exact hc.2.2.2.2.1 (by omega); exact z8
  · rw [e]; split; exact hc.2.2.2.2.2.1 (by omega); exact z9
  · rw [e]; split; exact hc.2.2.2.2.2.2.1 (by omega); exact z10
  · rw [e]; split
    · have := hc.2.2.2.2.2.2.2.1 (by omega); exact ⟨Int.le_trans z11.1 this.1, this.2⟩
    · exact z11
  · rw [k 12 (fun h => j12 h.symm)]; exact z12
  · rw [e]; split
    · have := hc.2.2.2.2.2.2.2.2.1 (by omega); exact ⟨this.1, this.2.1⟩
    · exact z13
  · rw [e]; split; exact hc.2.2.2.2.2.2.2.2.2.1 (by omega); exact z14
  · rw [e]; split
    · have := hc.2.2.2.2.2.2.2.2.2.2.1 (by omega); exact ⟨this.1, this.2.1⟩
    · exact z15
  · rw [e]; split; exact hc.2.2.2.2.2.2.2.2.2.2.2.1 (by omega); exact z16
  · rw [e]; split
    · have := hc.2.2.2.1 (by omega) (by omega); exact ⟨this.1, this.2.1⟩
    · exact hh01 p p0 p6
  · rw [e]; split; exact hc.2.2.2.2.2.2.2.2.2.2.2.2.1 (by omega) (by omega); exact (hT.1 p p0 p6).1
  · rw [e]; split; exact hc.2.2.2.2.2.2.2.2.2.2.2.2.2.1 (by omega) (by omega); exact (hT.1 p p0 p6).2.1
  · rw [e]; split; exact hc.2.2.2.2.2.2.2.2.2.2.2.2.2.2.1 (by omega) (by omega); exact (hT.1 p p0 p6).2.2
  · rw [e]; split
    · have := hc.2.2.2.2.2.2.2.2.2.2.2.2.2.2.2.1 (by omega) (by omega); exact ⟨this.1, this.2.1⟩
    · exact hT.2 q q0 q1
  · rw [k 17 (fun h => j17 h.symm), k 12 (fun h => j12 h.symm)]; exact hz17
  · rw [e]; split
    · have := hc.2.2.2.2.2.2.2.2.1 (by omega); exact ⟨this.1, this.2.1⟩
    · exact hWD.1
  · by_cases c : j = 13
    · rw [c] at q1
      rw [sH_s] at q1
      rw [k (65 + q) (by omega)]
      by_cases c3 : q < s 13
      · exact hWD.2 q q0 c3
      · have h3 := (hc.2.2.2.2.2.2.2.2.1 c).2.2 (by omega)
        have hq : q = s 13 := by omega
        rw [hq]; exact h3.2
    · rw [k 13 (fun h => c h.symm)] at q1
      have h5 := hWD.1
      rw [k (65 + q) (fun h => by have := hc.2.2.2.2.2.2.2.2.2.2.2.2.2.2.2.2.1 (by omega) (by omega); omega)]; exact hWD.2 q q0 q1
  · rw [e]; split
    · have := hc.2.2.2.2.2.2.2.2.2.2.1 (by omega); exact ⟨this.1, this.2.1⟩
    · exact hWB.1
  · by_cases c : j = 15
    · rw [c] at q1
      rw [sH_s] at q1
      rw [k (83 + q) (by omega)]
      by_cases c3 : q < s 15
      · exact hWB.2 q q0 c3
      · have h3 := (hc.2.2.2.2.2.2.2.2.2.2.1 c).2.2 (by omega)
        have hq : q = s 15 := by omega
        rw [hq]; exact ⟨h3.2.1, by have := h3.2.2; omega⟩
    · rw [k 15 (fun h => c h.symm)] at q1
      have h5 := hWB.1
      rw [k (83 + q) (fun h => by have := hc.2.2.2.2.2.2.2.2.2.2.2.2.2.2.2.2.2.2.1 (by omega) (by omega); omega)]; exact hWB.2 q q0 q1
  · rw [e]; split; exact hc.2.2.2.2.2.2.2.2.2.2.2.2.2.2.2.2.2.1 (by omega) (by omega); exact hWP q q0 q1
  · rw [e]; split; exact hc.2.2.2.2.2.2.2.2.2.2.2.2.2.2.2.2.2.2.2 (by omega); exact hWT q q0 q1
  · have h12 : s 11 ≤ p := Int.le_trans h11 p0
    obtain ⟨w1, w2, w3, w4, w5⟩ := hWZ p h12 p6
    have e36 : ∀ q : Int, 36 + 4 * p ≤ q → q < 60 → s q = 0 → sH s j v q = 0 := by
      intro q q0 q1 hq
      rw [e]; split
      · exact (hc.2.2.2.2.2.2.2.2.2.2.2.2.2.2.2.1 (by omega) (by omega)).2.2 (by omega)
      · exact hq
    refine ⟨?_, e36 _ (by omega) (by omega) w2, e36 _ (by omega) (by omega) w3, e36 _ (by omega) (by omega) w4, e36 _ (by omega) (by omega) w5⟩
    rw [e]; split
    · exact (hc.2.2.2.1 (by omega) (by omega)).2.2 (by omega)
    · exact w1
  · rw [k q (by omega)]; exact hWF q hq
  · by_cases c : j = 15
    · rw [c] at q1
      rw [sH_s] at q1
      rw [k (83 + q) (by omega)]
      by_cases c3 : q < s 15
      · exact Int.lt_of_lt_of_le (hWK q q0 c3) h11
      · have h3 := (hc.2.2.2.2.2.2.2.2.2.2.1 c).2.2 (by omega)
        have hq : q = s 15 := by omega
        rw [hq]; exact Int.lt_of_lt_of_le h3.2.2 h11
    · rw [k 15 (fun h => c h.symm)] at q1
      have h5 := hWB.1
      rw [k (83 + q) (fun h => by have := hc.2.2.2.2.2.2.2.2.2.2.2.2.2.2.2.2.2.2.1 (by omega) (by omega); omega)]
      exact Int.lt_of_lt_of_le (hWK q q0 q1) h11
/-- the first numbers alone change -/
theorem WfA.lo {s s' : Int → Int} (hW : WfA s) (k : ∀ j : Int, j < 0 ∨ 8 ≤ j → s' j = s j) (h0 : 0 ≤ s' 0 ∧ s' 0 ≤ 9999) (h1 : 0 ≤ s' 1 ∧ s' 1 ≤ 23) (hh : ∀ p : Int, 0 ≤ p → p < 6 → 0 ≤ s' (2 + p) ∧ s' (2 + p) ≤ 1) (hz : ∀ p : Int, s 11 ≤ p → p < 6 → s' (2 + p) = 0) : WfA s' := by
  obtain ⟨⟨⟨z0, z1, z8, z9, z10, z11, z12, z13, z14, z15, z16⟩, hh01, hT, hz17⟩, hWV, hWD, hWB, hWP, hWT, hWZ, hWF, hWK⟩ := id hW
  refine ⟨⟨⟨h0, h1, ?_, ?_, ?_, ?_, ?_, ?_, ?_, ?_, ?_⟩, hh, ⟨fun p p0 p6 => ?_, fun q q0 q1 => ?_⟩, ?_⟩, hWV.c hz17.1 (fun i hi => k i (by omega)), ⟨?_, fun q q0 q1 => ?_⟩, ⟨?_, fun q q0 q1 => ?_⟩, fun q q0 q1 => ?_, fun q q0 q1 => ?_, fun p p0 p6 => ?_, fun q hq => ?_, fun q q0 q1 => ?_⟩
  · rw [k _ (by omega)]; exact z8
  · rw [k _ (by omega)]; exact z9
  · rw [k _ (by omega)]; exact z10
  · rw [k _ (by omega)]; exact z11
  · rw [k _ (by omega)]; exact z12
  · rw [k _ (by omega)]; exact z13
  · rw [k _ (by omega)]; exact z14
  · rw [k _ (by omega)]; exact z15
  · rw [k _ (by omega)]; exact z16
  · rw [k _ (by omega), k _ (by omega), k _ (by omega)]; exact hT.1 p p0 p6
  · rw [k _ (by omega)]; exact hT.2 q q0 q1
  · rw [k _ (by omega), k _ (by omega)]; exact hz17
  · rw [k _ (by omega)]; exact hWD.1
  · rw [k _ (by omega)] at q1 ⊢; exact hWD.2 q q0 q1
  · rw [k _ (by omega)]; exact hWB.1
  · rw [k _ (by omega)] at q1 ⊢; exact hWB.2 q q0 q1
  · rw [k _ (by omega)]; exact hWP q q0 q1
  · rw [k _ (by omega)]; exact hWT q q0 q1
  · rw [k _ (by omega)] at p0
    rw [hz p p0 p6, k _ (by omega), k _ (by omega), k _ (by omega), k _ (by omega)]; exact ⟨rfl, (hWZ p p0 p6).2⟩
  · rw [k _ (by omega)]; exact hWF q hq
  · rw [k _ (by omega)] at q1
    rw [k _ (by omega), k _ (by omega)]; exact hWK q q0 q1
section WF
variable {s : Int → Int} {p k n v c g x w : Int}
theorem wf_feed (hW : WfA s) : WfA (oFeed s x).2 := by
  have hW0 := hW
  obtain ⟨⟨⟨z0, z1, z8, z9, z10, z11, z12, z13, z14, z15, z16⟩, hh01, hT, hz17⟩, hWV, hWD, hWB, hWP, hWT, hWZ, hWF, hWK⟩ := id hW
  unfold oFeed
  by_cases c1 : 0 ≤ x ∧ x ≤ 127
  · rw [if_pos c1]
    by_cases c2 : s 16 = 100
    · rw [if_pos c2]; exact hW0
    · rw [if_neg c2]
      exact (hW0.set (by unfold WCj; refine ⟨?_, ?_, ?_, ?_, ?_, ?_, ?_, ?_, ?_, ?_, ?_, ?_, ?_, ?_, ?_, ?_, ?_, ?_, ?_, ?_⟩ <;> intros <;> omega)).set (by unfold WCj; refine ⟨?_, ?_, ?_, ?_, ?_, ?_, ?_, ?_, ?_, ?_, ?_, ?_, ?_, ?_, ?_, ?_, ?_, ?_, ?_, ?_⟩ <;> intros <;> omega)
  · rw [if_neg c1]; exact hW0
theorem wf_point (hW : WfA s) : WfA (oPoint s c).2 := by
  unfold oPoint
  by_cases c1 : isC c
  · rw [if_pos c1]; exact hW.set (by unfold WCj; refine ⟨?_, ?_, ?_, ?_, ?_, ?_, ?_, ?_, ?_, ?_, ?_, ?_, ?_, ?_, ?_, ?_, ?_, ?_, ?_, ?_⟩ <;> intros <;> omega)
  · rw [if_neg c1]; exact hW
theorem wf_move (hW : WfA s) : WfA (oMove s p c).2 := by
  have hW0 := hW
  obtain ⟨⟨⟨z0, z1, z8, z9, z10, z11, z12, z13, z14, z15, z16⟩, hh01, hT, hz17⟩, hWV, hWD, hWB, hWP, hWT, hWZ, hWF, hWK⟩ := id hW
  unfold oMove
  by_cases c1 : isT s p ∧ isC c
  · rw [if_pos c1]; exact hW0.set (by unfold WCj; refine ⟨?_, ?_, ?_, ?_, ?_, ?_, ?_, ?_, ?_, ?_, ?_, ?_, ?_, ?_, ?_, ?_, ?_, ?_, ?_, ?_⟩ <;> intros <;> omega)
  · rw [if_neg c1]; exact hW0
theorem wf_had (hW : WfA s) : WfA (oHad s p v).2 := by
  have hW0 := hW
  obtain ⟨⟨⟨z0, z1, z8, z9, z10, z11, z12, z13, z14, z15, z16⟩, hh01, hT, hz17⟩, hWV, hWD, hWB, hWP, hWT, hWZ, hWF, hWK⟩ := id hW
  unfold oHad
  by_cases c1 : isT s p
  · rw [if_pos c1]
    dsimp only
    refine hW0.set ?_
    split
    · exact (by unfold WCj; refine ⟨?_, ?_, ?_, ?_, ?_, ?_, ?_, ?_, ?_, ?_, ?_, ?_, ?_, ?_, ?_, ?_, ?_, ?_, ?_, ?_⟩ <;> intros <;> omega)
    · exact (by unfold WCj; refine ⟨?_, ?_, ?_, ?_, ?_, ?_, ?_, ?_, ?_, ?_, ?_, ?_, ?_, ?_, ?_, ?_, ?_, ?_, ?_, ?_⟩ <;> intros <;> omega)
  · rw [if_neg c1]; exact hW0
theorem wf_row (hW : WfA s) : WfA (oRow s p k n).2 := by
  have hW0 := hW
  obtain ⟨⟨⟨z0, z1, z8, z9, z10, z11, z12, z13, z14, z15, z16⟩, hh01, hT, hz17⟩, hWV, hWD, hWB, hWP, hWT, hWZ, hWF, hWK⟩ := id hW
  unfold oRow
  by_cases c1 : isT s p ∧ (0 ≤ k ∧ k ≤ 3)
  · rw [if_pos c1]
    by_cases c2 : 0 ≤ n ∧ n ≤ 9
    · rw [if_pos c2]
      by_cases c3 : s (18 + p) = 6
      · rw [if_pos c3]; exact hW0.set (by unfold WCj; refine ⟨?_, ?_, ?_, ?_, ?_, ?_, ?_, ?_, ?_, ?_, ?_, ?_, ?_, ?_, ?_, ?_, ?_, ?_, ?_, ?_⟩ <;> intros <;> omega)
      · rw [if_neg c3]; exact hW0
    · rw [if_neg c2]; exact hW0
  · rw [if_neg c1]; exact hW0
theorem wf_plan (hW : WfA s) : WfA (oPlan s g).2 := by
  have hW0 := hW
  obtain ⟨⟨⟨z0, z1, z8, z9, z10, z11, z12, z13, z14, z15, z16⟩, hh01, hT, hz17⟩, hWV, hWD, hWB, hWP, hWT, hWZ, hWF, hWK⟩ := id hW
  unfold oPlan
  by_cases c1 : g = -1
  · rw [if_pos c1]; exact hW0.set (by unfold WCj; refine ⟨?_, ?_, ?_, ?_, ?_, ?_, ?_, ?_, ?_, ?_, ?_, ?_, ?_, ?_, ?_, ?_, ?_, ?_, ?_, ?_⟩ <;> intros <;> omega)
  · rw [if_neg c1]
    by_cases c2 : 0 ≤ g ∧ g ≤ 5
    · rw [if_pos c2]
      by_cases c3 : s 14 = 8
      · rw [if_pos c3]; exact hW0
      · rw [if_neg c3]
        exact (hW0.set (by unfold WCj; refine ⟨?_, ?_, ?_, ?_, ?_, ?_, ?_, ?_, ?_, ?_, ?_, ?_, ?_, ?_, ?_, ?_, ?_, ?_, ?_, ?_⟩ <;> intros <;> omega)).set (by unfold WCj; refine ⟨?_, ?_, ?_, ?_, ?_, ?_, ?_, ?_, ?_, ?_, ?_, ?_, ?_, ?_, ?_, ?_, ?_, ?_, ?_, ?_⟩ <;> intros <;> omega)
    · rw [if_neg c2]; exact hW0
theorem wf_book (hW : WfA s) : WfA (oBook s p c).2 := by
  have hW0 := hW
  obtain ⟨⟨⟨z0, z1, z8, z9, z10, z11, z12, z13, z14, z15, z16⟩, hh01, hT, hz17⟩, hWV, hWD, hWB, hWP, hWT, hWZ, hWF, hWK⟩ := id hW
  unfold oBook
  by_cases c1 : p = -1
  · rw [if_pos c1]; exact hW0.set (by unfold WCj; refine ⟨?_, ?_, ?_, ?_, ?_, ?_, ?_, ?_, ?_, ?_, ?_, ?_, ?_, ?_, ?_, ?_, ?_, ?_, ?_, ?_⟩ <;> intros <;> omega)
  · rw [if_neg c1]
    by_cases c2 : isT s p ∧ isC c
    · rw [if_pos c2]
      by_cases c3 : s 15 = 8
      · rw [if_pos c3]; exact hW0
      · rw [if_neg c3]
        refine ((hW0.set (by unfold WCj; refine ⟨?_, ?_, ?_, ?_, ?_, ?_, ?_, ?_, ?_, ?_, ?_, ?_, ?_, ?_, ?_, ?_, ?_, ?_, ?_, ?_⟩ <;> intros <;> omega)).set (by unfold WCj; refine ⟨?_, ?_, ?_, ?_, ?_, ?_, ?_, ?_, ?_, ?_, ?_, ?_, ?_, ?_, ?_, ?_, ?_, ?_, ?_, ?_⟩ <;> intros <;> omega)).set ?_
        have e1 : sH (sH s (83 + s 15) p) (91 + s 15) c 15 = s 15 := by rw [sH_k (by omega), sH_k (by omega)]
        have e2 : sH (sH s (83 + s 15) p) (91 + s 15) c (83 + s 15) = p := by rw [sH_k (by omega), sH_s]
        have e3 : sH (sH s (83 + s 15) p) (91 + s 15) c 11 = s 11 := by rw [sH_k (by omega), sH_k (by omega)]
        unfold WCj
        rw [e1, e2, e3]
        refine ⟨?_, ?_, ?_, ?_, ?_, ?_, ?_, ?_, ?_, ?_, ?_, ?_, ?_, ?_, ?_, ?_, ?_, ?_, ?_, ?_⟩ <;> intros <;> omega
    · rw [if_neg c2]; exact hW0
theorem wf_stood (hW : WfA s) : WfA (oStood s p n c).2 := by
  have hW0 := hW
  obtain ⟨⟨⟨z0, z1, z8, z9, z10, z11, z12, z13, z14, z15, z16⟩, hh01, hT, hz17⟩, hWV, hWD, hWB, hWP, hWT, hWZ, hWF, hWK⟩ := id hW
  unfold oStood
  by_cases c1 : p = -1
  · rw [if_pos c1]; exact hW0.set (by unfold WCj; refine ⟨?_, ?_, ?_, ?_, ?_, ?_, ?_, ?_, ?_, ?_, ?_, ?_, ?_, ?_, ?_, ?_, ?_, ?_, ?_, ?_⟩ <;> intros <;> omega)
  · rw [if_neg c1]
    by_cases c2 : isT s p ∧ isC c
    · rw [if_pos c2]
      by_cases c4 : 0 ≤ n ∧ n ≤ 40
      · rw [if_pos c4]
        by_cases c3 : s 13 = 5
        · rw [if_pos c3]; exact hW0
        · rw [if_neg c3]
          have e0 : sH s (60 + s 13) p 13 = s 13 := sH_k (by omega)
          have W1 := hW0.set (j := 60 + s 13) (v := p) (by unfold WCj; refine ⟨?_, ?_, ?_, ?_, ?_, ?_, ?_, ?_, ?_, ?_, ?_, ?_, ?_, ?_, ?_, ?_, ?_, ?_, ?_, ?_⟩ <;> intros <;> omega)
          have W2 := W1.set (j := 65 + s 13) (v := n) (by unfold WCj; rw [e0]; refine ⟨?_, ?_, ?_, ?_, ?_, ?_, ?_, ?_, ?_, ?_, ?_, ?_, ?_, ?_, ?_, ?_, ?_, ?_, ?_, ?_⟩ <;> intros <;> omega)
          have W3 := W2.set (j := 70 + s 13) (v := c) (by unfold WCj; refine ⟨?_, ?_, ?_, ?_, ?_, ?_, ?_, ?_, ?_, ?_, ?_, ?_, ?_, ?_, ?_, ?_, ?_, ?_, ?_, ?_⟩ <;> intros <;> omega)
          refine W3.set ?_
          have e1 : sH (sH (sH s (60 + s 13) p) (65 + s 13) n) (70 + s 13) c 13 = s 13 := by rw [sH_k (by omega), sH_k (by omega), sH_k (by omega)]
          have e2 : sH (sH (sH s (60 + s 13) p) (65 + s 13) n) (70 + s 13) c (65 + s 13) = n := by rw [sH_k (by omega), sH_s]
          unfold WCj
          rw [e1, e2]
          refine ⟨?_, ?_, ?_, ?_, ?_, ?_, ?_, ?_, ?_, ?_, ?_, ?_, ?_, ?_, ?_, ?_, ?_, ?_, ?_, ?_⟩ <;> intros <;> omega
      · rw [if_neg c4]; exact hW0
    · rw [if_neg c2]; exact hW0
theorem wf_pass (hW : WfA s) : WfA (oPass s n).2 := by
  have hW0 := hW
  obtain ⟨⟨⟨z0, z1, z8, z9, z10, z11, z12, z13, z14, z15, z16⟩, hh01, hT, hz17⟩, hWV, hWD, hWB, hWP, hWT, hWZ, hWF, hWK⟩ := id hW
  unfold oPass
  by_cases c1 : 0 ≤ n ∧ n ≤ 60
  · rw [if_pos c1]
    by_cases c2 : 9999 < s 0 + n
    · rw [if_pos c2]; exact hW0
    · rw [if_neg c2]
      refine (hW0.set (by unfold WCj; refine ⟨?_, ?_, ?_, ?_, ?_, ?_, ?_, ?_, ?_, ?_, ?_, ?_, ?_, ?_, ?_, ?_, ?_, ?_, ?_, ?_⟩ <;> intros <;> omega)).set ?_
      split
      · exact (by unfold WCj; refine ⟨?_, ?_, ?_, ?_, ?_, ?_, ?_, ?_, ?_, ?_, ?_, ?_, ?_, ?_, ?_, ?_, ?_, ?_, ?_, ?_⟩ <;> intros <;> omega)
      · exact (by unfold WCj; refine ⟨?_, ?_, ?_, ?_, ?_, ?_, ?_, ?_, ?_, ?_, ?_, ?_, ?_, ?_, ?_, ?_, ?_, ?_, ?_, ?_⟩ <;> intros <;> omega)
  · rw [if_neg c1]; exact hW0
theorem wf_pay (hW : WfA s) : WfA (oPay' s).2 := by
  have hW0 := hW
  obtain ⟨⟨⟨z0, z1, z8, z9, z10, z11, z12, z13, z14, z15, z16⟩, hh01, hT, hz17⟩, hWV, hWD, hWB, hWP, hWT, hWZ, hWF, hWK⟩ := id hW
  have hc := coinF_bd hWV
  unfold oPay'
  by_cases c1 : s 9 = 9999
  · rw [if_pos c1]; exact hW0
  · rw [if_neg c1]
    refine (hW0.set (by unfold WCj; refine ⟨?_, ?_, ?_, ?_, ?_, ?_, ?_, ?_, ?_, ?_, ?_, ?_, ?_, ?_, ?_, ?_, ?_, ?_, ?_, ?_⟩ <;> intros <;> omega)).set ?_
    have : 0 ≤ payF s ∧ payF s ≤ 99 := by
      unfold payF
      by_cases c2 : 0 < telF s 204 0
      · rw [if_pos c2]; split <;> omega
      · rw [if_neg c2]; split <;> omega
    exact (by unfold WCj; refine ⟨?_, ?_, ?_, ?_, ?_, ?_, ?_, ?_, ?_, ?_, ?_, ?_, ?_, ?_, ?_, ?_, ?_, ?_, ?_, ?_⟩ <;> intros <;> omega)
theorem wf_tick (hW : WfA s) : WfA (oTick s k).2 := by
  have hW0 := hW
  obtain ⟨⟨⟨z0, z1, z8, z9, z10, z11, z12, z13, z14, z15, z16⟩, hh01, hT, hz17⟩, hWV, hWD, hWB, hWP, hWT, hWZ, hWF, hWK⟩ := id hW
  unfold oTick
  by_cases c1 : 0 ≤ k ∧ k ≤ 4
  · rw [if_pos c1]
    by_cases c2 : s 8 = 0 ∨ s 0 = 9999
    · rw [if_pos c2]; exact hW0
    · rw [if_neg c2]
      have hb := gaT_bd hW0.g (hz := hazF s) (k := k)
      have hst := gs_st (s := s) (hz := hazF s) (k := k) z11.2
      have e0 : gs s (hazF s) k 0 = s 0 + 1 := gs_0
      have e1 := gs_1 (s := s) (hz := hazF s) (k := k) z1.1 z1.2
      have e5 : ¬ k = 5 := by omega
      have eg : ∀ p : Int, 0 ≤ p → p < 6 → gs s (hazF s) k (2 + p) = if 2 + p < 2 + s 11 ∧ seesP s (hazF s) p (s 0 + 1) (brt (s 1) k) then 1 else s (2 + p) := by
        intro p p0 p6
        unfold gs
        rw [if_neg e5]
        unfold gsp
        rw [if_neg (by omega), if_neg (by omega), show 2 + p - 2 = p by omega]
        by_cases c : 2 + p < 2 + s 11 ∧ seesP s (hazF s) p (s 0 + 1) (brt (s 1) k)
        · rw [if_pos c, if_pos ⟨by omega, c.1, c.2⟩]
        · rw [if_neg c, if_neg (fun h => c ⟨h.2.1, h.2.2⟩)]
      have W1 : WfA (gs s (hazF s) k) := by
        refine hW0.lo (fun j hj => ?_) (by omega) e1 (fun p p0 p6 => ?_) (fun p p0 p6 => ?_)
        · rcases hj with hj | hj
          · exact gs_neg hj
          · exact hst j hj
        · rw [eg p p0 p6]
          have := hh01 p p0 p6
          split <;> omega
        · rw [eg p (by omega) p6, if_neg (by omega)]
          exact (hWZ p p0 p6).1
      refine (W1.set ?_).set ?_
      · have : 0 ≤ gainM s (gaT s (hazF s) k) ∧ gainM s (gaT s (hazF s) k) ≤ 9999999 := by
          unfold gainM; split <;> omega
        exact (by unfold WCj; refine ⟨?_, ?_, ?_, ?_, ?_, ?_, ?_, ?_, ?_, ?_, ?_, ?_, ?_, ?_, ?_, ?_, ?_, ?_, ?_, ?_⟩ <;> intros <;> omega)
      · exact (by unfold WCj; refine ⟨?_, ?_, ?_, ?_, ?_, ?_, ?_, ?_, ?_, ?_, ?_, ?_, ?_, ?_, ?_, ?_, ?_, ?_, ?_, ?_⟩ <;> intros <;> omega)
  · rw [if_neg c1]; exact hW0
theorem wf_thing (hW : WfA s) : WfA (oThing s k v c).2 := by
  have hW0 := hW
  obtain ⟨⟨⟨z0, z1, z8, z9, z10, z11, z12, z13, z14, z15, z16⟩, hh01, hT, hz17⟩, hWV, hWD, hWB, hWP, hWT, hWZ, hWF, hWK⟩ := id hW
  unfold oThing
  by_cases c1 : (0 ≤ k ∧ k ≤ 6) ∧ isC c
  · rw [if_pos c1]
    by_cases c2 : 0 ≤ v ∧ v ≤ 9
    · rw [if_pos c2]
      by_cases c3 : s 11 = 6
      · rw [if_pos c3]; exact hW0
      · rw [if_neg c3]
        obtain ⟨⟨k0, k6⟩, ⟨q0, q6⟩⟩ := c1
        have W1 := hW0.set (j := 18 + s 11) (v := k) (by unfold WCj; refine ⟨?_, ?_, ?_, ?_, ?_, ?_, ?_, ?_, ?_, ?_, ?_, ?_, ?_, ?_, ?_, ?_, ?_, ?_, ?_, ?_⟩ <;> intros <;> omega)
        have W2 := W1.set (j := 24 + s 11) (v := v) (by unfold WCj; refine ⟨?_, ?_, ?_, ?_, ?_, ?_, ?_, ?_, ?_, ?_, ?_, ?_, ?_, ?_, ?_, ?_, ?_, ?_, ?_, ?_⟩ <;> intros <;> omega)
        have W3 := W2.set (j := 30 + s 11) (v := c) (by unfold WCj; refine ⟨?_, ?_, ?_, ?_, ?_, ?_, ?_, ?_, ?_, ?_, ?_, ?_, ?_, ?_, ?_, ?_, ?_, ?_, ?_, ?_⟩ <;> intros <;> omega)
        have W4 := W3.set (j := 2 + s 11) (v := 0) (by unfold WCj; refine ⟨?_, ?_, ?_, ?_, ?_, ?_, ?_, ?_, ?_, ?_, ?_, ?_, ?_, ?_, ?_, ?_, ?_, ?_, ?_, ?_⟩ <;> intros <;> omega)
        have W5 := W4.set (j := 36 + 4 * s 11) (v := 0) (by unfold WCj; refine ⟨?_, ?_, ?_, ?_, ?_, ?_, ?_, ?_, ?_, ?_, ?_, ?_, ?_, ?_, ?_, ?_, ?_, ?_, ?_, ?_⟩ <;> intros <;> omega)
        have W6 := W5.set (j := 36 + 4 * s 11 + 1) (v := 0) (by unfold WCj; refine ⟨?_, ?_, ?_, ?_, ?_, ?_, ?_, ?_, ?_, ?_, ?_, ?_, ?_, ?_, ?_, ?_, ?_, ?_, ?_, ?_⟩ <;> intros <;> omega)
        have W7 := W6.set (j := 36 + 4 * s 11 + 2) (v := 0) (by unfold WCj; refine ⟨?_, ?_, ?_, ?_, ?_, ?_, ?_, ?_, ?_, ?_, ?_, ?_, ?_, ?_, ?_, ?_, ?_, ?_, ?_, ?_⟩ <;> intros <;> omega)
        have W8 := W7.set (j := 36 + 4 * s 11 + 3) (v := 0) (by unfold WCj; refine ⟨?_, ?_, ?_, ?_, ?_, ?_, ?_, ?_, ?_, ?_, ?_, ?_, ?_, ?_, ?_, ?_, ?_, ?_, ?_, ?_⟩ <;> intros <;> omega)
        refine W8.set ?_
        unfold WCj
        rw [show sH (sH (sH (sH (sH (sH (sH (sH s (18 + s 11) k) (24 + s 11) v) (30 + s 11) c) (2 + s 11) 0) (36 + 4 * s 11) 0) (36 + 4 * s 11 + 1) 0) (36 + 4 * s 11 + 2) 0) (36 + 4 * s 11 + 3) 0 11 = s 11 by simp (disch := omega) only [sH_k]]
        refine ⟨?_, ?_, ?_, ?_, ?_, ?_, ?_, ?_, ?_, ?_, ?_, ?_, ?_, ?_, ?_, ?_, ?_, ?_, ?_, ?_⟩ <;> intros <;> omega
    · rw [if_neg c2]; exact hW0
  · rw [if_neg c1]; exact hW0
/-- steps that clauses make are steps that a view can have -/
theorem wfO_S : ∀ (L : List Int) (r : List Int) (n : Nat) (m : Int), wfO L n → (-109 ≤ m ∨ -299 ≤ m ∧ m ≤ -200) → m ≤ -10 → wfS r 0 → wfS (L ++ m :: r) n := by
  intro L
  induction L with
  | nil =>
    intro r n m hL hm hm' hr
    have hn : n = 1 := hL
    subst hn
    show m ≤ 3200 ∧ _
    refine ⟨by omega, ?_⟩
    rw [if_neg (by omega), if_neg (by omega), if_neg (by omega)]
    exact ⟨rfl, hm, hr⟩
  | cons x L ih =>
    intro r n m hL hm hm' hr
    show x ≤ 3200 ∧ _
    simp only [wfO] at hL
    rcases hL with ⟨h1, h2, h3, h4, h5, h6⟩ | ⟨h1, h2, h3⟩ | ⟨h1, h2, h3⟩
    · refine ⟨by omega, ?_⟩
      rw [if_pos h1]
      exact ⟨h3, h4, h5, ih r _ m h6 hm hm' hr⟩
    · refine ⟨by omega, ?_⟩
      rw [if_neg (by omega), if_pos h1]
      exact ⟨h2, ih r _ m h3 hm hm' hr⟩
    · refine ⟨by omega, ?_⟩
      rw [if_neg (by omega), if_neg (by omega), if_pos (by omega)]
      exact ⟨by omega, h2, ih r _ m h3 hm hm' hr⟩
theorem wf_flC : ∀ (cs : List Cl), CsP cs → wfS (flC (condL cs)) 0 := by
  intro cs
  induction cs with
  | nil => intro _; exact rfl
  | cons c cs ih =>
    intro h
    have hc := h c List.mem_cons_self
    have ih := ih (fun x hx => h x (List.mem_cons_of_mem _ hx))
    simp only [condL]
    by_cases h3 : c.1 < 3
    · rw [if_pos h3]; exact ih
    · rw [if_neg h3]
      obtain ⟨-, q2, -, -, q5⟩ := amt_mk hc.2.1.1 hc.2.1.2 (show c.1 = 3 ∨ c.1 = 4 by omega)
      exact wfO_S _ _ _ _ (hc.2.2 h3) q5 q2 ih
theorem lastN_bd {w : Nat} : ∀ (cs : List Cl) (d : Int), CsP cs → 0 ≤ d → d ≤ 99 → 0 ≤ lastN w d cs ∧ lastN w d cs ≤ 99 := by
  intro cs
  induction cs with
  | nil => intro d _ h0 h1; exact ⟨h0, h1⟩
  | cons c cs ih =>
    intro d h h0 h1
    have hc := h c List.mem_cons_self
    simp only [lastN]
    refine ih _ (fun x hx => h x (List.mem_cons_of_mem _ hx)) ?_ ?_
    · split <;> omega
    · split <;> omega
/-- outside the new view's numbers all stays -/
theorem WfA.vw {s s' : Int → Int} (hW : WfA s) (k : ∀ j : Int, j < 199 ∨ 919 ≤ j → ¬ j = 12 → ¬ j = 16 → ¬ j = 17 → s' j = s j) (h12 : 0 ≤ s' 12 ∧ s' 12 ≤ 5) (h16 : s' 16 = 0) (h17 : -1 ≤ s' 17 ∧ s' 17 ≤ 4 ∧ s' 17 < s' 12) (hV : WfV s') : WfA s' := by
  obtain ⟨⟨⟨z0, z1, z8, z9, z10, z11, z12, z13, z14, z15, z16⟩, hh01, hT, hz17⟩, hWV, hWD, hWB, hWP, hWT, hWZ, hWF, hWK⟩ := id hW
  refine ⟨⟨⟨?_, ?_, ?_, ?_, ?_, ?_, h12, ?_, ?_, ?_, by omega⟩, fun p p0 p6 => ?_, ⟨fun p p0 p6 => ?_, fun q q0 q1 => ?_⟩, h17⟩, hV, ⟨?_, fun q q0 q1 => ?_⟩, ⟨?_, fun q q0 q1 => ?_⟩, fun q q0 q1 => ?_, fun q q0 q1 => ?_, fun p p0 p6 => ?_, fun q hq => ?_, fun q q0 q1 => ?_⟩
  · rw [k 0 (by omega) (by omega) (by omega) (by omega)]; exact z0
  · rw [k 1 (by omega) (by omega) (by omega) (by omega)]; exact z1
  · rw [k 8 (by omega) (by omega) (by omega) (by omega)]; exact z8
  · rw [k 9 (by omega) (by omega) (by omega) (by omega)]; exact z9
  · rw [k 10 (by omega) (by omega) (by omega) (by omega)]; exact z10
  · rw [k 11 (by omega) (by omega) (by omega) (by omega)]; exact z11
  · rw [k 13 (by omega) (by omega) (by omega) (by omega)]; exact z13
  · rw [k 14 (by omega) (by omega) (by omega) (by omega)]; exact z14
  · rw [k 15 (by omega) (by omega) (by omega) (by omega)]; exact z15
  · rw [k (2 + p) (by omega) (by omega) (by omega) (by omega)]; exact hh01 p p0 p6
  · rw [k (18 + p) (by omega) (by omega) (by omega) (by omega), k (24 + p) (by omega) (by omega) (by omega) (by omega), k (30 + p) (by omega) (by omega) (by omega) (by omega)]; exact hT.1 p p0 p6
  · rw [k q (by omega) (by omega) (by omega) (by omega)]; exact hT.2 q q0 q1
  · rw [k 13 (by omega) (by omega) (by omega) (by omega)]; exact hWD.1
  · rw [k 13 (by omega) (by omega) (by omega) (by omega)] at q1
    rw [k (65 + q) (by omega) (by omega) (by omega) (by omega)]; exact hWD.2 q q0 q1
  · rw [k 15 (by omega) (by omega) (by omega) (by omega)]; exact hWB.1
  · rw [k 15 (by omega) (by omega) (by omega) (by omega)] at q1
    rw [k (83 + q) (by omega) (by omega) (by omega) (by omega)]; exact hWB.2 q q0 q1
  · rw [k (75 + q) (by omega) (by omega) (by omega) (by omega)]; exact hWP q q0 q1
  · rw [k (99 + q) (by omega) (by omega) (by omega) (by omega)]; exact hWT q q0 q1
  · rw [k 11 (by omega) (by omega) (by omega) (by omega)] at p0
    rw [k (2 + p) (by omega) (by omega) (by omega) (by omega), k (36 + 4 * p) (by omega) (by omega) (by omega) (by omega), k (36 + 4 * p + 1) (by omega) (by omega) (by omega) (by omega), k (36 + 4 * p + 2) (by omega) (by omega) (by omega) (by omega), k (36 + 4 * p + 3) (by omega) (by omega) (by omega) (by omega)]; exact hWZ p p0 p6
  · rw [k q (by omega) (by omega) (by omega) (by omega)]; exact hWF q hq
  · rw [k 15 (by omega) (by omega) (by omega) (by omega)] at q1
    rw [k (83 + q) (by omega) (by omega) (by omega) (by omega), k 11 (by omega) (by omega) (by omega) (by omega)]; exact hWK q q0 q1
theorem wf_view {s' : Int → Int} (hW : WfA s) (h : VwR s s') : WfA s' := by
  have hW0 := hW
  obtain ⟨⟨⟨z0, z1, z8, z9, z10, z11, z12, z13, z14, z15, z16⟩, hh01, hT, hz17⟩, hWV, hWD, hWB, hWP, hWT, hWZ, hWF, hWK⟩ := id hW
  unfold VwR at h
  by_cases c5 : s 12 = 5
  · rw [if_pos c5] at h
    rw [h]; exact hW0
  · rw [if_neg c5] at h
    have hvp := vwF_p (hVw_S z16.1 z16.2 hWT) z16.1 z16.2
    rcases hvw : vwF (hVw s) with ⟨j, _ | cs⟩
    · rw [hvw] at h
      have h : OutV (s 12) (sH s 16 0) s' := h
      have k : ∀ j : Int, j < 199 ∨ 919 ≤ j → ¬ j = 16 → s' j = s j := fun j h1 h2 => by rw [h j (by omega) (by omega) (by omega) (by omega) (by omega), sH_k h2]
      obtain ⟨y1, y2, y3, y4, y5⟩ := vw_out hWV hz17.1 hz17.2.2 (by omega) h
      have e12 : s' 12 = s 12 := k 12 (by omega) (by omega)
      have e17 : s' 17 = s 17 := k 17 (by omega) (by omega)
      refine hW0.vw (fun j h1 _ h3 _ => k j h1 h3) (by rw [e12]; exact z12) ?_ (by rw [e17, e12]; exact hz17) ?_
      · rw [h 16 (by omega) (by omega) (by omega) (by omega) (by omega), sH_s]
      · unfold WfV
        rw [y5, y4, e17]
        refine ⟨hWV.1, hWV.2.1, fun hn => ?_⟩
        have kk : ∀ w : Int, (w = 199 ∨ w = 204 ∨ w = 209) → s' (w + s 17) = s (w + s 17) := fun w hw => by
          rw [h _ (by omega) (by omega) (by omega) (by omega) (by omega), sH_k (by omega)]
        rw [kk 199 (by omega), kk 204 (by omega), kk 209 (by omega)]
        exact hWV.2.2 hn
    · rw [hvw] at h hvp
      obtain ⟨cp1, cp2, cp3⟩ := hvp.2 cs rfl
      obtain ⟨s1, hA, hs1⟩ := h
      have k : ∀ j : Int, j < 199 ∨ 919 ≤ j → ¬ j = 12 → ¬ j = 16 → ¬ j = 17 → s' j = s j := fun j h1 h2 h3 h4 => by
        rw [hs1, sH_k h4, sH_k h2, hA.1 j (by omega) (by omega) (by omega) (by omega) (by omega), sH_k h3]
      obtain ⟨y1, y2, y3, y4, y5⟩ := vw_new z12.1 (by omega) hA hs1
      have e12 : s' 12 = s 12 + 1 := by rw [hs1, sH_k (by decide), sH_s]
      have e17 : s' 17 = s 12 := by rw [hs1, sH_s]
      refine hW0.vw k (by omega) ?_ (by omega) ?_
      · rw [hs1, sH_k (by decide), sH_k (by decide), hA.1 16 (by omega) (by omega) (by omega) (by omega) (by omega), sH_s]
      · unfold WfV
        rw [y5, y4, e17]
        refine ⟨by omega, wf_flC cs cp1, fun _ => ?_⟩
        have kk : ∀ w : Int, 199 ≤ w → s' w = s1 w := fun w hw => by rw [hs1, sH_k (by omega), sH_k (by omega)]
        rw [kk _ (by omega), kk _ (by omega), kk _ (by omega), hA.2.1.1, hA.2.1.2.1, hA.2.1.2.2]
        exact ⟨lastN_bd cs 8 cp1 (by decide) (by decide), lastN_bd cs 0 cp1 (by decide) (by decide), lastN_bd cs 0 cp1 (by decide) (by decide)⟩
end WF
