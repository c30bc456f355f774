/-! ===== look, count ===== -/
def bgF (s : Int → Int) (hz : Int) (n : Nat) : Int → Int := fun q => (simP s hz n q).2
theorem bestF_b : ∀ (g : Int → Int) (n : Nat) (r b c m : Int), (∃ q, r ≤ q ∧ q < r + n ∧ m < g q) → bestF g n r (b, m) = bestF g n r (c, m) := by
  intro g n
  induction n with
  | zero => intro r b c m ⟨q, h1, h2, h3⟩; omega
  | succ n ih =>
    intro r b c m ⟨q, h1, h2, h3⟩
    simp only [bestF]
    by_cases h : m < g r
    · rw [if_pos h, if_pos h]
    · rw [if_neg h, if_neg h]
      refine ih (r + 1) b c m ⟨q, ?_, by omega, h3⟩
      have : q ≠ r := fun e => h (e ▸ h3)
      omega
