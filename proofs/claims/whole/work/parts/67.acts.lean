/-! acts: both (32 cases) -/
theorem act_all (n x : Int) : ∀ k b : Int, 0 ≤ k → k ≤ 7 → 0 ≤ b → b ≤ 3 → beF n k 30 k b x = (acF k b n x, acL k b) := by
  intro k b h1 h2 h3 h4
  have hk : k = 0 ∨ k = 1 ∨ k = 2 ∨ k = 3 ∨ k = 4 ∨ k = 5 ∨ k = 6 ∨ k = 7 := by omega
  have hb : b = 0 ∨ b = 1 ∨ b = 2 ∨ b = 3 := by omega
  rcases hk with h | h | h | h | h | h | h | h <;> subst h <;> (rcases hb with h | h | h | h <;> subst h <;> rfl)
