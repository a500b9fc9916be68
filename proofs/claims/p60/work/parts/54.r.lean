/-! ===== the questions ===== -/
def M1 : List (Nat × Nat) := [(0, 0), (1, 1)]
def M12 : List (Nat × Nat) := [(0, 0), (1, 1), (2, 2)]
def M2 : List (Nat × Nat) := [(0, 0), (2, 1)]
theorem i32_in (p : Int32) {n : Nat} (hn : n < 2 ^ 31) : (∃ k, k < n ∧ p = nI k) ∨ (p < 0 ∨ nI n ≤ p) := by
  by_cases h0 : p < 0
  · exact Or.inr (Or.inl h0)
  · by_cases h1 : nI n ≤ p
    · exact Or.inr (Or.inr h1)
    · obtain ⟨j, h2, h3, -⟩ := pk_mu h0 h1 hn
      exact Or.inl ⟨j, h2, h3⟩
section CASES
variable {μ ν : Mm}
theorem zb_1 : zb 1 = some 1 := rfl
theorem zb_0 : zb 0 = some 0 := rfl
end CASES
section QUERY
variable {μ : Mm} {s : Nat → Int32} {g : Nat → Int64} {T : Nat}
theorem kd1 : kd 1 = 1 := by decide +kernel
end QUERY

