/-! ===== more questions ===== -/
theorem i32_pos {p : Int32} (h : ¬ p < 0) : ∃ y, y < 2 ^ 31 ∧ p = nI y := by
  rcases i32_in p (show 2 ^ 31 - 1 < 2 ^ 31 by decide) with ⟨k, hk, rfl⟩ | h2
  · exact ⟨k, by omega, rfl⟩
  · refine ⟨2 ^ 31 - 1, by decide, ?_⟩
    have h3 := h2.resolve_left h
    exact Int32.le_antisymm (Int32.le_iff_toInt_le.mpr (by have := Int32.toInt_lt p; have e : (nI (2 ^ 31 - 1)).toInt = 2147483647 := by decide
                                                           omega)) h3
section QUERY2
variable {μ : Mm} {s : Nat → Int32} {g : Nat → Int64} {T : Nat}
end QUERY2

