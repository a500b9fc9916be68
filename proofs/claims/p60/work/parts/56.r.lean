/-! ===== questions with loops ===== -/
section QUERY3
variable {μ : Mm} {s : Nat → Int32} {g : Nat → Int64} {T : Nat}
theorem i32_bal (v a b c : Int32) : v + a - b + c = v + (a - b + c) := by
  rw [Int32.sub_eq_add_neg, Int32.sub_eq_add_neg, Int32.add_assoc, Int32.add_assoc, Int32.add_assoc]
end QUERY3

