/-! ===== the right's line ===== -/
section LRT
variable {f : Nat → Int32} {n t a k o t0 : Nat} {s s' : Nat → Int32} {q : Int32} {b b' μ μ' μc μm : Mm} {a0 a1 a2 a3 a4 a5 a6 : Nat} {Q : Nat → Int32}
theorem rgS_eq {R R' : Nat → Int32} (h : ∀ i, i < 7 → R i = R' i) : rgS s R = rgS s R' := by
  unfold rgS
  rw [rgS0_eq h]
end LRT

