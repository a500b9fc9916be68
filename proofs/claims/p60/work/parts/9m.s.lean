/-! ===== the text's loop ===== -/
section LLP
variable {f : Nat → Int32} {n t a k o t0 : Nat} {s s' : Nat → Int32} {q : Int32} {b b' μ μ' μc μm : Mm}
theorem fx_rt {m : Nat} {v : Int32} (h : FX f n k o b μ) : F_X0_readText_28 (m + 1) v μ = some μ := by
  rw [F_X0_readText_28]
  by_cases e1 : μ.1 45 2 ≤ v
  · rw [if_pos e1]
  · rw [if_neg e1]
    by_cases e2 : μ.1 45 5 = 0
    · rw [if_pos e2]
    · rw [if_neg e2, if_neg h.er]
theorem bt_1 (hB : BY f n) (h : t < n) : ¬ bt f n t = -1 := by
  unfold bt
  rw [if_pos h]
  obtain ⟨p1, p2, -⟩ := by_p (hB.2 t h)
  intro z
  by_cases e : 0 ≤ f t
  · rw [p1 e] at z
    rw [z] at e
    exact absurd e (by decide)
  · have := p2 (Int32.not_le.mp e)
    rw [z] at this
    exact absurd this (by decide)
theorem tk3 : tk f n t = 3 ↔ t < n ∧ f t = 59 := by
  unfold tk
  by_cases e : n ≤ t
  · rw [if_pos e]
    exact ⟨fun z => absurd z (by decide), fun z => by omega⟩
  · rw [if_neg e]
    by_cases e1 : letB (f t) = true
    · rw [if_pos e1]
      refine ⟨fun z => absurd z (by decide), fun z => ?_⟩
      rw [z.2] at e1
      exact absurd e1 (by decide)
    · rw [if_neg e1]
      by_cases e2 : digB (f t) = true
      · rw [if_pos e2]
        refine ⟨fun z => absurd z (by decide), fun z => ?_⟩
        rw [z.2] at e2
        exact absurd e2 (by decide)
      · rw [if_neg e2]
        by_cases e3 : f t = 59
        · rw [if_pos e3]
          exact ⟨fun _ => ⟨by omega, e3⟩, fun _ => rfl⟩
        · rw [if_neg e3]
          exact ⟨fun z => absurd z (by decide), fun z => absurd z.2 e3⟩
theorem te3 (h : tk f n t = 3) : te f n t = t + 1 := by
  obtain ⟨h1, h2⟩ := tk3.mp h
  unfold te
  rw [if_neg (by omega), h2]
  rfl
theorem tk0 (h : t < n) : tk f n t ≠ 0 := by
  unfold tk
  rw [if_neg (by omega)]
  split
  · decide
  · split
    · decide
    · split <;> decide
end LLP

