/-! ===== the reference: a claim is served ===== -/
theorem upd_upa {f : Nat → Int32} {k : Nat} {x : Int32} : upd f k (f k + x) = upa f k x := by
  funext j
  unfold upd upa
  by_cases e : j = k
  · rw [if_pos e, if_pos e, e]
  · rw [if_neg e, if_neg e]
section MSV
variable {μ : Mm} {st : Sg} {kp rt to : Nat}
end MSV
theorem clm_upd {s : Nat → Int32} {c : Nat} {x a0 a1 a2 a3 a4 a5 a6 a7 : Int32} (hx : x = s 56 + 1) : upd (upd (upd (upd (upd (upd (upd (upd (upd s 56 x) (242 + 8 * c) a0) (242 + 8 * c + 1) a1) (242 + 8 * c + 2) a2) (242 + 8 * c + 3) a3) (242 + 8 * c + 4) a4) (242 + 8 * c + 5) a5) (242 + 8 * c + 6) a6) (242 + 8 * c + 7) a7 = sClm s c (rowF a0 a1 a2 a3 a4 a5 a6 a7) := by
  funext j
  unfold upd sClm
  by_cases e : 242 + 8 * c ≤ j ∧ j < 242 + 8 * c + 8
  · obtain ⟨k, rfl, hk⟩ : ∃ k, j = 242 + 8 * c + k ∧ k < 8 := ⟨j - (242 + 8 * c), by omega, by omega⟩
    rw [if_neg (show ¬ (242 + 8 * c + k = 56) by omega), if_pos e, show 242 + 8 * c + k - (242 + 8 * c) = k by omega]
    unfold rowF
    rcases (show k = 0 ∨ k = 1 ∨ k = 2 ∨ k = 3 ∨ k = 4 ∨ k = 5 ∨ k = 6 ∨ k = 7 by omega) with rfl | rfl | rfl | rfl | rfl | rfl | rfl | rfl <;> simp <;> (intro z; exact absurd z (by omega))
  · rw [if_neg (by omega), if_neg (by omega), if_neg (by omega), if_neg (by omega), if_neg (by omega), if_neg (by omega), if_neg (by omega), if_neg (by omega), if_neg e, hx]
