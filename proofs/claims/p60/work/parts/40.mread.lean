/-! ===== the reference: reading ===== -/
theorem ix3 (a b r k : Nat) : nI a + nI b * nI r + nI k = nI (a + b * r + k) := by rw [pk_mul, nI_add, nI_add]
theorem ix2 (a b r : Nat) : nI a + nI b * nI r = nI (a + b * r) := by rw [pk_mul, nI_add]
section MRD
variable {μ : Mm}
end MRD
/-! seniority -/
section SEN
variable {μ : Mm}
end SEN
/-! flows -/
theorem comN_eq {s s' : Nat → Int32} (h : ∀ j, j < 57 → s' j = s j) {r : Nat} (hr : r < 6) (h7 : ct s 7 ≤ 5) (h1 : 1 ≤ ct s 7) : comN s' r = comN s r := by
  have hm := Nat.mod_lt (ct s 5) (show 0 < 12 by decide)
  have hy := Nat.mod_lt (ct s 5 / 12) (show 0 < ct s 7 by omega)
  unfold comN yrP
  rw [ct_eq (h 5 (by decide)), ct_eq (h 7 (by decide)), h _ (by omega), h _ (by omega), h _ (by omega), h _ (by omega)]
def lay0 (s : Nat → Int32) (n : Nat) : Nat → Int32 := fun j => if 394 ≤ j ∧ j < 394 + 5 * n then (if (j - 394) % 5 = 0 then comN s ((j - 394) / 5) else if (j - 394) % 5 = 1 then sumF (comN s) ((j - 394) / 5 + 1) else if (j - 394) % 5 = 2 then s j else 0) else s j
def layF0 (s fl : Nat → Int32) (n : Nat) : Nat → Int32 := fun q => if q < n then sumF (comN s) (q + 1) else fl q
theorem lay0_s {s : Nat → Int32} {q : Nat} : upd (upd (upd (upd (lay0 s q) (394 + 5 * q) (comN s q)) (394 + 5 * q + 1) (sumF (comN s) (q + 1))) (394 + 5 * q + 3) 0) (394 + 5 * q + 4) 0 = lay0 s (q + 1) := by
  funext j
  unfold upd lay0
  by_cases e : 394 + 5 * q ≤ j ∧ j < 394 + 5 * q + 5
  · obtain ⟨k, rfl, hk⟩ : ∃ k, j = 394 + 5 * q + k ∧ k < 5 := ⟨j - (394 + 5 * q), by omega, by omega⟩
    rw [if_pos (show 394 ≤ 394 + 5 * q + k ∧ 394 + 5 * q + k < 394 + 5 * (q + 1) by omega), show (394 + 5 * q + k - 394) % 5 = k by omega, show (394 + 5 * q + k - 394) / 5 = q by omega, if_neg (show ¬ (394 ≤ 394 + 5 * q + k ∧ 394 + 5 * q + k < 394 + 5 * q) by omega)]
    rcases (show k = 0 ∨ k = 1 ∨ k = 2 ∨ k = 3 ∨ k = 4 by omega) with rfl | rfl | rfl | rfl | rfl <;> simp
  · rw [if_neg (by omega), if_neg (by omega), if_neg (by omega), if_neg (by omega)]
    by_cases e2 : 394 ≤ j ∧ j < 394 + 5 * q
    · rw [if_pos e2, if_pos (show 394 ≤ j ∧ j < 394 + 5 * (q + 1) by omega)]
    · rw [if_neg e2, if_neg (show ¬ (394 ≤ j ∧ j < 394 + 5 * (q + 1)) by omega)]
theorem lay0_lo {s : Nat → Int32} {n j : Nat} (h : j < 394) : lay0 s n j = s j := by unfold lay0; rw [if_neg (by omega)]
