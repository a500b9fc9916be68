/-! ===== the reference: all claims of a right ===== -/
def Xtr (k : Nat → Int32) (s : Nat → Int32) (X : List (Nat → Int32)) : Prop := (X = [] ∧ ∀ r, r < ct s 2 → nI r ≠ k 24) ∨ ∃ x, X = [x] ∧ (LRow s x ∧ (k 24 = x 0 ∧ (x 1 = s (58 + 10 * ct x 0 + 0) ∧ (k 23 = x 2 ∧ (k 25 = x 3 ∧ ct x 4 = 0)))))
def Try (k : Nat → Int32) (s : Nat → Int32) : Prop := (∀ r, r < ct s 2 → nI r ≠ k 22) ∨ (k 23 = nI (ct k 23) ∧ ct k 23 < ct s 0)
def mC (k : Nat → Int32) (LX OS : List (Nat → Int32)) (r : Nat) (st : Sg) : Sg := if nI r = k 26 then cut0 st r else if nI r = k 22 then srv 1 r (ct st.1 (58 + 10 * r + 0)) (ct k 23) (wout st.1 r (ct st.1 (58 + 10 * r + 3))) 0 (cut0 st r) else clR LX OS r st
theorem Xtr.rows {k s : Nat → Int32} {X : List (Nat → Int32)} (h : Xtr k s X) : LRows s X := by
  intro row hr
  rcases h with ⟨rfl, -⟩ | ⟨x, rfl, h1, -⟩
  · cases hr
  · rw [List.mem_singleton] at hr
    rw [hr]
    exact h1
theorem Xtr.len {k s : Nat → Int32} {X : List (Nat → Int32)} (h : Xtr k s X) : X.length ≤ 1 := by
  rcases h with ⟨rfl, -⟩ | ⟨x, rfl, -⟩
  · decide
  · exact Nat.le_refl 1
