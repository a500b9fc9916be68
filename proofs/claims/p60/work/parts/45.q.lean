/-! ===== the reference: the loops of a month's end ===== -/
def cutS (s cut : Nat → Int32) (n : Nat) : Nat → Int32 := fun j => if 58 ≤ j ∧ j < 58 + 10 * n ∧ (j - 58) % 10 = 9 then s j + (if cut ((j - 58) / 10) = 0 then 0 else 1) else s j
def lcS (s : Nat → Int32) (A : List (Nat → Int32)) : Nat → Int32 := fun j => if 158 ≤ j ∧ j < 158 + 6 * A.length then lf A ((j - 158) / 6) ((j - 158) % 6) else s j
def roS (s : Nat → Int32) (w : Nat) (row : Nat → Int32) (n : Nat) : Nat → Int32 := fun j => if 158 + 6 * w ≤ j ∧ j < 158 + 6 * w + n then row (j - (158 + 6 * w)) else s j
def flS (s fl : Nat → Int32) (n : Nat) : Nat → Int32 := fun j => if 20 ≤ j ∧ j < 20 + n then 0 else if 394 ≤ j ∧ j < 394 + 5 * n ∧ (j - 394) % 5 = 2 then fl ((j - 394) / 5) else s j
def shS (s : Nat → Int32) (v : Nat) : Nat → Int32 := fun j => if v < j ∧ j ≤ 520 then s (j - 4) else s j
/-! leases -/
theorem decL_len : ∀ L : List (Nat → Int32), (decL L).length ≤ L.length := by
  intro L
  induction L with
  | nil => exact Nat.le_refl 0
  | cons a L ih =>
    rw [decL]
    split
    · rw [List.length_cons, List.length_cons]; omega
    · rw [List.length_cons]; omega
theorem lcS_row {s : Nat → Int32} {A : List (Nat → Int32)} {row : Nat → Int32} : roS (lcS s A) A.length row 6 = lcS s (A ++ [row]) := by
  funext j
  unfold roS lcS
  rw [List.length_append, List.length_singleton]
  by_cases e : 158 + 6 * A.length ≤ j ∧ j < 158 + 6 * A.length + 6
  · rw [if_pos e, if_pos (by omega), lf_app2, if_neg (by omega), show (j - 158) / 6 - A.length = 0 by omega, show j - (158 + 6 * A.length) = (j - 158) % 6 by omega]
    rfl
  · rw [if_neg e]
    by_cases e2 : 158 ≤ j ∧ j < 158 + 6 * A.length
    · rw [if_pos e2, if_pos (by omega), lf_app2, if_pos (by omega)]
    · rw [if_neg e2, if_neg (by omega)]
def Can (row : Nat → Int32) : Prop := ∀ k, 6 ≤ k → row k = 0
theorem rwT_of {s : Nat → Int32} {base : Nat} {A : List (Nat → Int32)} (hA : ∀ row, row ∈ A → Can row) (h : ∀ r k, r < A.length → k < 6 → s (base + 6 * r + k) = lf A r k) : rwT s base 0 A.length = A := by
  refine List.ext_getElem (rwT_len _ _) (fun i h1 h2 => ?_)
  have e1 : (rwT s base 0 A.length)[i] = rowAt (rwT s base 0 A.length) i := by unfold rowAt; rw [List.getD_eq_getElem?_getD, List.getElem?_eq_getElem h1]; rfl
  have e2 : A[i] = rowAt A i := by unfold rowAt; rw [List.getD_eq_getElem?_getD, List.getElem?_eq_getElem h2]; rfl
  rw [e1, e2, rwT_at _ _ _ h2, Nat.zero_add]
  funext k
  by_cases hk : k < 6
  · rw [rwR_k hk]
    exact h i k h2 hk
  · unfold rwR
    rw [if_neg hk, hA _ (rowAt_mem h2) k (by omega)]
theorem rwT_can {s : Nat → Int32} {base : Nat} : ∀ d i row, row ∈ rwT s base i d → Can row := by
  intro d
  induction d with
  | zero => intro i row h; cases h
  | succ d ih =>
    intro i row h
    rw [rwT] at h
    rcases List.mem_cons.mp h with rfl | h
    · exact fun k hk => if_neg (by omega)
    · exact ih (i + 1) row h
theorem decL_can : ∀ L : List (Nat → Int32), (∀ row, row ∈ L → Can row) → ∀ row, row ∈ decL L → Can row := by
  intro L
  induction L with
  | nil => intro _ row h; cases h
  | cons a L ih =>
    intro h row hr
    rw [decL] at hr
    by_cases e : 0 < a 5 + (-1)
    · rw [if_pos e] at hr
      rcases List.mem_cons.mp hr with rfl | hr
      · intro k hk
        unfold decR
        rw [if_neg (by omega)]
        exact h a List.mem_cons_self k hk
      · exact ih (fun r q => h r (List.mem_cons_of_mem _ q)) row hr
    · rw [if_neg e] at hr
      exact ih (fun r q => h r (List.mem_cons_of_mem _ q)) row hr

