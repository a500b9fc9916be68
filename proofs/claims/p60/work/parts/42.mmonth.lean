/-! ===== the reference: leases and options as rows ===== -/
def rwR (s : Nat → Int32) (base i : Nat) : Nat → Int32 := fun k => if k < 6 then s (base + 6 * i + k) else 0
def rwT (s : Nat → Int32) (base : Nat) : Nat → Nat → List (Nat → Int32)
  | _, 0 => []
  | i, d + 1 => rwR s base i :: rwT s base (i + 1) d
def LSo (s : Nat → Int32) : List (Nat → Int32) := rwT s 158 0 (ct s 3)
def OSo (s : Nat → Int32) : List (Nat → Int32) := rwT s 206 0 (ct s 4)
theorem rwR_k {s : Nat → Int32} {base i k : Nat} (hk : k < 6) : rwR s base i k = s (base + 6 * i + k) := if_pos hk
theorem rwT_len {s : Nat → Int32} {base : Nat} : ∀ d i, (rwT s base i d).length = d := by
  intro d
  induction d with
  | zero => intro i; rfl
  | succ d ih => intro i; rw [rwT, List.length_cons, ih]
theorem rwT_at {s : Nat → Int32} {base : Nat} : ∀ d i r, r < d → rowAt (rwT s base i d) r = rwR s base (i + r) := by
  intro d
  induction d with
  | zero => intro i r h; omega
  | succ d ih =>
    intro i r h
    rw [rwT]
    cases r with
    | zero => rfl
    | succ r =>
      have := ih (i + 1) r (by omega)
      rw [show i + (r + 1) = i + 1 + r by omega, ← this]
      rfl
theorem rwT_lf {s : Nat → Int32} {base d i r k : Nat} (h : r < d) (hk : k < 6) : lf (rwT s base i d) r k = s (base + 6 * (i + r) + k) := by
  have e : lf (rwT s base i d) r = rowAt (rwT s base i d) r := rfl
  rw [e, rwT_at d i r h, rwR_k hk]
theorem rwR_eq {s s' : Nat → Int32} {base i : Nat} (h : ∀ k, k < 6 → s' (base + 6 * i + k) = s (base + 6 * i + k)) : rwR s' base i = rwR s base i := by
  funext k
  unfold rwR
  by_cases e : k < 6
  · rw [if_pos e, if_pos e, h k e]
  · rw [if_neg e, if_neg e]
theorem rwT_eq {s s' : Nat → Int32} {base : Nat} : ∀ d i, (∀ r k, i ≤ r → r < i + d → k < 6 → s' (base + 6 * r + k) = s (base + 6 * r + k)) → rwT s' base i d = rwT s base i d := by
  intro d
  induction d with
  | zero => intro i _; rfl
  | succ d ih =>
    intro i h
    rw [rwT, rwT, rwR_eq (fun k hk => h i k (Nat.le_refl i) (by omega) hk), ih (i + 1) (fun r k h1 h2 hk => h r k (by omega) (by omega) hk)]
theorem clL_app {r : Nat} (B : List (Nat → Int32)) : ∀ (A : List (Nat → Int32)) (p : Sg × Nat), clL r (A ++ B) p = clL r B (clL r A p) := by
  intro A
  induction A with
  | nil => intro p; rfl
  | cons a A ih => intro p; rw [List.cons_append, clL, clL, ih]
theorem cntR_app {r : Nat} (B : List (Nat → Int32)) : ∀ (A : List (Nat → Int32)), cntR r (A ++ B) = cntR r A + cntR r B := by
  intro A
  induction A with
  | nil => rw [List.nil_append, cntR, Nat.zero_add]
  | cons a A ih => rw [List.cons_append, cntR, cntR, ih, Nat.add_assoc]
theorem StaL {j : Nat} (h : 158 ≤ j ∧ j < 242) : Sta j := Or.inr (Or.inr (Or.inr (Or.inr (Or.inr (Or.inr (Or.inl h))))))
section MCL
variable {s : Nat → Int32} {r : Nat}
end MCL

