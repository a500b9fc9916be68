/-! ===== the next exercise; what the reference lays aside ===== -/
section QUERY4
variable {μ : Mm} {s : Nat → Int32} {g : Nat → Int64} {T : Nat}
end QUERY4
/-! rows are copied -/
def cpT (f0 f : Nat → Int32) (a n : Nat) : Nat → Int32 := fun j => if a ≤ j ∧ j < a + n then f (j - a) else f0 j
def cpTL (f0 f : Nat → Int64) (a n : Nat) : Nat → Int64 := fun j => if a ≤ j ∧ j < a + n then f (j - a) else f0 j
theorem cpT_s {f0 f : Nat → Int32} {a n : Nat} : upd (cpT f0 f a n) (a + n) (f n) = cpT f0 f a (n + 1) := by
  funext j
  unfold upd cpT
  by_cases e : j = a + n
  · rw [if_pos e, if_pos (by omega), e, show a + n - a = n by omega]
  · rw [if_neg e]
    by_cases e2 : a ≤ j ∧ j < a + n
    · rw [if_pos e2, if_pos (by omega)]
    · rw [if_neg e2, if_neg (by omega)]
theorem cpTL_s {f0 f : Nat → Int64} {a n : Nat} : vp_updL (cpTL f0 f a n) (a + n) (f n) = cpTL f0 f a (n + 1) := by
  funext j
  unfold vp_updL cpTL
  by_cases e : j = a + n
  · rw [if_pos e, if_pos (by omega), e, show a + n - a = n by omega]
  · rw [if_neg e]
    by_cases e2 : a ≤ j ∧ j < a + n
    · rw [if_pos e2, if_pos (by omega)]
    · rw [if_neg e2, if_neg (by omega)]
theorem cpT_0 {f0 f : Nat → Int32} {a : Nat} : cpT f0 f a 0 = f0 := by
  funext j
  unfold cpT
  rw [if_neg (by omega)]
theorem cpTL_0 {f0 f : Nat → Int64} {a : Nat} : cpTL f0 f a 0 = f0 := by
  funext j
  unfold cpTL
  rw [if_neg (by omega)]
section PUT
/-- a loop that copies cells: src, dst, the index' way -/
theorem cpLoop {loop : Nat → Int32 → Mm → Option Mm} {src dst N a : Nat} {ix : Int32 → Int32} {jx : Mm → Int32 → Int32} (hn : N < 2 ^ 30) (hne : src ≠ dst)
  (step : ∀ m v μ, loop (m + 1) v μ = if nI N ≤ v then some μ else (aI μ src (ix v)).bind fun x => (sI μ dst (jx μ v) x).bind fun m3 => loop m (v + 1) m3)
  {off : Nat} (hix : ∀ k, k < N → ix (nI k) = nI (off + k)) (hs : off + N ≤ ln src) (hd : a + N ≤ ln dst) {R : Mm → Prop} (hjx : ∀ μ k, R μ → k < N → jx μ (nI k) = nI (a + k)) (hR : ∀ μ k v, R μ → R (uI μ dst k v))
  {f f0 : Nat → Int32} : ∀ (d m k : Nat) (μ : Mm), k + d = N → d < m → R μ → μ.1 src = f → μ.1 dst = cpT f0 (fun i => f (off + i)) a k → Op (loop m (nI k) μ) (fun μ' => μ'.1 dst = cpT f0 (fun i => f (off + i)) a N ∧ (R μ' ∧ Fs (fun b => b = dst) μ μ')) := by
  intro d
  induction d with
  | zero =>
    intro m k μ hk hm hr e1 e2
    obtain ⟨m, rfl⟩ : ∃ z, m = z + 1 := ⟨m - 1, by omega⟩
    rw [step, if_pos (nI_le (by omega) (by omega))]
    obtain rfl : k = N := by omega
    exact op_r ⟨e2, hr, Fs.rf⟩
  | succ d ih =>
    intro m k μ hk hm hr e1 e2
    obtain ⟨m, rfl⟩ : ∃ z, m = z + 1 := ⟨m - 1, by omega⟩
    rw [step, if_neg (nI_ge (by omega) (by omega))]
    refine op_eb (aI_ok (k := off + k) (hix k (by omega)) (by omega)) ?_
    refine op_eb (sI_ok (k := a + k) (hjx μ k hr (by omega)) (by omega)) ?_
    rw [nI_1]
    refine op_m (ih m (k + 1) _ (by omega) (by omega) (hR μ _ _ hr) ?_ ?_) (fun μ' z => ⟨z.1, z.2.1, Fs.tr (Fs.uI (S := fun b => b = dst) rfl) z.2.2⟩)
    · rw [uI_ne hne]; exact e1
    · rw [uI_eq, e1, e2]
      exact cpT_s
theorem cpLoopL {loop : Nat → Int32 → Mm → Option Mm} {src dst N a : Nat} {ix : Int32 → Int32} {jx : Mm → Int32 → Int32} (hn : N < 2 ^ 30) (hne : src ≠ dst)
  (step : ∀ m v μ, loop (m + 1) v μ = if nI N ≤ v then some μ else (aL μ src (ix v)).bind fun x => (sL μ dst (jx μ v) x).bind fun m3 => loop m (v + 1) m3)
  {off : Nat} (hix : ∀ k, k < N → ix (nI k) = nI (off + k)) (hs : off + N ≤ ln src) (hd : a + N ≤ ln dst) {R : Mm → Prop} (hjx : ∀ μ k, R μ → k < N → jx μ (nI k) = nI (a + k)) (hR : ∀ μ k v, R μ → R (uL μ dst k v))
  {f f0 : Nat → Int64} : ∀ (d m k : Nat) (μ : Mm), k + d = N → d < m → R μ → μ.2.1 src = f → μ.2.1 dst = cpTL f0 (fun i => f (off + i)) a k → Op (loop m (nI k) μ) (fun μ' => μ'.2.1 dst = cpTL f0 (fun i => f (off + i)) a N ∧ (R μ' ∧ Fs (fun b => b = dst) μ μ')) := by
  intro d
  induction d with
  | zero =>
    intro m k μ hk hm hr e1 e2
    obtain ⟨m, rfl⟩ : ∃ z, m = z + 1 := ⟨m - 1, by omega⟩
    rw [step, if_pos (nI_le (by omega) (by omega))]
    obtain rfl : k = N := by omega
    exact op_r ⟨e2, hr, Fs.rf⟩
  | succ d ih =>
    intro m k μ hk hm hr e1 e2
    obtain ⟨m, rfl⟩ : ∃ z, m = z + 1 := ⟨m - 1, by omega⟩
    rw [step, if_neg (nI_ge (by omega) (by omega))]
    refine op_eb (aL_ok (k := off + k) (hix k (by omega)) (by omega)) ?_
    refine op_eb (sL_ok (k := a + k) (hjx μ k hr (by omega)) (by omega)) ?_
    rw [nI_1]
    refine op_m (ih m (k + 1) _ (by omega) (by omega) (hR μ _ _ hr) ?_ ?_) (fun μ' z => ⟨z.1, z.2.1, Fs.tr (Fs.uL (S := fun b => b = dst) rfl) z.2.2⟩)
    · rw [uL_ne hne]; exact e1
    · rw [uL_eq, e1, e2]
      exact cpTL_s
/-- all 521 numbers, all 15 long ones -/
def al5 (f0 f : Nat → Int32) : Nat → Int32 := cpT f0 f 0 521
def al15 (f0 f : Nat → Int64) : Nat → Int64 := cpTL f0 f 0 15
end PUT

