/-! ===== the reference does not see cell 311 ===== -/
def Kv (v : Int64) (μ : Mm) : Mm := uL μ 311 0 v
section BLD
variable {μ : Mm} {v : Int64}
theorem k_aI {a : Nat} {i : Int32} : aI (Kv v μ) a i = aI μ a i := rfl
theorem k_sI {a : Nat} {i x : Int32} : sI (Kv v μ) a i x = (sI μ a i x).map (Kv v) := by unfold sI; split <;> rfl
theorem k_sZ {a : Nat} {i x : Int32} : sZ (Kv v μ) a i x = (sZ μ a i x).map (Kv v) := by unfold sZ; split <;> rfl
theorem k_sB {a : Nat} {i x : Int32} : sB (Kv v μ) a i x = (sB μ a i x).map (Kv v) := by unfold sB; split <;> rfl
theorem k_uI {a k : Nat} {x : Int32} : uI (Kv v μ) a k x = Kv v (uI μ a k x) := rfl
theorem k_1 : (Kv v μ).1 = μ.1 := rfl
theorem k_aL {a : Nat} {i : Int32} (h : a ≠ 311) : aL (Kv v μ) a i = aL μ a i := by
  unfold aL Kv
  rw [uL_ne h]
theorem k_sL {a : Nat} {i : Int32} {x : Int64} (h : a ≠ 311) : sL (Kv v μ) a i x = (sL μ a i x).map (Kv v) := by
  unfold sL
  split
  · have e : uL (Kv v μ) a i.toNatClampNeg x = Kv v (uL μ a i.toNatClampNeg x) := by
      unfold Kv uL
      congr 1
      congr 1
      funext b j
      by_cases e1 : b = a ∧ j = i.toNatClampNeg
      · have : ¬ (b = 311 ∧ j = 0) := fun z => h (e1.1 ▸ z.1)
        simp only [if_pos e1, if_neg this]
      · simp only [if_neg e1]
    rw [e]
    rfl
  · rfl
theorem map_ite {α β : Type} {c : Prop} [Decidable c] {x y : Option α} {f : α → β} : (if c then x else y).map f = if c then x.map f else y.map f := by split <;> rfl
theorem map_bnd {α β γ : Type} {x : Option α} {f : α → Option β} {g : β → γ} : (x.bind f).map g = x.bind fun a => (f a).map g := by cases x <;> rfl
theorem bnd_map {α β γ : Type} {x : Option α} {f : α → β} {g : β → Option γ} : (x.map f).bind g = x.bind fun a => g (f a) := by cases x <;> rfl
theorem map_some' {α β : Type} {a : α} {f : α → β} : (some a).map f = some (f a) := rfl
theorem b_says {p : Int32} : F_X4_says p (Kv v μ) = (F_X4_says p μ).map (Kv v) := by
  simp only [F_X4_says, k_1, k_sI, k_uI, map_bnd, bnd_map, map_some', Option.bind_some]
theorem b_clears2 : ∀ (n : Nat) (i : Int32) (μ : Mm), F_X4_clears_2 n i (Kv v μ) = (F_X4_clears_2 n i μ).map (Kv v) := by
  intro n
  induction n with
  | zero => intro i μ; rfl
  | succ n ih =>
    intro i μ
    simp only [F_X4_clears_2, k_1, k_sI, k_uI, map_ite, map_bnd, bnd_map, map_some', Option.bind_some, ih]
theorem b_begins29 : ∀ (n : Nat) (i : Int32) (μ : Mm), F_X4_begins_29 n i (Kv v μ) = (F_X4_begins_29 n i μ).map (Kv v) := by
  intro n
  induction n with
  | zero => intro i μ; rfl
  | succ n ih =>
    intro i μ
    simp only [F_X4_begins_29, k_1, k_sL (show (300 : Nat) ≠ 311 by decide), k_uI, map_ite, map_bnd, bnd_map, map_some', Option.bind_some, ih]
end BLD
