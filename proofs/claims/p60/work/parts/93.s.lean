/-! ===== two runs side by side; bytes; runs of signs ===== -/
def Op2 {α β : Type} (x : Option α) (y : Option β) (P : α → β → Prop) : Prop := ∃ a b, x = some a ∧ (y = some b ∧ P a b)
theorem o2_of {α β : Type} {x : Option α} {y : Option β} {A : α → Prop} {B : β → Prop} {P : α → β → Prop} (h : Op x A) (h2 : Op y B) (hp : ∀ a b, A a → B b → P a b) : Op2 x y P := by
  obtain ⟨a, e, ha⟩ := h
  obtain ⟨b, e2, hb⟩ := h2
  exact ⟨a, b, e, e2, hp a b ha hb⟩
theorem o2_l {α β γ : Type} {x : Option α} {f : α → Option γ} {y : Option β} {P : γ → β → Prop} {a : α} (e : x = some a) (h : Op2 (f a) y P) : Op2 (x.bind f) y P := by rw [e]; exact h
theorem o2_r {α β γ : Type} {x : Option α} {f : β → Option γ} {y : Option β} {P : α → γ → Prop} {b : β} (e : y = some b) (h : Op2 x (f b) P) : Op2 x (y.bind f) P := by rw [e]; exact h
theorem o2_lb {α β γ : Type} {x : Option α} {f : α → Option γ} {y : Option β} {A : α → Prop} {P : γ → β → Prop} (h : Op x A) (hq : ∀ a, A a → Op2 (f a) y P) : Op2 (x.bind f) y P := by
  obtain ⟨a, e, ha⟩ := h
  exact o2_l e (hq a ha)
theorem o2_rb {α β γ : Type} {x : Option α} {f : β → Option γ} {y : Option β} {B : β → Prop} {P : α → γ → Prop} (h : Op y B) (hq : ∀ b, B b → Op2 x (f b) P) : Op2 x (y.bind f) P := by
  obtain ⟨b, e, hb⟩ := h
  exact o2_r e (hq b hb)
theorem o2_b {α β γ δ : Type} {x : Option α} {y : Option β} {f : α → Option γ} {g : β → Option δ} {Q : α → β → Prop} {P : γ → δ → Prop} (h : Op2 x y Q) (hq : ∀ a b, Q a b → Op2 (f a) (g b) P) : Op2 (x.bind f) (y.bind g) P := by
  obtain ⟨a, b, e, e2, q⟩ := h
  exact o2_l e (o2_r e2 (hq a b q))
theorem o2_m {α β : Type} {x : Option α} {y : Option β} {Q P : α → β → Prop} (h : Op2 x y Q) (hq : ∀ a b, Q a b → P a b) : Op2 x y P := by
  obtain ⟨a, b, e, e2, q⟩ := h
  exact ⟨a, b, e, e2, hq a b q⟩
theorem o2_rt {α β : Type} {a : α} {b : β} {P : α → β → Prop} (h : P a b) : Op2 (some a) (some b) P := ⟨a, b, rfl, rfl, h⟩
/-! bytes -/
def By (x : Int32) : Prop := x = x.toInt8.toInt32
def ByP (x : Int32) : Prop := (0 ≤ x → x &&& 255 = x) ∧ ((x < 0 → 128 ≤ x &&& 255) ∧ x < 128)
theorem by_p {x : Int32} (h : By x) : ByP x := by
  have key : ∀ i, i < 256 → (fun y : Int32 => (0 ≤ y → y &&& 255 = y) ∧ ((y < 0 → 128 ≤ y &&& 255) ∧ y < 128)) ((Int8.ofUInt8 (UInt8.ofNat i)).toInt32) := by decide +kernel
  rw [h]
  generalize x.toInt8 = b
  cases b with
  | ofUInt8 u =>
    have := key u.toNat u.toNat_lt
    rw [UInt8.ofNat_toNat] at this
    exact this
theorem by_nar (x : Int32) : By (vp_nar .byte x) := by
  rw [vp_nar_byte]
  unfold By
  rw [Int8.toInt8_toInt32]
theorem by_eq {x c : Int32} (h : By x) (hc : 0 ≤ c) (h8 : c < 128) : x &&& 255 = c ↔ x = c := by
  obtain ⟨p1, p2, p3⟩ := by_p h
  by_cases e : 0 ≤ x
  · rw [p1 e]
  · have e' : x < 0 := Int32.not_le.mp e
    exact ⟨fun z => absurd (z ▸ p2 e') (Int32.not_le.mpr h8), fun z => absurd (z ▸ hc) e⟩
theorem by_in {x lo hi : Int32} (h : By x) (hlo : 0 ≤ lo) (hhi : hi < 128) : (¬ (x &&& 255) < lo ∧ ¬ hi < (x &&& 255)) ↔ (¬ x < lo ∧ ¬ hi < x) := by
  obtain ⟨p1, p2, p3⟩ := by_p h
  by_cases e : 0 ≤ x
  · rw [p1 e]
  · have e' : x < 0 := Int32.not_le.mp e
    exact ⟨fun z => absurd (Int32.lt_of_lt_of_le hhi (p2 e')) z.2, fun z => absurd (Int32.lt_of_lt_of_le e' hlo) z.1⟩
/-! runs -/
def ruF (P : Int32 → Bool) (f : Nat → Int32) : Nat → Nat → Nat
  | 0, a => a
  | d + 1, a => if P (f a) = true then ruF P f d (a + 1) else a
def ru (P : Int32 → Bool) (f : Nat → Int32) (n a : Nat) : Nat := ruF P f (n - a) a
theorem ru_o {P : Int32 → Bool} {f : Nat → Int32} {n a : Nat} (h : n ≤ a) : ru P f n a = a := by
  unfold ru
  rw [show n - a = 0 by omega]
  rfl
theorem ru_s {P : Int32 → Bool} {f : Nat → Int32} {n a : Nat} (h : a < n) : ru P f n a = if P (f a) = true then ru P f n (a + 1) else a := by
  unfold ru
  rw [show n - a = (n - (a + 1)) + 1 by omega, ruF]
theorem ru_y {P : Int32 → Bool} {f : Nat → Int32} {n a : Nat} (h : a < n) (hp : P (f a) = true) : ru P f n a = ru P f n (a + 1) := by rw [ru_s h, if_pos hp]
theorem ru_n {P : Int32 → Bool} {f : Nat → Int32} {n a : Nat} (hp : a < n → ¬ P (f a) = true) : ru P f n a = a := by
  by_cases h : a < n
  · rw [ru_s h, if_neg (hp h)]
  · exact ru_o (by omega)
theorem ru_le {P : Int32 → Bool} {f : Nat → Int32} {n : Nat} : ∀ d a, a + d = n → a ≤ ru P f n a ∧ (ru P f n a ≤ n ∧ (ru P f n a < n → ¬ P (f (ru P f n a)) = true)) := by
  intro d
  induction d with
  | zero =>
    intro a h
    rw [ru_o (by omega)]
    exact ⟨Nat.le_refl a, by omega, fun z => by omega⟩
  | succ d ih =>
    intro a h
    obtain ⟨i1, i2, i3⟩ := ih (a + 1) (by omega)
    rw [ru_s (by omega)]
    by_cases e : P (f a) = true
    · rw [if_pos e]
      exact ⟨by omega, i2, i3⟩
    · rw [if_neg e]
      exact ⟨Nat.le_refl a, by omega, fun _ => e⟩
theorem ru_b {P : Int32 → Bool} {f : Nat → Int32} {n a : Nat} (h : a ≤ n) : a ≤ ru P f n a ∧ (ru P f n a ≤ n ∧ (ru P f n a < n → ¬ P (f (ru P f n a)) = true)) := ru_le (n - a) a (by omega)
theorem ru_ge {P : Int32 → Bool} {f : Nat → Int32} {n a : Nat} : a ≤ ru P f n a := by
  by_cases h : a ≤ n
  · exact (ru_b h).1
  · rw [ru_o (by omega)]
    exact Nat.le_refl a
theorem ru_idem {P : Int32 → Bool} {f : Nat → Int32} {n a : Nat} : ru P f n (ru P f n a) = ru P f n a := by
  by_cases h : a ≤ n
  · exact ru_n (fun z => (ru_b h).2.2 z)
  · rw [ru_o (a := a) (by omega), ru_o (by omega)]
def blaB (x : Int32) : Bool := decide (x = 32 ∨ (x = 9 ∨ x = 10))
def letB (x : Int32) : Bool := decide (¬ x < 97 ∧ ¬ 122 < x)
def digB (x : Int32) : Bool := decide (¬ x < 48 ∧ ¬ 57 < x)
def skp (f : Nat → Int32) (n a : Nat) : Nat := ru blaB f n a
def tk (f : Nat → Int32) (n t : Nat) : Nat := if n ≤ t then 0 else if letB (f t) = true then 1 else if digB (f t) = true then 2 else if f t = 59 then 3 else 4
def te (f : Nat → Int32) (n t : Nat) : Nat := if n ≤ t then t else if letB (f t) = true then ru letB f n t else if digB (f t) = true then ru digB f n t else t + 1
theorem te_le {f : Nat → Int32} {n t : Nat} (h : t ≤ n) : t ≤ te f n t ∧ (te f n t ≤ n ∧ (t < n → t < te f n t)) := by
  unfold te
  by_cases e : n ≤ t
  · rw [if_pos e]
    exact ⟨Nat.le_refl t, h, fun z => by omega⟩
  · rw [if_neg e]
    by_cases e1 : letB (f t) = true
    · rw [if_pos e1, ru_y (by omega) e1]
      obtain ⟨i1, i2, i3⟩ := ru_b (P := letB) (f := f) (n := n) (a := t + 1) (by omega)
      exact ⟨by omega, i2, fun _ => by omega⟩
    · rw [if_neg e1]
      by_cases e2 : digB (f t) = true
      · rw [if_pos e2, ru_y (by omega) e2]
        obtain ⟨i1, i2, i3⟩ := ru_b (P := digB) (f := f) (n := n) (a := t + 1) (by omega)
        exact ⟨by omega, i2, fun _ => by omega⟩
      · rw [if_neg e2]
        exact ⟨by omega, by omega, fun _ => by omega⟩
theorem let_dig {x : Int32} (h : letB x = true) : ¬ digB x = true := by
  unfold letB at h
  unfold digB
  rw [decide_eq_true_eq] at h ⊢
  exact fun z => h.1 (Int32.lt_of_le_of_lt (Int32.not_lt.mp z.2) (by decide))
theorem tk2 {f : Nat → Int32} {n t : Nat} : tk f n t = 2 ↔ t < n ∧ digB (f t) = true := by
  unfold tk
  by_cases e : n ≤ t
  · rw [if_pos e]
    exact ⟨fun z => absurd z (by decide), fun z => by omega⟩
  · rw [if_neg e]
    by_cases e1 : letB (f t) = true
    · rw [if_pos e1]
      exact ⟨fun z => absurd z (by decide), fun z => absurd z.2 (let_dig e1)⟩
    · rw [if_neg e1]
      by_cases e2 : digB (f t) = true
      · rw [if_pos e2]
        exact ⟨fun _ => ⟨by omega, e2⟩, fun _ => rfl⟩
      · rw [if_neg e2]
        exact ⟨fun z => by split at z <;> exact absurd z (by decide), fun z => absurd z.2 e2⟩
theorem tk1 {f : Nat → Int32} {n t : Nat} : tk f n t = 1 ↔ t < n ∧ letB (f t) = true := by
  unfold tk
  by_cases e : n ≤ t
  · rw [if_pos e]
    exact ⟨fun z => absurd z (by decide), fun z => by omega⟩
  · rw [if_neg e]
    by_cases e1 : letB (f t) = true
    · rw [if_pos e1]
      exact ⟨fun _ => ⟨by omega, e1⟩, fun _ => rfl⟩
    · rw [if_neg e1]
      refine ⟨fun z => ?_, fun z => absurd z.2 e1⟩
      split at z
      · exact absurd z (by decide)
      · split at z <;> exact absurd z (by decide)
theorem tk_le {f : Nat → Int32} {n t : Nat} : tk f n t ≤ 4 := by
  unfold tk
  split
  · decide
  · split
    · decide
    · split
      · decide
      · split <;> decide
theorem te_dig {f : Nat → Int32} {n t : Nat} (h : tk f n t = 2) : te f n t = ru digB f n t := by
  obtain ⟨h1, h2⟩ := tk2.mp h
  unfold te
  rw [if_neg (by omega), if_neg (fun z => let_dig z h2), if_pos h2]
theorem te_let {f : Nat → Int32} {n t : Nat} (h : tk f n t = 1) : te f n t = ru letB f n t := by
  obtain ⟨h1, h2⟩ := tk1.mp h
  unfold te
  rw [if_neg (by omega), if_pos h2]
theorem ru_nodig {f : Nat → Int32} {n t : Nat} (h : tk f n t ≠ 2) : ru digB f n t = t := ru_n (fun z z2 => h (tk2.mpr ⟨z, z2⟩))
theorem ru_nolet {f : Nat → Int32} {n t : Nat} (h : tk f n t ≠ 1) : ru letB f n t = t := ru_n (fun z z2 => h (tk1.mpr ⟨z, z2⟩))

