/-! ===== the reference: a month, in one ===== -/
theorem bind_tail {α β γ : Type} {x : Option α} {f : α → Option β} {h : β → Option γ} : (x.bind fun a => (f a).bind h) = (x.bind f).bind h := by
  cases x <;> rfl
theorem shS_n {s : Nat → Int32} {v j : Nat} (h : j ≤ v) : shS s v j = s j := by unfold shS; rw [if_neg (by omega)]
def fiS (M : Sg) (D : List (Nat → Int32)) : Nat → Int32 := reS (enS M D) (sumM M) (outM (ct M.1 0) M) (calN M.1 (ct M.1 56))
theorem enS_n {M : Sg} {D : List (Nat → Int32)} {j : Nat} (hD : D.length ≤ 8) (hn : ct M.1 2 ≤ 10) (h0 : ct M.1 0 ≤ 6) (h1 : ct M.1 1 ≤ 5) (a : j ≠ 3) (b : ¬ (158 ≤ j ∧ j < 206)) (c : ¬ (58 ≤ j ∧ j < 158 ∧ (j - 58) % 10 = 9)) (d : j ≠ 5 ∧ j ≠ 57) (e : ¬ (20 ≤ j ∧ j < 31) ∧ j ≠ 54) (f : ¬ (394 ≤ j ∧ j < 424 ∧ (j - 394) % 5 = 2)) : enS M D j = M.1 j := by
  unfold enS
  rw [pk_un d.2, pk_un d.1]
  unfold flS
  rw [if_neg (by omega), if_neg (by omega)]
  unfold bkS
  rw [if_neg (by omega), if_neg e.2]
  exact en3_n hD hn a b c
theorem sumF_congr {f g : Nat → Int32} : ∀ n, (∀ i, i < n → f i = g i) → sumF f n = sumF g n := by
  intro n
  induction n with
  | zero => intro _; rfl
  | succ n ih => intro h; rw [sumF, sumF, ih (fun i hi => h i (by omega)), h n (by omega)]
