/-! ===== ranks ===== -/
def rk (s : Nat → Int32) (r : Nat) : Nat := ahead s r (ct s 2)
def Dst (s : Nat → Int32) : Prop := ∀ a b, a < ct s 2 → b < ct s 2 → s (58 + 10 * a + 2) = s (58 + 10 * b + 2) → a = b
theorem ahead_le (s : Nat → Int32) (r : Nat) : ∀ m, ahead s r m ≤ m := by
  intro m
  induction m with
  | zero => exact Nat.le_refl 0
  | succ m ih => rw [ahead]; split <;> omega
theorem ahead_lt {s : Nat → Int32} {r : Nat} : ∀ m, r < m → ahead s r m < m := by
  intro m
  induction m with
  | zero => intro h; omega
  | succ m ih =>
    intro h
    rw [ahead]
    by_cases e : r = m
    · subst e
      rw [if_neg Int32.lt_irrefl]
      have := ahead_le s r r
      omega
    · have := ih (by omega)
      split <;> omega
theorem ahead_mono {s : Nat → Int32} {a b : Nat} (h : s (58 + 10 * a + 2) < s (58 + 10 * b + 2)) : ∀ m, ahead s a m ≤ ahead s b m ∧ (a < m → ahead s a m < ahead s b m) := by
  intro m
  induction m with
  | zero => exact ⟨Nat.le_refl _, fun h => by omega⟩
  | succ m ih =>
    obtain ⟨i1, i2⟩ := ih
    have key : (if s (58 + 10 * m + 2) < s (58 + 10 * a + 2) then 1 else 0) ≤ (if s (58 + 10 * m + 2) < s (58 + 10 * b + 2) then 1 else 0) := by
      by_cases e : s (58 + 10 * m + 2) < s (58 + 10 * a + 2)
      · rw [if_pos e, if_pos (Int32.lt_trans e h)]
        exact Nat.le_refl _
      · rw [if_neg e]
        exact Nat.zero_le _
    rw [ahead, ahead]
    refine ⟨by omega, fun hm => ?_⟩
    by_cases e : a = m
    · subst e
      rw [if_neg Int32.lt_irrefl, if_pos h]
      omega
    · have := i2 (by omega)
      omega
theorem rk_lt {s : Nat → Int32} {r : Nat} (h : r < ct s 2) : rk s r < ct s 2 := ahead_lt _ h
theorem rk_of_lt {s : Nat → Int32} {a b : Nat} (ha : a < ct s 2) (h : s (58 + 10 * a + 2) < s (58 + 10 * b + 2)) : rk s a < rk s b := (ahead_mono h _).2 ha
theorem i32_tri (x y : Int32) : x < y ∨ x = y ∨ y < x := by
  rcases Int32.lt_or_le x y with h | h
  · exact Or.inl h
  · by_cases e : x = y
    · exact Or.inr (Or.inl e)
    · refine Or.inr (Or.inr ?_)
      rw [Int32.le_iff_toInt_le] at h
      rw [Int32.lt_iff_toInt_lt]
      have : x.toInt ≠ y.toInt := fun z => e (Int32.toInt_inj.mp z)
      omega
theorem rk_inj {s : Nat → Int32} (hd : Dst s) {a b : Nat} (ha : a < ct s 2) (hb : b < ct s 2) (h : rk s a = rk s b) : a = b := by
  rcases i32_tri (s (58 + 10 * a + 2)) (s (58 + 10 * b + 2)) with e | e | e
  · have := rk_of_lt ha e
    omega
  · exact hd a b ha hb e
  · have := rk_of_lt hb e
    omega
theorem ph : ∀ (n : Nat) (f : Nat → Nat), (∀ r, r < n + 1 → f r < n) → ∃ a b, a < b ∧ (b < n + 1 ∧ f a = f b) := by
  intro n
  induction n with
  | zero => intro f h; exact absurd (h 0 (by omega)) (by omega)
  | succ n ih =>
    intro f h
    by_cases e : ∃ r, r < n + 1 ∧ f r = f (n + 1)
    · obtain ⟨r, h1, h2⟩ := e
      exact ⟨r, n + 1, h1, by omega, h2⟩
    · have hne : ∀ r, r < n + 1 → f r ≠ f (n + 1) := fun r h1 h2 => e ⟨r, h1, h2⟩
      obtain ⟨a, b, h1, h2, h3⟩ := ih (fun r => if f (n + 1) < f r then f r - 1 else f r) (fun r hr => by
        have q1 := hne r hr
        have q2 := h r (by omega)
        have q3 := h (n + 1) (by omega)
        show (if f (n + 1) < f r then f r - 1 else f r) < n
        split <;> omega)
      refine ⟨a, b, h1, by omega, ?_⟩
      have q1 := hne a (by omega)
      have q2 := hne b (by omega)
      have h3 : (if f (n + 1) < f a then f a - 1 else f a) = (if f (n + 1) < f b then f b - 1 else f b) := h3
      split at h3 <;> split at h3 <;> omega
theorem onto {n : Nat} {f : Nat → Nat} (hf : ∀ r, r < n → f r < n) (hi : ∀ a b, a < n → b < n → f a = f b → a = b) {k : Nat} (hk : k < n) : ∃ r, r < n ∧ f r = k := by
  by_cases e : ∃ r, r < n ∧ f r = k
  · exact e
  · exfalso
    have hne : ∀ r, r < n → f r ≠ k := fun r h1 h2 => e ⟨r, h1, h2⟩
    obtain ⟨m, rfl⟩ : ∃ m, n = m + 1 := ⟨n - 1, by omega⟩
    obtain ⟨a, b, h1, h2, h3⟩ := ph m (fun r => if k < f r then f r - 1 else f r) (fun r hr => by
      have q1 := hne r hr
      have q2 := hf r hr
      show (if k < f r then f r - 1 else f r) < m
      split <;> omega)
    have q1 := hne a (by omega)
    have q2 := hne b (by omega)
    have h3 : (if k < f a then f a - 1 else f a) = (if k < f b then f b - 1 else f b) := h3
    have : f a = f b := by split at h3 <;> split at h3 <;> omega
    have := hi a b (by omega) (by omega) this
    omega
theorem senF_some {s : Nat → Int32} {n k : Nat} : ∀ d r r', senF s n k d r = some r' → r ≤ r' ∧ (r' < r + d ∧ ahead s r' n = k) := by
  intro d
  induction d with
  | zero => intro r r' h; cases h
  | succ d ih =>
    intro r r' h
    rw [senF] at h
    by_cases e : ahead s r n = k
    · rw [if_pos e] at h
      cases h
      exact ⟨Nat.le_refl _, by omega, e⟩
    · rw [if_neg e] at h
      obtain ⟨a, b, c⟩ := ih (r + 1) r' h
      exact ⟨by omega, by omega, c⟩
theorem senF_ex {s : Nat → Int32} {n k r0 : Nat} (h0 : ahead s r0 n = k) : ∀ d r, r ≤ r0 → r0 < r + d → ∃ r', senF s n k d r = some r' := by
  intro d
  induction d with
  | zero => intro r h1 h2; omega
  | succ d ih =>
    intro r h1 h2
    rw [senF]
    by_cases e : ahead s r n = k
    · exact ⟨r, if_pos e⟩
    · rw [if_neg e]
      have : r ≠ r0 := fun z => e (z ▸ h0)
      exact ih (r + 1) (by omega) (by omega)
theorem sen_rk {s : Nat → Int32} {k r : Nat} (h : sen s k = some r) : r < ct s 2 ∧ rk s r = k := by
  obtain ⟨-, h2, h3⟩ := senF_some _ _ _ h
  exact ⟨by omega, h3⟩
theorem sen_ex {s : Nat → Int32} (hd : Dst s) {k : Nat} (hk : k < ct s 2) : ∃ r, sen s k = some r ∧ (r < ct s 2 ∧ rk s r = k) := by
  obtain ⟨r0, h1, h2⟩ := onto (n := ct s 2) (f := rk s) (fun r hr => rk_lt hr) (fun a b ha hb => rk_inj hd ha hb) hk
  obtain ⟨r, hr⟩ := senF_ex (s := s) (n := ct s 2) (k := k) (r0 := r0) h2 (ct s 2) 0 (Nat.zero_le _) (by omega)
  exact ⟨r, hr, sen_rk hr⟩
theorem rk_eq {s s' : Nat → Int32} (h2 : s' 2 = s 2) (hs : ∀ o, o < ct s 2 → s' (58 + 10 * o + 2) = s (58 + 10 * o + 2)) {r : Nat} (hr : r < ct s 2) : rk s' r = rk s r := by
  unfold rk
  rw [ct_eq h2]
  exact ahead_eq hs (hs r hr) _ (Nat.le_refl _)
/-! ===== the claims of all rights ===== -/
def LRows (s : Nat → Int32) (LS : List (Nat → Int32)) : Prop := ∀ row, row ∈ LS → LRow s row
def ORows (s : Nat → Int32) (OS : List (Nat → Int32)) : Prop := ∀ row, row ∈ OS → ORow s row
theorem LRows.sta {s s' : Nat → Int32} {LS : List (Nat → Int32)} (h : LRows s LS) (hs : ∀ j, Sta j → s' j = s j) : LRows s' LS := fun row hr => ⟨(h row hr).1.sta (hs 0 Sta0) (hs 1 Sta1) (hs 2 Sta2), (h row hr).2⟩
theorem ORows.sta {s s' : Nat → Int32} {LS : List (Nat → Int32)} (h : ORows s LS) (hs : ∀ j, Sta j → s' j = s j) : ORows s' LS := fun row hr => ⟨(h row hr).1.sta (hs 0 Sta0) (hs 1 Sta1) (hs 2 Sta2), (h row hr).2⟩
theorem oby_mem {s : Nat → Int32} {r : Nat} {row : Nat → Int32} : ∀ {OS : List (Nat → Int32)}, oby s r OS = some row → row ∈ OS ∧ ct row 0 = r := by
  intro OS
  induction OS with
  | nil => intro h; cases h
  | cons a L ih =>
    intro h
    rw [oby] at h
    by_cases e : ct a 0 = r ∧ yrP s (ct s 5 / 12) < a 3
    · rw [if_pos e] at h
      cases h
      exact ⟨List.mem_cons_self, e.1⟩
    · rw [if_neg e] at h
      exact ⟨List.mem_cons_of_mem _ (ih h).1, (ih h).2⟩
section IND
variable {r : Nat} {P : Sg → Prop}
theorem clL_ind (hP : ∀ its acc reach w price c st, Cst st (c + 1) → Ars st r acc reach w → P st → P (srv its r acc reach w price st)) : ∀ (L : List (Nat → Int32)) (st : Sg) (left c : Nat), Cst st (c + cntR r L) → r < ct st.1 2 → LRows st.1 L → left ≤ 999 → P st → P (clL r L (st, left)).1 := by
  intro L
  induction L with
  | nil => intro st left c h _ _ _ hp; exact hp
  | cons row L ih =>
    intro st left c h hr hL hl hp
    have hrow := hL row List.mem_cons_self
    rw [clL]
    by_cases e : ct row 0 = r
    · rw [if_pos e]
      rw [cntR, if_pos e] at h
      have h' : Cst st ((c + cntR r L) + 1) := h.less (by omega)
      have hv : (if left < ct row 3 then left else ct row 3) ≤ left := by split <;> omega
      have ha : Ars st r (ct row 1) (ct row 2) (wout st.1 r (if left < ct row 3 then left else ct row 3)) := ⟨hr, hrow.1.2.1.2, hrow.1.2.2.2, wout_le (by omega)⟩
      obtain ⟨k1, k2⟩ := h'.srv (its := 1) (price := ct row 4) ha
      exact ih _ _ c k1 (by rw [ct_eq (k2 2 Sta2)]; exact hr) (LRows.sta (fun row' hr' => hL row' (List.mem_cons_of_mem _ hr')) k2) (by show left - _ ≤ 999; omega) (hP _ _ _ _ _ _ st h' ha hp)
    · rw [if_neg e]
      rw [cntR, if_neg e, Nat.zero_add] at h
      exact ih st left c h hr (fun row' hr' => hL row' (List.mem_cons_of_mem _ hr')) hl hp
theorem clE_ind (hP : ∀ its acc reach w price c st, Cst st (c + 1) → Ars st r acc reach w → P st → P (srv its r acc reach w price st)) {OS : List (Nat → Int32)} {st : Sg} {left c : Nat} (h : Cst st (c + 1)) (hr : r < ct st.1 2) (hO : ORows st.1 OS) (hl : left ≤ 999) (hp : P st) : P (clE OS r (st, left)) := by
  unfold clE
  show P ((oby st.1 r OS).elim (srv 0 r (ct st.1 (58 + 10 * r + 0)) (ct st.1 (58 + 10 * r + 1)) left 0 st) (fun row => srv 2 r (ct row 1) (ct row 2) (wout st.1 r left) (ct row 5) st))
  have hf := h.1.2.2.2.2.2 r hr
  cases e : oby st.1 r OS with
  | none => exact hP _ _ _ _ _ _ st h ⟨hr, hf.1.2, Nat.lt_of_le_of_lt hf.2.1.2 hf.2.2.1.2, hl⟩ hp
  | some row =>
    have hrow := hO row (oby_mem e).1
    exact hP _ _ _ _ _ _ st h ⟨hr, hrow.1.2.1.2, hrow.1.2.2.2, wout_le hl⟩ hp
theorem cut0_Cst {st : Sg} {c : Nat} (h : Cst st c) : Cst (cut0 st r) c := h
theorem clR_ind (hP : ∀ its acc reach w price c st, Cst st (c + 1) → Ars st r acc reach w → P st → P (srv its r acc reach w price st)) {LS OS : List (Nat → Int32)} {st : Sg} {c : Nat} (h : Cst st (c + 1 + cntR r LS)) (hr : r < ct st.1 2) (hL : LRows st.1 LS) (hO : ORows st.1 OS) (hp : P (cut0 st r)) : P (clR LS OS r st) ∧ (Cst (clR LS OS r st) c ∧ ∀ j, Sta j → (clR LS OS r st).1 j = st.1 j) := by
  have hf := h.1.2.2.2.2.2 r hr
  have h3 := hf.2.2.2.1.2
  obtain ⟨k1, k2, k3⟩ := clL_keep LS (cut0 st r) (ct st.1 (58 + 10 * r + 3)) (c + 1) h hr hL h3
  have p1 := clL_ind hP LS (cut0 st r) (ct st.1 (58 + 10 * r + 3)) (c + 1) h hr hL h3 hp
  have e2 : ct (clL r LS (cut0 st r, ct st.1 (58 + 10 * r + 3))).1.1 2 = ct st.1 2 := ct_eq (k2 2 Sta2)
  unfold clR
  generalize clL r LS (cut0 st r, ct st.1 (58 + 10 * r + 3)) = p at *
  obtain ⟨q, left⟩ := p
  have hO' : ORows q.1 OS := hO.sta k2
  have hle : left ≤ 999 := Nat.le_trans k3 h3
  refine ⟨clE_ind hP k1 (by rw [e2]; exact hr) hO' hle p1, ?_⟩
  have := clE_ind (P := fun s => (Cst q (c + 1) → True) ∧ True) (OS := OS) (r := r) (fun _ _ _ _ _ _ _ _ _ _ => ⟨fun _ => trivial, trivial⟩) k1 (by rw [e2]; exact hr) hO' hle ⟨fun _ => trivial, trivial⟩
  unfold clE
  show Cst ((oby q.1 r OS).elim (srv 0 r (ct q.1 (58 + 10 * r + 0)) (ct q.1 (58 + 10 * r + 1)) left 0 q) (fun row => srv 2 r (ct row 1) (ct row 2) (wout q.1 r left) (ct row 5) q)) c ∧ ∀ j, Sta j → ((oby q.1 r OS).elim (srv 0 r (ct q.1 (58 + 10 * r + 0)) (ct q.1 (58 + 10 * r + 1)) left 0 q) (fun row => srv 2 r (ct row 1) (ct row 2) (wout q.1 r left) (ct row 5) q)).1 j = st.1 j
  have hf2 := k1.1.2.2.2.2.2 r (by rw [e2]; exact hr)
  cases e : oby q.1 r OS with
  | none =>
    obtain ⟨z1, z2⟩ := k1.srv (its := 0) (price := 0) (r := r) (acc := ct q.1 (58 + 10 * r + 0)) (reach := ct q.1 (58 + 10 * r + 1)) (w := left) ⟨by rw [e2]; exact hr, hf2.1.2, Nat.lt_of_le_of_lt hf2.2.1.2 hf2.2.2.1.2, hle⟩
    exact ⟨z1, fun j hj => (z2 j hj).trans (k2 j hj)⟩
  | some row =>
    have hrow := hO' row (oby_mem e).1
    obtain ⟨z1, z2⟩ := k1.srv (its := 2) (price := ct row 5) (r := r) (acc := ct row 1) (reach := ct row 2) (w := wout q.1 r left) ⟨by rw [e2]; exact hr, hrow.1.2.1.2, hrow.1.2.2.2, wout_le hle⟩
    exact ⟨z1, fun j hj => (z2 j hj).trans (k2 j hj)⟩
end IND

