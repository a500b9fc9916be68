/-! ===== blocked, injured ===== -/
theorem i32_ss (a b x : Int32) : a - x - (b - x) = a - b := by
  rw [Int32.sub_eq_add_neg, Int32.sub_eq_add_neg, Int32.sub_eq_add_neg, Int32.sub_eq_add_neg, Int32.neg_add, Int32.sub_eq_add_neg, Int32.neg_neg, Int32.add_assoc, Int32.add_comm (-b) x, ← Int32.add_assoc (-x) x (-b), Int32.add_left_neg, Int32.zero_add]
theorem sgn0 {a b : Nat} (ha : a < 2 ^ 30) (hb : b < 2 ^ 30) : nI a - nI b ≤ 0 ↔ nI a ≤ nI b := by
  by_cases e : b ≤ a
  · rw [pk_sub e]
    by_cases e2 : a = b
    · rw [e2, Nat.sub_self]
      exact ⟨fun _ => Int32.le_refl _, fun _ => Int32.le_refl _⟩
    · exact ⟨fun z => absurd z (nI_nle (by omega) (by omega)), fun z => absurd z (nI_ge (by omega) (by omega))⟩
  · exact ⟨fun _ => nI_le (by omega) (by omega), fun _ => Int32.le_of_lt (pk_sneg hb (by omega))⟩
theorem sgnP {a b : Nat} (ha : a < 2 ^ 30) (hb : b < 2 ^ 30) : (nI a - nI b) * 1 ≤ 0 ↔ nI a ≤ nI b := by
  rw [Int32.mul_one]
  exact sgn0 ha hb
theorem sgnN {a b : Nat} (ha : a < 2 ^ 30) (hb : b < 2 ^ 30) : (nI a - nI b) * (-1) ≤ 0 ↔ nI b ≤ nI a := by
  rw [Int32.mul_neg, Int32.mul_one, Int32.neg_sub]
  exact sgn0 hb ha
def rw6 (a0 a1 a2 a3 a4 a5 : Int32) : Nat → Int32 := fun k => if k = 0 then a0 else if k = 1 then a1 else if k = 2 then a2 else if k = 3 then a3 else if k = 4 then a4 else if k = 5 then a5 else 0
section BLK
variable {μ ν : Mm} {s : Nat → Int32} {g : Nat → Int64} {T : Nat}
theorem x1_addLease {b : Nat} {LS OS : List (Nat → Int32)} {ng : Nat} {G : Nat → Nat → Int32} {cu : Nat → Int32} (h : SV μ b LS OS ng G cu s g) (hb : kd b = 1) (hl : LS.length ≤ 8) {a0 a1 a2 a3 a4 a5 : Int32} : Op (F_X1_addLease b a0 a1 a2 a3 a4 a5 μ) (fun o => o.1 = nI LS.length ∧ (SV o.2 b (LS ++ [rw6 a0 a1 a2 a3 a4 a5]) OS ng G cu s g ∧ Fs (fun a => a = b + 12 ∨ a = b + 12 + 1) μ o.2)) := by
  have hln := st_ln hb 13 (by decide)
  have e13 : (qStL.getD 13 (0, 0)).2 = 54 := rfl
  unfold F_X1_addLease
  refine op_mb (x2_add h.lea (by rw [show b + 12 + 1 = b + 13 from rfl, hln, e13]; omega)) (fun o w => ?_)
  obtain ⟨w1, w2, w3⟩ := w
  rw [w1]
  refine op_eb (x2_put (k := 0) w2 (Nat.lt_succ_self _) (by decide)) ?_
  have t0 := w2.set (r := LS.length) (k := 0) (v := a0) (Nat.lt_succ_self _) (by decide)
  refine op_eb (x2_put (k := 1) t0 (Nat.lt_succ_self _) (by decide)) ?_
  have t1 := t0.set (r := LS.length) (k := 1) (v := a1) (Nat.lt_succ_self _) (by decide)
  refine op_eb (x2_put (k := 2) t1 (Nat.lt_succ_self _) (by decide)) ?_
  have t2 := t1.set (r := LS.length) (k := 2) (v := a2) (Nat.lt_succ_self _) (by decide)
  refine op_eb (x2_put (k := 3) t2 (Nat.lt_succ_self _) (by decide)) ?_
  have t3 := t2.set (r := LS.length) (k := 3) (v := a3) (Nat.lt_succ_self _) (by decide)
  refine op_eb (x2_put (k := 4) t3 (Nat.lt_succ_self _) (by decide)) ?_
  have t4 := t3.set (r := LS.length) (k := 4) (v := a4) (Nat.lt_succ_self _) (by decide)
  refine op_eb (x2_put (k := 5) t4 (Nat.lt_succ_self _) (by decide)) (op_r ?_)
  have t5 := t4.set (r := LS.length) (k := 5) (v := a5) (Nat.lt_succ_self _) (by decide)
  have fr : Fs (fun a => a = b + 12 ∨ a = b + 12 + 1) μ _ := (((((w3.tr (Fs.uI (k := LS.length * 6 + 0) (v := a0) (Or.inr rfl))).tr (Fs.uI (k := LS.length * 6 + 1) (v := a1) (Or.inr rfl))).tr (Fs.uI (k := LS.length * 6 + 2) (v := a2) (Or.inr rfl))).tr (Fs.uI (k := LS.length * 6 + 3) (v := a3) (Or.inr rfl))).tr (Fs.uI (k := LS.length * 6 + 4) (v := a4) (Or.inr rfl))).tr (Fs.uI (k := LS.length * 6 + 5) (v := a5) (Or.inr rfl))
  refine ⟨rfl, h.wLea fr ?_, fr⟩
  rw [List.length_append, List.length_singleton]
  refine t5.congr (fun r k hr hk => ?_)
  rw [lf_app2]
  unfold up2
  by_cases e : r < LS.length
  · rw [if_pos e, if_neg (by omega), if_neg (by omega), if_neg (by omega), if_neg (by omega), if_neg (by omega), if_neg (by omega)]
    exact if_neg (by omega)
  · obtain rfl : r = LS.length := by omega
    rw [if_neg e, Nat.sub_self]
    show _ = rw6 a0 a1 a2 a3 a4 a5 k
    unfold rw6
    rcases (show k = 0 ∨ k = 1 ∨ k = 2 ∨ k = 3 ∨ k = 4 ∨ k = 5 by omega) with rfl | rfl | rfl | rfl | rfl | rfl <;> simp
def kpS (a : Nat) : Prop := Blk 23 a ∨ a = 69
/-- what a month as usual gets -/
theorem x3_usual (h : Bo T μ s g) (hk : KB μ 23) (hT : T ≤ 19900) : Op ((F_X3_tryMonths 1 μ).bind fun o7 => F_X3_keepUsualGot o7) (fun m => (∀ r, r < ct s 2 → m.1 69 r = (gM (-1) [] (s, g, μ.1 307, μ.1 308)).1 (58 + 10 * r + 7)) ∧ ((∀ r, ct s 2 ≤ r → r < 10 → m.1 69 r = 0) ∧ (KB m 23 ∧ Fs kpS μ m))) := by
  have h210 := h.2.2.2.1.1.1.2.2.1.2
  unfold F_X3_tryMonths
  refine op_b (op_mb (x1_copy h.1 kd23 kd1 (by decide) hk) (fun m1 w1 => ?_))
  have hsv : SV m1 23 (LSo s ++ []) (OSo s) (if s 57 = 0 then 0 else ct s 0) (fun q k => s (394 + 5 * q + k)) (fun r => s (58 + 10 * r + 9)) s g := by rw [List.append_nil]; exact w1.1
  obtain ⟨o, e1, z1, z2, z3, z4⟩ := x1_got (κ := fun _ => -1) (X := []) (p := -1) (st := (s, g, μ.1 307, μ.1 308)) hsv h.2.2.2.1 hT (noX rfl h210)
  refine op_eb (a := o.2) ?_ (op_r ?_)
  · show F_X3_tryMonths_13 1 (9999 + 1) 0 m1 = some o.2
    rw [F_X3_tryMonths_13, if_neg (by decide), e1]
    show F_X3_tryMonths_13 1 (9998 + 1) 1 o.2 = some o.2
    rw [F_X3_tryMonths_13, if_pos (by decide)]
  · refine op_m (x3_keep (n := 10) (U := fun r => if r < ct s 2 then (gM (-1) [] (s, g, μ.1 307, μ.1 308)).1 (58 + 10 * r + 7) else 0) (fun r hr => ?_) (fun r h1 h2 => by omega)) (fun m w => ⟨fun r hr => ?_, fun r h1 h2 => ?_, z3.fs w.2 (fun a h1 h2 => by omega), ((w1.2.tr z4).mo (fun a e => Or.inl e)).tr (w.2.mo (fun a e => Or.inr e))⟩)
    · show _ = some (if r < ct s 2 then (gM (-1) [] (s, g, μ.1 307, μ.1 308)).1 (58 + 10 * r + 7) else 0)
      by_cases e : r < ct s 2
      · rw [if_pos e]
        exact z1 r e
      · rw [if_neg e]
        exact z2 r (show ct s 2 ≤ r by omega) hr
    · exact (w.1 r (by omega) (by omega)).trans (if_pos hr)
    · exact (w.1 r h2 h2).trans (if_neg (by omega))
theorem sgnG {a b : Nat} (ha : a < 2 ^ 30) (hb : b < 2 ^ 30) : 0 ≤ nI a - nI b ↔ nI b ≤ nI a := by
  by_cases e : b ≤ a
  · rw [pk_sub e]
    exact ⟨fun _ => nI_le e (by omega), fun _ => nI_pos' (by omega)⟩
  · exact ⟨fun z => absurd (pk_sneg hb (by omega)) (Int32.not_lt.mpr z), fun z => absurd z (nI_ge (by omega) (by omega))⟩
theorem bset_end {b : Nat → Bool} : ∀ (e i : Nat) (v : Int32), (∀ r, i ≤ r → r < i + e → b r = false) → bset b e i v = v := by
  intro e
  induction e with
  | zero => intro i v _; rfl
  | succ e ih =>
    intro i v h
    rw [bset, h i (Nat.le_refl i) (by omega), if_neg (by decide)]
    exact ih (i + 1) v (fun r h1 h2 => h r (by omega) (by omega))
theorem bset_cut {b b' : Nat → Bool} : ∀ (n e i : Nat) (v : Int32), (∀ r, i ≤ r → r < i + n → b' r = b r) → (∀ r, i + n ≤ r → r < i + n + e → b' r = false) → bset b' (n + e) i v = bset b n i v := by
  intro n
  induction n with
  | zero =>
    intro e i v _ h2
    rw [Nat.zero_add]
    exact bset_end e i v (fun r h3 h4 => h2 r (by omega) (by omega))
  | succ n ih =>
    intro e i v h1 h2
    rw [show n + 1 + e = n + e + 1 by omega]
    show bset b' (n + e) (i + 1) (if b' i = true then v ||| ((1 : Int32) <<< (nI i &&& 31)) else v) = bset b n (i + 1) (if b i = true then v ||| ((1 : Int32) <<< (nI i &&& 31)) else v)
    rw [h1 i (Nat.le_refl i) (by omega)]
    exact ih e (i + 1) _ (fun r h3 h4 => h1 r (by omega) (by omega)) (fun r h3 h4 => h2 r (by omega) (by omega))
theorem x3_oth {k : Nat} (hk : k < 10) {u2 : Int32} {U W : Nat → Int32} {b : Nat → Bool} (hW : ∀ r, r < 10 → F_X2_get 31 (nI r) 7 μ = some (W r)) (hU : ∀ r, r < 10 → μ.1 69 r = U r) (hb : ∀ r, r < 10 → (b r = true ↔ (r ≠ k ∧ ¬ (if u2 = 0 then 0 ≤ W r - U r else W r - U r ≤ 0)))) : ∀ (d m i : Nat) (v : Int32), i + d = 10 → d < m → F_X3_othersThatGet_5 (nI k) u2 μ m v (nI i) = some (bset b d i v) := by
  have ln69 : ln 69 = 10 := by decide +kernel
  intro d
  induction d with
  | zero =>
    intro m i v hi hm
    obtain ⟨m, rfl⟩ : ∃ z, m = z + 1 := ⟨m - 1, by omega⟩
    obtain rfl : i = 10 := by omega
    rw [F_X3_othersThatGet_5, if_pos (show (10 : Int32) ≤ nI 10 by decide)]
    rfl
  | succ d ih =>
    intro m i v hi hm
    obtain ⟨m, rfl⟩ : ∃ z, m = z + 1 := ⟨m - 1, by omega⟩
    rw [F_X3_othersThatGet_5, if_neg (show ¬ (10 : Int32) ≤ nI i from nI_ge (b := 10) (by omega) (by decide)), bset]
    refine be_ (hW i (by omega)) (be_ (aI_ok (k := i) rfl (by rw [ln69]; omega)) ?_)
    rw [hU i (by omega)]
    have hbi := hb i (by omega)
    refine be_ (a := if b i = true then v ||| (1 : Int32) <<< (nI i &&& 31) else v) ?_ ?_
    · by_cases e : i = k
      · rw [if_pos (by rw [e]), if_neg (fun z => (hbi.mp z).1 e)]
      · rw [if_neg (fun z => e (nI_inj (by omega) (by omega) z))]
        by_cases e0 : u2 = 0
        · rw [if_pos e0] at hbi
          rw [if_pos e0]
          by_cases e2 : 0 ≤ W i - U i
          · rw [if_pos e2, if_neg (fun z => (hbi.mp z).2 e2)]
          · rw [if_neg e2, if_pos (hbi.mpr ⟨e, e2⟩)]
        · rw [if_neg e0] at hbi
          rw [if_neg e0]
          by_cases e2 : W i - U i ≤ 0
          · rw [if_pos e2, if_neg (fun z => (hbi.mp z).2 e2)]
          · rw [if_neg e2, if_pos (hbi.mpr ⟨e, e2⟩)]
    · rw [nI_1]
      exact ih m (i + 1) _ (by omega) (by omega)
theorem x3_othL {k n : Nat} (hn : n ≤ 10) (hk : k < 10) {u2 : Int32} {U W : Nat → Int32} {b : Nat → Bool} (hW : ∀ r, r < n → F_X2_get 31 (nI r) 7 μ = some (W r)) (hW0 : ∀ r, n ≤ r → r < 10 → F_X2_get 31 (nI r) 7 μ = some 0) (hU : ∀ r, r < n → μ.1 69 r = U r) (hU0 : ∀ r, n ≤ r → r < 10 → μ.1 69 r = 0) (hb : ∀ r, r < n → (b r = true ↔ (r ≠ k ∧ ¬ (if u2 = 0 then 0 ≤ W r - U r else W r - U r ≤ 0)))) : F_X3_othersThatGet (nI k) u2 μ = some (bset b n 0 0) := by
  have key := x3_oth (μ := μ) hk (u2 := u2) (U := fun r => if r < n then U r else 0) (W := fun r => if r < n then W r else 0) (b := fun r => decide (r < n) && b r) (fun r hr => ?_) (fun r hr => ?_) (fun r hr => ?_) 10 qFuel 0 0 (by omega) (by unfold qFuel; omega)
  · unfold F_X3_othersThatGet
    refine be_ key (congrArg some ?_)
    have := bset_cut (b := b) (b' := fun r => decide (r < n) && b r) n (10 - n) 0 0 (fun r h1 h2 => ?_) (fun r h1 h2 => ?_)
    · rw [show n + (10 - n) = 10 by omega] at this
      exact this
    · show (decide (r < n) && b r) = b r
      rw [decide_eq_true (show r < n by omega), Bool.true_and]
    · show (decide (r < n) && b r) = false
      rw [decide_eq_false (show ¬ r < n by omega), Bool.false_and]
  · show _ = some (if r < n then W r else 0)
    by_cases e : r < n
    · rw [if_pos e]
      exact hW r e
    · rw [if_neg e]
      exact hW0 r (by omega) hr
  · show _ = (if r < n then U r else 0)
    by_cases e : r < n
    · rw [if_pos e]
      exact hU r e
    · rw [if_neg e]
      exact hU0 r (by omega) hr
  · show (decide (r < n) && b r) = true ↔ (r ≠ k ∧ ¬ (if u2 = 0 then 0 ≤ (if r < n then W r else 0) - (if r < n then U r else 0) else (if r < n then W r else 0) - (if r < n then U r else 0) ≤ 0))
    by_cases e : r < n
    · rw [decide_eq_true e, Bool.true_and, if_pos e, if_pos e]
      exact hb r e
    · rw [decide_eq_false e, Bool.false_and, if_neg e, if_neg e]
      refine ⟨fun z => absurd z (by decide), fun z => absurd z.2 ?_⟩
      by_cases e0 : u2 = 0
      · rw [if_pos e0]
        decide
      · rw [if_neg e0]
        decide
theorem x3_blockedL {k n : Nat} (hn : n ≤ 10) (hk : k < 10) {U W : Nat → Int32} {b : Nat → Bool} (hW : ∀ r, r < n → F_X2_get 31 (nI r) 7 μ = some (W r)) (hW0 : ∀ r, n ≤ r → r < 10 → F_X2_get 31 (nI r) 7 μ = some 0) (hU : ∀ r, r < n → μ.1 69 r = U r) (hU0 : ∀ r, n ≤ r → r < 10 → μ.1 69 r = 0) (hs : ∀ r, r < n → (W r - U r ≤ 0 ↔ W r ≤ U r)) (hb : ∀ r, r < n → b r = decide (r ≠ k ∧ ¬ W r ≤ U r)) : F_X3_othersThatGet (nI k) 1 μ = some (bset b n 0 0) :=
  x3_othL hn hk hW hW0 hU hU0 (fun r hr => by rw [hb r hr, decide_eq_true_eq, if_neg (show ¬ (1 : Int32) = 0 by decide), hs r hr])
theorem x3_injuredL {k n : Nat} (hn : n ≤ 10) (hk : k < 10) {U W : Nat → Int32} {b : Nat → Bool} (hW : ∀ r, r < n → F_X2_get 31 (nI r) 7 μ = some (W r)) (hW0 : ∀ r, n ≤ r → r < 10 → F_X2_get 31 (nI r) 7 μ = some 0) (hU : ∀ r, r < n → μ.1 69 r = U r) (hU0 : ∀ r, n ≤ r → r < 10 → μ.1 69 r = 0) (hs : ∀ r, r < n → (0 ≤ W r - U r ↔ U r ≤ W r)) (hb : ∀ r, r < n → b r = decide (r ≠ k ∧ ¬ U r ≤ W r)) : F_X3_othersThatGet (nI k) 0 μ = some (bset b n 0 0) :=
  x3_othL hn hk hW hW0 hU hU0 (fun r hr => by rw [hb r hr, decide_eq_true_eq, if_pos rfl, hs r hr])
end BLK
