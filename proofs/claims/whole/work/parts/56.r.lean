/-! ===== questions with loops ===== -/
section QUERY3
variable {μ : Mm} {s : Nat → Int32} {g : Nat → Int64} {T : Nat}
theorem g_at {q k : Nat} (h : Bo T μ s g) (h6 : ct s 0 ≤ 6) (hq : q < ct s 0) (hk : k < 5) : F_X4_gaugeOf (nI q) (nI k) (uI μ 295 0 0) = some (s (394 + 5 * q + k)) := (m_gO (by omega) hk).trans (congrArg some (by rw [th296, h.2.1]))
theorem q_dryGauges (h : Bo T μ s g) : QP (F_X3_dryGauges μ) (F_X4_dryGauges μ) μ := by
  have h0 := h.2.2.2.1.1.1.1
  have h6 := h0.2
  have hd57 := h.2.2.2.1.2.1.2.2.2.2.2.2.1
  have hg := h.1.gau
  have e0 : aI (uI μ 295 0 0) 296 0 = some (nI (ct s 0)) := (mg (k := 0) rfl (by decide)).trans (congrArg some (by rw [th296, h.2.1]; exact h0.1))
  have e57 : aI (uI μ 295 0 0) 296 57 = some (s 57) := (mg (k := 57) rfl (by decide)).trans (congrArg some (by rw [th296, h.2.1]))
  refine QPm ?_
  by_cases e : s 57 = 0
  · have hm : ∀ (d m i : Nat) (v : Int32), i + d = ct s 0 → d < m → F_X4_dryGauges_9 (uI μ 295 0 0) m v (nI i) = some v := by
      intro d
      induction d with
      | zero =>
        intro m i v hi hm
        obtain ⟨m, rfl⟩ : ∃ z, m = z + 1 := ⟨m - 1, by omega⟩
        rw [F_X4_dryGauges_9]
        exact be_ e0 (if_pos (nI_le (by omega) (by omega)))
      | succ d ih =>
        intro m i v hi hm
        obtain ⟨m, rfl⟩ : ∃ z, m = z + 1 := ⟨m - 1, by omega⟩
        rw [F_X4_dryGauges_9]
        refine be_ e0 ((if_neg (nI_ge (by omega) (by omega))).trans (be_ e57 ?_))
        rw [e, if_neg (show ¬ (0 : Int32) = 1 by decide), nI_1]
        show F_X4_dryGauges_9 (uI μ 295 0 0) m (v ||| 0) (nI (i + 1)) = some v
        rw [Int32.or_zero]
        exact ih m (i + 1) v (by omega) (by omega)
    rw [if_pos e] at hg
    refine ⟨0, ?_, be_ (hm (ct s 0) qFuel 0 0 (by omega) (by unfold qFuel; omega)) rfl⟩
    unfold F_X3_dryGauges
    refine be_ ?_ rfl
    show F_X3_dryGauges_4 μ (9999 + 1) 0 0 = some 0
    rw [F_X3_dryGauges_4, show μ.1 19 2 = nI 0 from hg.2.1]
    exact if_pos (by decide)
  · rw [if_neg e] at hg
    have hm : ∀ (d m m' i : Nat) (v : Int32), i + d = ct s 0 → d < m → d < m' → ∃ r, F_X3_dryGauges_4 μ m v (nI i) = some r ∧ F_X4_dryGauges_9 (uI μ 295 0 0) m' v (nI i) = some r := by
      intro d
      induction d with
      | zero =>
        intro m m' i v hi hm hm'
        obtain ⟨m, rfl⟩ : ∃ z, m = z + 1 := ⟨m - 1, by omega⟩
        obtain ⟨m', rfl⟩ : ∃ z, m' = z + 1 := ⟨m' - 1, by omega⟩
        refine ⟨v, ?_, ?_⟩
        · rw [F_X3_dryGauges_4, show μ.1 19 2 = nI (ct s 0) from hg.2.1]
          exact if_pos (nI_le (by omega) (by omega))
        · rw [F_X4_dryGauges_9]
          exact be_ e0 (if_pos (nI_le (by omega) (by omega)))
      | succ d ih =>
        intro m m' i v hi hm hm'
        obtain ⟨m, rfl⟩ : ∃ z, m = z + 1 := ⟨m - 1, by omega⟩
        obtain ⟨m', rfl⟩ : ∃ z, m' = z + 1 := ⟨m' - 1, by omega⟩
        obtain ⟨r, r1, r2⟩ := ih m m' (i + 1) (if s (14 + i) ≤ s (394 + 5 * i + 2) then v else v ||| (1 : Int32) <<< (nI i &&& 31)) (by omega) (by omega) (by omega)
        refine ⟨r, ?_, ?_⟩
        · rw [F_X3_dryGauges_4, show μ.1 19 2 = nI (ct s 0) from hg.2.1]
          refine (if_neg (nI_ge (by omega) (by omega))).trans (be_ (x2_get (t := 19) (k := 2) hg (by omega) (by decide)) (be_ (x2_get (t := 2) (k := 1) h.1.rch (by omega) (by decide)) ?_))
          refine be_ (a := if s (14 + i) ≤ s (394 + 5 * i + 2) then v else v ||| (1 : Int32) <<< (nI i &&& 31)) ?_ ?_
          · split <;> rfl
          · rw [nI_1]
            exact r1
        · rw [F_X4_dryGauges_9]
          refine be_ e0 ((if_neg (nI_ge (by omega) (by omega))).trans (be_ e57 ?_))
          rw [if_pos (hd57.resolve_left e)]
          refine be_ (a := if s (14 + i) ≤ s (394 + 5 * i + 2) then 0 else (1 : Int32) <<< (nI i &&& 31)) ?_ ?_
          · refine be_ (g_at (k := 2) h h6 (by omega) (by decide)) (be_ (mg (k := 14 + i) (nI_add 14 i) (by omega)) ?_)
            rw [th296, h.2.1]
            split <;> rfl
          · rw [nI_1]
            have : (v ||| if s (14 + i) ≤ s (394 + 5 * i + 2) then 0 else (1 : Int32) <<< (nI i &&& 31)) = if s (14 + i) ≤ s (394 + 5 * i + 2) then v else v ||| (1 : Int32) <<< (nI i &&& 31) := by
              by_cases e5 : s (14 + i) ≤ s (394 + 5 * i + 2)
              · rw [if_pos e5, if_pos e5, Int32.or_zero]
              · rw [if_neg e5, if_neg e5]
            rw [this]
            exact r2
    obtain ⟨r, r1, r2⟩ := hm (ct s 0) qFuel qFuel 0 0 (by omega) (by unfold qFuel; omega) (by unfold qFuel; omega)
    exact ⟨r, be_ r1 rfl, be_ r2 rfl⟩
theorem i32_bal (v a b c : Int32) : v + a - b + c = v + (a - b + c) := by
  rw [Int32.sub_eq_add_neg, Int32.sub_eq_add_neg, Int32.add_assoc, Int32.add_assoc, Int32.add_assoc]
theorem q_isBalanced (h : Bo T μ s g) : QP (F_X3_isBalanced μ) (F_X4_isBalanced μ) μ := by
  have h0 := h.2.2.2.1.1.1.1
  have h6 := h0.2
  have hz := h.2.2.2.1.2.1.2.2.2.2.2.2.2.1
  have hg := h.1.gau
  have e0 : aI (uI μ 295 0 0) 296 0 = some (nI (ct s 0)) := (mg (k := 0) rfl (by decide)).trans (congrArg some (by rw [th296, h.2.1]; exact h0.1))
  refine QPm ?_
  by_cases e : s 57 = 0
  · have hm : ∀ (d m i : Nat), i + d = ct s 0 → d < m → F_X4_isBalanced_9 (uI μ 295 0 0) m 0 (nI i) = some (1, uI μ 295 0 0) := by
      intro d
      induction d with
      | zero =>
        intro m i hi hm
        obtain ⟨m, rfl⟩ : ∃ z, m = z + 1 := ⟨m - 1, by omega⟩
        rw [F_X4_isBalanced_9]
        exact be_ e0 (if_pos (nI_le (by omega) (by omega)))
      | succ d ih =>
        intro m i hi hm
        obtain ⟨m, rfl⟩ : ∃ z, m = z + 1 := ⟨m - 1, by omega⟩
        rw [F_X4_isBalanced_9]
        refine be_ e0 ((if_neg (nI_ge (by omega) (by omega))).trans ?_)
        refine be_ (g_at (k := 0) h h6 (by omega) (by decide)) (be_ (g_at (k := 3) h h6 (by omega) (by decide)) (be_ (g_at (k := 4) h h6 (by omega) (by decide)) (be_ (g_at (k := 2) h h6 (by omega) (by decide)) ?_)))
        rw [hz e i 0 (by omega) (by decide), hz e i 3 (by omega) (by decide), hz e i 4 (by omega) (by decide), hz e i 2 (by omega) (by decide), nI_1]
        exact (if_pos (by decide)).trans (ih m (i + 1) (by omega) (by omega))
    rw [if_pos e] at hg
    refine ⟨1, ?_, hm (ct s 0) qFuel 0 (by omega) (by unfold qFuel; omega)⟩
    show F_X3_isBalanced_4 μ (9999 + 1) 0 0 = some 1
    rw [F_X3_isBalanced_4, show μ.1 19 2 = nI 0 from hg.2.1]
    exact if_pos (by decide)
  · rw [if_neg e] at hg
    have hm : ∀ (d m m' i : Nat) (v : Int32), i + d = ct s 0 → d < m → d < m' → ∃ r, F_X3_isBalanced_4 μ m v (nI i) = some r ∧ F_X4_isBalanced_9 (uI μ 295 0 0) m' v (nI i) = some (r, uI μ 295 0 0) := by
      intro d
      induction d with
      | zero =>
        intro m m' i v hi hm hm'
        obtain ⟨m, rfl⟩ : ∃ z, m = z + 1 := ⟨m - 1, by omega⟩
        obtain ⟨m', rfl⟩ : ∃ z, m' = z + 1 := ⟨m' - 1, by omega⟩
        refine ⟨1, ?_, ?_⟩
        · rw [F_X3_isBalanced_4, show μ.1 19 2 = nI (ct s 0) from hg.2.1]
          exact if_pos (nI_le (by omega) (by omega))
        · rw [F_X4_isBalanced_9]
          exact be_ e0 (if_pos (nI_le (by omega) (by omega)))
      | succ d ih =>
        intro m m' i v hi hm hm'
        obtain ⟨m, rfl⟩ : ∃ z, m = z + 1 := ⟨m - 1, by omega⟩
        obtain ⟨m', rfl⟩ : ∃ z, m' = z + 1 := ⟨m' - 1, by omega⟩
        obtain ⟨r, r1, r2⟩ := ih m m' (i + 1) (v + (s (394 + 5 * i + 0) - s (394 + 5 * i + 3) + s (394 + 5 * i + 4))) (by omega) (by omega) (by omega)
        have gt : ∀ k, k < 5 → F_X2_get 19 (nI i) (nI k) μ = some (s (394 + 5 * i + k)) := fun k hk => x2_get (t := 19) hg (by omega) hk
        have c1 : F_X3_isBalanced_4 μ (m + 1) v (nI i) = if v + (s (394 + 5 * i + 0) - s (394 + 5 * i + 3) + s (394 + 5 * i + 4)) = s (394 + 5 * i + 2) then F_X3_isBalanced_4 μ m (v + (s (394 + 5 * i + 0) - s (394 + 5 * i + 3) + s (394 + 5 * i + 4))) (nI (i + 1)) else some 0 := by
          rw [F_X3_isBalanced_4, show μ.1 19 2 = nI (ct s 0) from hg.2.1]
          refine (if_neg (nI_ge (by omega) (by omega))).trans (be_ (gt 0 (by decide)) (be_ (gt 3 (by decide)) (be_ (gt 4 (by decide)) (be_ (gt 2 (by decide)) ?_))))
          rw [i32_bal, nI_1]
        have c2 : F_X4_isBalanced_9 (uI μ 295 0 0) (m' + 1) v (nI i) = if v + (s (394 + 5 * i + 0) - s (394 + 5 * i + 3) + s (394 + 5 * i + 4)) = s (394 + 5 * i + 2) then F_X4_isBalanced_9 (uI μ 295 0 0) m' (v + (s (394 + 5 * i + 0) - s (394 + 5 * i + 3) + s (394 + 5 * i + 4))) (nI (i + 1)) else some (0, uI μ 295 0 0) := by
          rw [F_X4_isBalanced_9]
          refine be_ e0 ((if_neg (nI_ge (by omega) (by omega))).trans (be_ (g_at (k := 0) h h6 (by omega) (by decide)) (be_ (g_at (k := 3) h h6 (by omega) (by decide)) (be_ (g_at (k := 4) h h6 (by omega) (by decide)) (be_ (g_at (k := 2) h h6 (by omega) (by decide)) ?_)))))
          rw [nI_1]
          by_cases e5 : s (394 + 5 * i + 2) = v + (s (394 + 5 * i + 0) - s (394 + 5 * i + 3) + s (394 + 5 * i + 4))
          · rw [if_pos e5, if_pos e5.symm]
          · rw [if_neg e5, if_neg (fun z => e5 z.symm)]
        rw [c1, c2]
        by_cases e5 : v + (s (394 + 5 * i + 0) - s (394 + 5 * i + 3) + s (394 + 5 * i + 4)) = s (394 + 5 * i + 2)
        · rw [if_pos e5, if_pos e5]
          exact ⟨r, r1, r2⟩
        · rw [if_neg e5, if_neg e5]
          exact ⟨0, rfl, rfl⟩
    obtain ⟨r, r1, r2⟩ := hm (ct s 0) qFuel qFuel 0 0 (by omega) (by unfold qFuel; omega) (by unfold qFuel; omega)
    exact ⟨r, r1, r2⟩
theorem q_areAccountsRight (h : Bo T μ s g) : QP (F_X3_areAccountsRight μ) (F_X4_areAccountsRight μ) μ := by
  have h1b := h.2.2.2.1.1.1.2.1
  have h15 := h1b.2
  have e1 : aI (uI μ 295 0 0) 296 1 = some (nI (ct s 1)) := (mg (k := 1) rfl (by decide)).trans (congrArg some (by rw [th296, h.2.1]; exact h1b.1))
  have hm : ∀ (d m m' i : Nat) (v : Int64), i + d = ct s 1 → d < m → d < m' → ∃ r, F_X3_areAccountsRight_4 μ m v (nI i) = some r ∧ F_X4_areAccountsRight_12 (uI μ 295 0 0) m' (sumF (fun a => s (26 + a)) i) v (nI i) = some (sumF (fun a => s (26 + a)) (ct s 1), r) := by
    intro d
    induction d with
    | zero =>
      intro m m' i v hi hm hm'
      obtain ⟨m, rfl⟩ : ∃ z, m = z + 1 := ⟨m - 1, by omega⟩
      obtain ⟨m', rfl⟩ : ∃ z, m' = z + 1 := ⟨m' - 1, by omega⟩
      refine ⟨v, ?_, ?_⟩
      · rw [F_X3_areAccountsRight_4, show μ.1 6 2 = nI (ct s 1) from h.1.acc.2.1]
        exact if_pos (nI_le (by omega) (by omega))
      · rw [F_X4_areAccountsRight_12]
        refine be_ e1 ((if_pos (nI_le (by omega) (by omega))).trans ?_)
        rw [show i = ct s 1 by omega]
    | succ d ih =>
      intro m m' i v hi hm hm'
      obtain ⟨m, rfl⟩ : ∃ z, m = z + 1 := ⟨m - 1, by omega⟩
      obtain ⟨m', rfl⟩ : ∃ z, m' = z + 1 := ⟨m' - 1, by omega⟩
      obtain ⟨r, r1, r2⟩ := ih m m' (i + 1) (v + g i) (by omega) (by omega) (by omega)
      refine ⟨r, ?_, ?_⟩
      · rw [F_X3_areAccountsRight_4, show μ.1 6 2 = nI (ct s 1) from h.1.acc.2.1]
        refine (if_neg (nI_ge (by omega) (by omega))).trans (be_ (x1_bal h.1 kd1 (by omega)) ?_)
        rw [nI_1]
        exact r1
      · rw [F_X4_areAccountsRight_12]
        refine be_ e1 ((if_neg (nI_ge (by omega) (by omega))).trans (be_ (mg (k := 26 + i) (nI_add 26 i) (by omega)) (be_ (aL_ok (k := i) rfl (by rw [ln300]; omega)) ?_)))
        rw [th296, h.2.1, th300, h.2.2.1, nI_1]
        exact r2
  obtain ⟨r, r1, r2⟩ := hm (ct s 1) qFuel qFuel 0 0 (by omega) (by unfold qFuel; omega) (by unfold qFuel; omega)
  have hs := h.1.sca
  refine QPm ⟨if sumF (fun a => s (26 + a)) (ct s 1) = s 53 - s 54 - s 55 then (if lg_cmp r 0 = 0 then 1 else 0) else 0, ?_, ?_⟩
  · unfold F_X3_areAccountsRight
    refine be_ r1 (be_ (x2_sum (t := 6) (k := 0) h.1.acc (by decide)) ?_)
    rw [show μ.1 1 16 = s 53 from hs.2.2.2.1, show μ.1 1 17 = s 54 from hs.2.2.2.2.1, show μ.1 1 18 = s 55 from hs.2.2.2.2.2]
    show (if s 53 - s 54 - s 55 = sumF (fun a => s (26 + a)) (ct s 1) then _ else _) = _
    by_cases e : sumF (fun a => s (26 + a)) (ct s 1) = s 53 - s 54 - s 55
    · rw [if_pos e.symm, if_pos e]
      split <;> rfl
    · rw [if_neg (fun z => e z.symm), if_neg e]
  · refine be_ r2 (be_ (mg (k := 53) rfl (by decide)) (be_ (mg (k := 54) rfl (by decide)) (be_ (mg (k := 55) rfl (by decide)) ?_)))
    rw [th296, h.2.1]
    by_cases e : sumF (fun a => s (26 + a)) (ct s 1) = s 53 - s 54 - s 55
    · rw [if_pos e, if_pos e]
      split <;> rfl
    · rw [if_neg e, if_neg e]
theorem q_richest (h : Bo T μ s g) : QP (F_X3_richest μ) (F_X4_richest μ) μ := by
  have h1b := h.2.2.2.1.1.1.2.1
  have h15 := h1b.2
  have e1 : aI (uI μ 295 0 0) 296 1 = some (nI (ct s 1)) := (mg (k := 1) rfl (by decide)).trans (congrArg some (by rw [th296, h.2.1]; exact h1b.1))
  have hm : ∀ (d m m' i b : Nat), ct s 1 ≤ i + d → d < m → d < m' → b < 5 → i ≤ 5 → ∃ r, F_X3_richest_4 μ m (nI b) (nI i) = some r ∧ F_X4_richest_9 (uI μ 295 0 0) m' (nI b) (nI i) = some r := by
    intro d
    induction d with
    | zero =>
      intro m m' i b hi hm hm' hb hi5
      obtain ⟨m, rfl⟩ : ∃ z, m = z + 1 := ⟨m - 1, by omega⟩
      obtain ⟨m', rfl⟩ : ∃ z, m' = z + 1 := ⟨m' - 1, by omega⟩
      refine ⟨nI b, ?_, ?_⟩
      · rw [F_X3_richest_4, show μ.1 6 2 = nI (ct s 1) from h.1.acc.2.1]
        exact if_pos (nI_le (by omega) (by omega))
      · rw [F_X4_richest_9]
        exact be_ e1 (if_pos (nI_le (by omega) (by omega)))
    | succ d ih =>
      intro m m' i b hi hm hm' hb hi5
      obtain ⟨m, rfl⟩ : ∃ z, m = z + 1 := ⟨m - 1, by omega⟩
      obtain ⟨m', rfl⟩ : ∃ z, m' = z + 1 := ⟨m' - 1, by omega⟩
      by_cases e : ct s 1 ≤ i
      · refine ⟨nI b, ?_, ?_⟩
        · rw [F_X3_richest_4, show μ.1 6 2 = nI (ct s 1) from h.1.acc.2.1]
          exact if_pos (nI_le e (by omega))
        · rw [F_X4_richest_9]
          exact be_ e1 (if_pos (nI_le e (by omega)))
      · obtain ⟨r, r1, r2⟩ := ih m m' (i + 1) (if lg_cmp (g i) (g b) ≤ 0 then b else i) (by omega) (by omega) (by omega) (by split <;> omega) (by omega)
        have ei : (if lg_cmp (g i) (g b) ≤ 0 then some (nI b) else some (nI i)) = some (nI (if lg_cmp (g i) (g b) ≤ 0 then b else i)) := by split <;> rfl
        refine ⟨r, ?_, ?_⟩
        · rw [F_X3_richest_4, show μ.1 6 2 = nI (ct s 1) from h.1.acc.2.1]
          refine (if_neg (nI_ge (by omega) (by omega))).trans (be_ (x1_bal h.1 kd1 (by omega)) (be_ (x1_bal h.1 kd1 hb) (be_ ei ?_)))
          rw [nI_1]
          exact r1
        · rw [F_X4_richest_9]
          refine be_ e1 ((if_neg (nI_ge (by omega) (by omega))).trans (be_ (aL_ok (k := i) rfl (by rw [ln300]; omega)) (be_ (aL_ok (k := b) rfl (by rw [ln300]; omega)) ?_)))
          rw [th300, h.2.2.1]
          refine be_ ei ?_
          rw [nI_1]
          exact r2
  obtain ⟨r, r1, r2⟩ := hm (ct s 1) qFuel qFuel 1 0 (by omega) (by unfold qFuel; omega) (by unfold qFuel; omega) (by decide) (by decide)
  exact QPm ⟨r, be_ r1 rfl, be_ r2 rfl⟩
end QUERY3
