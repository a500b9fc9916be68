/-! ===== the reference: the loops of a month's end ===== -/
def cutS (s cut : Nat → Int32) (n : Nat) : Nat → Int32 := fun j => if 58 ≤ j ∧ j < 58 + 10 * n ∧ (j - 58) % 10 = 9 then s j + (if cut ((j - 58) / 10) = 0 then 0 else 1) else s j
def lcS (s : Nat → Int32) (A : List (Nat → Int32)) : Nat → Int32 := fun j => if 158 ≤ j ∧ j < 158 + 6 * A.length then lf A ((j - 158) / 6) ((j - 158) % 6) else s j
def roS (s : Nat → Int32) (w : Nat) (row : Nat → Int32) (n : Nat) : Nat → Int32 := fun j => if 158 + 6 * w ≤ j ∧ j < 158 + 6 * w + n then row (j - (158 + 6 * w)) else s j
def flS (s fl : Nat → Int32) (n : Nat) : Nat → Int32 := fun j => if 20 ≤ j ∧ j < 20 + n then 0 else if 394 ≤ j ∧ j < 394 + 5 * n ∧ (j - 394) % 5 = 2 then fl ((j - 394) / 5) else s j
def shS (s : Nat → Int32) (v : Nat) : Nat → Int32 := fun j => if v < j ∧ j ≤ 520 then s (j - 4) else s j
abbrev F296 : Nat → Prop := fun a => a = 296
theorem m_99 {s cut : Nat → Int32} (h2 : Bn s 2 10) : ∀ (d m v : Nat) (μ : Mm), v + d = ct s 2 → d < m → μ.1 296 = cutS s cut v → μ.1 308 = cut → Op (F_X4_month_99 m (nI v) μ) (fun μ' => μ'.1 296 = cutS s cut (ct s 2) ∧ Fs F296 μ μ') := by
  have h10 := h2.2
  have lo : ∀ v j, j < 58 → cutS s cut v j = s j := fun v j hj => by unfold cutS; rw [if_neg (by omega)]
  intro d
  induction d with
  | zero =>
    intro m v μ hv hm e1 e2
    obtain ⟨m, rfl⟩ : ∃ z, m = z + 1 := ⟨m - 1, by omega⟩
    rw [F_X4_month_99]
    refine op_eb (mg (k := 2) rfl (by decide)) ?_
    rw [e1, lo v 2 (by decide), h2.1, if_pos (nI_le (by omega) (by omega))]
    obtain rfl : v = ct s 2 := by omega
    exact op_r ⟨e1, Fs.rf⟩
  | succ d ih =>
    intro m v μ hv hm e1 e2
    obtain ⟨m, rfl⟩ : ∃ z, m = z + 1 := ⟨m - 1, by omega⟩
    rw [F_X4_month_99]
    refine op_eb (mg (k := 2) rfl (by decide)) ?_
    rw [e1, lo v 2 (by decide), h2.1, if_neg (nI_ge (by omega) (by omega))]
    refine op_eb (show F_X4_rightAt (nI v) 9 μ = some (nI (58 + 10 * v + 9)) from m_rt) ?_
    refine op_eb (mg (k := 58 + 10 * v + 9) rfl (by omega)) ?_
    refine op_eb (aI_ok (k := v) rfl (by rw [ln308]; omega)) ?_
    rw [e1, e2]
    refine op_eb (a := if cut v = 0 then 0 else 1) (by split <;> rfl) ?_
    refine op_mb (ms (k := 58 + 10 * v + 9) rfl (by omega)) (fun μ2 w => ?_)
    rw [nI_1]
    refine op_m (ih m (v + 1) μ2 (by omega) (by omega) ?_ ((w.2.1 308 (by decide)).1.trans e2)) (fun μ' z => ⟨z.1, w.2.tr z.2⟩)
    rw [w.1, e1]
    funext j
    unfold upd cutS
    by_cases e : j = 58 + 10 * v + 9
    · rw [if_pos e, if_neg (by omega), e, if_pos (show 58 ≤ 58 + 10 * v + 9 ∧ 58 + 10 * v + 9 < 58 + 10 * (v + 1) ∧ (58 + 10 * v + 9 - 58) % 10 = 9 by omega), show (58 + 10 * v + 9 - 58) / 10 = v by omega]
    · rw [if_neg e]
      by_cases e3 : 58 ≤ j ∧ j < 58 + 10 * v ∧ (j - 58) % 10 = 9
      · rw [if_pos e3]
        exact (if_pos (show 58 ≤ j ∧ j < 58 + 10 * (v + 1) ∧ (j - 58) % 10 = 9 by omega)).symm
      · rw [if_neg e3]
        exact (if_neg (show ¬ (58 ≤ j ∧ j < 58 + 10 * (v + 1) ∧ (j - 58) % 10 = 9) by omega)).symm
/-! leases -/
theorem m_26 {s row : Nat → Int32} {w v : Nat} {u : Int32} (hw : w ≤ v) (hv : v < 8) (hu : 0 < u) (hrow : ∀ k, k < 6 → row k = if k = 5 then u else s (158 + 6 * v + k)) : ∀ (d m k : Nat) (μ : Mm), k + d = 6 → d < m → μ.1 296 = roS s w row k → Op (F_X4_endsMonth_26 (nI w) (nI v) u m (nI k) μ) (fun μ' => μ'.1 296 = roS s w row 6 ∧ Fs F296 μ μ') := by
  intro d
  induction d with
  | zero =>
    intro m k μ hk hm e1
    obtain ⟨m, rfl⟩ : ∃ z, m = z + 1 := ⟨m - 1, by omega⟩
    obtain rfl : k = 6 := by omega
    rw [F_X4_endsMonth_26]
    exact op_t (show (6 : Int32) ≤ nI 6 by decide) (op_r ⟨e1, Fs.rf⟩)
  | succ d ih =>
    intro m k μ hk hm e1
    obtain ⟨m, rfl⟩ : ∃ z, m = z + 1 := ⟨m - 1, by omega⟩
    rw [F_X4_endsMonth_26]
    refine op_f (show ¬ (6 : Int32) ≤ nI k from nI_ge (b := 6) (by omega) (by decide)) (op_f (Int32.not_le.mpr hu) ?_)
    refine op_eb (a := row k) ?_ ?_
    · rw [hrow k (by omega)]
      by_cases e : k = 5
      · rw [if_pos e, if_pos (by rw [e]; rfl)]
      · rw [if_neg e, if_neg (show ¬ nI k = (5 : Int32) from fun z => e (nI_inj (b := 5) (by omega) (by decide) z))]
        refine be_ (m_lO (by omega) (by omega)) ?_
        rw [e1]
        unfold roS
        rw [if_neg (by omega)]
    refine op_mb (ms (k := 158 + 6 * w + k) (ix3 158 6 w k) (by omega)) (fun μ2 w2 => ?_)
    rw [nI_1]
    refine op_m (ih m (k + 1) μ2 (by omega) (by omega) ?_) (fun μ' z => ⟨z.1, w2.2.tr z.2⟩)
    rw [w2.1, e1]
    funext j
    unfold upd roS
    by_cases e : j = 158 + 6 * w + k
    · rw [if_pos e, e, if_pos (show 158 + 6 * w ≤ 158 + 6 * w + k ∧ 158 + 6 * w + k < 158 + 6 * w + (k + 1) by omega), show 158 + 6 * w + k - (158 + 6 * w) = k by omega]
    · rw [if_neg e]
      by_cases e3 : 158 + 6 * w ≤ j ∧ j < 158 + 6 * w + k
      · rw [if_pos e3, if_pos (by omega)]
      · rw [if_neg e3, if_neg (by omega)]
theorem decL_len : ∀ L : List (Nat → Int32), (decL L).length ≤ L.length := by
  intro L
  induction L with
  | nil => exact Nat.le_refl 0
  | cons a L ih =>
    rw [decL]
    split
    · rw [List.length_cons, List.length_cons]; omega
    · rw [List.length_cons]; omega
theorem lcS_row {s : Nat → Int32} {A : List (Nat → Int32)} {row : Nat → Int32} : roS (lcS s A) A.length row 6 = lcS s (A ++ [row]) := by
  funext j
  unfold roS lcS
  rw [List.length_append, List.length_singleton]
  by_cases e : 158 + 6 * A.length ≤ j ∧ j < 158 + 6 * A.length + 6
  · rw [if_pos e, if_pos (by omega), lf_app2, if_neg (by omega), show (j - 158) / 6 - A.length = 0 by omega, show j - (158 + 6 * A.length) = (j - 158) % 6 by omega]
    rfl
  · rw [if_neg e]
    by_cases e2 : 158 ≤ j ∧ j < 158 + 6 * A.length
    · rw [if_pos e2, if_pos (by omega), lf_app2, if_pos (by omega)]
    · rw [if_neg e2, if_neg (by omega)]
theorem m_4 {s : Nat → Int32} (h3 : Bn s 3 8) : ∀ (d m i : Nat) (A : List (Nat → Int32)) (μ : Mm), i + d = ct s 3 → d < m → A.length ≤ i → μ.1 296 = lcS s A → Op (F_X4_endsMonth_4 m (nI A.length) (nI i) μ) (fun o => o.1 = nI (A ++ decL (rwT s 158 i d)).length ∧ (o.2.1 296 = lcS s (A ++ decL (rwT s 158 i d)) ∧ Fs F296 μ o.2)) := by
  have h38 := h3.2
  intro d
  induction d with
  | zero =>
    intro m i A μ hi hm hA e1
    obtain ⟨m, rfl⟩ : ∃ z, m = z + 1 := ⟨m - 1, by omega⟩
    rw [F_X4_endsMonth_4]
    refine op_eb (mg (k := 3) rfl (by decide)) ?_
    have : lcS s A 3 = s 3 := by unfold lcS; rw [if_neg (by omega)]
    rw [e1, this, h3.1, if_pos (nI_le (by omega) (by omega)), rwT, decL, List.append_nil]
    exact op_r ⟨rfl, e1, Fs.rf⟩
  | succ d ih =>
    intro m i A μ hi hm hA e1
    obtain ⟨m, rfl⟩ : ∃ z, m = z + 1 := ⟨m - 1, by omega⟩
    rw [F_X4_endsMonth_4]
    refine op_eb (mg (k := 3) rfl (by decide)) ?_
    have : lcS s A 3 = s 3 := by unfold lcS; rw [if_neg (by omega)]
    rw [e1, this, h3.1, if_neg (nI_ge (by omega) (by omega))]
    have hL : ∀ k, k < 6 → lcS s A (158 + 6 * i + k) = s (158 + 6 * i + k) := fun k hk => by unfold lcS; rw [if_neg (by omega)]
    refine op_eb (a := s (158 + 6 * i + 5)) ((show F_X4_leaseOf (nI i) 5 μ = _ from m_lO (k := 5) (by omega) (by decide)).trans (congrArg some (by rw [e1]; exact hL 5 (by decide)))) ?_
    have e5 : s (158 + 6 * i + 5) - 1 = rwR s 158 i 5 + (-1) := by rw [rwR_k (by decide), Int32.sub_eq_add_neg]
    rw [e5, rwT, decL]
    by_cases e : 0 < rwR s 158 i 5 + (-1)
    · rw [if_pos e]
      refine op_mb (m_26 (s := lcS s A) (row := decR (rwR s 158 i)) (w := A.length) (v := i) hA (by omega) e (fun k hk => ?_) 6 qFuel 0 μ (by omega) (by unfold qFuel; omega) ?_) (fun μ2 w => ?_)
      · unfold decR
        by_cases e6 : k = 5
        · rw [if_pos e6, if_pos e6]
        · rw [if_neg e6, if_neg e6, rwR_k hk, hL k hk]
      · rw [e1]
        funext j
        unfold roS
        rw [if_neg (by omega)]
      · refine op_b (op_f (Int32.not_le.mpr e) (op_r ?_))
        rw [nI_1, nI_1, show A ++ decR (rwR s 158 i) :: decL (rwT s 158 (i + 1) d) = (A ++ [decR (rwR s 158 i)]) ++ decL (rwT s 158 (i + 1) d) by rw [List.append_assoc]; rfl, show A.length + 1 = (A ++ [decR (rwR s 158 i)]).length by rw [List.length_append, List.length_singleton]]
        exact op_m (ih m (i + 1) (A ++ [decR (rwR s 158 i)]) μ2 (by omega) (by omega) (by rw [List.length_append, List.length_singleton]; omega) (w.1.trans lcS_row)) (fun o z => ⟨z.1, z.2.1, w.2.tr z.2.2⟩)
    · rw [if_neg e]
      have e26 : F_X4_endsMonth_26 (nI A.length) (nI i) (rwR s 158 i 5 + -1) qFuel 0 μ = some μ := by
        show F_X4_endsMonth_26 (nI A.length) (nI i) (rwR s 158 i 5 + -1) (9999 + 1) 0 μ = some μ
        rw [F_X4_endsMonth_26, if_neg (by decide), if_pos (Int32.not_lt.mp e)]
      refine op_eb e26 (op_b (op_t (Int32.not_lt.mp e) (op_r ?_)))
      rw [nI_1, Int32.add_zero]
      exact ih m (i + 1) A μ (by omega) (by omega) (by omega) e1
def Can (row : Nat → Int32) : Prop := ∀ k, 6 ≤ k → row k = 0
theorem rwT_of {s : Nat → Int32} {base : Nat} {A : List (Nat → Int32)} (hA : ∀ row, row ∈ A → Can row) (h : ∀ r k, r < A.length → k < 6 → s (base + 6 * r + k) = lf A r k) : rwT s base 0 A.length = A := by
  refine List.ext_getElem (rwT_len _ _) (fun i h1 h2 => ?_)
  have e1 : (rwT s base 0 A.length)[i] = rowAt (rwT s base 0 A.length) i := by unfold rowAt; rw [List.getD_eq_getElem?_getD, List.getElem?_eq_getElem h1]; rfl
  have e2 : A[i] = rowAt A i := by unfold rowAt; rw [List.getD_eq_getElem?_getD, List.getElem?_eq_getElem h2]; rfl
  rw [e1, e2, rwT_at _ _ _ h2, Nat.zero_add]
  funext k
  by_cases hk : k < 6
  · rw [rwR_k hk]
    exact h i k h2 hk
  · unfold rwR
    rw [if_neg hk, hA _ (rowAt_mem h2) k (by omega)]
theorem rwT_can {s : Nat → Int32} {base : Nat} : ∀ d i row, row ∈ rwT s base i d → Can row := by
  intro d
  induction d with
  | zero => intro i row h; cases h
  | succ d ih =>
    intro i row h
    rw [rwT] at h
    rcases List.mem_cons.mp h with rfl | h
    · exact fun k hk => if_neg (by omega)
    · exact ih (i + 1) row h
theorem decL_can : ∀ L : List (Nat → Int32), (∀ row, row ∈ L → Can row) → ∀ row, row ∈ decL L → Can row := by
  intro L
  induction L with
  | nil => intro _ row h; cases h
  | cons a L ih =>
    intro h row hr
    rw [decL] at hr
    by_cases e : 0 < a 5 + (-1)
    · rw [if_pos e] at hr
      rcases List.mem_cons.mp hr with rfl | hr
      · intro k hk
        unfold decR
        rw [if_neg (by omega)]
        exact h a List.mem_cons_self k hk
      · exact ih (fun r q => h r (List.mem_cons_of_mem _ q)) row hr
    · rw [if_neg e] at hr
      exact ih (fun r q => h r (List.mem_cons_of_mem _ q)) row hr
