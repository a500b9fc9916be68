/-! ===== the reference: leases and options as rows ===== -/
def rwR (s : Nat → Int32) (base i : Nat) : Nat → Int32 := fun k => if k < 6 then s (base + 6 * i + k) else 0
def rwT (s : Nat → Int32) (base : Nat) : Nat → Nat → List (Nat → Int32)
  | _, 0 => []
  | i, d + 1 => rwR s base i :: rwT s base (i + 1) d
def LSo (s : Nat → Int32) : List (Nat → Int32) := rwT s 158 0 (ct s 3)
def OSo (s : Nat → Int32) : List (Nat → Int32) := rwT s 206 0 (ct s 4)
theorem rwR_k {s : Nat → Int32} {base i k : Nat} (hk : k < 6) : rwR s base i k = s (base + 6 * i + k) := if_pos hk
theorem rwT_len {s : Nat → Int32} {base : Nat} : ∀ d i, (rwT s base i d).length = d := by
  intro d
  induction d with
  | zero => intro i; rfl
  | succ d ih => intro i; rw [rwT, List.length_cons, ih]
theorem rwT_at {s : Nat → Int32} {base : Nat} : ∀ d i r, r < d → rowAt (rwT s base i d) r = rwR s base (i + r) := by
  intro d
  induction d with
  | zero => intro i r h; omega
  | succ d ih =>
    intro i r h
    rw [rwT]
    cases r with
    | zero => rfl
    | succ r =>
      have := ih (i + 1) r (by omega)
      rw [show i + (r + 1) = i + 1 + r by omega, ← this]
      rfl
theorem rwT_lf {s : Nat → Int32} {base d i r k : Nat} (h : r < d) (hk : k < 6) : lf (rwT s base i d) r k = s (base + 6 * (i + r) + k) := by
  have e : lf (rwT s base i d) r = rowAt (rwT s base i d) r := rfl
  rw [e, rwT_at d i r h, rwR_k hk]
theorem rwR_eq {s s' : Nat → Int32} {base i : Nat} (h : ∀ k, k < 6 → s' (base + 6 * i + k) = s (base + 6 * i + k)) : rwR s' base i = rwR s base i := by
  funext k
  unfold rwR
  by_cases e : k < 6
  · rw [if_pos e, if_pos e, h k e]
  · rw [if_neg e, if_neg e]
theorem rwT_eq {s s' : Nat → Int32} {base : Nat} : ∀ d i, (∀ r k, i ≤ r → r < i + d → k < 6 → s' (base + 6 * r + k) = s (base + 6 * r + k)) → rwT s' base i d = rwT s base i d := by
  intro d
  induction d with
  | zero => intro i _; rfl
  | succ d ih =>
    intro i h
    rw [rwT, rwT, rwR_eq (fun k hk => h i k (Nat.le_refl i) (by omega) hk), ih (i + 1) (fun r k h1 h2 hk => h r k (by omega) (by omega) hk)]
theorem clL_app {r : Nat} (B : List (Nat → Int32)) : ∀ (A : List (Nat → Int32)) (p : Sg × Nat), clL r (A ++ B) p = clL r B (clL r A p) := by
  intro A
  induction A with
  | nil => intro p; rfl
  | cons a A ih => intro p; rw [List.cons_append, clL, clL, ih]
theorem cntR_app {r : Nat} (B : List (Nat → Int32)) : ∀ (A : List (Nat → Int32)), cntR r (A ++ B) = cntR r A + cntR r B := by
  intro A
  induction A with
  | nil => rw [List.nil_append, cntR, Nat.zero_add]
  | cons a A ih => rw [List.cons_append, cntR, cntR, ih, Nat.add_assoc]
theorem StaL {j : Nat} (h : 158 ≤ j ∧ j < 242) : Sta j := Or.inr (Or.inr (Or.inr (Or.inr (Or.inr (Or.inr (Or.inl h))))))
section MCL
variable {s : Nat → Int32} {r : Nat}
set_option maxHeartbeats 2000000 in
theorem m_cl57 (h3 : Bn s 3 8) : ∀ (d m i left c : Nat) (st : Sg) (μ : Mm), i + d = ct s 3 → d < m → MV μ st → Cst st (c + cntR r (rwT s 158 i d)) → (∀ j, Sta j → st.1 j = s j) → LRows s (rwT s 158 i d) → left ≤ 999 → r < ct s 2 →
    Op (F_X4_claimsOf_57 (nI r) m (nI left) (nI i) μ) (fun o => o.1 = nI (clL r (rwT s 158 i d) (st, left)).2 ∧ (MV o.2 (clL r (rwT s 158 i d) (st, left)).1 ∧ Fs Fm μ o.2)) := by
  have h38 := h3.2
  intro d
  induction d with
  | zero =>
    intro m i left c st μ hi hm h hc hs hL hl hr
    obtain ⟨m, rfl⟩ : ∃ z, m = z + 1 := ⟨m - 1, by omega⟩
    rw [F_X4_claimsOf_57]
    refine op_eb (mg (k := 3) rfl (by decide)) ?_
    rw [h.1, hs 3 (Or.inl (by decide)), h3.1, if_pos (nI_le (by omega) (by omega))]
    exact op_r ⟨rfl, h, Fs.rf⟩
  | succ d ih =>
    intro m i left c st μ hi hm h hc hs hL hl hr
    obtain ⟨m, rfl⟩ : ∃ z, m = z + 1 := ⟨m - 1, by omega⟩
    have hrow := hL _ List.mem_cons_self
    have hn2 := hc.1.2.2.1.2
    have e2 : ct st.1 2 = ct s 2 := ct_eq (hs 2 Sta2)
    have g : ∀ k, k < 6 → F_X4_leaseOf (nI i) (nI k) μ = some (rwR s 158 i k) := fun k hk => (m_lO (by omega) hk).trans (congrArg some (by rw [h.1, hs _ (StaL (by omega)), rwR_k hk]))
    rw [F_X4_claimsOf_57]
    refine op_eb (mg (k := 3) rfl (by decide)) ?_
    rw [h.1, hs 3 (Or.inl (by decide)), h3.1, if_neg (nI_ge (by omega) (by omega))]
    refine op_eb (g 0 (by decide)) ?_
    rw [hrow.1.1.1, rwT, clL]
    rw [rwT] at hc
    by_cases e : ct (rwR s 158 i) 0 = r
    · rw [if_pos e, e]
      refine op_b (op_t rfl ?_)
      have hb3 := hrow.2.1.2
      have hb4 := hrow.2.2.2
      refine op_eb ((g 3 (by decide)).trans (congrArg some hrow.2.1.1)) ?_
      refine op_eb (m_les (by omega) (by omega)) ?_
      refine op_eb ((g 1 (by decide)).trans (congrArg some hrow.1.2.1.1)) ?_
      refine op_eb ((g 2 (by decide)).trans (congrArg some hrow.1.2.2.1)) ?_
      have hv : (if left < ct (rwR s 158 i) 3 then left else ct (rwR s 158 i) 3) ≤ left := by split <;> omega
      generalize hvv : (if left < ct (rwR s 158 i) 3 then left else ct (rwR s 158 i) 3) = v at hv
      have hf := hc.1.2.2.2.2.2 r (by omega)
      refine op_eb ((m_wout (μ := μ) (r := r) (v := v) (by omega) (by omega) (by rw [h.1]; exact hf.2.2.2.2.1)).trans (congrArg some (show nI (wout (μ.1 296) r v) = nI (wout st.1 r v) by rw [h.1]))) ?_
      refine op_eb ((g 4 (by decide)).trans (congrArg some hrow.2.2.1)) ?_
      rw [cntR, if_pos e] at hc
      have hc' : Cst st ((c + cntR r (rwT s 158 (i + 1) d)) + 1) := hc.less (by omega)
      have hA : Ars st r (ct (rwR s 158 i) 1) (ct (rwR s 158 i) 2) (wout st.1 r v) := ⟨by omega, by rw [ct_eq (hs 1 Sta1)]; exact hrow.1.2.1.2, by rw [ct_eq (hs 0 Sta0)]; exact hrow.1.2.2.2, wout_le (by omega)⟩
      refine op_mb (m_serves h hc.1 hc.2.1 (its := 1) (by decide) hA hb4 hc'.b56) (fun μ2 w2 => op_r ?_)
      obtain ⟨k1, k2⟩ := hc'.srv (its := 1) (price := ct (rwR s 158 i) 4) hA
      rw [pk_sub hv, nI_1]
      exact op_m (ih m (i + 1) (left - v) c _ μ2 (by omega) (by omega) w2.1 k1 (fun j hj => (k2 j hj).trans (hs j hj)) (fun row hr' => hL row (List.mem_cons_of_mem _ hr')) (by omega) hr) (fun o q => ⟨q.1, q.2.1, w2.2.tr q.2.2⟩)
    · rw [if_neg e]
      refine op_b (op_f (fun z => e (nI_inj (by have := hrow.1.1.2; omega) (by omega) z)) (op_r ?_))
      rw [nI_1]
      rw [cntR, if_neg e, Nat.zero_add] at hc
      exact ih m (i + 1) left c st μ (by omega) (by omega) h hc hs (fun row hr' => hL row (List.mem_cons_of_mem _ hr')) hl hr
theorem m_obyL {μ : Mm} {st : Sg} (h : MV μ st) (h4 : Bn s 4 6) (hv : Vt st.1) (hs : ∀ j, Sta j → st.1 j = s j) (hr : r < 10) : ∀ (d m i : Nat), i + d = ct s 4 → d < m → (∀ row, row ∈ rwT s 206 i d → row 0 = nI (ct row 0) ∧ ct row 0 < 10) → Op (F_X4_optionBy_2 (nI r) μ m (nI i)) (fun z => (z = -1 ∧ oby st.1 r (rwT s 206 i d) = none) ∨ ∃ o, o < ct s 4 ∧ (z = nI o ∧ oby st.1 r (rwT s 206 i d) = some (rwR s 206 o))) := by
  have h46 := h4.2
  have ht := hv.2.1
  have hv' : Vt (μ.1 296) := by rw [h.1]; exact hv
  intro d
  induction d with
  | zero =>
    intro m i hi hm hO
    obtain ⟨m, rfl⟩ : ∃ z, m = z + 1 := ⟨m - 1, by omega⟩
    rw [F_X4_optionBy_2]
    refine op_eb (mg (k := 4) rfl (by decide)) ?_
    rw [h.1, hs 4 (Or.inl (by decide)), h4.1, if_pos (nI_le (by omega) (by omega))]
    exact op_r (Or.inl ⟨rfl, rfl⟩)
  | succ d ih =>
    intro m i hi hm hO
    obtain ⟨m, rfl⟩ : ∃ z, m = z + 1 := ⟨m - 1, by omega⟩
    have hrow := hO _ List.mem_cons_self
    have I := ih m (i + 1) (by omega) (by omega) (fun row hr' => hO row (List.mem_cons_of_mem _ hr'))
    have g : ∀ k, k < 6 → F_X4_optionOf (nI i) (nI k) μ = some (rwR s 206 i k) := fun k hk => (m_oO (by omega) hk).trans (congrArg some (by rw [h.1, hs _ (StaL (by omega)), rwR_k hk]))
    rw [F_X4_optionBy_2]
    refine op_eb (mg (k := 4) rfl (by decide)) ?_
    rw [h.1, hs 4 (Or.inl (by decide)), h4.1, if_neg (nI_ge (by omega) (by omega))]
    refine op_eb ((g 0 (by decide)).trans (congrArg some hrow.1)) ?_
    rw [rwT, oby, nI_1]
    by_cases e : ct (rwR s 206 i) 0 = r
    · refine op_t (congrArg nI e) ?_
      refine op_eb (m_exe (k := 0) hv' (by omega) (by decide)) ?_
      rw [h.1, Nat.add_zero, hs _ (StaL (j := 206 + 6 * i + 3) (by omega)), ← rwR_k (s := s) (base := 206) (i := i) (k := 3) (by decide)]
      by_cases e2 : yrP st.1 (ct st.1 5 / 12) < rwR s 206 i 3
      · rw [if_pos e2]
        refine op_f (by decide) (op_r (Or.inr ⟨i, by omega, rfl, if_pos ⟨e, e2⟩⟩))
      · rw [if_neg e2]
        refine op_t rfl ?_
        rw [if_neg (fun z => e2 z.2)]
        exact I
    · refine op_f (fun z => e (nI_inj (by omega) (by omega) z)) ?_
      rw [if_neg (fun z => e z.1)]
      exact I
end MCL
