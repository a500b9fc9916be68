/-! ===== the questions ===== -/
def QI {α : Type} (M : List (Nat × Nat)) (a : Option (Nat × α)) (b : Option (α × Mm)) (μ : Mm) : Prop := ∃ e t v w, a = some (e, v) ∧ (b = some (w, uI μ 295 0 (nI t)) ∧ ((e, t) ∈ M ∧ (e = 0 → v = w)))
def QP {α : Type} (a : Option α) (b : Option (α × Mm)) (μ : Mm) : Prop := ∃ v, a = some v ∧ b = some (v, uI μ 295 0 0)
def M1 : List (Nat × Nat) := [(0, 0), (1, 1)]
def M12 : List (Nat × Nat) := [(0, 0), (1, 1), (2, 2)]
def M2 : List (Nat × Nat) := [(0, 0), (2, 1)]
theorem i32_in (p : Int32) {n : Nat} (hn : n < 2 ^ 31) : (∃ k, k < n ∧ p = nI k) ∨ (p < 0 ∨ nI n ≤ p) := by
  by_cases h0 : p < 0
  · exact Or.inr (Or.inl h0)
  · by_cases h1 : nI n ≤ p
    · exact Or.inr (Or.inr h1)
    · obtain ⟨j, h2, h3, -⟩ := pk_mu h0 h1 hn
      exact Or.inl ⟨j, h2, h3⟩
section CASES
variable {μ ν : Mm}
theorem inR_y {p a b : Int32} (h1 : ¬ p < a) (h2 : ¬ b < p) : F_X4_inRange p a b ν = some 1 := by
  unfold F_X4_inRange
  rw [if_neg h1, if_neg h2]
theorem inR_n {p a b : Int32} (h : p < a ∨ b < p) : F_X4_inRange p a b ν = some 0 := by
  unfold F_X4_inRange
  by_cases e : p < a
  · rw [if_pos e]
  · rw [if_neg e, if_pos (h.resolve_left e)]
theorem up_c (p : Int32) {n : Nat} (hn : n ≤ 5000) : (∃ k, k < n ∧ (p = nI k ∧ ((0 ≤ p ∧ p < nI n) ∧ F_X4_inRange p 0 (nI n - 1) ν = some 1))) ∨ ((¬ (0 ≤ p ∧ p < nI n) ∧ (p < 0 ∨ nI n ≤ p)) ∧ F_X4_inRange p 0 (nI n - 1) ν = some 0) := by
  rcases i32_in p (show n < 2 ^ 31 by omega) with ⟨k, hk, rfl⟩ | h
  · refine Or.inl ⟨k, hk, rfl, ⟨nI_pos' (by omega), nI_lt hk (by omega)⟩, inR_y (nI_pos (by omega)) ?_⟩
    rw [nI_sub1 (by omega)]
    exact nI_nlt (by omega) (by omega)
  · refine Or.inr ⟨⟨fun z => h.elim (fun y => absurd y (Int32.not_lt.mpr z.1)) (fun y => absurd z.2 (Int32.not_lt.mpr y)), h⟩, inR_n ?_⟩
    rcases h with h | h
    · exact Or.inl h
    · by_cases e : n = 0
      · by_cases e2 : p < 0
        · exact Or.inl e2
        · refine Or.inr ?_
          rw [e, show nI 0 - 1 = (-1 : Int32) by decide]
          exact Int32.lt_of_lt_of_le (by decide) (Int32.not_lt.mp e2)
      · refine Or.inr ?_
        rw [nI_sub1 (by omega)]
        exact Int32.lt_of_lt_of_le (nI_lt (a := n - 1) (b := n) (by omega) (by omega)) h
theorem row_c {t c n : Nat} {f : Nat → Nat → Int32} (h : Tb μ t c n f) (p : Int32) {x : Int32} (hx : x = nI n) : (∃ k, k < n ∧ (p = nI k ∧ (F_X3_needRow t p μ = some 0 ∧ F_X4_inRange p 0 (x - 1) ν = some 1))) ∨ (F_X3_needRow t p μ = some 1 ∧ F_X4_inRange p 0 (x - 1) ν = some 0) := by
  have hn := h.n_le
  rw [hx]
  rcases up_c (ν := ν) p hn with ⟨k, h1, h2, h3, h4⟩ | ⟨h3, h4⟩
  · refine Or.inl ⟨k, h1, h2, ?_, h4⟩
    unfold F_X3_needRow
    refine be_ ((x2_has h p).trans (congrArg some (if_pos h3))) ?_
    rw [if_neg (by decide)]
  · refine Or.inr ⟨?_, h4⟩
    unfold F_X3_needRow
    refine be_ ((x2_has h p).trans (congrArg some (if_neg h3.1))) ?_
    rw [if_pos rfl]
theorem what_c (p : Int32) {n : Nat} (hn : n ≤ 5000) : (∃ k, k < n ∧ (p = nI k ∧ (F_X3_needWhat p (nI n) μ = some 0 ∧ F_X4_inRange p 0 (nI n - 1) ν = some 1))) ∨ (F_X3_needWhat p (nI n) μ = some 2 ∧ F_X4_inRange p 0 (nI n - 1) ν = some 0) := by
  rcases up_c (ν := ν) p hn with ⟨k, h1, h2, h3, h4⟩ | ⟨h3, h4⟩
  · refine Or.inl ⟨k, h1, h2, ?_, h4⟩
    unfold F_X3_needWhat
    rw [if_neg (Int32.not_lt.mpr h3.1), if_pos h3.2]
  · refine Or.inr ⟨?_, h4⟩
    unfold F_X3_needWhat
    by_cases e : p < 0
    · rw [if_pos e]
    · rw [if_neg e, if_neg (fun z => h3.1 ⟨Int32.not_lt.mp e, z⟩)]
theorem range_c (p : Int32) {lo hi : Nat} (hlo : lo ≤ hi) (hh : hi < 2 ^ 31 - 1) : (∃ k, lo ≤ k ∧ (k ≤ hi ∧ (p = nI k ∧ (F_X3_needRange p (nI lo) (nI hi) μ = some 0 ∧ F_X4_inRange p (nI lo) (nI hi) ν = some 1)))) ∨ (F_X3_needRange p (nI lo) (nI hi) μ = some 3 ∧ F_X4_inRange p (nI lo) (nI hi) ν = some 0) := by
  by_cases e1 : p < nI lo
  · refine Or.inr ⟨?_, inR_n (Or.inl e1)⟩
    unfold F_X3_needRange
    rw [if_pos e1]
  · by_cases e2 : nI hi < p
    · refine Or.inr ⟨?_, inR_n (Or.inr e2)⟩
      unfold F_X3_needRange
      rw [if_neg e1, if_neg (Int32.not_le.mpr e2)]
    · rcases i32_in p (show hi + 1 < 2 ^ 31 by omega) with ⟨k, hk, rfl⟩ | h
      · refine Or.inl ⟨k, ?_, by omega, rfl, ?_, inR_y e1 e2⟩
        · by_cases e : lo ≤ k
          · exact e
          · exact absurd (nI_lt (a := k) (b := lo) (by omega) (by omega)) e1
        · unfold F_X3_needRange
          rw [if_neg e1, if_pos (Int32.not_lt.mp e2)]
      · exfalso
        rcases h with h | h
        · exact e1 (Int32.lt_of_lt_of_le h (nI_pos' (by omega)))
        · exact e2 (Int32.lt_of_lt_of_le (nI_lt (a := hi) (b := hi + 1) (by omega) (by omega)) h)
theorem m_tail {α : Type} {o : Option Int32} {t : Nat} {f : Mm → Option (α × Mm)} {z : α} (e : o = some (nI t)) (ht : t < 2 ^ 31) : (o.bind fun o9 => (some (uI μ 295 0 o9)).bind fun m => if (m.1 295 0) ≤ 0 then f m else some (z, m)) = if t = 0 then f (uI μ 295 0 0) else some (z, uI μ 295 0 (nI t)) := by
  rw [e]
  show (if (uI μ 295 0 (nI t)).1 295 0 ≤ 0 then f (uI μ 295 0 (nI t)) else some (z, uI μ 295 0 (nI t))) = _
  have h : (uI μ 295 0 (nI t)).1 295 0 = nI t := by rw [uI_eq]; exact if_pos rfl
  rw [h]
  by_cases e0 : t = 0
  · rw [if_pos e0, e0, if_pos (by decide)]
    rfl
  · rw [if_neg e0, if_neg (nI_nle (by omega) ht)]
theorem zb_1 : zb 1 = some 1 := rfl
theorem zb_0 : zb 0 = some 0 := rfl
theorem th296 {x : Int32} : (uI μ 295 0 x).1 296 = μ.1 296 := uI_ne (by decide)
theorem th300 {x : Int32} : (uI μ 295 0 x).2.1 300 = μ.2.1 300 := rfl
end CASES
section QUERY
variable {μ : Mm} {s : Nat → Int32} {g : Nat → Int64} {T : Nat}
/-- the class at a state, the reference at the same -/
def Bo (T : Nat) (μ : Mm) (s : Nat → Int32) (g : Nat → Int64) : Prop := NV μ 1 s g ∧ (μ.1 296 = s ∧ (μ.2.1 300 = g ∧ (Ok T s ∧ T ≤ 20000)))
theorem kd1 : kd 1 = 1 := by decide +kernel
theorem isR_c (h : Bo T μ s g) (p : Int32) : (∃ k, k < ct s 0 ∧ (p = nI k ∧ (F_X3_needRow 2 p μ = some 0 ∧ F_X4_isReach p μ = some 1))) ∨ (F_X3_needRow 2 p μ = some 1 ∧ F_X4_isReach p μ = some 0) := by
  have e : μ.1 296 0 = nI (ct s 0) := by rw [h.2.1]; exact h.2.2.2.1.1.1.1.1
  rcases row_c (ν := μ) h.1.rch p e with ⟨k, h1, h2, h3, h4⟩ | ⟨h3, h4⟩
  · exact Or.inl ⟨k, h1, h2, h3, be_ (mg (k := 0) rfl (by decide)) (be_ h4 (be_ zb_1 rfl))⟩
  · exact Or.inr ⟨h3, be_ (mg (k := 0) rfl (by decide)) (be_ h4 (be_ zb_0 rfl))⟩
theorem isA_c (h : Bo T μ s g) (p : Int32) : (∃ k, k < ct s 1 ∧ (p = nI k ∧ (F_X3_needRow 6 p μ = some 0 ∧ F_X4_isAccount p μ = some 1))) ∨ (F_X3_needRow 6 p μ = some 1 ∧ F_X4_isAccount p μ = some 0) := by
  have e : μ.1 296 1 = nI (ct s 1) := by rw [h.2.1]; exact h.2.2.2.1.1.1.2.1.1
  rcases row_c (ν := μ) h.1.acc p e with ⟨k, h1, h2, h3, h4⟩ | ⟨h3, h4⟩
  · exact Or.inl ⟨k, h1, h2, h3, be_ (mg (k := 1) rfl (by decide)) (be_ h4 (be_ zb_1 rfl))⟩
  · exact Or.inr ⟨h3, be_ (mg (k := 1) rfl (by decide)) (be_ h4 (be_ zb_0 rfl))⟩
theorem isI_c (h : Bo T μ s g) (p : Int32) : (∃ k, k < ct s 2 ∧ (p = nI k ∧ (F_X3_needRow 9 p μ = some 0 ∧ F_X4_isRight p μ = some 1))) ∨ (F_X3_needRow 9 p μ = some 1 ∧ F_X4_isRight p μ = some 0) := by
  have e : μ.1 296 2 = nI (ct s 2) := by rw [h.2.1]; exact h.2.2.2.1.1.1.2.2.1.1
  rcases row_c (ν := μ) h.1.rgt p e with ⟨k, h1, h2, h3, h4⟩ | ⟨h3, h4⟩
  · exact Or.inl ⟨k, h1, h2, h3, be_ (mg (k := 2) rfl (by decide)) (be_ h4 (be_ zb_1 rfl))⟩
  · exact Or.inr ⟨h3, be_ (mg (k := 2) rfl (by decide)) (be_ h4 (be_ zb_0 rfl))⟩
theorem isL_c (h : Bo T μ s g) (p : Int32) : (∃ k, k < ct s 3 ∧ (p = nI k ∧ (F_X3_needRow 13 p μ = some 0 ∧ F_X4_isLease p μ = some 1))) ∨ (F_X3_needRow 13 p μ = some 1 ∧ F_X4_isLease p μ = some 0) := by
  have e : μ.1 296 3 = nI (LSo s).length := by rw [h.2.1, show (LSo s).length = ct s 3 from rwT_len _ _]; exact h.2.2.2.1.1.2.2.2.2.1.1
  rcases row_c (ν := μ) h.1.lea p e with ⟨k, h1, h2, h3, h4⟩ | ⟨h3, h4⟩
  · rw [show (LSo s).length = ct s 3 from rwT_len _ _] at h1
    exact Or.inl ⟨k, h1, h2, h3, be_ (mg (k := 3) rfl (by decide)) (be_ h4 (be_ zb_1 rfl))⟩
  · exact Or.inr ⟨h3, be_ (mg (k := 3) rfl (by decide)) (be_ h4 (be_ zb_0 rfl))⟩
theorem Q2 {α : Type} {r1 w : Option Nat} {i1 i2 : Option Int32} {X : Option (Nat × α)} {F : Mm → Option (α × Mm)} {z z1 z2 : α}
    (h : (r1 = some 0 ∧ (i1 = some 1 ∧ ((w = some 0 ∧ (i2 = some 1 ∧ ∃ v, X = some (0, v) ∧ F (uI μ 295 0 0) = some (v, uI μ 295 0 0))) ∨ (w = some 2 ∧ i2 = some 0)))) ∨ (r1 = some 1 ∧ i1 = some 0)) :
    QI M12 (r1.bind fun o2 => if o2 = 0 then (w.bind fun o7 => if o7 = 0 then X else some (o7, z1)) else some (o2, z2)) (i1.bind fun o2 => (if o2 = 0 then some (1 : Int32) else (i2.bind fun o10 => if o10 = 0 then some (2 : Int32) else some (0 : Int32))).bind fun o14 => (some (uI μ 295 0 o14)).bind fun m => if (m.1 295 0) ≤ 0 then F m else some (z, m)) μ := by
  rcases h with ⟨rfl, rfl, ⟨rfl, rfl, v, e1, e2⟩ | ⟨rfl, rfl⟩⟩ | ⟨rfl, rfl⟩
  · exact ⟨0, 0, v, v, e1, (m_tail (o := some 0) (t := 0) (z := z) rfl (by decide)).trans e2, by decide, fun _ => rfl⟩
  · exact ⟨2, 2, z1, z, rfl, (m_tail (f := F) (o := some 2) (t := 2) rfl (by decide)), by decide, fun e => absurd e (by decide)⟩
  · exact ⟨1, 1, z2, z, rfl, (m_tail (f := F) (o := some 1) (t := 1) rfl (by decide)), by decide, fun e => absurd e (by decide)⟩
theorem Q1 {α : Type} {c : Nat} {r1 : Option Nat} {i1 : Option Int32} {X : Option (Nat × α)} {F : Mm → Option (α × Mm)} {z z2 : α} (hc : c = 1 ∨ c = 2)
    (h : (r1 = some 0 ∧ (i1 = some 1 ∧ ∃ v, X = some (0, v) ∧ F (uI μ 295 0 0) = some (v, uI μ 295 0 0))) ∨ (r1 = some c ∧ i1 = some 0)) :
    QI [(0, 0), (c, 1)] (r1.bind fun o2 => if o2 = 0 then X else some (o2, z2)) (i1.bind fun o2 => (if o2 = 0 then some (1 : Int32) else some (0 : Int32)).bind fun o14 => (some (uI μ 295 0 o14)).bind fun m => if (m.1 295 0) ≤ 0 then F m else some (z, m)) μ := by
  rcases h with ⟨rfl, rfl, v, e1, e2⟩ | ⟨rfl, rfl⟩
  · exact ⟨0, 0, v, v, e1, (m_tail (o := some 0) (t := 0) (z := z) rfl (by decide)).trans e2, List.mem_cons_self, fun _ => rfl⟩
  · refine ⟨c, 1, z2, z, ?_, (m_tail (f := F) (o := some 1) (t := 1) rfl (by decide)), List.mem_cons_of_mem _ List.mem_cons_self, fun e => by omega⟩
    rcases hc with rfl | rfl <;> rfl
/-- a question with a row and a column -/
theorem q_reach (h : Bo T μ s g) (p1 p2 : Int32) : QI M12 (F_X3_reach p1 p2 μ) (F_X4_reach p1 p2 μ) μ := by
  have h6 := h.2.2.2.1.1.1.1.2
  refine Q2 ?_
  rcases isR_c h p1 with ⟨k, h1, rfl, h3, h4⟩ | ⟨h3, h4⟩
  · refine Or.inl ⟨h3, h4, ?_⟩
    rcases what_c (μ := μ) (ν := μ) p2 (n := 3) (by decide) with ⟨j, j1, rfl, j3, j4⟩ | ⟨j3, j4⟩
    · refine Or.inl ⟨j3, j4, s (8 + 6 * j + k), be_ (x2_get (t := 2) h.1.rch h1 j1) rfl, ?_⟩
      rcases (show j = 0 ∨ j = 1 ∨ j = 2 by omega) with rfl | rfl | rfl
      · refine (if_pos rfl).trans (be_ (mg (k := 8 + k) (nI_add 8 k) (by omega)) ?_)
        rw [th296, h.2.1]
      · refine (if_neg (by decide)).trans ((if_pos rfl).trans (be_ (mg (k := 14 + k) (nI_add 14 k) (by omega)) ?_))
        rw [th296, h.2.1]
      · refine (if_neg (by decide)).trans ((if_neg (by decide)).trans (be_ (mg (k := 20 + k) (nI_add 20 k) (by omega)) ?_))
        rw [th296, h.2.1]
    · exact Or.inr ⟨j3, j4⟩
  · exact Or.inr ⟨h3, h4⟩
theorem q_right (h : Bo T μ s g) (p1 p2 : Int32) : QI M12 (F_X3_right p1 p2 μ) (F_X4_right p1 p2 μ) μ := by
  have h10 := h.2.2.2.1.1.1.2.2.1.2
  refine Q2 ?_
  rcases isI_c h p1 with ⟨k, h1, rfl, h3, h4⟩ | ⟨h3, h4⟩
  · refine Or.inl ⟨h3, h4, ?_⟩
    rcases what_c (μ := μ) (ν := μ) p2 (n := 10) (by decide) with ⟨j, j1, rfl, j3, j4⟩ | ⟨j3, j4⟩
    · refine Or.inl ⟨j3, j4, s (58 + 10 * k + j), be_ ((x2_get (t := 9) h.1.rgt h1 j1).trans (congrArg some ?_)) rfl, ?_⟩
      · by_cases e : j = 9
        · rw [if_pos e, e]
        · rw [if_neg e]
      · refine be_ (m_rO (by omega) j1) ?_
        rw [th296, h.2.1]
    · exact Or.inr ⟨j3, j4⟩
  · exact Or.inr ⟨h3, h4⟩
theorem q_leaseField (h : Bo T μ s g) (p1 p2 : Int32) : QI M12 (F_X3_leaseField p1 p2 μ) (F_X4_leaseField p1 p2 μ) μ := by
  have h3' := h.2.2.2.1.1.2.2.2.2.1.2
  refine Q2 ?_
  rcases isL_c h p1 with ⟨k, h1, rfl, h3, h4⟩ | ⟨h3, h4⟩
  · refine Or.inl ⟨h3, h4, ?_⟩
    rcases what_c (μ := μ) (ν := μ) p2 (n := 6) (by decide) with ⟨j, j1, rfl, j3, j4⟩ | ⟨j3, j4⟩
    · refine Or.inl ⟨j3, j4, s (158 + 6 * k + j), be_ ((x2_get (t := 13) h.1.lea (by rw [show (LSo s).length = ct s 3 from rwT_len _ _]; exact h1) j1).trans (congrArg some ?_)) rfl, ?_⟩
      · exact (rwT_lf h1 j1).trans (by rw [Nat.zero_add])
      · refine be_ (m_lO (by omega) j1) ?_
        rw [th296, h.2.1]
    · exact Or.inr ⟨j3, j4⟩
  · exact Or.inr ⟨h3, h4⟩
theorem q_optionField (h : Bo T μ s g) (p1 p2 : Int32) : QI M12 (F_X3_optionField p1 p2 μ) (F_X4_optionField p1 p2 μ) μ := by
  have h4b := h.2.2.2.1.1.2.2.2.2.2.1
  have h46 := h4b.2
  have hv := h.2.2.2.1.1.1.vt
  have hlen : (OSo s).length = ct s 4 := rwT_len _ _
  have e4 : μ.1 296 4 = nI (OSo s).length := by rw [h.2.1, hlen]; exact h4b.1
  unfold F_X4_optionField
  rw [show aI μ 296 4 = some (μ.1 296 4) from mg (k := 4) rfl (by decide)]
  refine Q2 ?_
  rcases row_c (ν := μ) h.1.opt p1 e4 with ⟨k, h1, rfl, h3, h4⟩ | ⟨h3, h4⟩
  · refine Or.inl ⟨h3, h4, ?_⟩
    rw [hlen] at h1
    rcases what_c (μ := μ) (ν := μ) p2 (n := 7) (by decide) with ⟨j, j1, rfl, j3, j4⟩ | ⟨j3, j4⟩
    · refine Or.inl ⟨j3, j4, ?_⟩
      by_cases e : j = 6
      · rw [e]
        have hsc := h.1.sca
        refine ⟨if yrP s (ct s 5 / 12) < s (206 + 6 * k + 3) then 1 else 0, ?_, ?_⟩
        · refine (if_pos rfl).trans ?_
          rw [show μ.1 1 14 = nI (ct s 5) from hsc.2.1.trans hv.1]
          refine be_ (x1_exe h.1 kd1 hv (o := k) (t := ct s 5) (by rw [hlen]; exact h1) (by have := hv.2.1; omega)) ?_
          rw [show lf (OSo s) k 3 = s (206 + 6 * k + 3) from (rwT_lf h1 (by decide)).trans (by rw [Nat.zero_add])]
          by_cases e2 : yrP s (ct s 5 / 12) < s (206 + 6 * k + 3)
          · rw [if_pos e2, if_neg (by decide)]
          · rw [if_neg e2, if_pos rfl]
        · refine (if_pos (by decide)).trans ?_
          refine be_ (m_exe (k := 0) (by rw [th296, h.2.1]; exact hv) (by omega) (by decide)) ?_
          rw [th296, h.2.1, Nat.add_zero]
          by_cases e2 : yrP s (ct s 5 / 12) < s (206 + 6 * k + 3)
          · rw [if_pos e2, if_neg (by decide)]
          · rw [if_neg e2, if_pos rfl]
      · refine ⟨s (206 + 6 * k + j), ?_, ?_⟩
        · refine (if_neg (show ¬ nI j = nI 6 from fun z => e (nI_inj (by omega) (by decide) z))).trans ?_
          refine be_ ((x2_get (t := 15) h.1.opt (by rw [hlen]; exact h1) (show j < 6 by omega)).trans (congrArg some ?_)) rfl
          exact (rwT_lf h1 (by omega)).trans (by rw [Nat.zero_add])
        · refine (if_neg (show ¬ nI 6 ≤ nI j from nI_ge (by omega) (by decide))).trans ?_
          refine be_ (m_oO (by omega) (by omega)) ?_
          rw [th296, h.2.1]
    · exact Or.inr ⟨j3, j4⟩
  · exact Or.inr ⟨h3, h4⟩
theorem q_claim (h : Bo T μ s g) (p1 p2 : Int32) : QI M12 (F_X3_claim p1 p2 μ) (F_X4_claim p1 p2 μ) μ := by
  have hcl := h.2.2.2.1.2.1.2.1
  have h19 := hcl.2
  have e4 : μ.1 296 56 = nI (ct s 56) := by rw [h.2.1]; exact hcl.1
  unfold F_X4_claim
  rw [show aI μ 296 56 = some (μ.1 296 56) from mg (k := 56) rfl (by decide)]
  refine Q2 ?_
  rcases row_c (ν := μ) h.1.clm p1 e4 with ⟨k, h1, rfl, h3, h4⟩ | ⟨h3, h4⟩
  · refine Or.inl ⟨h3, h4, ?_⟩
    rcases what_c (μ := μ) (ν := μ) p2 (n := 8) (by decide) with ⟨j, j1, rfl, j3, j4⟩ | ⟨j3, j4⟩
    · refine Or.inl ⟨j3, j4, s (242 + 8 * k + j), be_ (x2_get (t := 17) h.1.clm h1 j1) rfl, ?_⟩
      refine be_ (m_cO (by omega) j1) ?_
      rw [th296, h.2.1]
    · exact Or.inr ⟨j3, j4⟩
  · exact Or.inr ⟨h3, h4⟩
theorem q_gauge (h : Bo T μ s g) (p1 p2 : Int32) : QI M12 (F_X3_gauge p1 p2 μ) (F_X4_gauge p1 p2 μ) μ := by
  have h6 := h.2.2.2.1.1.1.1.2
  have hd := h.2.2.2.1.2.1
  refine Q2 ?_
  rcases isR_c h p1 with ⟨k, h1, rfl, h3, h4⟩ | ⟨h3, h4⟩
  · refine Or.inl ⟨h3, h4, ?_⟩
    rcases what_c (μ := μ) (ν := μ) p2 (n := 5) (by decide) with ⟨j, j1, rfl, j3, j4⟩ | ⟨j3, j4⟩
    · refine Or.inl ⟨j3, j4, s (394 + 5 * k + j), be_ ?_ rfl, ?_⟩
      · have hg := h.1.gau
        by_cases e : s 57 = 0
        · rw [if_pos e] at hg
          refine (x2_getO (t := 19) hg (Or.inr (nI_pos' (by omega)))).trans (congrArg some ?_)
          exact (hd.2.2.2.2.2.2.2.1 e k j h1 j1).symm
        · rw [if_neg e] at hg
          exact x2_get (t := 19) hg h1 j1
      · refine be_ (m_gO (by omega) j1) ?_
        rw [th296, h.2.1]
    · exact Or.inr ⟨j3, j4⟩
  · exact Or.inr ⟨h3, h4⟩
end QUERY
