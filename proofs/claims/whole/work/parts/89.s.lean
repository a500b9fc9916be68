/-! ===== rows are taken out ===== -/
def kpL (v : Int32) : List (Nat → Int32) → List (Nat → Int32)
  | [] => []
  | row :: L => if row 0 = v then kpL v L else row :: kpL v L
theorem kpL_app {v : Int32} (B : List (Nat → Int32)) : ∀ A : List (Nat → Int32), kpL v (A ++ B) = kpL v A ++ kpL v B := by
  intro A
  induction A with
  | nil => rfl
  | cons a A ih =>
    rw [List.cons_append, kpL, kpL, ih]
    by_cases e : a 0 = v
    · rw [if_pos e, if_pos e]
    · rw [if_neg e, if_neg e, List.cons_append]
theorem kpL_mem {v : Int32} : ∀ {L : List (Nat → Int32)} {x : Nat → Int32}, x ∈ kpL v L → x ∈ L ∧ x 0 ≠ v := by
  intro L
  induction L with
  | nil => intro x h; cases h
  | cons a L ih =>
    intro x h
    rw [kpL] at h
    by_cases e : a 0 = v
    · rw [if_pos e] at h
      exact ⟨List.mem_cons_of_mem _ (ih h).1, (ih h).2⟩
    · rw [if_neg e] at h
      rcases List.mem_cons.mp h with rfl | h
      · exact ⟨List.mem_cons_self, e⟩
      · exact ⟨List.mem_cons_of_mem _ (ih h).1, (ih h).2⟩
theorem kpL_len {v : Int32} : ∀ L : List (Nat → Int32), (kpL v L).length ≤ L.length := by
  intro L
  induction L with
  | nil => exact Nat.le_refl 0
  | cons a L ih =>
    rw [kpL]
    by_cases e : a 0 = v
    · rw [if_pos e, List.length_cons]; omega
    · rw [if_neg e, List.length_cons, List.length_cons]; omega
theorem cutL_mid {A T : List (Nat → Int32)} {row : Nat → Int32} : cutL (A ++ row :: T) A.length = A ++ T := by
  induction A with
  | nil => rfl
  | cons a A ih =>
    unfold cutL at ih ⊢
    rw [List.length_cons, List.cons_append, List.take_succ_cons, List.drop_succ_cons, List.cons_append, ih, List.cons_append]
theorem snoc_ex : ∀ (L : List (Nat → Int32)) {n : Nat}, L.length = n + 1 → ∃ A row, L = A ++ [row] ∧ A.length = n := by
  intro L
  induction L with
  | nil => intro n h; cases h
  | cons a L ih =>
    intro n h
    cases n with
    | zero =>
      have : L = [] := List.eq_nil_of_length_eq_zero (by rw [List.length_cons] at h; omega)
      exact ⟨[], a, by rw [this]; rfl, rfl⟩
    | succ n =>
      obtain ⟨A, row, e, hl⟩ := ih (n := n) (by rw [List.length_cons] at h; omega)
      exact ⟨a :: A, row, by rw [e]; rfl, by rw [List.length_cons, hl]⟩
theorem lf_mid {A T : List (Nat → Int32)} {row : Nat → Int32} {k : Nat} : lf (A ++ row :: T) A.length k = row k := by
  rw [lf_app2, if_neg (by omega), Nat.sub_self]
  rfl
theorem x2_remWL {t c : Nat} {v : Int32} (hc : 0 < c) : ∀ (i m : Nat) (A F : List (Nat → Int32)) (μ : Mm), A.length = i → i < m → Tb μ t c (A ++ F).length (lf (A ++ F)) → Op (F_X2_removeRowsWith_7 t 0 v m (nI i - 1) μ) (fun μ' => Tb μ' t c (kpL v A ++ F).length (lf (kpL v A ++ F)) ∧ Fs (fun a => a = t ∨ a = t + 1) μ μ') := by
  intro i
  induction i with
  | zero =>
    intro m A F μ hA hm h
    obtain ⟨m, rfl⟩ : ∃ z, m = z + 1 := ⟨m - 1, by omega⟩
    obtain rfl : A = [] := List.eq_nil_of_length_eq_zero hA
    rw [F_X2_removeRowsWith_7]
    exact op_t (by decide) (op_r ⟨h, Fs.rf⟩)
  | succ i ih =>
    intro m A F μ hA hm h
    obtain ⟨m, rfl⟩ : ∃ z, m = z + 1 := ⟨m - 1, by omega⟩
    obtain ⟨B, row, rfl, hB⟩ := snoc_ex A hA
    have hn := h.n_le
    rw [List.append_assoc, List.singleton_append] at h
    have hlen : (B ++ row :: F).length = i + 1 + F.length := by rw [List.length_append, List.length_cons, hB]; omega
    rw [List.length_append, List.length_append, hB] at hn
    rw [F_X2_removeRowsWith_7, show nI (i + 1) - 1 = nI i from nI_pred i]
    refine op_f (nI_pos (by omega)) (op_eb (x2_get (k := 0) h (by rw [hlen]; omega) hc) ?_)
    rw [show lf (B ++ row :: F) i 0 = row 0 by rw [← hB]; exact lf_mid, show nI i + -1 = nI i - 1 from (Int32.sub_eq_add_neg _ _).symm]
    by_cases e : row 0 = v
    · have hk : kpL v (B ++ [row]) = kpL v B := by
        rw [kpL_app, kpL, if_pos e, kpL, List.append_nil]
      rw [hk]
      refine op_b (op_t e (op_mb (x2_rem h (r := i) (by rw [hlen]; omega)) (fun m1 w => op_r ?_)))
      refine op_m (ih m B F m1 hB (by omega) ?_) (fun μ' z => ⟨z.1, w.2.tr z.2⟩)
      have hl2 : (B ++ F).length = (B ++ row :: F).length - 1 := by rw [hlen, List.length_append, hB]; omega
      rw [hl2]
      refine w.1.congr (fun r k hr hk => ?_)
      have q := cutL_lf (L := B ++ row :: F) (l := i) (r := r) (k := k) (by rw [hlen]; omega)
      rw [← hB, cutL_mid, hB] at q
      exact q.symm
    · have hk : kpL v (B ++ [row]) = kpL v B ++ [row] := by
        rw [kpL_app, kpL, if_neg e, kpL]
      rw [hk, List.append_assoc, List.singleton_append]
      exact op_b (op_f e (op_r (ih m B (row :: F) μ hB (by omega) h)))
theorem x2_remW {μ : Mm} {t c : Nat} {v : Int32} {L : List (Nat → Int32)} (h : Tb μ t c L.length (lf L)) : Op (F_X2_removeRowsWith t 0 v μ) (fun μ' => Tb μ' t c (kpL v L).length (lf (kpL v L)) ∧ Fs (fun a => a = t ∨ a = t + 1) μ μ') := by
  have hc := h.2.2.1.2.1
  have hn := h.n_le
  unfold F_X2_removeRowsWith
  rw [h.2.1]
  have q := x2_remWL (v := v) hc L.length qFuel L [] μ rfl (by unfold qFuel; omega) (by rw [List.append_nil]; exact h)
  rw [List.append_nil] at q
  exact op_b (op_m q (fun μ' w => op_r w))
/-! what taking out changes of a right's claims -/
theorem ct_j {x : Nat → Int32} {j r : Nat} (h : x j = nI r) (hr : r < 10) : ct x j = r := ct_nI h (by omega)
theorem clL_kp {r q : Nat} (hr : r < 10) (hq : q ≠ r) : ∀ (L : List (Nat → Int32)) (p : Sg × Nat), clL q (kpL (nI r) L) p = clL q L p := by
  intro L
  induction L with
  | nil => intro p; rfl
  | cons a L ih =>
    intro p
    rw [kpL]
    by_cases e : a 0 = nI r
    · rw [if_pos e, ih, clL, if_neg (by rw [ct_j e hr]; exact fun z => hq z.symm)]
    · rw [if_neg e, clL, clL, ih]
theorem clL_no {r : Nat} : ∀ (L : List (Nat → Int32)) (p : Sg × Nat), (∀ x, x ∈ L → ct x 0 ≠ r) → clL r L p = p := by
  intro L
  induction L with
  | nil => intro p _; rfl
  | cons a L ih =>
    intro p h
    rw [clL, if_neg (h a List.mem_cons_self)]
    exact ih p (fun x hx => h x (List.mem_cons_of_mem _ hx))
theorem oby_kp {s : Nat → Int32} {r q : Nat} (hr : r < 10) (hq : q ≠ r) : ∀ (L : List (Nat → Int32)), oby s q (kpL (nI r) L) = oby s q L := by
  intro L
  induction L with
  | nil => rfl
  | cons a L ih =>
    rw [kpL]
    by_cases e : a 0 = nI r
    · rw [if_pos e, ih, oby, if_neg (by rw [ct_j e hr]; exact fun z => hq z.1.symm)]
    · rw [if_neg e, oby, oby, ih]
theorem oby_no {s : Nat → Int32} {r : Nat} : ∀ (L : List (Nat → Int32)), (∀ x, x ∈ L → ct x 0 ≠ r) → oby s r L = none := by
  intro L
  induction L with
  | nil => intro _; rfl
  | cons a L ih =>
    intro h
    rw [oby, if_neg (fun z => h a List.mem_cons_self z.1)]
    exact ih (fun x hx => h x (List.mem_cons_of_mem _ hx))
theorem kpL_ct {r : Nat} {L : List (Nat → Int32)} (hL : ∀ x, x ∈ L → x 0 = nI (ct x 0)) : ∀ x, x ∈ kpL (nI r) L → ct x 0 ≠ r := by
  intro x hx z
  obtain ⟨h1, h2⟩ := kpL_mem hx
  exact h2 (by rw [hL x h1, z])
