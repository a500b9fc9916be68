/-! ===== more questions ===== -/
theorem i32_pos {p : Int32} (h : ¬ p < 0) : ∃ y, y < 2 ^ 31 ∧ p = nI y := by
  rcases i32_in p (show 2 ^ 31 - 1 < 2 ^ 31 by decide) with ⟨k, hk, rfl⟩ | h2
  · exact ⟨k, by omega, rfl⟩
  · refine ⟨2 ^ 31 - 1, by decide, ?_⟩
    have h3 := h2.resolve_left h
    exact Int32.le_antisymm (Int32.le_iff_toInt_le.mpr (by have := Int32.toInt_lt p; have e : (nI (2 ^ 31 - 1)).toInt = 2147483647 := by decide
                                                           omega)) h3
theorem QPm {α : Type} {μ : Mm} {a : Option α} {f : Mm → Option (α × Mm)} (h : ∃ v, a = some v ∧ f (uI μ 295 0 0) = some (v, uI μ 295 0 0)) : QP a ((some (uI μ 295 0 0)).bind f) μ := h
section QUERY2
variable {μ : Mm} {s : Nat → Int32} {g : Nat → Int64} {T : Nat}
theorem q_count (h : Bo T μ s g) (p : Int32) : QI M2 (F_X3_count p μ) (F_X4_count p μ) μ := by
  have hl : (LSo s).length = ct s 3 := rwT_len _ _
  have ho : (OSo s).length = ct s 4 := rwT_len _ _
  obtain ⟨h1, h2, h3, h4, h5⟩ := h
  have st := h4.1
  have hsc := h1.sca
  have main : (∃ k, k < 8 ∧ (p = nI k ∧ F_X3_count p μ = some (0, s k))) ∨ ((p < 0 ∨ nI 8 ≤ p) ∧ F_X3_count p μ = some (2, 0)) := by
    rcases i32_in p (show 8 < 2 ^ 31 by decide) with ⟨k, hk, rfl⟩ | hn
    · refine Or.inl ⟨k, hk, rfl, ?_⟩
      rcases (show k = 0 ∨ k = 1 ∨ k = 2 ∨ k = 3 ∨ k = 4 ∨ k = 5 ∨ k = 6 ∨ k = 7 by omega) with rfl | rfl | rfl | rfl | rfl | rfl | rfl | rfl
      · exact congrArg (fun x => some (0, x)) (show μ.1 2 2 = s 0 from h1.rch.2.1.trans st.1.1.1.symm)
      · exact congrArg (fun x => some (0, x)) (show μ.1 6 2 = s 1 from h1.acc.2.1.trans st.1.2.1.1.symm)
      · exact congrArg (fun x => some (0, x)) (show μ.1 9 2 = s 2 from h1.rgt.2.1.trans st.1.2.2.1.1.symm)
      · exact congrArg (fun x => some (0, x)) (show μ.1 13 2 = s 3 from h1.lea.2.1.trans (by rw [hl]; exact st.2.2.2.2.1.1.symm))
      · exact congrArg (fun x => some (0, x)) (show μ.1 15 2 = s 4 from h1.opt.2.1.trans (by rw [ho]; exact st.2.2.2.2.2.1.1.symm))
      · exact congrArg (fun x => some (0, x)) (show μ.1 1 14 = s 5 from hsc.2.1)
      · exact congrArg (fun x => some (0, x)) (show μ.1 1 15 = s 6 from hsc.2.2.1)
      · exact congrArg (fun x => some (0, x)) (show μ.1 1 3 = s 7 from hsc.1)
    · refine Or.inr ⟨hn, ?_⟩
      have ne : ∀ k, k < 8 → p ≠ nI k := fun k hk z => by
        rcases hn with h | h
        · rw [z] at h; exact nI_pos (by omega) h
        · rw [z] at h; exact nI_ge hk (by decide) h
      unfold F_X3_count
      exact (if_neg (ne 0 (by decide))).trans ((if_neg (ne 1 (by decide))).trans ((if_neg (ne 2 (by decide))).trans ((if_neg (ne 3 (by decide))).trans ((if_neg (ne 4 (by decide))).trans ((if_neg (ne 5 (by decide))).trans ((if_neg (ne 6 (by decide))).trans (if_neg (ne 7 (by decide)))))))))
  rcases main with ⟨k, hk, rfl, e⟩ | ⟨hn, e⟩
  · refine ⟨0, 0, s k, s k, e, ?_, by decide, fun _ => rfl⟩
    unfold F_X4_count
    refine be_ (inR_y (nI_pos (by omega)) (show ¬ nI 7 < nI k from nI_nlt (by omega) (by omega))) ?_
    refine (m_tail (o := some 0) (t := 0) (z := 0) rfl (by decide)).trans ((if_pos rfl).trans (be_ (mg (k := k) rfl (by omega)) ?_))
    rw [th296, h2]
    rfl
  · refine ⟨2, 1, 0, 0, e, ?_, by decide, fun e => absurd e (by decide)⟩
    unfold F_X4_count
    refine be_ (inR_n (a := 0) (b := 7) (hn.elim Or.inl (fun z => Or.inr (Int32.lt_of_lt_of_le (by decide) z)))) ?_
    exact m_tail (f := fun m10 => (aI m10 296 p).bind fun x14 => some (x14, m10)) (o := some 1) (t := 1) (z := 0) rfl (by decide)
theorem q_season (h : Bo T μ s g) (p : Int32) : QI M2 (F_X3_season p μ) (F_X4_season p μ) μ := by
  refine Q1 (c := 2) (Or.inr rfl) ?_
  rcases what_c (μ := μ) (ν := μ) p (n := 12) (by decide) with ⟨j, j1, rfl, j3, j4⟩ | ⟨j3, j4⟩
  · refine Or.inl ⟨j3, j4, s (36 + j), be_ (x1_sea h.1 kd1 j1) rfl, be_ (mg (k := 36 + j) (nI_add 36 j) (by omega)) ?_⟩
    rw [th296, h.2.1]
  · exact Or.inr ⟨j3, j4⟩
theorem q_yearPercent (h : Bo T μ s g) (p : Int32) : QI M2 (F_X3_yearPercent p μ) (F_X4_yearPercent p μ) μ := by
  have hv := h.2.2.2.1.1.1.vt
  by_cases e : p < 0
  · refine ⟨2, 1, 0, 0, if_neg (Int32.not_le.mpr e), ?_, by decide, fun e => absurd e (by decide)⟩
    unfold F_X4_yearPercent
    rw [if_pos e]
    exact m_tail (f := fun m10 => (F_X4_percentOf p m10).bind fun x14 => some (x14, m10)) (o := some 1) (t := 1) (z := 0) rfl (by decide)
  · obtain ⟨y, hy, rfl⟩ := i32_pos e
    refine ⟨0, 0, yrP s y, yrP s y, (if_pos (Int32.not_lt.mp e)).trans (be_ (x1_yea h.1 kd1 hv hy) rfl), ?_, by decide, fun _ => rfl⟩
    unfold F_X4_yearPercent
    rw [if_neg e]
    refine (m_tail (o := some 0) (t := 0) (z := 0) rfl (by decide)).trans ((if_pos rfl).trans (be_ (m_yr (by rw [th296, h.2.1]; exact hv) hy) ?_))
    rw [th296, h.2.1]
    rfl
theorem q_coming (h : Bo T μ s g) (p : Int32) : QI M1 (F_X3_coming p μ) (F_X4_coming p μ) μ := by
  have hv := h.2.2.2.1.1.1.vt
  have h6 := h.2.2.2.1.1.1.1.2
  refine Q1 (c := 1) (Or.inl rfl) ?_
  rcases isR_c h p with ⟨k, h1, rfl, h3, h4⟩ | ⟨h3, h4⟩
  · refine Or.inl ⟨h3, h4, comN s k, be_ (x1_com h.1 kd1 hv h1) rfl, be_ (m_com (by rw [th296, h.2.1]; exact hv) (by omega)) ?_⟩
    rw [th296, h.2.1]
  · exact Or.inr ⟨h3, h4⟩
theorem q_balance (h : Bo T μ s g) (p : Int32) : QI M1 (F_X3_balance p μ) (F_X4_balance p μ) μ := by
  have h5 := h.2.2.2.1.1.1.2.1.2
  refine Q1 (c := 1) (Or.inl rfl) ?_
  rcases isA_c h p with ⟨k, h1, rfl, h3, h4⟩ | ⟨h3, h4⟩
  · refine Or.inl ⟨h3, h4, g k, be_ (x1_bal h.1 kd1 (by omega)) rfl, be_ (aL_ok (k := k) rfl (by rw [ln300]; omega)) ?_⟩
    rw [th300, h.2.2.1]
  · exact Or.inr ⟨h3, h4⟩
theorem q_bank (h : Bo T μ s g) (p : Int32) : QI M1 (F_X3_bank p μ) (F_X4_bank p μ) μ := by
  have h5 := h.2.2.2.1.1.1.2.1.2
  refine Q1 (c := 1) (Or.inl rfl) ?_
  rcases isA_c h p with ⟨k, h1, rfl, h3, h4⟩ | ⟨h3, h4⟩
  · refine Or.inl ⟨h3, h4, s (26 + k), be_ (x2_get (t := 6) (k := 0) h.1.acc h1 (by decide)) rfl, be_ (mg (k := 26 + k) (nI_add 26 k) (by omega)) ?_⟩
    rw [th296, h.2.1]
  · exact Or.inr ⟨h3, h4⟩
theorem q_got (h : Bo T μ s g) (p : Int32) : QI M1 (F_X3_got p μ) (F_X4_got p μ) μ := by
  have h5 := h.2.2.2.1.1.1.2.1.2
  refine Q1 (c := 1) (Or.inl rfl) ?_
  rcases isA_c h p with ⟨k, h1, rfl, h3, h4⟩ | ⟨h3, h4⟩
  · refine Or.inl ⟨h3, h4, s (31 + k), be_ (x2_get (t := 6) (k := 1) h.1.acc h1 (by decide)) rfl, be_ (mg (k := 31 + k) (nI_add 31 k) (by omega)) ?_⟩
    rw [th296, h.2.1]
  · exact Or.inr ⟨h3, h4⟩
theorem q_earned (h : Bo T μ s g) (p : Int32) : QI M1 (F_X3_earned p μ) (F_X4_earned p μ) μ := by
  have h10 := h.2.2.2.1.1.1.2.2.1.2
  refine Q1 (c := 1) (Or.inl rfl) ?_
  rcases isI_c h p with ⟨k, h1, rfl, h3, h4⟩ | ⟨h3, h4⟩
  · refine Or.inl ⟨h3, h4, g (5 + k), be_ (x1_ear h.1 kd1 (by omega)) rfl, be_ (aL_ok (k := 5 + k) (nI_add 5 k) (by rw [ln300]; omega)) ?_⟩
    rw [th300, h.2.2.1]
  · exact Or.inr ⟨h3, h4⟩
theorem q_history (h : Bo T μ s g) (p1 p2 : Int32) : QI M2 (F_X3_history p1 p2 μ) (F_X4_history p1 p2 μ) μ := by
  have h424 := h.2.2.2.1.2.1.1
  have h24 := h424.2
  refine Q1 (c := 2) (Or.inr rfl) ?_
  rcases what_c (μ := μ) (ν := μ) p2 (n := 4) (by decide) with ⟨j, j1, rfl, j3, j4⟩ | ⟨j3, j4⟩
  · have e : (uI μ 295 0 0).1 296 424 = nI (ct s 424) := by rw [th296, h.2.1]; exact h424.1
    rcases up_c (ν := uI μ 295 0 0) p1 (n := ct s 424) (by omega) with ⟨k, h1, rfl, h3, h4⟩ | ⟨h3, h4⟩
    · refine Or.inl ⟨j3, j4, s (425 + 4 * k + j), be_ (x1_mon h.1 kd1 h1 j1) rfl, be_ (mg (k := 424) rfl (by decide)) ?_⟩
      rw [e]
      refine be_ h4 ((if_neg (by decide)).trans (be_ (mg (k := 425 + 4 * k + j) (ix3 425 4 k j) (by omega)) ?_))
      rw [th296, h.2.1]
    · refine Or.inl ⟨j3, j4, -1, be_ (x1_monO h.1 h3.2) rfl, be_ (mg (k := 424) rfl (by decide)) ?_⟩
      rw [e]
      exact be_ h4 (if_pos rfl)
  · exact Or.inr ⟨j3, j4⟩
theorem q_bySeniority (h : Bo T μ s g) (p : Int32) : QP (F_X3_bySeniority p μ) (F_X4_bySeniority p μ) μ := by
  refine QPm ?_
  have h2 := h.2.2.2.1.1.1.2.2.1
  have h10 := h2.2
  have e2 : Bn ((uI μ 295 0 0).1 296) 2 10 := by rw [th296, h.2.1]; exact h2
  rcases i32_in p (show ct s 2 < 2 ^ 31 by omega) with ⟨k, hk, rfl⟩ | hn
  · refine ⟨senI s k, be_ (x1_rnk h.1 kd1 hk) rfl, be_ (m_sen (k := k) e2 (by omega)) ?_⟩
    rw [th296, h.2.1]
  · refine ⟨-1, be_ (x1_rnkO h.1 hn) rfl, ?_⟩
    by_cases e : p < 0
    · exact be_ (m_senO e2 e) rfl
    · obtain ⟨y, hy, rfl⟩ := i32_pos e
      refine be_ (m_sen (k := y) e2 hy) ?_
      have hy2 : ct s 2 ≤ y := by
        rcases Nat.lt_or_ge y (ct s 2) with z | z
        · exact absurd (hn.resolve_left e) (nI_ge z (by omega))
        · exact z
      rw [th296, h.2.1]
      have hs : sen s y = none := by
        cases e3 : sen s y with
        | none => rfl
        | some r =>
          obtain ⟨z1, z2⟩ := sen_rk e3
          have := rk_lt z1
          omega
      unfold senI
      rw [hs]
      rfl
theorem q_claims (h : Bo T μ s g) : QP (F_X3_claims μ) (F_X4_claims μ) μ := by
  refine QPm ?_
  refine ⟨s 56, congrArg some (show μ.1 17 2 = s 56 from h.1.clm.2.1.trans h.2.2.2.1.2.1.2.1.1.symm), be_ (mg (k := 56) rfl (by decide)) ?_⟩
  rw [th296, h.2.1]
theorem q_bankedInAll (h : Bo T μ s g) : QP (F_X3_bankedInAll μ) (F_X4_bankedInAll μ) μ := by
  refine QPm ?_
  refine ⟨s 53, congrArg some (show μ.1 1 16 = s 53 from h.1.sca.2.2.2.1), be_ (mg (k := 53) rfl (by decide)) ?_⟩
  rw [th296, h.2.1]
theorem q_lostInAll (h : Bo T μ s g) : QP (F_X3_lostInAll μ) (F_X4_lostInAll μ) μ := by
  refine QPm ?_
  refine ⟨s 54, congrArg some (show μ.1 1 17 = s 54 from h.1.sca.2.2.2.2.1), be_ (mg (k := 54) rfl (by decide)) ?_⟩
  rw [th296, h.2.1]
theorem q_releasedInAll (h : Bo T μ s g) : QP (F_X3_releasedInAll μ) (F_X4_releasedInAll μ) μ := by
  refine QPm ?_
  refine ⟨s 55, congrArg some (show μ.1 1 18 = s 55 from h.1.sca.2.2.2.2.2), be_ (mg (k := 55) rfl (by decide)) ?_⟩
  rw [th296, h.2.1]
theorem q_call (h : Bo T μ s g) : QP (F_X3_call μ) (F_X4_call μ) μ := by
  refine QPm ?_
  have h424 := h.2.2.2.1.2.1.1
  have h24 := h424.2
  have e : (uI μ 295 0 0).1 296 424 = nI (ct s 424) := by rw [th296, h.2.1]; exact h424.1
  by_cases e0 : ct s 424 = 0
  · refine ⟨-1, be_ (x1_monO (i := 0) (k := 3) h.1 (Or.inr (by rw [e0]; decide))) rfl, be_ (mg (k := 424) rfl (by decide)) ?_⟩
    rw [e, e0]
    rfl
  · refine ⟨s 428, be_ (x1_mon (a := 0) (k := 3) h.1 kd1 (by omega) (by decide)) rfl, be_ (mg (k := 424) rfl (by decide)) ?_⟩
    rw [e, if_neg (nI_ne0 (by omega) (by omega))]
    refine be_ (mg (k := 428) rfl (by decide)) ?_
    rw [th296, h.2.1]
theorem q_outflow (h : Bo T μ s g) : QP (F_X3_outflow μ) (F_X4_outflow μ) μ := by
  refine QPm ?_
  have h0 := h.2.2.2.1.1.1.1
  have h6 := h0.2
  have hd := h.2.2.2.1.2.1.2.2.2.2.2.2.2.1
  refine ⟨if ct s 0 = 0 then 0 else s (394 + 5 * (ct s 0 - 1) + 2), be_ ((x1_out h.1 kd1).trans (congrArg some ?_)) rfl, be_ (m_outN (by rw [th296, h.2.1]; exact h0)) ?_⟩
  · by_cases e : s 57 = 0
    · rw [if_pos (if_pos e)]
      by_cases e2 : ct s 0 = 0
      · rw [if_pos e2]
      · rw [if_neg e2]
        exact (hd e _ 2 (by omega) (by decide)).symm
    · rw [if_neg e]
  · rw [th296, h.2.1]
end QUERY2
