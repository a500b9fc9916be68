/-! ===== what stands at the head of the law's loop; a step ===== -/
def Iv (k : Nat) (μ : Mm) : Prop := Cor k μ ∧ (RdR μ ∧ TxR μ)
section IVA
variable {μ μ' μ1 μ2 : Mm} {k : Nat} {v : Int64} {α : Type}
theorem Cor.kv (h : Cor k μ) : Cor k (Kv v μ) := by
  have hF : Fs (fun a => a = 311) μ (Kv v μ) := Fs.uL rfl
  obtain ⟨⟨h1, h2, h3, h4, h6⟩, hk, hf, hp, hs⟩ := h
  refine ⟨⟨?_, rfl, rfl, ?_, h6⟩, fun b hb' => ?_, hf, hp.fs hF rfl (fun a ha => by omega), hs.fs hF (fun a ha => by omega)⟩
  · rw [(hF.1 296 (by decide)).1, (hF.1 300 (by decide)).2]
    exact SV.fs h1 hF (fun a x y => by omega)
  · rw [(hF.1 296 (by decide)).1]; exact h4
  · have := kd_all b (kd1_lt hb') hb'
    exact (hk b hb').fs hF (fun a x y => by omega)
theorem Iv.kv (h : Iv k μ) : Iv k (Kv v μ) := ⟨h.1.kv, h.2.1, h.2.2⟩
theorem Iv.ke {j : Nat} (h : Iv k μ) (hc : Cor j μ') (hk : KeR μ μ') : Iv j μ' := ⟨hc, h.2.1.ke hk, h.2.2.ke (KeX.ke hk)⟩
theorem Iv.th (h : Iv k μ) (hk : k < 512) {x : Int32} : Iv (k + 1) (uI μ 295 0 x) := h.ke (h.1.th.mono hk) KeR.th
theorem Iv.kq (h : Iv k μ) (hk : k < 512) (hq : KQ μ μ') : Iv (k + 1) μ' := h.ke ((h.1.q hq).mono hk) (KeR.q hq)
theorem Iv.pa (h : Iv k μ) (hq : PA k μ μ') : Iv (k + 1) μ' := h.ke hq.1 (KeR.a hq)
theorem Iv.mono (h : Iv k μ) (hk : k < 512) : Iv (k + 1) μ := ⟨h.1.mono hk, h.2⟩
theorem Iv.bo (h : Iv k μ) : Bo (36 * k) μ (μ.1 296) (μ.2.1 300) := h.1.1
def StP (f : α → Int64) (k : Nat) (c : Option (Nat × α × Mm)) (b : Mm → Option (α × Mm)) (M : List (Nat × Nat)) : Prop := ∃ ec t r μ1 w ν2, c = some (ec, r, μ1) ∧ ((ec, t) ∈ M ∧ (b (if ec = 0 then uL μ1 311 0 (f r) else μ1) = some (w, ν2) ∧ (ν2.1 295 0 = nI t ∧ ((t = 0 → ν2.2.1 311 0 = f w) ∧ Iv (k + 1) ν2))))
def StQ (f : α → Int64) (k : Nat) (μ : Mm) (c : Option (Nat × α)) (b : Mm → Option (α × Mm)) (M : List (Nat × Nat)) : Prop := ∃ ec t r w ν2, c = some (ec, r) ∧ ((ec, t) ∈ M ∧ (b (if ec = 0 then uL μ 311 0 (f r) else μ) = some (w, ν2) ∧ (ν2.1 295 0 = nI t ∧ ((t = 0 → ν2.2.1 311 0 = f w) ∧ Iv (k + 1) ν2))))
theorem kv_311 : (Kv v μ).2.1 311 0 = v := by
  unfold Kv
  rw [uL_eq]
  exact if_pos rfl
theorem stp_of {f : α → Int64} {c : Option (Nat × α × Mm)} {b : Mm → Option (α × Mm)} {M : List (Nat × Nat)} (hM : ∀ x ∈ M, x.2 = 0 → x.1 = 0) (hb : ∀ (v : Int64) (μ : Mm), b (Kv v μ) = (b μ).map (Pv v)) (h : ∃ e t v w' μ1 μ2, c = some (e, v, μ1) ∧ (b μ1 = some (w', μ2) ∧ ((e, t) ∈ M ∧ (μ2.1 295 0 = nI t ∧ ((e = 0 → v = w') ∧ Iv (k + 1) μ2))))) : StP f k c b M := by
  obtain ⟨e, t, v, w, μ1, μ2, h1, h2, h3, h4, h5, h6⟩ := h
  by_cases he : e = 0
  · refine ⟨e, t, v, μ1, w, Kv (f v) μ2, h1, h3, ?_, h4, fun _ => kv_311.trans (congrArg f (h5 he)), h6.kv⟩
    rw [if_pos he]
    refine (hb (f v) μ1).trans ?_
    rw [h2]
    rfl
  · refine ⟨e, t, v, μ1, w, μ2, h1, h3, ?_, h4, fun ht => absurd (hM _ h3 ht) he, h6⟩
    rw [if_neg he]
    exact h2
theorem stq_of {f : α → Int64} {c : Option (Nat × α)} {b : Mm → Option (α × Mm)} {M : List (Nat × Nat)} (h0 : Iv k μ) (hk : k < 512) (hM : ∀ x ∈ M, x.2 = 0 → x.1 = 0) (hb : ∀ (v : Int64) (μ : Mm), b (Kv v μ) = (b μ).map (Pv v)) (h : QI M c (b μ) μ) : StQ f k μ c b M := by
  obtain ⟨e, t, v, w, h1, h2, h3, h5⟩ := h
  have h4 : (uI μ 295 0 (nI t)).1 295 0 = nI t := by
    rw [uI_eq]
    exact if_pos rfl
  by_cases he : e = 0
  · refine ⟨e, t, v, w, Kv (f v) (uI μ 295 0 (nI t)), h1, h3, ?_, h4, fun _ => kv_311.trans (congrArg f (h5 he)), (h0.th hk).kv⟩
    rw [if_pos he]
    refine (hb (f v) μ).trans ?_
    rw [h2]
    rfl
  · refine ⟨e, t, v, w, uI μ 295 0 (nI t), h1, h3, ?_, h4, fun ht => absurd (hM _ h3 ht) he, h0.th hk⟩
    rw [if_neg he]
    exact h2
def svL (r : Int32) : Int64 := if r = 0 then (0 : Int64) else 1
theorem s_count (h : Iv k μ) (hk : k < 512) (p : Int32) : StQ Int32.toInt64 k μ (F_X3_count p μ) (F_X4_count p) M2 := stq_of h hk (by decide) (fun _ _ => b_X4_count) (q_count h.bo p)
theorem s_season (h : Iv k μ) (hk : k < 512) (p : Int32) : StQ Int32.toInt64 k μ (F_X3_season p μ) (F_X4_season p) M2 := stq_of h hk (by decide) (fun _ _ => b_X4_season) (q_season h.bo p)
theorem s_yearPercent (h : Iv k μ) (hk : k < 512) (p : Int32) : StQ Int32.toInt64 k μ (F_X3_yearPercent p μ) (F_X4_yearPercent p) M2 := stq_of h hk (by decide) (fun _ _ => b_X4_yearPercent) (q_yearPercent h.bo p)
theorem s_reach (h : Iv k μ) (hk : k < 512) (p1 p2 : Int32) : StQ Int32.toInt64 k μ (F_X3_reach p1 p2 μ) (F_X4_reach p1 p2) M12 := stq_of h hk (by decide) (fun _ _ => b_X4_reach) (q_reach h.bo p1 p2)
theorem s_coming (h : Iv k μ) (hk : k < 512) (p : Int32) : StQ Int32.toInt64 k μ (F_X3_coming p μ) (F_X4_coming p) M1 := stq_of h hk (by decide) (fun _ _ => b_X4_coming) (q_coming h.bo p)
theorem s_balance (h : Iv k μ) (hk : k < 512) (p : Int32) : StQ (fun r : Int64 => r) k μ (F_X3_balance p μ) (F_X4_balance p) M1 := stq_of h hk (by decide) (fun _ _ => b_X4_balance) (q_balance h.bo p)
theorem s_bank (h : Iv k μ) (hk : k < 512) (p : Int32) : StQ Int32.toInt64 k μ (F_X3_bank p μ) (F_X4_bank p) M1 := stq_of h hk (by decide) (fun _ _ => b_X4_bank) (q_bank h.bo p)
theorem s_right (h : Iv k μ) (hk : k < 512) (p1 p2 : Int32) : StQ Int32.toInt64 k μ (F_X3_right p1 p2 μ) (F_X4_right p1 p2) M12 := stq_of h hk (by decide) (fun _ _ => b_X4_right) (q_right h.bo p1 p2)
theorem s_leaseField (h : Iv k μ) (hk : k < 512) (p1 p2 : Int32) : StQ Int32.toInt64 k μ (F_X3_leaseField p1 p2 μ) (F_X4_leaseField p1 p2) M12 := stq_of h hk (by decide) (fun _ _ => b_X4_leaseField) (q_leaseField h.bo p1 p2)
theorem s_optionField (h : Iv k μ) (hk : k < 512) (p1 p2 : Int32) : StQ Int32.toInt64 k μ (F_X3_optionField p1 p2 μ) (F_X4_optionField p1 p2) M12 := stq_of h hk (by decide) (fun _ _ => b_X4_optionField) (q_optionField h.bo p1 p2)
theorem s_claim (h : Iv k μ) (hk : k < 512) (p1 p2 : Int32) : StQ Int32.toInt64 k μ (F_X3_claim p1 p2 μ) (F_X4_claim p1 p2) M12 := stq_of h hk (by decide) (fun _ _ => b_X4_claim) (q_claim h.bo p1 p2)
theorem s_gauge (h : Iv k μ) (hk : k < 512) (p1 p2 : Int32) : StQ Int32.toInt64 k μ (F_X3_gauge p1 p2 μ) (F_X4_gauge p1 p2) M12 := stq_of h hk (by decide) (fun _ _ => b_X4_gauge) (q_gauge h.bo p1 p2)
theorem s_history (h : Iv k μ) (hk : k < 512) (p1 p2 : Int32) : StQ Int32.toInt64 k μ (F_X3_history p1 p2 μ) (F_X4_history p1 p2) M2 := stq_of h hk (by decide) (fun _ _ => b_X4_history) (q_history h.bo p1 p2)
theorem s_got (h : Iv k μ) (hk : k < 512) (p : Int32) : StQ Int32.toInt64 k μ (F_X3_got p μ) (F_X4_got p) M1 := stq_of h hk (by decide) (fun _ _ => b_X4_got) (q_got h.bo p)
theorem s_earned (h : Iv k μ) (hk : k < 512) (p : Int32) : StQ (fun r : Int64 => r) k μ (F_X3_earned p μ) (F_X4_earned p) M1 := stq_of h hk (by decide) (fun _ _ => b_X4_earned) (q_earned h.bo p)
theorem s_expected (h : Iv k μ) (hk : k < 512) (p1 p2 : Int32) : StP Int32.toInt64 k (F_X3_expected p1 p2 μ) (F_X4_expected p1 p2) M13 := by
  obtain ⟨e, t, v, w, μ1, μ2, h1, h2, h3, h4, h5, h6⟩ := f_expected h.bo (h.1.2.1 23 kd23) h.1.2.2.1 (by omega) p1 p2
  exact stp_of (by decide) (fun _ _ => b_X4_expected) ⟨e, t, v, w, μ1, μ2, h1, h2, h3, h4, h5, h.kq hk h6⟩
theorem s_cutMonths (h : Iv k μ) (hk : k < 512) (p1 p2 : Int32) : StP Int32.toInt64 k (F_X3_cutMonths p1 p2 μ) (F_X4_cutMonths p1 p2) M13 := by
  obtain ⟨e, t, v, w, μ1, μ2, h1, h2, h3, h4, h5, h6⟩ := f_cutMonths h.bo (h.1.2.1 23 kd23) h.1.2.2.1 (by omega) p1 p2
  exact stp_of (by decide) (fun _ _ => b_X4_cutMonths) ⟨e, t, v, w, μ1, μ2, h1, h2, h3, h4, h5, h.kq hk h6⟩
theorem s_balanceAfter (h : Iv k μ) (hk : k < 512) (p1 p2 : Int32) : StP (fun r : Int64 => r) k (F_X3_balanceAfter p1 p2 μ) (F_X4_balanceAfter p1 p2) M13 := by
  obtain ⟨e, t, v, w, μ1, μ2, h1, h2, h3, h4, h5, h6⟩ := f_balanceAfter h.bo (h.1.2.1 23 kd23) h.1.2.2.1 (by omega) p1 p2
  exact stp_of (by decide) (fun _ _ => b_X4_balanceAfter) ⟨e, t, v, w, μ1, μ2, h1, h2, h3, h4, h5, h.kq hk h6⟩
theorem s_driestMonth (h : Iv k μ) (hk : k < 512) (p : Int32) : StP Int32.toInt64 k (F_X3_driestMonth p μ) (F_X4_driestMonth p) [(0, 0), (3, 1), (4, 2)] := by
  obtain ⟨e, t, v, w, μ1, μ2, h1, h2, h3, h4, h5, h6⟩ := f_driestMonth h.bo (h.1.2.1 23 kd23) h.1.2.2.1 (by omega) p
  exact stp_of (by decide) (fun _ _ => b_X4_driestMonth) ⟨e, t, v, w, μ1, μ2, h1, h2, h3, h4, h5, h.kq hk h6⟩
theorem s_free (h : Iv k μ) (hk : k < 512) (p : Int32) : StP Int32.toInt64 k (F_X3_free p μ) (F_X4_free p) M1 := by
  obtain ⟨e, t, v, w, μ1, μ2, h1, h2, h3, h4, h5, h6⟩ := f_free h.bo (h.1.2.1 23 kd23) p
  exact stp_of (by decide) (fun _ _ => b_X4_free) ⟨e, t, v, w, μ1, μ2, h1, h2, h3, h4, h5, h.kq hk h6⟩
theorem s_bestReach (h : Iv k μ) (hk : k < 512) (p : Int32) : StP Int32.toInt64 k (F_X3_bestReach p μ) (F_X4_bestReach p) M1 := by
  obtain ⟨e, t, v, w, μ1, μ2, h1, h2, h3, h4, h5, h6⟩ := f_bestReach h.bo (h.1.2.1 23 kd23) h.1.2.2.1 (by omega) p
  exact stp_of (by decide) (fun _ _ => b_X4_bestReach) ⟨e, t, v, w, μ1, μ2, h1, h2, h3, h4, h5, h.kq hk h6⟩
theorem s_injured (h : Iv k μ) (hk : k < 512) (p1 p2 p3 : Int32) : StP Int32.toInt64 k (F_X3_injured p1 p2 p3 μ) (F_X4_injured p1 p2 p3) M13 := by
  obtain ⟨e, t, v, w, μ1, μ2, h1, h2, h3, h4, h5, h6⟩ := f_injured h.bo (h.1.2.1 23 kd23) h.1.2.2.1 (by omega) p1 p2 p3
  exact stp_of (by decide) (fun _ _ => b_X4_injured) ⟨e, t, v, w, μ1, μ2, h1, h2, h3, h4, h5, h.kq hk h6⟩
theorem s_blocked (h : Iv k μ) (hk : k < 512) (p : Int32) : StP Int32.toInt64 k (F_X3_blocked p μ) (F_X4_blocked p) M1 := by
  obtain ⟨e, t, v, w, μ1, μ2, h1, h2, h3, h4, h5, h6⟩ := f_blocked h.bo (h.1.2.1 23 kd23) h.1.2.2.1 (by omega) p
  exact stp_of (by decide) (fun _ _ => b_X4_blocked) ⟨e, t, v, w, μ1, μ2, h1, h2, h3, h4, h5, h.kq hk h6⟩
theorem s_run (h : Iv k μ) (hk : k < 512) (p : Int32) : StP Int32.toInt64 k (F_X3_run p μ) (F_X4_run p) [(0, 0), (3, 1), (4, 2)] := by
  obtain ⟨e, t, v, w, μ1, μ2, h1, h2, h3, h4, h5, h6⟩ := a_run h.1 hk p
  exact stp_of (by decide) (fun _ _ => b_X4_run) ⟨e, t, v, w, μ1, μ2, h1, h2, h3, h4, h5, h.pa h6⟩
theorem s_lease (h : Iv k μ) (hk : k < 512) (p1 p2 p3 p4 p5 p6 : Int32) : StP Int32.toInt64 k (F_X3_lease p1 p2 p3 p4 p5 p6 μ) (F_X4_lease p1 p2 p3 p4 p5 p6) [(0, 0), (1, 1), (3, 2), (4, 3)] := by
  obtain ⟨e, t, v, w, μ1, μ2, h1, h2, h3, h4, h5, h6⟩ := a_lease h.1 hk p1 p2 p3 p4 p5 p6
  exact stp_of (by decide) (fun _ _ => b_X4_lease) ⟨e, t, v, w, μ1, μ2, h1, h2, h3, h4, h5, h.pa h6⟩
theorem s_endLease (h : Iv k μ) (hk : k < 512) (p : Int32) : StP Int32.toInt64 k (F_X3_endLease p μ) (F_X4_endLease p) [(0, 0), (1, 1)] := by
  obtain ⟨e, t, v, w, μ1, μ2, h1, h2, h3, h4, h5, h6⟩ := a_endLease h.1 hk p
  exact stp_of (by decide) (fun _ _ => b_X4_endLease) ⟨e, t, v, w, μ1, μ2, h1, h2, h3, h4, h5, h.pa h6⟩
theorem s_release (h : Iv k μ) (hk : k < 512) (p1 p2 p3 : Int32) : StP Int32.toInt64 k (F_X3_release p1 p2 p3 μ) (F_X4_release p1 p2 p3) [(0, 0), (1, 1), (3, 2), (4, 3)] := by
  obtain ⟨e, t, v, w, μ1, μ2, h1, h2, h3, h4, h5, h6⟩ := a_release h.1 hk p1 p2 p3
  exact stp_of (by decide) (fun _ _ => b_X4_release) ⟨e, t, v, w, μ1, μ2, h1, h2, h3, h4, h5, h.pa h6⟩
theorem s_setKeep (h : Iv k μ) (hk : k < 512) (p1 p2 : Int32) : StP Int32.toInt64 k (F_X3_setKeep p1 p2 μ) (F_X4_setKeep p1 p2) [(0, 0), (1, 1), (3, 2)] := by
  obtain ⟨e, t, v, w, μ1, μ2, h1, h2, h3, h4, h5, h6⟩ := a_setKeep h.1 hk p1 p2
  exact stp_of (by decide) (fun _ _ => b_X4_setKeep) ⟨e, t, v, w, μ1, μ2, h1, h2, h3, h4, h5, h.pa h6⟩
theorem s_setMinimum (h : Iv k μ) (hk : k < 512) (p1 p2 : Int32) : StP Int32.toInt64 k (F_X3_setMinimum p1 p2 μ) (F_X4_setMinimum p1 p2) [(0, 0), (1, 1), (3, 2)] := by
  obtain ⟨e, t, v, w, μ1, μ2, h1, h2, h3, h4, h5, h6⟩ := a_setMinimum h.1 hk p1 p2
  exact stp_of (by decide) (fun _ _ => b_X4_setMinimum) ⟨e, t, v, w, μ1, μ2, h1, h2, h3, h4, h5, h.pa h6⟩
theorem s_transfer (h : Iv k μ) (hk : k < 512) (p1 p2 p3 : Int32) : StP Int32.toInt64 k (F_X3_transfer p1 p2 p3 μ) (F_X4_transfer p1 p2 p3) [(0, 0), (1, 1), (3, 2)] := by
  obtain ⟨e, t, v, w, μ1, μ2, h1, h2, h3, h4, h5, h6⟩ := a_transfer h.1 hk p1 p2 p3
  exact stp_of (by decide) (fun _ _ => b_X4_transfer) ⟨e, t, v, w, μ1, μ2, h1, h2, h3, h4, h5, h.pa h6⟩
theorem s_swap (h : Iv k μ) (hk : k < 512) (p1 p2 : Int32) : StP Int32.toInt64 k (F_X3_swap p1 p2 μ) (F_X4_swap p1 p2) [(0, 0), (1, 1), (4, 2)] := by
  obtain ⟨e, t, v, w, μ1, μ2, h1, h2, h3, h4, h5, h6⟩ := a_swap h.1 hk p1 p2
  exact stp_of (by decide) (fun _ _ => b_X4_swap) ⟨e, t, v, w, μ1, μ2, h1, h2, h3, h4, h5, h.pa h6⟩
theorem s_restore (h : Iv k μ) (hk : k < 512) (p : Int32) : StP Int32.toInt64 k (F_X3_restore p μ) (F_X4_restore p) [(0, 0), (1, 1), (4, 2)] := by
  obtain ⟨e, t, v, w, μ1, μ2, h1, h2, h3, h4, h5, h6⟩ := a_restore h.1 hk p
  exact stp_of (by decide) (fun _ _ => b_X4_restore) ⟨e, t, v, w, μ1, μ2, h1, h2, h3, h4, h5, h.pa h6⟩
theorem s_save (h : Iv k μ) (hk : k < 512) (p : Int32) : StP svL k (F_X3_save p μ) (F_X4_save p) [(0, 0), (1, 1)] := by
  obtain ⟨e, t, v, w, μ1, μ2, h1, h2, h3, h4, h5, h6, h7⟩ := a_save h.1 hk p
  exact stp_of (by decide) (fun _ _ => b_X4_save) ⟨e, t, v, w, μ1, μ2, h1, h2, h3, h4, h5, h.ke h6 h7⟩
theorem s_load (h : Iv k μ) (hk : k < 512) : StP Int32.toInt64 k (F_X3_load μ) F_X4_load [(0, 0), (3, 1)] := by
  obtain ⟨e, t, v, w, μ1, μ2, h1, h2, h3, h4, h5, h6, h7, h8⟩ := a_load h.1 h.2.1 hk
  exact stp_of (by decide) (fun _ _ => b_X4_load) ⟨e, t, v, w, μ1, μ2, h1, h2, h3, h4, h5, h6, h7, h.2.2.ke h8⟩
/-- a call that is compared as it stands -/
def Sd (k : Nat) (c : Option (α × Mm)) (b : Mm → Option (α × Mm)) : Prop := ∃ v μ1 μ2, c = some (v, μ1) ∧ (b μ1 = some (v, μ2) ∧ Iv (k + 1) μ2)
def Sq (k : Nat) (c : Option α) (b : Option (α × Mm)) : Prop := ∃ v μ2, c = some v ∧ (b = some (v, μ2) ∧ Iv (k + 1) μ2)
theorem sq_of {c : Option α} {b : Option (α × Mm)} (h : Iv k μ) (hk : k < 512) (hq : QP c b μ) : Sq k c b := by
  obtain ⟨v, h1, h2⟩ := hq
  exact ⟨v, _, h1, h2, h.th hk⟩
theorem s_bySeniority (h : Iv k μ) (hk : k < 512) (p : Int32) : Sq k (F_X3_bySeniority p μ) (F_X4_bySeniority p μ) := sq_of h hk (q_bySeniority h.bo p)
theorem s_claims (h : Iv k μ) (hk : k < 512) : Sq k (F_X3_claims μ) (F_X4_claims μ) := sq_of h hk (q_claims h.bo)
theorem s_bankedInAll (h : Iv k μ) (hk : k < 512) : Sq k (F_X3_bankedInAll μ) (F_X4_bankedInAll μ) := sq_of h hk (q_bankedInAll h.bo)
theorem s_lostInAll (h : Iv k μ) (hk : k < 512) : Sq k (F_X3_lostInAll μ) (F_X4_lostInAll μ) := sq_of h hk (q_lostInAll h.bo)
theorem s_releasedInAll (h : Iv k μ) (hk : k < 512) : Sq k (F_X3_releasedInAll μ) (F_X4_releasedInAll μ) := sq_of h hk (q_releasedInAll h.bo)
theorem s_call (h : Iv k μ) (hk : k < 512) : Sq k (F_X3_call μ) (F_X4_call μ) := sq_of h hk (q_call h.bo)
theorem s_outflow (h : Iv k μ) (hk : k < 512) : Sq k (F_X3_outflow μ) (F_X4_outflow μ) := sq_of h hk (q_outflow h.bo)
theorem s_dryGauges (h : Iv k μ) (hk : k < 512) : Sq k (F_X3_dryGauges μ) (F_X4_dryGauges μ) := sq_of h hk (q_dryGauges h.bo)
theorem s_isBalanced (h : Iv k μ) (hk : k < 512) : Sq k (F_X3_isBalanced μ) (F_X4_isBalanced μ) := sq_of h hk (q_isBalanced h.bo)
theorem s_areAccountsRight (h : Iv k μ) (hk : k < 512) : Sq k (F_X3_areAccountsRight μ) (F_X4_areAccountsRight μ) := sq_of h hk (q_areAccountsRight h.bo)
theorem s_richest (h : Iv k μ) (hk : k < 512) : Sq k (F_X3_richest μ) (F_X4_richest μ) := sq_of h hk (q_richest h.bo)
theorem s_nextExercise (h : Iv k μ) (hk : k < 512) : Sq k (F_X3_nextExercise μ) (F_X4_nextExercise μ) := sq_of h hk (q_nextExercise h.bo)
theorem s_served (h : Iv k μ) (hk : k < 512) : Sq k (F_X3_served μ) (F_X4_served μ) := sq_of h hk (q_served h.bo)
theorem s_meanGot (h : Iv k μ) (hk : k < 512) : Sq k (F_X3_meanGot μ) (F_X4_meanGot μ) := sq_of h hk (q_meanGot h.bo)
theorem s_errorOffset (h : Iv k μ) (hk : k < 512) : Sq k (F_X3_errorOffset μ) (F_X4_errorOffset μ) := by
  obtain ⟨v, h1, h2⟩ := q_errOff h.2.1
  exact ⟨v, _, h1, h2, h.th hk⟩
theorem s_errorKind (h : Iv k μ) (hk : k < 512) : Sq k (F_X3_errorKind μ) (F_X4_errorKind μ) := by
  obtain ⟨v, h1, h2⟩ := q_errKind h.2.1
  exact ⟨v, _, h1, h2, h.th hk⟩
theorem s_append (h : Iv k μ) (hk : k < 512) (p1 p2 p3 p4 p5 : Int32) : Sd k (F_X3_append p1 p2 p3 p4 p5 μ) (F_X4_append p1 p2 p3 p4 p5) := by
  obtain ⟨v, μ1, μ2, h1, h2, h3, h4, h5, h6⟩ := a_append h.1 h.2.1 p1 p2 p3 p4 p5
  exact ⟨v, μ1, μ2, h1, h2, h4.mono hk, h5, h.2.2.ke h6⟩
theorem s_truncate (h : Iv k μ) (hk : k < 512) (p : Int32) : Sd k (F_X3_truncate p μ) (F_X4_truncate p) := by
  obtain ⟨v, μ1, μ2, h1, h2, h3, h4, h5, h6⟩ := a_truncate h.1 h.2.1 p
  exact ⟨v, μ1, μ2, h1, h2, h4.mono hk, h5, h.2.2.ke h6⟩
theorem s_undo (h : Iv k μ) (hk : k < 512) : Sd k (F_X3_undo μ) F_X4_undo := by
  obtain ⟨v, μ1, μ2, h1, h2, h3⟩ := a_undo h.1 hk
  exact ⟨v, μ1, μ2, h1, h2, h.pa h3⟩
theorem s_undoDepth (h : Iv k μ) (hk : k < 512) : Sq k (F_X3_undoDepth μ) (F_X4_undoDepth μ) := by
  obtain ⟨c, p, S, q1, q2, q3⟩ := h.1.2.2.2.1
  refine ⟨nI c, uI μ 295 0 0, congrArg some q1.1, ?_, h.th hk⟩
  have e : (uI μ 295 0 0).1 295 8 = nI c := by
    rw [uI_eq]
    exact (if_neg (by decide)).trans q2.1
  unfold F_X4_undoDepth
  refine be_ rfl ?_
  rw [e]
theorem s_formattedByte (h : Iv k μ) (hk : k < 512) (p : Int32) : ∃ n t, (TB μ n t ∧ (n ≤ 1000 ∧ ∀ k, k < n → ∃ b, b < 128 ∧ t k = nI b)) ∧ ∃ μ2, F_X4_formattedByte p μ = some (fbV n t p, μ2) ∧ Iv (k + 1) μ2 := by
  obtain ⟨n, t, h1, h2⟩ := q_fByte h.2.2 p
  exact ⟨n, t, h1, _, h2, h.th hk⟩
end IVA
