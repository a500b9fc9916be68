/-! ===== the reference: banks, flows, the history ===== -/
theorem m_103 {s : Nat → Int32} (h1 : Bn s 1 5) (h6 : Bn s 6 50) (hB : ∀ a, a < ct s 1 → s (26 + a) = nI (ct s (26 + a)) ∧ ct s (26 + a) * ct s 6 + 99 < 2 ^ 31) : ∀ (d m q : Nat) (μ : Mm), q + d = ct s 1 → d < m → μ.1 296 = bkS s q → Op (F_X4_endsMonth_103 m (nI q) μ) (fun μ' => μ'.1 296 = bkS s (ct s 1) ∧ Fs F296 μ μ') := by
  have h15 := h1.2
  have lo : ∀ q j, j < 26 → bkS s q j = s j := fun q j hj => by unfold bkS; rw [if_neg (by omega), if_neg (by omega)]
  intro d
  induction d with
  | zero =>
    intro m q μ hq hm e1
    obtain ⟨m, rfl⟩ : ∃ z, m = z + 1 := ⟨m - 1, by omega⟩
    rw [F_X4_endsMonth_103]
    refine op_eb (mg (k := 1) rfl (by decide)) ?_
    rw [e1, lo q 1 (by decide), h1.1, if_pos (nI_le (by omega) (by omega))]
    obtain rfl : q = ct s 1 := by omega
    exact op_r ⟨e1, Fs.rf⟩
  | succ d ih =>
    intro m q μ hq hm e1
    obtain ⟨m, rfl⟩ : ∃ z, m = z + 1 := ⟨m - 1, by omega⟩
    obtain ⟨b1, b2⟩ := hB q (by omega)
    have e26 : bkS s q (26 + q) = s (26 + q) := by unfold bkS; rw [if_neg (by omega), if_neg (by omega)]
    have e54 : bkS s q 54 = s 54 + sumF (fun a => nI (lossN s (26 + a))) q := by unfold bkS; rw [if_neg (by omega), if_pos rfl]
    rw [F_X4_endsMonth_103]
    refine op_eb (mg (k := 1) rfl (by decide)) ?_
    rw [e1, lo q 1 (by decide), h1.1, if_neg (nI_ge (by omega) (by omega))]
    refine op_eb (mg (k := 26 + q) (nI_add 26 q) (by omega)) (op_eb (mg (k := 6) rfl (by decide)) (op_eb (mg (k := 26 + q) (nI_add 26 q) (by omega)) ?_))
    rw [e1, e26, lo q 6 (by decide)]
    have el : (s (26 + q) * s 6 + 99) / 100 = nI (lossN s (26 + q)) := by
      rw [b1, h6.1, pk_mul, show (99 : Int32) = nI 99 from rfl, nI_add]
      exact pk_div (d := 100) b2 (by decide) (by decide)
    rw [el]
    refine op_mb (ms (k := 26 + q) (nI_add 26 q) (by omega)) (fun m2 w2 => ?_)
    refine op_eb (mg (k := 54) rfl (by decide)) ?_
    refine op_mb (ms (k := 54) rfl (by decide)) (fun m3 w3 => ?_)
    rw [nI_1]
    refine op_m (ih m (q + 1) m3 (by omega) (by omega) ?_) (fun μ' z => ⟨z.1, (w2.2.tr w3.2).tr z.2⟩)
    rw [w3.1, w2.1, e1, pk_un (show 54 ≠ 26 + q by omega), e54]
    funext j
    unfold upd
    by_cases e : j = 54
    · rw [if_pos e, e]
      unfold bkS
      rw [if_neg (by omega), if_pos rfl, sumF_s, Int32.add_assoc]
    · rw [if_neg e]
      by_cases e2 : j = 26 + q
      · rw [if_pos e2, e2]
        unfold bkS
        rw [if_pos (by omega)]
      · rw [if_neg e2]
        unfold bkS
        by_cases e3 : 26 ≤ j ∧ j < 26 + q
        · rw [if_pos e3, if_pos (by omega)]
        · rw [if_neg e3, if_neg e, if_neg (by omega), if_neg e]
theorem m_169 {s fl : Nat → Int32} (h0 : Bn s 0 6) : ∀ (d m q : Nat) (μ : Mm), q + d = ct s 0 → d < m → μ.1 296 = flS s fl q → μ.1 307 = fl → Op (F_X4_endsMonth_169 m (nI q) μ) (fun μ' => μ'.1 296 = flS s fl (ct s 0) ∧ Fs F296 μ μ') := by
  have h06 := h0.2
  intro d
  induction d with
  | zero =>
    intro m q μ hq hm e1 e2
    obtain ⟨m, rfl⟩ : ∃ z, m = z + 1 := ⟨m - 1, by omega⟩
    have lo : flS s fl q 0 = s 0 := by unfold flS; rw [if_neg (by omega), if_neg (by omega)]
    rw [F_X4_endsMonth_169]
    refine op_eb (mg (k := 0) rfl (by decide)) ?_
    rw [e1, lo, h0.1, if_pos (nI_le (by omega) (by omega))]
    obtain rfl : q = ct s 0 := by omega
    exact op_r ⟨e1, Fs.rf⟩
  | succ d ih =>
    intro m q μ hq hm e1 e2
    obtain ⟨m, rfl⟩ : ∃ z, m = z + 1 := ⟨m - 1, by omega⟩
    have lo : flS s fl q 0 = s 0 := by unfold flS; rw [if_neg (by omega), if_neg (by omega)]
    rw [F_X4_endsMonth_169]
    refine op_eb (mg (k := 0) rfl (by decide)) ?_
    rw [e1, lo, h0.1, if_neg (nI_ge (by omega) (by omega))]
    refine op_eb (aI_ok (k := q) rfl (by rw [ln307]; omega)) ?_
    refine op_mb (ms (k := 394 + 5 * q + 2) (ix3 394 5 q 2) (by omega)) (fun m2 w2 => ?_)
    refine op_mb (ms (k := 20 + q) (nI_add 20 q) (by omega)) (fun m3 w3 => ?_)
    rw [nI_1]
    have fr := w2.2.tr w3.2
    refine op_m (ih m (q + 1) m3 (by omega) (by omega) ?_ ((fr.1 307 (by decide)).1.trans e2)) (fun μ' z => ⟨z.1, fr.tr z.2⟩)
    rw [w3.1, w2.1, e1, e2]
    funext j
    unfold upd flS
    by_cases e : j = 20 + q
    · rw [if_pos e, if_pos (by omega)]
    · rw [if_neg e]
      by_cases e2 : j = 394 + 5 * q + 2
      · rw [if_pos e2, if_neg (by omega), e2, if_pos (show 394 ≤ 394 + 5 * q + 2 ∧ 394 + 5 * q + 2 < 394 + 5 * (q + 1) ∧ (394 + 5 * q + 2 - 394) % 5 = 2 by omega), show (394 + 5 * q + 2 - 394) / 5 = q by omega]
      · rw [if_neg e2]
        by_cases e3 : 20 ≤ j ∧ j < 20 + q
        · rw [if_pos e3, if_pos (by omega)]
        · rw [if_neg e3, if_neg (show ¬ (20 ≤ j ∧ j < 20 + (q + 1)) by omega)]
          by_cases e4 : 394 ≤ j ∧ j < 394 + 5 * q ∧ (j - 394) % 5 = 2
          · rw [if_pos e4, if_pos (by omega)]
          · rw [if_neg e4, if_neg (by omega)]
theorem m_rem4 {s : Nat → Int32} {u : Int32} : ∀ (d m : Nat) (μ : Mm), d ≤ 92 → d < m → μ.1 296 = shS s (428 + d) → Op (F_X4_remembers_4 u m (nI (428 + d)) μ) (fun μ' => μ'.1 296 = shS s 428 ∧ Fs F296 μ μ') := by
  intro d
  induction d with
  | zero =>
    intro m μ _ hm e1
    obtain ⟨m, rfl⟩ : ∃ z, m = z + 1 := ⟨m - 1, by omega⟩
    rw [F_X4_remembers_4]
    exact op_t (show nI 428 < 429 by decide) (op_r ⟨e1, Fs.rf⟩)
  | succ d ih =>
    intro m μ hd hm e1
    obtain ⟨m, rfl⟩ : ∃ z, m = z + 1 := ⟨m - 1, by omega⟩
    rw [F_X4_remembers_4]
    refine op_f (show ¬ nI (428 + (d + 1)) < nI 429 from nI_nlt (by omega) (by omega)) ?_
    refine op_eb (mg (k := 428 + (d + 1) - 4) (show nI (428 + (d + 1)) - nI 4 = _ from pk_sub (by omega)) (by omega)) ?_
    refine op_mb (ms (k := 428 + (d + 1)) rfl (by omega)) (fun m2 w2 => ?_)
    rw [← Int32.sub_eq_add_neg, nI_sub1 (by omega), show 428 + (d + 1) - 1 = 428 + d by omega]
    refine op_m (ih m m2 (by omega) (by omega) ?_) (fun μ' z => ⟨z.1, w2.2.tr z.2⟩)
    rw [w2.1, e1]
    funext j
    unfold upd shS
    by_cases e : j = 428 + (d + 1)
    · rw [if_pos e, e, if_neg (show ¬ (428 + (d + 1) < 428 + (d + 1) - 4 ∧ 428 + (d + 1) - 4 ≤ 520) by omega), if_pos (by omega)]
    · rw [if_neg e]
      by_cases e3 : 428 + (d + 1) < j ∧ j ≤ 520
      · rw [if_pos e3, if_pos (by omega)]
      · rw [if_neg e3, if_neg (by omega)]
section MQ
variable {μ : Mm}
theorem m_151 (h56 : Bn (μ.1 296) 56 19) : ∀ (d m i : Nat), i + d = ct (μ.1 296) 56 → d < m → F_X4_month_151 μ m (sumF (fun c => μ.1 296 (242 + 8 * c + 5)) i) (nI i) = some (sumF (fun c => μ.1 296 (242 + 8 * c + 5)) (ct (μ.1 296) 56)) := by
  have h19 := h56.2
  intro d
  induction d with
  | zero =>
    intro m i hi hm
    obtain ⟨m, rfl⟩ : ∃ z, m = z + 1 := ⟨m - 1, by omega⟩
    rw [F_X4_month_151]
    refine be_ (mg (k := 56) rfl (by decide)) ?_
    rw [h56.1, if_pos (nI_le (by omega) (by omega)), show i = ct (μ.1 296) 56 by omega]
  | succ d ih =>
    intro m i hi hm
    obtain ⟨m, rfl⟩ : ∃ z, m = z + 1 := ⟨m - 1, by omega⟩
    rw [F_X4_month_151]
    refine be_ (mg (k := 56) rfl (by decide)) ?_
    rw [h56.1, if_neg (nI_ge (by omega) (by omega))]
    refine be_ (show F_X4_claimOf (nI i) 5 μ = _ from m_cO (k := 5) (by omega) (by decide)) ?_
    rw [nI_1]
    exact ih m (i + 1) (by omega) (by omega)
/-- the claims' rights are numbers of rights -/
def CRt (s : Nat → Int32) : Prop := ∀ c, c < ct s 56 → s (242 + 8 * c + 1) = nI (ct s (242 + 8 * c + 1)) ∧ ct s (242 + 8 * c + 1) < 10
theorem m_calL (h56 : Bn (μ.1 296) 56 19) (hR : CRt (μ.1 296)) : ∀ (d m i : Nat), i + d = ct (μ.1 296) 56 → d < m → F_X4_calledNow_4 μ m (calN (μ.1 296) i) (nI i) = some (calN (μ.1 296) (ct (μ.1 296) 56)) := by
  have h19 := h56.2
  intro d
  induction d with
  | zero =>
    intro m i hi hm
    obtain ⟨m, rfl⟩ : ∃ z, m = z + 1 := ⟨m - 1, by omega⟩
    rw [F_X4_calledNow_4]
    refine be_ (mg (k := 56) rfl (by decide)) ?_
    rw [h56.1, if_pos (nI_le (by omega) (by omega)), show i = ct (μ.1 296) 56 by omega]
  | succ d ih =>
    intro m i hi hm
    obtain ⟨m, rfl⟩ : ∃ z, m = z + 1 := ⟨m - 1, by omega⟩
    obtain ⟨r1, r2⟩ := hR i (by omega)
    rw [F_X4_calledNow_4]
    refine be_ (mg (k := 56) rfl (by decide)) ?_
    rw [h56.1, if_neg (nI_ge (by omega) (by omega))]
    refine be_ ((show F_X4_claimOf (nI i) 1 μ = _ from m_cO (k := 1) (by omega) (by decide)).trans (congrArg some r1)) ?_
    refine be_ (show F_X4_rightOf _ 2 μ = _ from m_rO (k := 2) r2 (by decide)) ?_
    refine be_ (show F_X4_claimOf (nI i) 5 μ = _ from m_cO (k := 5) (by omega) (by decide)) ?_
    refine be_ (show F_X4_claimOf (nI i) 4 μ = _ from m_cO (k := 4) (by omega) (by decide)) ?_
    rw [nI_1]
    refine be_ (a := calN (μ.1 296) (i + 1)) ?_ (ih m (i + 1) (by omega) (by omega))
    rw [calN]
    by_cases e1 : μ.1 296 (242 + 8 * i + 4) ≤ μ.1 296 (242 + 8 * i + 5)
    · rw [if_pos e1, if_neg (fun z => absurd z.1 (Int32.not_lt.mpr e1))]
    · rw [if_neg e1]
      by_cases e2 : calN (μ.1 296) i = -1
      · rw [if_pos e2, if_pos ⟨Int32.not_le.mp e1, Or.inl e2⟩]
      · rw [if_neg e2]
        by_cases e3 : calN (μ.1 296) i ≤ μ.1 296 (58 + 10 * ct (μ.1 296) (242 + 8 * i + 1) + 2)
        · rw [if_pos e3, if_neg (fun z => z.2.elim e2 (fun y => absurd y (Int32.not_lt.mpr e3)))]
        · rw [if_neg e3, if_pos ⟨Int32.not_le.mp e1, Or.inr (Int32.not_le.mp e3)⟩]
theorem m_called (h56 : Bn (μ.1 296) 56 19) (hR : CRt (μ.1 296)) : F_X4_calledNow μ = some (calN (μ.1 296) (ct (μ.1 296) 56)) := by
  have h19 := h56.2
  unfold F_X4_calledNow
  exact be_ (m_calL h56 hR (ct (μ.1 296) 56) qFuel 0 (by omega) (by unfold qFuel; omega)) rfl
theorem m_outN (h0 : Bn (μ.1 296) 0 6) : F_X4_outflowNow μ = some (if ct (μ.1 296) 0 = 0 then 0 else μ.1 296 (394 + 5 * (ct (μ.1 296) 0 - 1) + 2)) := by
  have h6 := h0.2
  unfold F_X4_outflowNow
  refine be_ (mg (k := 0) rfl (by decide)) ?_
  rw [h0.1]
  by_cases e : ct (μ.1 296) 0 = 0
  · rw [if_pos (by rw [e]; rfl), if_pos e]
  · rw [if_neg (nI_ne0 (by omega) (by omega)), if_neg e]
    refine be_ (mg (k := 0) rfl (by decide)) ?_
    rw [h0.1, nI_sub1 (by omega)]
    exact be_ (show F_X4_gaugeOf _ 2 μ = _ from m_gO (k := 2) (by omega) (by decide)) rfl
end MQ
theorem m_14 {s : Nat → Int32} (h4 : Bn s 4 6) (hv : Rv s) (hO : ORows s (OSo s)) : ∀ (d m i : Nat) (g : Nat → Int64) (μ : Mm), i + d = ct s 4 → d < m → (∀ row, row ∈ rwT s 206 i d → ORow s row) → μ.1 296 5 = s 5 → (∀ j, Sta j → μ.1 296 j = s j) → μ.2.1 300 = g → Op (F_X4_month_14 m (nI i) μ) (fun μ' => μ'.2.1 300 = (if ct s 5 % 12 = 0 then prm s (rwT s 206 i d) g else g) ∧ Fs (fun a => a = 300) μ μ') := by
  have h46 := h4.2
  have ht := hv.vt.2.1
  have h2 := hv.2.2.1.2
  have h1 := hv.2.1.2
  intro d
  induction d with
  | zero =>
    intro m i g μ hi hm hr e5 hs e1
    obtain ⟨m, rfl⟩ : ∃ z, m = z + 1 := ⟨m - 1, by omega⟩
    rw [F_X4_month_14]
    refine op_eb (mg (k := 4) rfl (by decide)) ?_
    rw [hs 4 (Or.inl (by decide)), h4.1, if_pos (nI_le (by omega) (by omega)), rwT, prm, ite_self]
    exact op_r ⟨e1, Fs.rf⟩
  | succ d ih =>
    intro m i g μ hi hm hr e5 hs e1
    obtain ⟨m, rfl⟩ : ∃ z, m = z + 1 := ⟨m - 1, by omega⟩
    have hrow := hr _ List.mem_cons_self
    have gt : ∀ k, k < 6 → F_X4_optionOf (nI i) (nI k) μ = some (rwR s 206 i k) := fun k hk => (m_oO (by omega) hk).trans (congrArg some (by rw [hs _ (StaL (by omega)), rwR_k hk]))
    rw [F_X4_month_14]
    refine op_eb (mg (k := 4) rfl (by decide)) ?_
    rw [hs 4 (Or.inl (by decide)), h4.1, if_neg (nI_ge (by omega) (by omega))]
    refine op_eb (mg (k := 5) rfl (by decide)) ?_
    rw [e5, hv.vt.1, x_rem12 (by omega)]
    by_cases e : ct s 5 % 12 = 0
    · refine op_t (by rw [e]; rfl) ?_
      rw [if_pos e, rwT, prm]
      have hf := hv.2.2.2.2.2 _ hrow.1.1.2
      refine op_eb ((gt 1 (by decide)).trans (congrArg some hrow.1.2.1.1)) ?_
      refine op_eb ((gt 0 (by decide)).trans (congrArg some hrow.1.1.1)) ?_
      have hr0 := hrow.1.1.2
      refine op_eb (a := nI (ct s (58 + 10 * ct (rwR s 206 i) 0 + 0))) ((show F_X4_rightOf (nI (ct (rwR s 206 i) 0)) 0 μ = _ from m_rO (k := 0) (by omega) (by decide)).trans (congrArg some ((hs _ (StaR (by omega) (by decide))).trans hf.1.1))) ?_
      refine op_eb (gt 4 (by decide)) ?_
      have ho := hf.1.2
      have ha := hrow.1.2.1.2
      refine op_mb (m_pays (by omega) (by omega)) (fun μ2 w => ?_)
      rw [nI_1]
      have e296 : μ2.1 296 = μ.1 296 := (w.2.1 296 (by decide)).1
      have I := ih m (i + 1) (pay g (ct (rwR s 206 i) 1) (ct s (58 + 10 * ct (rwR s 206 i) 0 + 0)) (rwR s 206 i 4).toInt64) μ2 (by omega) (by omega) (fun row hr' => hr row (List.mem_cons_of_mem _ hr')) (by rw [e296]; exact e5) (by rw [e296]; exact hs) (by rw [w.1, e1])
      rw [if_pos e] at I
      exact op_m I (fun μ' z => ⟨z.1, w.2.tr z.2⟩)
    · refine op_f (nI_ne0 (by omega) (by omega)) ?_
      rw [if_neg e]
      exact op_r ⟨e1, Fs.rf⟩
