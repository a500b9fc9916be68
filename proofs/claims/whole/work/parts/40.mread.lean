/-! ===== the reference: reading ===== -/
theorem ln296 : ln 296 = 521 := by decide +kernel
theorem ln297 : ln 297 = 521 := by decide +kernel
theorem ln298 : ln 298 = 521 := by decide +kernel
theorem ln299 : ln 299 = 4168 := by decide +kernel
theorem ln300 : ln 300 = 15 := by decide +kernel
theorem ln301 : ln 301 = 15 := by decide +kernel
theorem ln302 : ln 302 = 120 := by decide +kernel
theorem ln303 : ln 303 = 1042 := by decide +kernel
theorem ln304 : ln 304 = 30 := by decide +kernel
theorem ln305 : ln 305 = 2 := by decide +kernel
theorem ln306 : ln 306 = 900 := by decide +kernel
theorem ln307 : ln 307 = 6 := by decide +kernel
theorem ln308 : ln 308 = 10 := by decide +kernel
theorem ln309 : ln 309 = 10 := by decide +kernel
theorem ln310 : ln 310 = 400 := by decide +kernel
theorem ix3 (a b r k : Nat) : nI a + nI b * nI r + nI k = nI (a + b * r + k) := by rw [pk_mul, nI_add, nI_add]
theorem ix2 (a b r : Nat) : nI a + nI b * nI r = nI (a + b * r) := by rw [pk_mul, nI_add]
section MRD
variable {μ : Mm}
theorem mg {i : Int32} {k : Nat} (hi : i = nI k) (hk : k < 521) : aI μ 296 i = some (μ.1 296 k) := aI_ok hi (by rw [ln296]; exact hk)
theorem ms {i v : Int32} {k : Nat} (hi : i = nI k) (hk : k < 521) : Op (sI μ 296 i v) (fun μ' => μ'.1 296 = upd (μ.1 296) k v ∧ Fs (fun a => a = 296) μ μ') := op_e (sI_ok hi (by rw [ln296]; exact hk)) ⟨uI_eq, Fs.uI rfl⟩
theorem m_rt {r k : Nat} : F_X4_rightAt (nI r) (nI k) μ = some (nI (58 + 10 * r + k)) := congrArg some (ix3 58 10 r k)
theorem m_rO {r k : Nat} (hr : r < 10) (hk : k < 10) : F_X4_rightOf (nI r) (nI k) μ = some (μ.1 296 (58 + 10 * r + k)) := by
  unfold F_X4_rightOf
  exact be_ m_rt (be_ (mg rfl (by omega)) rfl)
theorem m_lO {r k : Nat} (hr : r < 8) (hk : k < 6) : F_X4_leaseOf (nI r) (nI k) μ = some (μ.1 296 (158 + 6 * r + k)) := be_ (mg (ix3 158 6 r k) (by omega)) rfl
theorem m_oO {r k : Nat} (hr : r < 6) (hk : k < 6) : F_X4_optionOf (nI r) (nI k) μ = some (μ.1 296 (206 + 6 * r + k)) := be_ (mg (ix3 206 6 r k) (by omega)) rfl
theorem m_gO {r k : Nat} (hr : r < 6) (hk : k < 5) : F_X4_gaugeOf (nI r) (nI k) μ = some (μ.1 296 (394 + 5 * r + k)) := be_ (mg (ix3 394 5 r k) (by omega)) rfl
theorem m_cO {r k : Nat} (hr : r < 19) (hk : k < 8) : F_X4_claimOf (nI r) (nI k) μ = some (μ.1 296 (242 + 8 * r + k)) := be_ (mg (ix3 242 8 r k) (by omega)) rfl
theorem m_yr (hv : Vt (μ.1 296)) {y : Nat} (hy : y < 2 ^ 31) : F_X4_percentOf (nI y) μ = some (yrP (μ.1 296) y) := by
  obtain ⟨-, -, e7, h1, h5⟩ := hv
  have hm := Nat.mod_lt y (show 0 < ct (μ.1 296) 7 by omega)
  unfold F_X4_percentOf
  refine be_ (mg (k := 7) rfl (by decide)) ?_
  rw [e7]
  unfold irm
  rw [if_neg (nI_ne0 (by omega) (by omega)), pk_rem hy (by omega) (by omega)]
  exact be_ rfl (be_ (mg (k := 48 + y % ct (μ.1 296) 7) (nI_add 48 _) (by omega)) rfl)
theorem m_com (hv : Vt (μ.1 296)) {r : Nat} (hr : r < 6) : F_X4_comingTo (nI r) μ = some (comN (μ.1 296) r) := by
  have ht := hv.2.1
  have hm := Nat.mod_lt (ct (μ.1 296) 5) (show 0 < 12 by decide)
  unfold F_X4_comingTo
  refine be_ (mg (k := 8 + r) (nI_add 8 r) (by omega)) (be_ (mg (k := 5) rfl (by decide)) ?_)
  rw [hv.1, x_rem12 (by omega)]
  refine be_ (mg (k := 36 + ct (μ.1 296) 5 % 12) (nI_add 36 _) (by omega)) (be_ (mg (k := 5) rfl (by decide)) ?_)
  rw [hv.1, x_div12 (by omega)]
  exact be_ (m_yr hv (by omega)) (be_ (mg (k := 20 + r) (nI_add 20 r) (by omega)) rfl)
theorem m_exe (hv : Vt (μ.1 296)) {o k : Nat} (ho : o < 6) (hk : k < 100) : F_X4_isExercised (nI o) (nI k) μ = some (if yrP (μ.1 296) ((ct (μ.1 296) 5 + k) / 12) < μ.1 296 (206 + 6 * o + 3) then 1 else 0) := by
  have ht := hv.2.1
  unfold F_X4_isExercised
  refine be_ (mg (k := 5) rfl (by decide)) ?_
  rw [hv.1, nI_add, x_div12 (by omega)]
  refine be_ (m_yr hv (by omega)) (be_ (m_oO (k := 3) ho (by decide)) ?_)
  by_cases e : μ.1 296 (206 + 6 * o + 3) ≤ yrP (μ.1 296) ((ct (μ.1 296) 5 + k) / 12)
  · rw [if_pos e, if_neg (Int32.not_lt.mpr e)]
  · rw [if_neg e, if_pos (Int32.not_le.mp e)]
theorem m_part {x k : Nat} (h : x * k < 2 ^ 31) : F_X4_part (nI x) (nI k) μ = some (nI (x * k / 100)) := congrArg some (pct h)
theorem m_les {a b : Nat} (ha : a < 2 ^ 31) (hb : b < 2 ^ 31) : F_X4_lesser (nI a) (nI b) μ = some (nI (if b < a then b else a)) := by
  unfold F_X4_lesser
  by_cases e : b ≤ a
  · rw [if_pos (nI_le e ha)]
    by_cases e2 : b < a
    · rw [if_pos e2]
    · rw [if_neg e2, show a = b by omega]
  · rw [if_neg (nI_ge (by omega) hb), if_neg (by omega)]
theorem m_wout {r v : Nat} (hr : r < 10) (hv : v ≤ 999) (h4 : Bn (μ.1 296) (58 + 10 * r + 4) 90) : F_X4_without (nI v) (nI r) μ = some (nI (wout (μ.1 296) r v)) := by
  have h2 := h4.2
  unfold F_X4_without
  refine be_ (m_rO (k := 4) hr (by decide)) ?_
  rw [h4.1, show (100 : Int32) - nI (ct (μ.1 296) (58 + 10 * r + 4)) = nI (100 - ct (μ.1 296) (58 + 10 * r + 4)) from pk_sub (a := 100) (by omega)]
  have : v * (100 - ct (μ.1 296) (58 + 10 * r + 4)) ≤ v * 100 := Nat.mul_le_mul_left _ (by omega)
  rw [pct (by omega)]
  rfl
theorem m_lowers {x k to q : Nat} (hk : k ≤ x) (ht : to < 100) (hq : q < 100) : F_X4_lowers (nI x) (nI k) (nI to) (nI q) μ = some (nI (if to ≤ q then x - k else x)) := by
  unfold F_X4_lowers
  by_cases e : to ≤ q
  · rw [if_neg (nI_nlt e (by omega)), if_pos e, pk_sub hk]
  · rw [if_pos (nI_lt (by omega) (by omega)), if_neg e]
end MRD
/-! seniority -/
section SEN
variable {μ : Mm}
theorem m_ahead (h2 : Bn (μ.1 296) 2 10) {r : Nat} (hr : r < ct (μ.1 296) 2) (u : Int32) : ∀ (d m o : Nat), o + d = ct (μ.1 296) 2 → d < m → F_X4_seniorAt_17 u (nI r) μ m (nI (ahead (μ.1 296) r o)) (nI o) = some (nI (ahead (μ.1 296) r (ct (μ.1 296) 2))) := by
  have h10 := h2.2
  intro d
  induction d with
  | zero =>
    intro m o ho hm
    obtain ⟨m, rfl⟩ : ∃ z, m = z + 1 := ⟨m - 1, by omega⟩
    rw [F_X4_seniorAt_17]
    refine be_ (mg (k := 2) rfl (by decide)) ?_
    rw [h2.1, if_pos (nI_le (by omega) (by omega)), show o = ct (μ.1 296) 2 by omega]
  | succ d ih =>
    intro m o ho hm
    obtain ⟨m, rfl⟩ : ∃ z, m = z + 1 := ⟨m - 1, by omega⟩
    rw [F_X4_seniorAt_17]
    refine be_ (mg (k := 2) rfl (by decide)) ?_
    rw [h2.1, if_neg (nI_ge (by omega) (by omega))]
    refine be_ (m_rO (k := 2) (by omega) (by decide)) (be_ (m_rO (k := 2) (by omega) (by decide)) ?_)
    have e1 : (if μ.1 296 (58 + 10 * r + 2) ≤ μ.1 296 (58 + 10 * o + 2) then some (0 : Int32) else some 1) = some (nI (if μ.1 296 (58 + 10 * o + 2) < μ.1 296 (58 + 10 * r + 2) then 1 else 0)) := by
      by_cases e : μ.1 296 (58 + 10 * r + 2) ≤ μ.1 296 (58 + 10 * o + 2)
      · rw [if_pos e, if_neg (Int32.not_lt.mpr e)]
        rfl
      · rw [if_neg e, if_pos (Int32.not_le.mp e)]
        rfl
    refine be_ e1 ?_
    rw [nI_add, nI_1]
    exact ih m (o + 1) (by omega) (by omega)
theorem m_senL (h2 : Bn (μ.1 296) 2 10) {u : Int32} : ∀ (d m r : Nat), r + d = ct (μ.1 296) 2 → d < m → (∀ k, u = nI k → k < 2 ^ 31 → F_X4_seniorAt_2 u μ m (nI r) = some ((senF (μ.1 296) (ct (μ.1 296) 2) k d r).elim (-1) nI)) ∧ ((∀ k, k < 2 ^ 31 → u ≠ nI k) → F_X4_seniorAt_2 u μ m (nI r) = some (-1)) := by
  have h10 := h2.2
  intro d
  induction d with
  | zero =>
    intro m r hr hm
    obtain ⟨m, rfl⟩ : ∃ z, m = z + 1 := ⟨m - 1, by omega⟩
    have e : F_X4_seniorAt_2 u μ (m + 1) (nI r) = some (-1) := by
      rw [F_X4_seniorAt_2]
      refine be_ (mg (k := 2) rfl (by decide)) ?_
      rw [h2.1, if_pos (nI_le (by omega) (by omega))]
    exact ⟨fun k _ _ => e, fun _ => e⟩
  | succ d ih =>
    intro m r hr hm
    obtain ⟨m, rfl⟩ : ∃ z, m = z + 1 := ⟨m - 1, by omega⟩
    have hal := ahead_le (μ.1 296) r (ct (μ.1 296) 2)
    have e : F_X4_seniorAt_2 u μ (m + 1) (nI r) = if nI (ahead (μ.1 296) r (ct (μ.1 296) 2)) = u then some (nI r) else F_X4_seniorAt_2 u μ m (nI (r + 1)) := by
      rw [F_X4_seniorAt_2]
      refine be_ (mg (k := 2) rfl (by decide)) ?_
      rw [h2.1, if_neg (nI_ge (by omega) (by omega))]
      refine be_ (m_ahead h2 (by omega) u (ct (μ.1 296) 2) qFuel 0 (by omega) (by unfold qFuel; omega)) ?_
      rw [nI_1]
    obtain ⟨i1, i2⟩ := ih m (r + 1) (by omega) (by omega)
    refine ⟨fun k hk hk2 => ?_, fun hn => ?_⟩
    · rw [e, senF]
      by_cases e2 : ahead (μ.1 296) r (ct (μ.1 296) 2) = k
      · rw [if_pos (by rw [e2, hk]), if_pos e2]
        rfl
      · rw [if_neg (fun z => e2 (nI_inj (by omega) hk2 (z.trans hk))), if_neg e2]
        exact i1 k hk hk2
    · rw [e, if_neg (fun z => hn _ (by omega) z.symm)]
      exact i2 hn
theorem m_sen (h2 : Bn (μ.1 296) 2 10) {k : Nat} (hk : k < 2 ^ 31) : F_X4_seniorAt (nI k) μ = some (senI (μ.1 296) k) := by
  have h10 := h2.2
  exact (m_senL (u := nI k) h2 (ct (μ.1 296) 2) qFuel 0 (by omega) (by unfold qFuel; omega)).1 k rfl hk
theorem m_senO (h2 : Bn (μ.1 296) 2 10) {u : Int32} (hu : u < 0) : F_X4_seniorAt u μ = some (-1) := by
  have h10 := h2.2
  exact (m_senL (u := u) h2 (ct (μ.1 296) 2) qFuel 0 (by omega) (by unfold qFuel; omega)).2 (fun k hk z => absurd hu (z ▸ nI_pos hk))
end SEN
/-! flows -/
theorem comN_eq {s s' : Nat → Int32} (h : ∀ j, j < 57 → s' j = s j) {r : Nat} (hr : r < 6) (h7 : ct s 7 ≤ 5) (h1 : 1 ≤ ct s 7) : comN s' r = comN s r := by
  have hm := Nat.mod_lt (ct s 5) (show 0 < 12 by decide)
  have hy := Nat.mod_lt (ct s 5 / 12) (show 0 < ct s 7 by omega)
  unfold comN yrP
  rw [ct_eq (h 5 (by decide)), ct_eq (h 7 (by decide)), h _ (by omega), h _ (by omega), h _ (by omega), h _ (by omega)]
def lay0 (s : Nat → Int32) (n : Nat) : Nat → Int32 := fun j => if 394 ≤ j ∧ j < 394 + 5 * n then (if (j - 394) % 5 = 0 then comN s ((j - 394) / 5) else if (j - 394) % 5 = 1 then sumF (comN s) ((j - 394) / 5 + 1) else if (j - 394) % 5 = 2 then s j else 0) else s j
def layF0 (s fl : Nat → Int32) (n : Nat) : Nat → Int32 := fun q => if q < n then sumF (comN s) (q + 1) else fl q
theorem lay0_s {s : Nat → Int32} {q : Nat} : upd (upd (upd (upd (lay0 s q) (394 + 5 * q) (comN s q)) (394 + 5 * q + 1) (sumF (comN s) (q + 1))) (394 + 5 * q + 3) 0) (394 + 5 * q + 4) 0 = lay0 s (q + 1) := by
  funext j
  unfold upd lay0
  by_cases e : 394 + 5 * q ≤ j ∧ j < 394 + 5 * q + 5
  · obtain ⟨k, rfl, hk⟩ : ∃ k, j = 394 + 5 * q + k ∧ k < 5 := ⟨j - (394 + 5 * q), by omega, by omega⟩
    rw [if_pos (show 394 ≤ 394 + 5 * q + k ∧ 394 + 5 * q + k < 394 + 5 * (q + 1) by omega), show (394 + 5 * q + k - 394) % 5 = k by omega, show (394 + 5 * q + k - 394) / 5 = q by omega, if_neg (show ¬ (394 ≤ 394 + 5 * q + k ∧ 394 + 5 * q + k < 394 + 5 * q) by omega)]
    rcases (show k = 0 ∨ k = 1 ∨ k = 2 ∨ k = 3 ∨ k = 4 by omega) with rfl | rfl | rfl | rfl | rfl <;> simp
  · rw [if_neg (by omega), if_neg (by omega), if_neg (by omega), if_neg (by omega)]
    by_cases e2 : 394 ≤ j ∧ j < 394 + 5 * q
    · rw [if_pos e2, if_pos (show 394 ≤ j ∧ j < 394 + 5 * (q + 1) by omega)]
    · rw [if_neg e2, if_neg (show ¬ (394 ≤ j ∧ j < 394 + 5 * (q + 1)) by omega)]
theorem lay0_lo {s : Nat → Int32} {n j : Nat} (h : j < 394) : lay0 s n j = s j := by unfold lay0; rw [if_neg (by omega)]
def Fm : Nat → Prop := fun a => a = 296 ∨ (a = 300 ∨ (a = 307 ∨ a = 308))
theorem m_layL {s fl : Nat → Int32} (h0 : Bn s 0 6) (hv : Vt s) : ∀ (d m q : Nat) (μ : Mm), q + d = ct s 0 → d < m → μ.1 296 = lay0 s q → μ.1 307 = layF0 s fl q → Op (F_X4_laysFlows_4 m (sumF (comN s) q) (nI q) μ) (fun μ' => μ'.1 296 = lay0 s (ct s 0) ∧ (μ'.1 307 = layF0 s fl (ct s 0) ∧ Fs (fun a => a = 296 ∨ a = 307) μ μ')) := by
  have h6 := h0.2
  intro d
  induction d with
  | zero =>
    intro m q μ hq hm e1 e2
    obtain ⟨m, rfl⟩ : ∃ z, m = z + 1 := ⟨m - 1, by omega⟩
    rw [F_X4_laysFlows_4]
    refine op_eb (mg (k := 0) rfl (by decide)) ?_
    rw [e1, lay0_lo (by decide), h0.1, if_pos (nI_le (by omega) (by omega))]
    obtain rfl : q = ct s 0 := by omega
    exact op_r ⟨e1, e2, Fs.rf⟩
  | succ d ih =>
    intro m q μ hq hm e1 e2
    obtain ⟨m, rfl⟩ : ∃ z, m = z + 1 := ⟨m - 1, by omega⟩
    have hv' : Vt (μ.1 296) := by
      unfold Vt
      rw [e1, ct_eq (lay0_lo (s := s) (n := q) (j := 5) (by decide)), ct_eq (lay0_lo (s := s) (n := q) (j := 7) (by decide)), lay0_lo (by decide), lay0_lo (by decide)]
      exact hv
    rw [F_X4_laysFlows_4]
    refine op_eb (mg (k := 0) rfl (by decide)) ?_
    rw [e1, lay0_lo (by decide), h0.1, if_neg (nI_ge (by omega) (by omega))]
    refine op_eb ((m_com hv' (by omega)).trans (congrArg some (show comN (μ.1 296) q = comN s q by rw [e1]; exact comN_eq (fun j hj => lay0_lo (by omega)) (by omega) hv.2.2.2.2 hv.2.2.2.1))) ?_
    refine op_eb (sI_ok (k := q) rfl (by rw [ln307]; omega)) ?_
    refine op_mb (ms (k := 394 + 5 * q) (ix2 394 5 q) (by omega)) (fun m1 w1 => ?_)
    refine op_mb (ms (k := 394 + 5 * q + 1) (ix3 394 5 q 1) (by omega)) (fun m2 w2 => ?_)
    refine op_mb (ms (k := 394 + 5 * q + 3) (ix3 394 5 q 3) (by omega)) (fun m3 w3 => ?_)
    refine op_mb (ms (k := 394 + 5 * q + 4) (ix3 394 5 q 4) (by omega)) (fun m4 w4 => ?_)
    have fr := ((w1.2.tr w2.2).tr w3.2).tr w4.2
    rw [nI_1]
    refine op_m (ih m (q + 1) m4 (by omega) (by omega) ?_ ?_) (fun μ' z => ⟨z.1, z.2.1, ((Fs.uI (Or.inr rfl)).tr (fr.mo (fun a e => Or.inl e))).tr z.2.2⟩)
    · rw [w4.1, w3.1, w2.1, w1.1, uI_ne (by decide), e1]
      exact lay0_s
    · rw [(fr.1 307 (by decide)).1, uI_eq, e2]
      funext j
      unfold layF0
      by_cases e : j = q
      · rw [if_pos e, if_pos (by omega), e]
        rfl
      · rw [if_neg e]
        by_cases e3 : j < q
        · rw [if_pos e3, if_pos (by omega)]
        · rw [if_neg e3, if_neg (by omega)]
theorem m_lay {μ : Mm} (h0 : Bn (μ.1 296) 0 6) (hv : Vt (μ.1 296)) : Op ((F_X4_laysFlows μ).bind fun o2 => sI o2 296 56 0) (fun μ' => μ'.1 296 = layS (μ.1 296) ∧ (μ'.1 307 = layF (μ.1 296) (μ.1 307) ∧ Fs (fun a => a = 296 ∨ a = 307) μ μ')) := by
  have h6 := h0.2
  unfold F_X4_laysFlows
  refine op_b (op_b (op_m (m_layL (s := μ.1 296) (fl := μ.1 307) h0 hv (ct (μ.1 296) 0) qFuel 0 μ (by omega) (by unfold qFuel; omega) ?_ ?_) (fun o q => op_r ?_)))
  · funext j
    unfold lay0
    rw [if_neg (by omega)]
  · funext j
    unfold layF0
    rw [if_neg (by omega)]
  · refine op_m (ms (k := 56) rfl (by decide)) (fun μ' w => ⟨?_, ?_, q.2.2.tr (w.2.mo (fun a e => Or.inl e))⟩)
    · rw [w.1, q.1]
      funext j
      unfold upd lay0 layS
      by_cases e : j = 56
      · rw [if_pos e, if_neg (by omega), if_pos e]
      · rw [if_neg e, if_neg e]
    · rw [(w.2.1 307 (by decide)).1, q.2.1]
      rfl
