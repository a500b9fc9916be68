/-! ===== the reference forms its text ===== -/
section MFT
variable {μ μ' : Mm}
def RT (μ : Mm) (x : Tx2) : Prop := μ.1 295 29 = nI x.1 ∧ (x.1 ≤ 400 ∧ ∀ k, k < x.1 → μ.1 310 k = x.2 k)
/-- what forming changes of the reference -/
def KT (μ μ' : Mm) : Prop := Fs (fun a => a = 295 ∨ a = 310) μ μ' ∧ ∀ j, j ≠ 29 → μ'.1 295 j = μ.1 295 j
theorem KT.rf : KT μ μ := ⟨Fs.rf, fun _ _ => rfl⟩
theorem KT.tr {μ1 μ2 : Mm} (h : KT μ μ1) (h2 : KT μ1 μ2) : KT μ μ2 := ⟨h.1.tr h2.1, fun j hj => (h2.2 j hj).trans (h.2 j hj)⟩
theorem m_says {x : Tx2} {v : Nat} (h : RT μ x) (hx : x.1 < 400) : Op (F_X4_says (nI v) μ) (fun μ' => RT μ' (tC v x) ∧ KT μ μ') := by
  unfold F_X4_says
  rw [h.1]
  refine op_eb (sI_ok (k := x.1) rfl (by rw [ln310]; exact hx)) (op_br (op_r ?_))
  have e29 : (uI μ 310 x.1 (nI v)).1 295 29 = nI x.1 := by rw [uI_ne (by decide)]; exact h.1
  refine ⟨⟨?_, hx, fun k hk => ?_⟩, (Fs.uI (Or.inr rfl)).tr (Fs.uI (Or.inl rfl)), fun j hj => ?_⟩
  · rw [e29, uI_eq, nI_1]
    rfl
  · rw [uI_ne (by decide), uI_eq]
    show (if k = x.1 then nI v else μ.1 310 k) = upd x.2 x.1 (nI v) k
    unfold upd
    by_cases e : k = x.1
    · rw [if_pos e, if_pos e]
    · rw [if_neg e, if_neg e]
      have hk : k < x.1 + 1 := hk
      exact h.2.2 k (by omega)
  · rw [uI_eq]
    refine (if_neg hj).trans ?_
    rw [uI_ne (by decide)]
def pq (t : Nat → Int32) (v d n i : Nat) : Nat → Int32 := fun j => if n ≤ j ∧ j < n + i then nI (48 + v / 10 ^ (n + d - 1 - j) % 10) else t j
theorem pq_s {t : Nat → Int32} {v d n i : Nat} (hi : i < d) : upd (pq t v d n i) (n + i) (nI (48 + v / 10 ^ (d - 1 - i) % 10)) = pq t v d n (i + 1) := by
  funext j
  unfold upd pq
  by_cases e : j = n + i
  · rw [if_pos e, if_pos (by omega), e, show n + d - 1 - (n + i) = d - 1 - i by omega]
  · rw [if_neg e]
    by_cases e2 : n ≤ j ∧ j < n + i
    · rw [if_pos e2, if_pos (by omega)]
    · rw [if_neg e2, if_neg (by omega)]
theorem pq_e {t : Nat → Int32} {v d n : Nat} : pq t v d n d = pt t v d (n + d) := by
  funext j
  unfold pq pt
  by_cases e : n ≤ j ∧ j < n + d
  · rw [if_pos e, if_pos (by omega)]
  · rw [if_neg e, if_neg (by omega)]
theorem pq_0 {t : Nat → Int32} {v d n : Nat} : pq t v d n 0 = t := by
  funext j
  unfold pq
  exact if_neg (by omega)
theorem p10 : ∀ i, i < 10 → 10 ^ i < 2 ^ 30 := by decide
theorem m_sn2 {v : Nat} (hv : v < 2 ^ 30) : ∀ (d m i : Nat), i + d = 9 → d < m → F_X4_saysNumber_2 (nI v) μ m (nI (10 ^ i)) = some (nI (10 ^ (dgF v d (i + 1) - 1))) := by
  intro d
  induction d with
  | zero =>
    intro m i hi hm
    obtain ⟨m, rfl⟩ : ∃ z, m = z + 1 := ⟨m - 1, by omega⟩
    obtain rfl : i = 9 := by omega
    rw [F_X4_saysNumber_2]
    refine be_ (a := nI (v / 10 ^ 9)) ?_ ?_
    · unfold idv
      rw [if_neg (by decide), pk_div (by omega) (by decide) (by decide)]
    · rw [if_pos (show nI (v / 10 ^ 9) ≤ (9 : Int32) from nI_le (b := 9) (by omega) (by decide))]
      rfl
  | succ d ih =>
    intro m i hi hm
    obtain ⟨m, rfl⟩ : ∃ z, m = z + 1 := ⟨m - 1, by omega⟩
    have h10 := p10 i (by omega)
    have hpos : 0 < 10 ^ i := Nat.pow_pos (by decide)
    rw [F_X4_saysNumber_2, dgF]
    refine be_ (a := nI (v / 10 ^ i)) ?_ ?_
    · unfold idv
      rw [if_neg (nI_ne0 hpos (by omega)), pk_div (by omega) hpos (by omega)]
    · have hq : v / 10 ^ i ≤ 9 ↔ v < 10 ^ (i + 1) := by
        rw [Nat.pow_succ, Nat.mul_comm, ← Nat.div_lt_iff_lt_mul hpos]
        omega
      have hdl : v / 10 ^ i ≤ v := Nat.div_le_self _ _
      by_cases e : v < 10 ^ (i + 1)
      · rw [if_pos e, if_pos (show nI (v / 10 ^ i) ≤ (9 : Int32) from nI_le (b := 9) (hq.mpr e) (by decide)), Nat.add_sub_cancel]
      · rw [if_neg e, if_neg (show ¬ nI (v / 10 ^ i) ≤ (9 : Int32) from nI_ge (a := 9) (by have := mt hq.mp e; omega) (by omega)), show nI (10 ^ i) * 10 = nI (10 ^ i * 10) from pk_mul _ _, ← Nat.pow_succ]
        exact ih m (i + 1) (by omega) (by omega)
def pw (d i : Nat) : Nat := if i < d then 10 ^ (d - 1 - i) else 0
theorem pw_s {d i : Nat} (h : i < d) : pw d i / 10 = pw d (i + 1) := by
  unfold pw
  rw [if_pos h]
  by_cases e : i + 1 < d
  · rw [if_pos e, show d - 1 - i = (d - 1 - (i + 1)) + 1 by omega, Nat.pow_succ, Nat.mul_div_cancel _ (by decide)]
  · rw [if_neg e, show d - 1 - i = 0 by omega]
theorem m_sn18 {v d n : Nat} {t : Nat → Int32} (hv : v < 2 ^ 30) (hd : d ≤ 10) (hn : n + d ≤ 400) : ∀ (r m i : Nat) (μ : Mm), i + r = d → r < m → RT μ (n + i, pq t v d n i) → Op (F_X4_saysNumber_18 (nI v) m (nI (pw d i)) μ) (fun μ' => RT μ' (n + d, pq t v d n d) ∧ KT μ μ') := by
  intro r
  induction r with
  | zero =>
    intro m i μ hi hm h
    obtain ⟨m, rfl⟩ : ∃ z, m = z + 1 := ⟨m - 1, by omega⟩
    obtain rfl : i = d := by omega
    rw [F_X4_saysNumber_18, if_pos (by rw [show pw i i = 0 from if_neg (Nat.lt_irrefl i)]; decide)]
    exact op_r ⟨h, KT.rf⟩
  | succ r ih =>
    intro m i μ hi hm h
    obtain ⟨m, rfl⟩ : ∃ z, m = z + 1 := ⟨m - 1, by omega⟩
    have hw : pw d i = 10 ^ (d - 1 - i) := if_pos (by omega)
    have h10 := p10 (d - 1 - i) (by omega)
    have hpos : 0 < 10 ^ (d - 1 - i) := Nat.pow_pos (by decide)
    have hdl : v / 10 ^ (d - 1 - i) ≤ v := Nat.div_le_self _ _
    rw [F_X4_saysNumber_18, if_neg (show ¬ nI (pw d i) ≤ (0 : Int32) from nI_ge (a := 0) (by rw [hw]; exact hpos) (by rw [hw]; omega))]
    refine op_eb (a := nI (v / pw d i)) ?_ ?_
    · unfold idv
      rw [if_neg (nI_ne0 (by rw [hw]; exact hpos) (by rw [hw]; omega)), pk_div (by omega) (by rw [hw]; exact hpos) (by rw [hw]; omega)]
    · rw [hw]
      rw [show nI (v / 10 ^ (d - 1 - i)) - nI (v / 10 ^ (d - 1 - i)) / (10 : Int32) * (10 : Int32) = nI (v / 10 ^ (d - 1 - i) % 10) from pk_rem (a := v / 10 ^ (d - 1 - i)) (d := 10) (by omega) (by decide) (by decide), show (48 : Int32) + nI (v / 10 ^ (d - 1 - i) % 10) = nI (48 + v / 10 ^ (d - 1 - i) % 10) from nI_add 48 _]
      refine op_mb (m_says (v := 48 + v / 10 ^ (d - 1 - i) % 10) h (show n + i < 400 by omega)) (fun μ1 w => ?_)
      have hs : tC (48 + v / 10 ^ (d - 1 - i) % 10) (n + i, pq t v d n i) = (n + (i + 1), pq t v d n (i + 1)) := by
        unfold tC
        rw [← pq_s (t := t) (n := n) (show i < d by omega)]
        rfl
      rw [hs] at w
      have hdv : nI (10 ^ (d - 1 - i)) / (10 : Int32) = nI (pw d (i + 1)) := by
        rw [← pw_s (d := d) (i := i) (by omega), hw]
        exact pk_div (a := 10 ^ (d - 1 - i)) (d := 10) (by omega) (by decide) (by decide)
      rw [hdv]
      exact op_m (ih m (i + 1) μ1 (by omega) (by omega) w.1) (fun μ' z => ⟨z.1, w.2.tr z.2⟩)
theorem m_saysN {x : Tx2} {v : Nat} (hv : v < 2 ^ 30) (h : RT μ x) (hx : x.1 + dg v ≤ 400) : Op (F_X4_saysNumber (nI v) μ) (fun μ' => RT μ' (tI v x) ∧ KT μ μ') := by
  obtain ⟨hD, hd10⟩ := dg_ok (v := v) (by omega)
  have h1 := hD.1
  unfold F_X4_saysNumber
  refine op_eb (m_sn2 (μ := μ) hv 9 qFuel 0 rfl (by decide)) ?_
  rw [show dgF v 9 (0 + 1) = dg v from rfl, show nI (10 ^ (dg v - 1)) = nI (pw (dg v) 0) from by unfold pw; rw [if_pos (by omega), Nat.sub_zero]]
  refine op_mb (m_sn18 (v := v) (d := dg v) (n := x.1) (t := x.2) hv hd10 hx (dg v) qFuel 0 μ (by omega) (by unfold qFuel; omega) (by rw [pq_0]; exact h)) (fun μ1 w => op_r ⟨?_, w.2⟩)
  have := w.1
  rw [pq_e] at this
  exact this
end MFT
