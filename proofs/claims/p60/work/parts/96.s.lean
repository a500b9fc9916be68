/-! ===== numbers on both sides ===== -/
def nv (f : Nat → Int32) : Nat → Nat → Int32 → Int32
  | 0, _, v => v
  | d + 1, a, v => nv f d (a + 1) (v * 10 + (f a - 48))
/-- where a number's first three signs end -/
def e3 (f : Nat → Int32) (n t : Nat) : Nat := if te f n t < t + 3 then te f n t else t + 3
def nval (f : Nat → Int32) (n t : Nat) : Int32 := nv f (e3 f n t - t) t 0
/-- what is wrong with a number: 0 nothing -/
def numC (f : Nat → Int32) (n t : Nat) (lo hi : Int32) : Nat := if tk f n t = 2 then (if 3 < te f n t - t then 2 else if nval f n t < lo then 2 else if nval f n t ≤ hi then 0 else 2) else 1
theorem numC_le {f : Nat → Int32} {n t : Nat} {lo hi : Int32} : numC f n t lo hi ≤ 2 := by
  unfold numC
  split
  · split
    · decide
    · split
      · decide
      · split <;> decide
  · decide
theorem numC_0 {f : Nat → Int32} {n t : Nat} {lo hi : Int32} (h : numC f n t lo hi = 0) : tk f n t = 2 ∧ (te f n t - t ≤ 3 ∧ (¬ nval f n t < lo ∧ nval f n t ≤ hi)) := by
  unfold numC at h
  by_cases e : tk f n t = 2
  · rw [if_pos e] at h
    by_cases e1 : 3 < te f n t - t
    · rw [if_pos e1] at h; cases h
    · rw [if_neg e1] at h
      by_cases e2 : nval f n t < lo
      · rw [if_pos e2] at h; cases h
      · rw [if_neg e2] at h
        by_cases e4 : nval f n t ≤ hi
        · exact ⟨e, by omega, e2, e4⟩
        · rw [if_neg e4] at h; cases h
  · rw [if_neg e] at h; cases h
/-- the class' error -/
def Er (k o : Nat) (μ : Mm) : Prop := μ.1 45 4 = nI k ∧ μ.1 45 3 = nI o
/-- an error is laid down: of cell 45 fields 3, 4 alone -/
def K34 (μ μ' : Mm) : Prop := Fs (fun a => a = 45) μ μ' ∧ ∀ j, j ≠ 3 → j ≠ 4 → μ'.1 45 j = μ.1 45 j
section NUM
variable {f : Nat → Int32} {n t a : Nat} {μ : Mm} {lo hi : Int32}
theorem CL.k34 {μ' : Mm} (h : CL f n t μ) (k : K34 μ μ') : CL f n t μ' := by
  obtain ⟨a1, a2, a3, a4, a5, a6⟩ := h
  exact ⟨⟨(k.2 2 (by decide) (by decide)).trans a1.1, fun i hi => by rw [(k.1.1 46 (by decide)).1]; exact a1.2 i hi⟩, a2, a3, (k.2 5 (by decide) (by decide)).trans a4, (k.2 6 (by decide) (by decide)).trans a5, (k.2 7 (by decide) (by decide)).trans a6⟩
theorem x0_fail0 {k o : Nat} (h0 : μ.1 45 4 = 0) : Op (F_X0_fail (nI k) (nI o) μ) (fun μ' => Er k o μ' ∧ K34 μ μ') := by
  unfold F_X0_fail
  rw [if_pos h0]
  refine op_br (op_br (op_r ⟨⟨?_, ?_⟩, (Fs.uI (S := fun a => a = 45) rfl).tr (Fs.uI rfl), fun j j3 j4 => ?_⟩))
  · rw [uI_eq]; refine (if_neg (by decide)).trans ?_; rw [uI_eq]; rfl
  · rw [uI_eq]; rfl
  · rw [uI_eq]; refine (if_neg j3).trans ?_; rw [uI_eq]; exact if_neg j4
theorem x0_failF {k o : Int32} (h0 : ¬ μ.1 45 4 = 0) : F_X0_fail k o μ = some μ := if_neg h0
theorem x0_numL (h : CL f n t μ) (hn : n ≤ 900) {u1 u2 : Int32} : ∀ (d m a : Nat) (v : Int32), a + d = e3 f n t → d < m → t ≤ a → F_X0_takeNumber_36 u1 u2 μ m v (nI a) = some (nv f d a v) := by
  obtain ⟨h1, h2, h3, h4, h5, h6⟩ := id h
  have hte := te_le (f := f) h2
  have he : e3 f n t ≤ te f n t ∧ (e3 f n t ≤ t + 3 ∧ (e3 f n t = te f n t ∨ e3 f n t = t + 3)) := by
    unfold e3
    split <;> omega
  intro d
  induction d with
  | zero =>
    intro m a v ha hm hta
    obtain ⟨m, rfl⟩ : ∃ z, m = z + 1 := ⟨m - 1, by omega⟩
    rw [F_X0_takeNumber_36, h6, h5]
    by_cases e1 : nI (te f n t) ≤ nI a
    · rw [if_pos e1]; rfl
    · rw [if_neg e1, if_pos (show nI t + (3 : Int32) ≤ nI a by
        rw [show nI t + (3 : Int32) = nI (t + 3) from nI_add t 3]
        have : te f n t ≠ a := fun z => e1 (by rw [z]; exact Int32.le_refl _)
        exact nI_le (by omega) (by omega))]
      rfl
  | succ d ih =>
    intro m a v ha hm hta
    obtain ⟨m, rfl⟩ : ∃ z, m = z + 1 := ⟨m - 1, by omega⟩
    rw [F_X0_takeNumber_36, h6, h5, h1.1, if_neg (nI_ge (by omega) (by omega)), show nI t + (3 : Int32) = nI (t + 3) from nI_add t 3, if_neg (nI_ge (by omega) (by omega)), if_neg (nI_ge (by omega) (by omega)), nv]
    refine be_ (tx_at h1 hn (by omega)) ?_
    rw [nI_1]
    exact ih m (a + 1) _ (by omega) (by omega) (by omega)
/-- the class takes a number -/
theorem x0_num (h : CL f n t μ) (hn : n ≤ 900) (h0 : μ.1 45 4 = 0) : Op (F_X0_takeNumber lo hi μ) (fun o => (numC f n t lo hi = 0 → o.1 = nval f n t ∧ (CL f n (skp f n (te f n t)) o.2 ∧ K45 μ o.2)) ∧ (numC f n t lo hi ≠ 0 → o.1 = lo ∧ (CL f n t o.2 ∧ (Er (numC f n t lo hi) t o.2 ∧ K34 μ o.2)))) := by
  obtain ⟨h1, h2, h3, h4, h5, h6⟩ := id h
  have hte := te_le (f := f) h2
  have htk := tk_le (f := f) (n := n) (t := t)
  unfold F_X0_takeNumber
  rw [if_pos h0, h4, h5, h6]
  have bad : ∀ {k : Nat}, k ≠ 0 → numC f n t lo hi = k → Op ((F_X0_fail (nI k) (nI t) μ).bind fun o19 => some (lo, o19)) (fun o => (numC f n t lo hi = 0 → o.1 = nval f n t ∧ (CL f n (skp f n (te f n t)) o.2 ∧ K45 μ o.2)) ∧ (numC f n t lo hi ≠ 0 → o.1 = lo ∧ (CL f n t o.2 ∧ (Er (numC f n t lo hi) t o.2 ∧ K34 μ o.2)))) := fun {k} hk e => by
    refine op_mb (x0_fail0 (k := k) (o := t) h0) (fun m w => op_r ⟨fun z => absurd (e.symm.trans z) hk, fun _ => ⟨rfl, h.k34 w.2, by rw [e]; exact w.1, w.2⟩⟩)
  by_cases e1 : tk f n t = 2
  · rw [if_pos (by rw [e1]; rfl)]
    have hv : F_X0_takeNumber_36 lo hi μ qFuel 0 (nI t) = some (nval f n t) := x0_numL h hn (e3 f n t - t) qFuel t 0 (by unfold e3; split <;> omega) (by unfold e3 qFuel; split <;> omega) (Nat.le_refl t)
    refine op_eb hv ?_
    rw [pk_sub hte.1]
    by_cases e2 : 3 < te f n t - t
    · rw [if_pos (show (3 : Int32) < nI (te f n t - t) from nI_lt (a := 3) e2 (by omega))]
      exact bad (k := 2) (by decide) (by unfold numC; rw [if_pos e1, if_pos e2])
    · rw [if_neg (show ¬ (3 : Int32) < nI (te f n t - t) from nI_nlt (a := 3) (by omega) (by decide))]
      by_cases e4 : nval f n t < lo
      · rw [if_pos e4]
        exact bad (k := 2) (by decide) (by unfold numC; rw [if_pos e1, if_neg e2, if_pos e4])
      · rw [if_neg e4]
        by_cases e5 : nval f n t ≤ hi
        · rw [if_pos e5]
          have e0 : numC f n t lo hi = 0 := by unfold numC; rw [if_pos e1, if_neg e2, if_neg e4, if_pos e5]
          exact op_mb (h.next hn) (fun m w => op_r ⟨fun _ => ⟨rfl, w⟩, fun z => absurd e0 z⟩)
        · rw [if_neg e5]
          exact bad (k := 2) (by decide) (by unfold numC; rw [if_pos e1, if_neg e2, if_neg e4, if_neg e5])
  · rw [if_neg (show ¬ nI (tk f n t) = (2 : Int32) from fun z => e1 (nI_inj (b := 2) (by omega) (by decide) z))]
    exact bad (k := 1) (by decide) (by unfold numC; rw [if_neg e1])
theorem x0_numF (h0 : ¬ μ.1 45 4 = 0) : F_X0_takeNumber lo hi μ = some (lo, μ) := if_neg h0
theorem dig_and (hB : BY f n) {k : Nat} (hk : k < n) (h : digB (f k) = true) : f k &&& 255 = f k := by
  have h1 := (of_decide_eq_true h).1
  exact (by_p (hB.2 k hk)).1 (Int32.le_trans (by decide) (Int32.not_lt.mp h1))
theorem ru_dig_all {P : Int32 → Bool} : ∀ (d a : Nat), n - a = d → ∀ j, a ≤ j → j < ru P f n a → P (f j) = true := by
  intro d
  induction d with
  | zero =>
    intro a ha j h1 h2
    rw [ru_o (by omega)] at h2
    omega
  | succ d ih =>
    intro a ha j h1 h2
    rw [ru_s (by omega)] at h2
    by_cases e : P (f a) = true
    · rw [if_pos e] at h2
      by_cases e2 : j = a
      · rw [e2]; exact e
      · exact ih (a + 1) (by omega) j (by omega) h2
    · rw [if_neg e] at h2
      omega
end NUM

