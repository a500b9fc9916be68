/-! ===== numbers on both sides ===== -/
def nv (f : Nat → Int32) : Nat → Nat → Int32 → Int32
  | 0, _, v => v
  | d + 1, a, v => nv f d (a + 1) (v * 10 + (f a - 48))
/-- where a number's first three signs end -/
def e3 (f : Nat → Int32) (n t : Nat) : Nat := if te f n t < t + 3 then te f n t else t + 3
def nval (f : Nat → Int32) (n t : Nat) : Int32 := nv f (e3 f n t - t) t 0
/-- what is wrong with a number: 0 nothing -/
def numC (f : Nat → Int32) (n t : Nat) (lo hi : Int32) : Nat := if tk f n t = 2 then (if 3 < te f n t - t then 2 else if nval f n t < lo then 2 else if nval f n t ≤ hi then 0 else 2) else 1
theorem numC_le {f : Nat → Int32} {n t : Nat} {lo hi : Int32} : numC f n t lo hi ≤ 2 := by
  unfold numC
  split
  · split
    · decide
    · split
      · decide
      · split <;> decide
  · decide
theorem numC_0 {f : Nat → Int32} {n t : Nat} {lo hi : Int32} (h : numC f n t lo hi = 0) : tk f n t = 2 ∧ (te f n t - t ≤ 3 ∧ (¬ nval f n t < lo ∧ nval f n t ≤ hi)) := by
  unfold numC at h
  by_cases e : tk f n t = 2
  · rw [if_pos e] at h
    by_cases e1 : 3 < te f n t - t
    · rw [if_pos e1] at h; cases h
    · rw [if_neg e1] at h
      by_cases e2 : nval f n t < lo
      · rw [if_pos e2] at h; cases h
      · rw [if_neg e2] at h
        by_cases e4 : nval f n t ≤ hi
        · exact ⟨e, by omega, e2, e4⟩
        · rw [if_neg e4] at h; cases h
  · rw [if_neg e] at h; cases h
/-- the class' error -/
def Er (k o : Nat) (μ : Mm) : Prop := μ.1 45 4 = nI k ∧ μ.1 45 3 = nI o
def Em (k o : Nat) (μ : Mm) : Prop := μ.1 295 17 = nI k ∧ μ.1 295 16 = nI o
/-- an error is laid down: of cell 45 fields 3, 4 alone -/
def K34 (μ μ' : Mm) : Prop := Fs (fun a => a = 45) μ μ' ∧ ∀ j, j ≠ 3 → j ≠ 4 → μ'.1 45 j = μ.1 45 j
section NUM
variable {f : Nat → Int32} {n t a : Nat} {μ : Mm} {lo hi : Int32}
theorem CL.k34 {μ' : Mm} (h : CL f n t μ) (k : K34 μ μ') : CL f n t μ' := by
  obtain ⟨a1, a2, a3, a4, a5, a6⟩ := h
  exact ⟨⟨(k.2 2 (by decide) (by decide)).trans a1.1, fun i hi => by rw [(k.1.1 46 (by decide)).1]; exact a1.2 i hi⟩, a2, a3, (k.2 5 (by decide) (by decide)).trans a4, (k.2 6 (by decide) (by decide)).trans a5, (k.2 7 (by decide) (by decide)).trans a6⟩
theorem x0_fail0 {k o : Nat} (h0 : μ.1 45 4 = 0) : Op (F_X0_fail (nI k) (nI o) μ) (fun μ' => Er k o μ' ∧ K34 μ μ') := by
  unfold F_X0_fail
  rw [if_pos h0]
  refine op_br (op_br (op_r ⟨⟨?_, ?_⟩, (Fs.uI (S := fun a => a = 45) rfl).tr (Fs.uI rfl), fun j j3 j4 => ?_⟩))
  · rw [uI_eq]; refine (if_neg (by decide)).trans ?_; rw [uI_eq]; rfl
  · rw [uI_eq]; rfl
  · rw [uI_eq]; refine (if_neg j3).trans ?_; rw [uI_eq]; exact if_neg j4
theorem x0_failF {k o : Int32} (h0 : ¬ μ.1 45 4 = 0) : F_X0_fail k o μ = some μ := if_neg h0
theorem x0_numL (h : CL f n t μ) (hn : n ≤ 900) {u1 u2 : Int32} : ∀ (d m a : Nat) (v : Int32), a + d = e3 f n t → d < m → t ≤ a → F_X0_takeNumber_36 u1 u2 μ m v (nI a) = some (nv f d a v) := by
  obtain ⟨h1, h2, h3, h4, h5, h6⟩ := id h
  have hte := te_le (f := f) h2
  have he : e3 f n t ≤ te f n t ∧ (e3 f n t ≤ t + 3 ∧ (e3 f n t = te f n t ∨ e3 f n t = t + 3)) := by
    unfold e3
    split <;> omega
  intro d
  induction d with
  | zero =>
    intro m a v ha hm hta
    obtain ⟨m, rfl⟩ : ∃ z, m = z + 1 := ⟨m - 1, by omega⟩
    rw [F_X0_takeNumber_36, h6, h5]
    by_cases e1 : nI (te f n t) ≤ nI a
    · rw [if_pos e1]; rfl
    · rw [if_neg e1, if_pos (show nI t + (3 : Int32) ≤ nI a by
        rw [show nI t + (3 : Int32) = nI (t + 3) from nI_add t 3]
        have : te f n t ≠ a := fun z => e1 (by rw [z]; exact Int32.le_refl _)
        exact nI_le (by omega) (by omega))]
      rfl
  | succ d ih =>
    intro m a v ha hm hta
    obtain ⟨m, rfl⟩ : ∃ z, m = z + 1 := ⟨m - 1, by omega⟩
    rw [F_X0_takeNumber_36, h6, h5, h1.1, if_neg (nI_ge (by omega) (by omega)), show nI t + (3 : Int32) = nI (t + 3) from nI_add t 3, if_neg (nI_ge (by omega) (by omega)), if_neg (nI_ge (by omega) (by omega)), nv]
    refine be_ (tx_at h1 hn (by omega)) ?_
    rw [nI_1]
    exact ih m (a + 1) _ (by omega) (by omega) (by omega)
/-- the class takes a number -/
theorem x0_num (h : CL f n t μ) (hn : n ≤ 900) (h0 : μ.1 45 4 = 0) : Op (F_X0_takeNumber lo hi μ) (fun o => (numC f n t lo hi = 0 → o.1 = nval f n t ∧ (CL f n (skp f n (te f n t)) o.2 ∧ K45 μ o.2)) ∧ (numC f n t lo hi ≠ 0 → o.1 = lo ∧ (CL f n t o.2 ∧ (Er (numC f n t lo hi) t o.2 ∧ K34 μ o.2)))) := by
  obtain ⟨h1, h2, h3, h4, h5, h6⟩ := id h
  have hte := te_le (f := f) h2
  have htk := tk_le (f := f) (n := n) (t := t)
  unfold F_X0_takeNumber
  rw [if_pos h0, h4, h5, h6]
  have bad : ∀ {k : Nat}, k ≠ 0 → numC f n t lo hi = k → Op ((F_X0_fail (nI k) (nI t) μ).bind fun o19 => some (lo, o19)) (fun o => (numC f n t lo hi = 0 → o.1 = nval f n t ∧ (CL f n (skp f n (te f n t)) o.2 ∧ K45 μ o.2)) ∧ (numC f n t lo hi ≠ 0 → o.1 = lo ∧ (CL f n t o.2 ∧ (Er (numC f n t lo hi) t o.2 ∧ K34 μ o.2)))) := fun {k} hk e => by
    refine op_mb (x0_fail0 (k := k) (o := t) h0) (fun m w => op_r ⟨fun z => absurd (e.symm.trans z) hk, fun _ => ⟨rfl, h.k34 w.2, by rw [e]; exact w.1, w.2⟩⟩)
  by_cases e1 : tk f n t = 2
  · rw [if_pos (by rw [e1]; rfl)]
    have hv : F_X0_takeNumber_36 lo hi μ qFuel 0 (nI t) = some (nval f n t) := x0_numL h hn (e3 f n t - t) qFuel t 0 (by unfold e3; split <;> omega) (by unfold e3 qFuel; split <;> omega) (Nat.le_refl t)
    refine op_eb hv ?_
    rw [pk_sub hte.1]
    by_cases e2 : 3 < te f n t - t
    · rw [if_pos (show (3 : Int32) < nI (te f n t - t) from nI_lt (a := 3) e2 (by omega))]
      exact bad (k := 2) (by decide) (by unfold numC; rw [if_pos e1, if_pos e2])
    · rw [if_neg (show ¬ (3 : Int32) < nI (te f n t - t) from nI_nlt (a := 3) (by omega) (by decide))]
      by_cases e4 : nval f n t < lo
      · rw [if_pos e4]
        exact bad (k := 2) (by decide) (by unfold numC; rw [if_pos e1, if_neg e2, if_pos e4])
      · rw [if_neg e4]
        by_cases e5 : nval f n t ≤ hi
        · rw [if_pos e5]
          have e0 : numC f n t lo hi = 0 := by unfold numC; rw [if_pos e1, if_neg e2, if_neg e4, if_pos e5]
          exact op_mb (h.next hn) (fun m w => op_r ⟨fun _ => ⟨rfl, w⟩, fun z => absurd e0 z⟩)
        · rw [if_neg e5]
          exact bad (k := 2) (by decide) (by unfold numC; rw [if_pos e1, if_neg e2, if_neg e4, if_neg e5])
  · rw [if_neg (show ¬ nI (tk f n t) = (2 : Int32) from fun z => e1 (nI_inj (b := 2) (by omega) (by decide) z))]
    exact bad (k := 1) (by decide) (by unfold numC; rw [if_neg e1])
theorem x0_numF (h0 : ¬ μ.1 45 4 = 0) : F_X0_takeNumber lo hi μ = some (lo, μ) := if_neg h0
theorem m_fail0 {k o : Nat} (h0 : μ.1 295 17 = 0) : Op (F_X4_fail (nI k) (nI o) μ) (fun μ' => Em k o μ' ∧ (Fs (fun a => a = 295) μ μ' ∧ ∀ j, j ≠ 16 → j ≠ 17 → μ'.1 295 j = μ.1 295 j)) := by
  unfold F_X4_fail
  rw [if_pos h0]
  refine op_br (op_br (op_r ⟨⟨?_, ?_⟩, (Fs.uI (S := fun a => a = 295) rfl).tr (Fs.uI rfl), fun j j3 j4 => ?_⟩))
  · rw [uI_eq]; refine (if_neg (by decide)).trans ?_; rw [uI_eq]; rfl
  · rw [uI_eq]; rfl
  · rw [uI_eq]; refine (if_neg j3).trans ?_; rw [uI_eq]; exact if_neg j4
theorem m_failF {k o : Int32} (h0 : ¬ μ.1 295 17 = 0) : F_X4_fail k o μ = some μ := if_neg h0
theorem dig_and (hB : BY f n) {k : Nat} (hk : k < n) (h : digB (f k) = true) : f k &&& 255 = f k := by
  have h1 := (of_decide_eq_true h).1
  exact (by_p (hB.2 k hk)).1 (Int32.le_trans (by decide) (Int32.not_lt.mp h1))
/-- signs from t on, numberAt t -/
theorem m_numL (hB : BY f n) (ht : t ≤ n) (htk : tk f n t = 2 ∨ te f n t = t → True) {u1 u2 : Int32} : ∀ (d m a : Nat) (v : Int32) (μ : Mm), a + d = ru digB f n t → d < m → t ≤ a → (∀ j, a ≤ j → j < ru digB f n t → digB (f j) = true) → ML f n a μ → μ.1 295 18 = nI t → Op (F_X4_number_24 u1 u2 m v μ) (fun o => o.1 = nv f ((if ru digB f n t < t + 3 then ru digB f n t else t + 3) - a) a v ∧ (ML f n (ru digB f n t) o.2 ∧ K15 μ o.2)) := by
  have hn := hB.1
  have hr := ru_b (P := digB) (f := f) ht
  intro d
  induction d with
  | zero =>
    intro m a v μ ha hm hta hd h h18
    obtain ⟨m, rfl⟩ : ∃ z, m = z + 1 := ⟨m - 1, by omega⟩
    rw [F_X4_number_24, h.2]
    refine op_eb (m_byte h hB (by omega)) (op_eb m_inR ?_)
    rw [if_neg (show ¬ (¬ bt f n a < 48 ∧ ¬ 57 < bt f n a) from fun z => by
      have q := (bt_in hB (by decide) (by decide)).mp z
      refine hr.2.2 (by omega) ?_
      rw [← show a = ru digB f n t by omega]
      exact decide_eq_true q.2), if_pos rfl]
    refine op_r ⟨?_, by rw [← show a = ru digB f n t by omega]; exact h, K15.rf⟩
    have : (if ru digB f n t < t + 3 then ru digB f n t else t + 3) - a = 0 := by split <;> omega
    rw [this]
    rfl
  | succ d ih =>
    intro m a v μ ha hm hta hd h h18
    obtain ⟨m, rfl⟩ : ∃ z, m = z + 1 := ⟨m - 1, by omega⟩
    have hda := hd a (Nat.le_refl a) (by omega)
    have han : a < n := by omega
    have b := m_byte h hB (k := a) (by omega)
    have eb : bt f n a = f a := by
      unfold bt
      rw [if_pos han]
      exact dig_and hB han hda
    rw [F_X4_number_24, h.2, h18]
    refine op_eb b (op_eb m_inR ?_)
    rw [if_pos (show ¬ bt f n a < 48 ∧ ¬ 57 < bt f n a from (bt_in hB (by decide) (by decide)).mpr ⟨han, of_decide_eq_true hda⟩), if_neg n10, pk_sub hta]
    have go : ∀ v', v' = (if 3 ≤ a - t then v else v * 10 + (f a - 48)) → Op ((some (uI μ 295 15 (nI a + 1))).bind fun m29 => F_X4_number_24 u1 u2 m v' m29) (fun o => o.1 = nv f ((if ru digB f n t < t + 3 then ru digB f n t else t + 3) - a) a v ∧ (ML f n (ru digB f n t) o.2 ∧ K15 μ o.2)) := fun v' hv' => by
      refine op_br (op_m (ih m (a + 1) v' _ (by omega) (by omega) (by omega) (fun j j1 j2 => hd j (by omega) j2) (h.at (nI_1 a)) (by rw [uI_eq]; exact (if_neg (by decide)).trans h18)) (fun o z => ⟨?_, z.2.1, K15.u.tr z.2.2⟩))
      rw [z.1, hv']
      by_cases e : 3 ≤ a - t
      · have q1 : (if ru digB f n t < t + 3 then ru digB f n t else t + 3) - (a + 1) = 0 := by split <;> omega
        have q2 : (if ru digB f n t < t + 3 then ru digB f n t else t + 3) - a = 0 := by split <;> omega
        rw [q1, q2, if_pos e]
        rfl
      · have q2 : (if ru digB f n t < t + 3 then ru digB f n t else t + 3) - a = ((if ru digB f n t < t + 3 then ru digB f n t else t + 3) - (a + 1)) + 1 := by split <;> omega
        rw [q2, nv, if_neg e]
    by_cases e : 3 ≤ a - t
    · rw [if_pos (show (3 : Int32) ≤ nI (a - t) from nI_le (a := 3) e (by omega))]
      exact op_br (go v (by rw [if_pos e]))
    · rw [if_neg (show ¬ (3 : Int32) ≤ nI (a - t) from nI_ge (b := 3) (by omega) (by decide))]
      refine op_b (op_eb b (op_r ?_))
      refine go _ ?_
      rw [if_neg e, eb, Int32.mul_comm, Int32.sub_eq_add_neg, Int32.sub_eq_add_neg, Int32.add_assoc]
theorem ru_dig_all {P : Int32 → Bool} : ∀ (d a : Nat), n - a = d → ∀ j, a ≤ j → j < ru P f n a → P (f j) = true := by
  intro d
  induction d with
  | zero =>
    intro a ha j h1 h2
    rw [ru_o (by omega)] at h2
    omega
  | succ d ih =>
    intro a ha j h1 h2
    rw [ru_s (by omega)] at h2
    by_cases e : P (f a) = true
    · rw [if_pos e] at h2
      by_cases e2 : j = a
      · rw [e2]; exact e
      · exact ih (a + 1) (by omega) j (by omega) h2
    · rw [if_neg e] at h2
      omega
/-- the reference takes a number -/
theorem m_num (hB : BY f n) (h : ML f n a μ) (ha : a ≤ n) (ht : skp f n a = t) (h0 : μ.1 295 17 = 0) : Op (F_X4_number lo hi μ) (fun o => (numC f n t lo hi = 0 → o.1 = nval f n t ∧ (ML f n (te f n t) o.2 ∧ (o.2.1 295 18 = nI t ∧ (Fs (fun a => a = 295) μ o.2 ∧ ∀ j, j ≠ 15 → j ≠ 18 → o.2.1 295 j = μ.1 295 j)))) ∧ (numC f n t lo hi ≠ 0 → (∃ b, b ≤ n ∧ ML f n b o.2) ∧ (Em (numC f n t lo hi) t o.2 ∧ (Fs (fun a => a = 295) μ o.2 ∧ ∀ j, ¬ (15 ≤ j ∧ j < 19) → o.2.1 295 j = μ.1 295 j)))) := by
  have hn := hB.1
  have hb : t ≤ n := by rw [← ht]; exact (ru_b (P := blaB) (f := f) ha).2.1
  have hte := te_le (f := f) hb
  unfold F_X4_number
  refine op_eb (m_failed0 h0) (op_t rfl (op_mb (m_peek hB h (by omega)) (fun o w => ?_)))
  obtain ⟨w1, w2, w3⟩ := w
  rw [ht] at w1 w2
  rw [w2.2]
  refine op_br ?_
  generalize hm10 : uI o.2 295 18 (nI t) = m10
  have v18 : m10.1 295 18 = nI t := by rw [← hm10, uI_eq]; rfl
  have k10 : ∀ j, j ≠ 15 → j ≠ 18 → m10.1 295 j = μ.1 295 j := fun j j5 j8 => by
    rw [← hm10, uI_eq]
    exact (if_neg j8).trans (w3.2 j j5)
  have f10 : Fs (fun a => a = 295) μ m10 := by rw [← hm10]; exact w3.1.tr (Fs.uI rfl)
  have ml10 : ML f n t m10 := by
    rw [← hm10]
    exact w2.fs (Fs.uI (S := fun a => a = 295) rfl) ⟨by rw [uI_eq]; exact if_neg (by decide), by rw [uI_eq]; exact if_neg (by decide)⟩ (by decide)
  have hr := ru_b (P := digB) (f := f) hb
  refine op_mb (m_numL hB hb (fun _ => trivial) (u1 := lo) (u2 := hi) (ru digB f n t - t) qFuel t 0 m10 (by omega) (by unfold qFuel; omega) (Nat.le_refl t) (ru_dig_all (n - t) t rfl) ml10 v18) (fun o2 z => ?_)
  obtain ⟨z1, z2, z3⟩ := z
  have g18 : o2.2.1 295 18 = nI t := (z3.2 18 (by decide)).trans v18
  have g17 : o2.2.1 295 17 = 0 := (z3.2 17 (by decide)).trans ((k10 17 (by decide) (by decide)).trans h0)
  have gk : ∀ j, j ≠ 15 → j ≠ 18 → o2.2.1 295 j = μ.1 295 j := fun j j5 j8 => (z3.2 j j5).trans (k10 j j5 j8)
  have gf : Fs (fun a => a = 295) μ o2.2 := f10.tr z3.1
  rw [z2.2, g18]
  have bad : ∀ {k : Nat}, k ≠ 0 → numC f n t lo hi = k → ∀ v : Int32, Op (((F_X4_fail (nI k) (nI t) o2.2).bind fun o41 => some o41).bind fun o56 => some (v, o56)) (fun o => (numC f n t lo hi = 0 → o.1 = nval f n t ∧ (ML f n (te f n t) o.2 ∧ (o.2.1 295 18 = nI t ∧ (Fs (fun a => a = 295) μ o.2 ∧ ∀ j, j ≠ 15 → j ≠ 18 → o.2.1 295 j = μ.1 295 j)))) ∧ (numC f n t lo hi ≠ 0 → (∃ b, b ≤ n ∧ ML f n b o.2) ∧ (Em (numC f n t lo hi) t o.2 ∧ (Fs (fun a => a = 295) μ o.2 ∧ ∀ j, ¬ (15 ≤ j ∧ j < 19) → o.2.1 295 j = μ.1 295 j)))) := fun {k} hk e v => by
    refine op_b (op_mb (m_fail0 (k := k) (o := t) g17) (fun m w => op_r (op_r ⟨fun z => absurd (e.symm.trans z) hk, fun _ => ⟨⟨ru digB f n t, hr.2.1, z2.fs w.2.1 ⟨w.2.2 14 (by decide) (by decide), w.2.2 15 (by decide) (by decide)⟩ (by decide)⟩, by rw [e]; exact w.1, gf.tr w.2.1, fun j hj => (w.2.2 j (by omega) (by omega)).trans (gk j (by omega) (by omega))⟩⟩)))
  by_cases e1 : tk f n t = 2
  · have e5 := te_dig e1
    have ht1 : t < te f n t := hte.2.2 (tk2.mp e1).1
    have hv : o2.1 = nval f n t := by
      rw [z1, ← e5]
      rfl
    rw [← e5, if_neg (fun z => by have := nI_inj (by omega) (by omega) z; omega), pk_sub hte.1, hv]
    by_cases e2 : 3 < te f n t - t
    · rw [if_pos (show (3 : Int32) < nI (te f n t - t) from nI_lt (a := 3) e2 (by omega))]
      exact bad (k := 2) (by decide) (by unfold numC; rw [if_pos e1, if_pos e2]) _
    · rw [if_neg (show ¬ (3 : Int32) < nI (te f n t - t) from nI_nlt (a := 3) (by omega) (by decide)), m_inR]
      by_cases e4 : nval f n t < lo
      · rw [if_neg (fun z => z.1 e4)]
        exact bad (k := 2) (by decide) (by unfold numC; rw [if_pos e1, if_neg e2, if_pos e4]) _
      · by_cases e6 : nval f n t ≤ hi
        · rw [if_pos ⟨e4, Int32.not_lt.mpr e6⟩]
          have e0 : numC f n t lo hi = 0 := by unfold numC; rw [if_pos e1, if_neg e2, if_neg e4, if_pos e6]
          refine op_b (op_br (op_f n10 (op_r (op_r ⟨fun _ => ⟨rfl, by rw [e5]; exact z2, g18, gf, gk⟩, fun z => absurd e0 z⟩))))
        · rw [if_neg (fun z => z.2 (Int32.not_le.mp e6))]
          exact bad (k := 2) (by decide) (by unfold numC; rw [if_pos e1, if_neg e2, if_neg e4, if_neg e6]) _
  · rw [ru_nodig e1, if_pos rfl]
    exact bad (k := 1) (by decide) (by unfold numC; rw [if_neg e1]) _
theorem m_numF (h0 : ¬ μ.1 295 17 = 0) : F_X4_number lo hi μ = some (lo, μ) := be_ (m_failed1 h0) (if_neg n10)
end NUM
