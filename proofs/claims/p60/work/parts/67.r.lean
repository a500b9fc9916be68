/-! ===== records ===== -/
def pool (b : Nat) : Prop := ∃ q, q < 8 ∧ b = 71 + 22 * q
theorem pool_kd {b : Nat} (h : pool b) : kd b = 1 := by
  have key : ∀ q, q < 8 → kd (71 + 22 * q) = 1 := by decide +kernel
  obtain ⟨q, h1, rfl⟩ := h
  exact key q h1
theorem pool_lo {b : Nat} (h : pool b) : 71 ≤ b ∧ b < 226 := by
  obtain ⟨q, h1, rfl⟩ := h
  omega
abbrev Sh : Type := (Nat → Int32) × (Nat → Int64)
/-- the class' past -/
def PC (μ : Mm) (c : Nat) (p : Nat → Nat) (S : Nat → Sh) : Prop := μ.1 0 5 = nI c ∧ (c ≤ 8 ∧ ((∀ i, i < 8 → μ.1 70 i = nI (p i) ∧ (pool (p i) ∧ KB μ (p i))) ∧ ((∀ i j, i < 8 → j < 8 → p i = p j → i = j) ∧ ∀ i, i < c → NV μ (p i) (S i).1 (S i).2)))
def hr (μ : Mm) (i : Nat) : Nat → Int32 := fun j => μ.1 299 (521 * i + j)
def hl (μ : Mm) (i : Nat) : Nat → Int64 := fun j => μ.2.1 302 (15 * i + j)
def pC (c : Nat) : Nat := if c < 8 then c + 1 else 8
def pS (c : Nat) (S : Nat → Sh) (x : Sh) : Nat → Sh := fun i => if c < 8 then (if i = c then x else S i) else (if i < 7 then S (i + 1) else x)
def P70 (a : Nat) : Prop := a = 0 ∨ (a = 70 ∨ (71 ≤ a ∧ a < 247))
theorem PC.fs {S : Nat → Prop} {μ μ' : Mm} {c : Nat} {p : Nat → Nat} {Q : Nat → Sh} (h : PC μ c p Q) (hF : Fs S μ μ') (h0 : ¬ S 0) (h70 : ¬ S 70) (hb : ∀ a, 71 ≤ a → a < 248 → ¬ S a) : PC μ' c p Q := by
  obtain ⟨h1, h2, h3, h4, h5⟩ := h
  refine ⟨(congrFun (hF.1 0 h0).1 5).trans h1, h2, fun i hi => ⟨(congrFun (hF.1 70 h70).1 i).trans (h3 i hi).1, (h3 i hi).2.1, (h3 i hi).2.2.fs hF (fun a a1 a2 => ?_)⟩, h4, fun i hi => SV.fs (h5 i hi) hF (fun a a1 a2 => ?_)⟩
  · have := pool_lo (h3 i hi).2.1
    exact hb a (by omega) (by omega)
  · have := pool_lo (h3 i (by omega)).2.1
    exact hb a (by omega) (by omega)
section REC
variable {μ : Mm} {s : Nat → Int32} {g : Nat → Int64} {c : Nat} {S : Nat → Sh}
theorem ln70 : ln 70 = 8 := by decide +kernel
/-- the present is laid at a place of the past -/
theorem x3_rec1 {p : Nat → Nat} (h : PC μ c p S) (hc : c < 8) (hn : NV μ 1 s g) : Op ((aR μ 70 (μ.1 0 5)).bind fun b15 => (F_X1_copyFrom b15 1 μ).bind fun o18 => (some (uI o18 0 5 ((o18.1 0 5) + (1 : Int32)))).bind fun m20 => some m20) (fun μ' => PC μ' (c + 1) p (fun i => if i = c then (s, g) else S i) ∧ (NV μ' 1 s g ∧ Fs P70 μ μ')) := by
  obtain ⟨h1, h2, h3, h4, h5⟩ := h
  obtain ⟨e1, e2, e3⟩ := h3 c hc
  have hlo := pool_lo e2
  refine op_eb (aR_ok (k := c) h1 (by rw [ln70]; exact hc) e1 (pool_kd e2)) ?_
  refine op_mb (x1_copy hn (pool_kd e2) kd1 (by omega) e3) (fun m w => op_br (op_r ?_))
  have a0 : m.1 0 = μ.1 0 := (w.2.1 0 (by unfold Blk; omega)).1
  have fr : Fs P70 μ (uI m 0 5 (m.1 0 5 + 1)) := (w.2.mo (fun a e => by unfold Blk at e; unfold P70; omega)).tr (Fs.uI (Or.inl rfl))
  have fu : ∀ {x : Int32}, Fs (fun a => a = 0) m (uI m 0 5 x) := fun {x} => Fs.uI rfl
  have far : ∀ i, i < 8 → i ≠ c → ∀ a, p i ≤ a → a < p i + 22 → ¬ Blk (p c) a := fun i hi hne a a1 a2 z => by
    have d := kd_dis (pool_kd (h3 i hi).2.1) (pool_kd e2) (fun z => hne (h4 i c hi hc z))
    unfold Blk at z
    omega
  refine ⟨⟨?_, by omega, fun i hi => ⟨?_, (h3 i hi).2.1, ?_⟩, h4, fun i hi => ?_⟩, ?_, fr⟩
  · rw [uI_eq]
    show m.1 0 5 + 1 = _
    rw [a0, h1, nI_1]
  · rw [uI_ne (by decide), (w.2.1 70 (by unfold Blk; omega)).1]
    exact (h3 i hi).1
  · have := pool_lo (h3 i hi).2.1
    by_cases e : i = c
    · rw [e]
      exact w.1.kb.fs fu (fun a a1 a2 => by omega)
    · exact ((h3 i hi).2.2.fs w.2 (far i hi e)).fs fu (fun a a1 a2 => by omega)
  · by_cases e : i = c
    · rw [e]
      simp only [if_true]
      exact SV.fs w.1 fu (fun a a1 a2 => by omega)
    · simp only [if_neg e]
      have := pool_lo (h3 i (by omega)).2.1
      exact SV.fs (SV.fs (h5 i (by omega)) w.2 (far i (by omega) e)) fu (fun a a1 a2 => by omega)
  · exact SV.fs (SV.fs hn w.2 (fun a a1 a2 => by unfold Blk; omega)) fu (fun a a1 a2 => by omega)
/-- the states of the past move down by one -/
theorem x3_recL {p : Nat → Nat} {b6 : Nat} (hp : ∀ i, i < 8 → μ.1 70 i = nI (p i) ∧ kd (p i) = 1) : ∀ (d m i : Nat) (ν : Mm), i + d = 8 → d < m → Fs (fun a => a = 70) μ ν → (∀ j, 1 ≤ i → j < i - 1 → ν.1 70 j = μ.1 70 (j + 1)) → (∀ j, i - 1 ≤ j → j < 8 → ν.1 70 j = μ.1 70 j) → 1 ≤ i → Op (F_X3_record_18 b6 m (nI i) ν) (fun o => (∀ j, j < 7 → o.1 70 j = μ.1 70 (j + 1)) ∧ Fs (fun a => a = 70) μ o) := by
  intro d
  induction d with
  | zero =>
    intro m i ν hi hm hF ha hb h1
    obtain ⟨m, rfl⟩ : ∃ z, m = z + 1 := ⟨m - 1, by omega⟩
    obtain rfl : i = 8 := by omega
    rw [F_X3_record_18]
    exact op_t (show (8 : Int32) ≤ nI 8 by decide) (op_r ⟨fun j hj => ha j (by omega) (by omega), hF⟩)
  | succ d ih =>
    intro m i ν hi hm hF ha hb h1
    obtain ⟨m, rfl⟩ : ∃ z, m = z + 1 := ⟨m - 1, by omega⟩
    have hpi := hp i (by omega)
    have e1 : nI i - 1 = nI (i - 1) := by
      show nI i - nI 1 = nI (i - 1)
      exact pk_sub h1
    rw [F_X3_record_18]
    refine op_f (show ¬ (8 : Int32) ≤ nI i from nI_ge (b := 8) (by omega) (by decide)) ?_
    refine op_eb (aR_ok (k := i) rfl (by rw [ln70]; omega) ((hb i (by omega) (by omega)).trans hpi.1) hpi.2) ?_
    refine op_eb (sR_ok (k := i - 1) e1 (by rw [ln70]; omega) hpi.2) ?_
    rw [nI_1]
    refine ih m (i + 1) _ (by omega) (by omega) (hF.tr (Fs.uI rfl)) (fun j j1 j2 => ?_) (fun j j1 j2 => ?_) (by omega)
    · rw [uI_eq]
      by_cases e : j = i - 1
      · refine (if_pos e).trans ?_
        rw [e, show i - 1 + 1 = i by omega]
        exact hpi.1.symm
      · exact (if_neg e).trans (ha j h1 (by omega))
    · rw [uI_eq]
      exact (if_neg (by omega)).trans (hb j (by omega) j2)
theorem x3_record {p : Nat → Nat} (h : PC μ c p S) (hn : NV μ 1 s g) : Op (F_X3_record μ) (fun μ' => (∃ p', PC μ' (pC c) p' (pS c S (s, g))) ∧ (NV μ' 1 s g ∧ Fs P70 μ μ')) := by
  obtain ⟨h1, h2, h3, h4, h5⟩ := id h
  unfold F_X3_record
  by_cases e : c < 8
  · refine op_eb (if_pos (by rw [h1]; exact nI_lt e (by decide))) ?_
    refine op_m (x3_rec1 h e hn) (fun μ' w => ⟨⟨p, ?_⟩, w.2⟩)
    unfold pC
    rw [if_pos e]
    have : pS c S (s, g) = fun i => if i = c then (s, g) else S i := by
      funext i
      unfold pS
      rw [if_pos e]
    rw [this]
    exact w.1
  · obtain rfl : c = 8 := by omega
    have d0 := h3 0 (by decide)
    refine op_mb (Q := fun m => PC m 7 (fun i => if i < 7 then p (i + 1) else p 0) (fun i => S (i + 1)) ∧ (NV m 1 s g ∧ Fs (fun a => a = 0 ∨ a = 70) μ m)) ?_ (fun m w => ?_)
    · refine op_f (by rw [h1]; exact nI_nlt (by omega) (by omega)) ?_
      refine op_eb (aR_ok (k := 0) rfl (by rw [ln70]; decide) d0.1 (pool_kd d0.2.1)) ?_
      obtain ⟨m1, hm1, g1, F1⟩ := x3_recL (μ := μ) (p := p) (b6 := p 0) (fun i hi => ⟨(h3 i hi).1, pool_kd (h3 i hi).2.1⟩) 7 qFuel 1 μ (by decide) (by unfold qFuel; omega) Fs.rf (fun i h1 h2 => absurd h2 (by omega)) (fun i h1 h2 => rfl) (by decide)
      refine op_eb hm1 (op_eb (sR_ok (k := 7) rfl (by rw [ln70]; decide) (pool_kd d0.2.1)) (op_br (op_r ?_)))
      have fr : Fs (fun a => a = 0 ∨ a = 70) μ (uI (uI m1 70 7 (nI (p 0))) 0 5 7) := ((F1.mo (fun a e => Or.inr e)).tr (Fs.uI (Or.inr rfl))).tr (Fs.uI (Or.inl rfl))
      have hp : ∀ i, i < 8 → (∃ j, j < 8 ∧ (if i < 7 then p (i + 1) else p 0) = p j ∧ j = (if i < 7 then i + 1 else 0)) := fun i hi => by
        by_cases e7 : i < 7
        · exact ⟨i + 1, by omega, by rw [if_pos e7], by rw [if_pos e7]⟩
        · exact ⟨0, by omega, by rw [if_neg e7], by rw [if_neg e7]⟩
      refine ⟨⟨by rw [uI_eq]; rfl, by decide, fun i hi => ?_, fun i j hi hj q => ?_, fun i hi => ?_⟩, SV.fs hn fr (fun a a1 a2 => by omega), fr⟩
      · obtain ⟨j, j1, j2, j3⟩ := hp i hi
        have := pool_lo (h3 j j1).2.1
        show _ = nI (if i < 7 then p (i + 1) else p 0) ∧ (pool (if i < 7 then p (i + 1) else p 0) ∧ KB _ (if i < 7 then p (i + 1) else p 0))
        rw [j2]
        refine ⟨?_, (h3 j j1).2.1, (h3 j j1).2.2.fs fr (fun a a1 a2 => by omega)⟩
        rw [uI_ne (by decide), uI_eq]
        show (if i = 7 then nI (p 0) else m1.1 70 i) = _
        by_cases e7 : i = 7
        · rw [if_pos e7, j3, if_neg (by omega)]
        · rw [if_neg e7, g1 i (by omega), (h3 (i + 1) (by omega)).1, j3, if_pos (by omega)]
      · obtain ⟨a, a1, a2, a3⟩ := hp i hi
        obtain ⟨b, b1, b2, b3⟩ := hp j hj
        have := h4 a b a1 b1 (a2.symm.trans (q.trans b2))
        rw [a3, b3] at this
        split at this <;> split at this <;> omega
      · show NV _ (if i < 7 then p (i + 1) else p 0) (S (i + 1)).1 (S (i + 1)).2
        rw [if_pos hi]
        have := pool_lo (h3 (i + 1) (by omega)).2.1
        exact SV.fs (h5 (i + 1) (by omega)) fr (fun a a1 a2 => by omega)
    · refine op_m (x3_rec1 w.1 (by decide) w.2.1) (fun μ' z => ⟨⟨fun i => if i < 7 then p (i + 1) else p 0, ?_⟩, z.2.1, (w.2.2.mo (fun a e => by unfold P70; omega)).tr z.2.2⟩)
      have e1 : pC 8 = 7 + 1 := by decide
      rw [e1]
      have e2 : ∀ i, i < 7 + 1 → pS 8 S (s, g) i = if i = 7 then (s, g) else S (i + 1) := fun i hi => by
        unfold pS
        rw [if_neg (by decide)]
        by_cases e7 : i = 7
        · rw [if_pos e7, if_neg (by omega)]
        · rw [if_neg e7, if_pos (by omega)]
      obtain ⟨z1, z2, z3, z4, z5⟩ := z.1
      exact ⟨z1, z2, z3, z4, fun i hi => by rw [e2 i hi]; exact z5 i hi⟩
end REC

