/-! ===== a line that has failed: the class goes on, and nothing counts ===== -/
def tt (t c : Nat) : Prop := (t = 48 ∧ c = 3) ∨ ((t = 52 ∧ c = 2) ∨ ((t = 55 ∧ c = 10) ∨ ((t = 59 ∧ c = 6) ∨ (t = 61 ∧ c = 6))))
def TS (μ : Mm) : Prop := ∀ t c, tt t c → ∃ m h, Tb μ t c m h
/-- what a line of the class changes -/
def LSt (a : Nat) : Prop := a = 45 ∨ (47 ≤ a ∧ a < 63)
def FX (f : Nat → Int32) (n k o : Nat) (b μ : Mm) : Prop := (k ≠ 0 ∧ k < 10) ∧ (Er k o μ ∧ (TS μ ∧ ((∃ t, CL f n t μ) ∧ Fs LSt b μ)))
theorem TS.fs {S : Nat → Prop} {μ μ' : Mm} (h : TS μ) (hF : Fs S μ μ') (hS : ∀ t c, tt t c → ¬ S t ∧ ¬ S (t + 1)) : TS μ' := fun t c q => by
  obtain ⟨m, g, w⟩ := h t c q
  exact ⟨m, g, w.fs hF (hS t c q).1 (hS t c q).2⟩
theorem TS.one {μ μ' : Mm} {t c m : Nat} {g : Nat → Nat → Int32} (h : TS μ) (hF : Fs (fun a => a = t ∨ a = t + 1) μ μ') (ht : tt t c) (w : Tb μ' t c m g) : TS μ' := fun t' c' q => by
  by_cases e : t' = t
  · have : c' = c := by unfold tt at ht q; omega
    rw [e, this]
    exact ⟨m, g, w⟩
  · obtain ⟨m', g', w'⟩ := h t' c' q
    exact ⟨m', g', w'.fs hF (by unfold tt at ht q; omega) (by unfold tt at ht q; omega)⟩
section FXS
variable {f : Nat → Int32} {n k o : Nat} {b μ : Mm}
theorem FX.er (h : FX f n k o b μ) : ¬ μ.1 45 4 = 0 := by
  have h1 := h.1
  rw [h.2.1.1]
  exact nI_ne0 (by omega) (by omega)
theorem FX.fs {S : Nat → Prop} {μ' : Mm} (h : FX f n k o b μ) (hF : Fs S μ μ') (hT : TS μ') (h5 : ¬ S 45) (h6 : ¬ S 46) (hS : ∀ a, S a → LSt a) : FX f n k o b μ' := by
  obtain ⟨a1, ⟨a2, a3⟩, a4, ⟨t, a5⟩, a6⟩ := h
  refine ⟨a1, ⟨?_, ?_⟩, hT, ⟨t, a5.fs hF h5 h6⟩, a6.tr (hF.mo hS)⟩
  · rw [(hF.1 45 h5).1]; exact a2
  · rw [(hF.1 45 h5).1]; exact a3
theorem fx_next (hn : n ≤ 900) (h : FX f n k o b μ) : Op (F_X0_nextToken μ) (fun μ' => FX f n k o b μ') := by
  obtain ⟨a1, ⟨a2, a3⟩, a4, ⟨t, a5⟩, a6⟩ := h
  refine op_m (a5.next hn) (fun μ' w => ⟨a1, ⟨?_, ?_⟩, a4.fs w.2.1 (fun t c q => by unfold tt at q; omega), ⟨_, w.1⟩, a6.tr (w.2.1.mo (fun a e => Or.inl e))⟩)
  · rw [w.2.2 4 (by decide)]; exact a2
  · rw [w.2.2 3 (by decide)]; exact a3
theorem fx_num {lo hi : Int32} (h : FX f n k o b μ) : F_X0_takeNumber lo hi μ = some (lo, μ) := x0_numF h.er
theorem fx_fail {x y : Int32} (h : FX f n k o b μ) : F_X0_fail x y μ = some μ := x0_failF h.er
theorem fx_row {q : Nat} {x : Int32} (hn : n ≤ 900) (h : FX f n k o b μ) : Op (F_X0_takeRowWord q x μ) (fun μ' => FX f n k o b μ') := by
  unfold F_X0_takeRowWord
  by_cases e : μ.1 q 2 < x
  · rw [if_pos e]
    exact op_mb (fx_next hn h) (fun m w => op_r w)
  · rw [if_neg e]
    exact op_eb (fx_fail h) (op_r h)
theorem fx_isW {w : Nat} (hn : n ≤ 900) (hw : w < 10) (h : FX f n k o b μ) : F_X0_isWord w μ = some 0 ∨ F_X0_isWord w μ = some 1 := by
  obtain ⟨a1, ⟨a2, a3⟩, a4, ⟨t, a5⟩, a6⟩ := h
  rw [x0_isW a5 hn hw]
  split
  · exact Or.inr rfl
  · exact Or.inl rfl
theorem fx_taken {t c j : Nat} {x y : Int32} (ht : tt t c) (hj : j < c) (h : FX f n k o b μ) : F_X0_failIfTaken t (nI j) x y μ = some μ := by
  obtain ⟨m, g, w⟩ := h.2.2.1 t c ht
  have hm := w.n_le
  have key : ∀ (d z i : Nat), i + d = m → d < z → F_X0_failIfTaken_3 t (nI j) x y z (nI i) μ = some μ := by
    intro d
    induction d with
    | zero =>
      intro z i hi hz
      obtain ⟨z, rfl⟩ : ∃ q, z = q + 1 := ⟨z - 1, by omega⟩
      rw [F_X0_failIfTaken_3, w.2.1, if_pos (nI_le (by omega) (by omega))]
    | succ d ih =>
      intro z i hi hz
      obtain ⟨z, rfl⟩ : ∃ q, z = q + 1 := ⟨z - 1, by omega⟩
      rw [F_X0_failIfTaken_3, w.2.1, if_neg (nI_ge (by omega) (by omega))]
      refine be_ (x2_get w (by omega) hj) ?_
      have : ((if g i j = x then ((F_X0_fail (3 : Int32) y μ).bind fun o12 => some o12) else (some μ)) : Option Mm) = some μ := by
        by_cases e : g i j = x
        · rw [if_pos e, fx_fail h]; rfl
        · rw [if_neg e]
      refine be_ this ?_
      rw [nI_1]
      exact ih z (i + 1) (by omega) (by omega)
  unfold F_X0_failIfTaken
  exact be_ (key m qFuel 0 (by omega) (by unfold qFuel; omega)) rfl
theorem fx_add {t c : Nat} (ht : tt t c) (h : FX f n k o b μ) : Op (F_X2_addRow t μ) (fun z => FX f n k o b z.2) := by
  obtain ⟨m, g, w⟩ := h.2.2.1 t c ht
  have hm := w.n_le
  have hc : c ≤ 10 := w.2.2.1.2.2
  by_cases e : (m + 1) * c ≤ ln (t + 1)
  · exact op_m (x2_add w e) (fun z q => h.fs q.2.2 (h.2.2.1.one q.2.2 ht q.2.1) (by unfold tt at ht; omega) (by unfold tt at ht; omega) (fun a q => by unfold tt at ht; unfold LSt; omega))
  · refine op_e (x2_addO w e ?_) h
    have : (m + 1) * c ≤ 5001 * 10 := Nat.mul_le_mul (by omega) hc
    omega
theorem fx_put {t c j : Nat} {i v : Int32} (ht : tt t c) (hj : j < c) (h : FX f n k o b μ) : Op (F_X2_put t i (nI j) v μ) (fun z => FX f n k o b z) := by
  obtain ⟨m, g, w⟩ := h.2.2.1 t c ht
  have hm := w.n_le
  by_cases e : i < 0 ∨ nI m ≤ i
  · exact op_e (x2_putO w e) h
  · obtain ⟨r, r1, rfl⟩ := i32_pos (p := i) (fun z => e (Or.inl z))
    have hr : r < m := by
      rcases Nat.lt_or_ge r m with z | z
      · exact z
      · exact absurd (Or.inr (nI_le z r1)) e
    refine op_e (x2_put w hr hj) ?_
    have fr : Fs (fun a => a = t ∨ a = t + 1) μ (uI μ (t + 1) (r * c + j) v) := Fs.uI (Or.inr rfl)
    exact h.fs fr (h.2.2.1.one fr ht (w.set hr hj)) (by unfold tt at ht; omega) (by unfold tt at ht; omega) (fun a q => by unfold tt at ht; unfold LSt; omega)
theorem fx_u {j q : Nat} {v : Int32} (h : FX f n k o b μ) (hj : j = 47 ∨ (j = 50 ∨ j = 51)) : FX f n k o b (uI μ j q v) := by
  have fr : Fs (fun a => a = j) μ (uI μ j q v) := Fs.uI rfl
  exact h.fs fr (h.2.2.1.fs fr (fun t c z => by unfold tt at z; omega)) (by omega) (by omega) (fun a z => by unfold LSt; omega)
theorem tt0 : tt 48 3 := Or.inl ⟨rfl, rfl⟩
theorem tt1 : tt 52 2 := Or.inr (Or.inl ⟨rfl, rfl⟩)
theorem tt2 : tt 55 10 := Or.inr (Or.inr (Or.inl ⟨rfl, rfl⟩))
theorem tt3 : tt 59 6 := Or.inr (Or.inr (Or.inr (Or.inl ⟨rfl, rfl⟩)))
theorem tt4 : tt 61 6 := Or.inr (Or.inr (Or.inr (Or.inr ⟨rfl, rfl⟩)))
theorem fx_remAll (h : FX f n k o b μ) : Op (F_X2_removeAll 52 μ) (fun z => FX f n k o b z) := by
  obtain ⟨m, g, w⟩ := h.2.2.1 52 2 tt1
  refine op_m (x2_remAll w g) (fun z q => ?_)
  have fr : Fs (fun a => a = 52 ∨ a = 52 + 1) μ z := q.2.mo (fun a e => Or.inl e)
  exact h.fs fr (h.2.2.1.one fr tt1 q.1) (by omega) (by omega) (fun a q => by unfold LSt; omega)
theorem fx_accL : ∀ (d m i : Nat) (μ : Mm), i + d = 1 → d < m → FX f n k o b μ → Op (F_X0_readAccounts_46 1 m (nI i) μ) (fun z => FX f n k o b z) := by
  intro d
  induction d with
  | zero =>
    intro m i μ hi hm h
    obtain ⟨m, rfl⟩ : ∃ q, m = q + 1 := ⟨m - 1, by omega⟩
    obtain rfl : i = 1 := by omega
    rw [F_X0_readAccounts_46]
    exact op_t (show (1 : Int32) ≤ nI 1 by decide) (op_r h)
  | succ d ih =>
    intro m i μ hi hm h
    obtain ⟨m, rfl⟩ : ∃ q, m = q + 1 := ⟨m - 1, by omega⟩
    obtain rfl : i = 0 := by omega
    rw [F_X0_readAccounts_46]
    refine op_f (show ¬ (1 : Int32) ≤ nI 0 by decide) (op_mb (fx_add tt1 h) (fun z w => ?_))
    rw [nI_1]
    exact ih m 1 z.2 (by omega) (by omega) w
theorem fx_lea {a0 a1 a2 a3 a4 a5 : Int32} (h : FX f n k o b μ) : Op (F_X1_addLease 47 a0 a1 a2 a3 a4 a5 μ) (fun z => FX f n k o b z.2) := by
  unfold F_X1_addLease
  refine op_mb (fx_add (t := 59) tt3 h) (fun z w => ?_)
  refine op_mb (fx_put (t := 59) (j := 0) tt3 (by decide) w) (fun z1 w1 => ?_)
  refine op_mb (fx_put (t := 59) (j := 1) tt3 (by decide) w1) (fun z2 w2 => ?_)
  refine op_mb (fx_put (t := 59) (j := 2) tt3 (by decide) w2) (fun z3 w3 => ?_)
  refine op_mb (fx_put (t := 59) (j := 3) tt3 (by decide) w3) (fun z4 w4 => ?_)
  refine op_mb (fx_put (t := 59) (j := 4) tt3 (by decide) w4) (fun z5 w5 => ?_)
  exact op_mb (fx_put (t := 59) (j := 5) tt3 (by decide) w5) (fun z6 w6 => op_r w6)
end FXS

