/-! ===== the reader of the class beside the reference's ===== -/
def RdT (μ : Mm) (s : Nat → Int32) : Prop :=
  Tb μ 48 3 (ct s 0) (fun r k => s (8 + 6 * k + r)) ∧ (Tb μ 52 2 (ct s 1) (fun a k => s (26 + 5 * k + a)) ∧ (Tb μ 55 10 (ct s 2) (fun r k => s (58 + 10 * r + k)) ∧ (Tb μ 59 6 (ct s 3) (fun l k => s (158 + 6 * l + k)) ∧ (Tb μ 61 6 (ct s 4) (fun l k => s (206 + 6 * l + k)) ∧ ((∀ k, k < 12 → μ.1 50 k = s (36 + k)) ∧ ((∀ k, k < 5 → k < ct s 7 → μ.1 51 k = s (48 + k)) ∧ (μ.1 47 3 = s 7 ∧ μ.1 47 15 = s 6)))))))
def LSg (a : Nat) : Prop := a = 45 ∨ ((47 ≤ a ∧ a < 54) ∨ (a = 55 ∨ (a = 56 ∨ (59 ≤ a ∧ a < 63))))
def GC (f : Nat → Int32) (n t : Nat) (s : Nat → Int32) (b μ : Mm) : Prop := CL f n t μ ∧ ((μ.1 45 4 = 0 ∧ μ.1 45 3 = -1) ∧ (RdT μ s ∧ (Fs LSg b μ ∧ ∀ j, j ≠ 3 → j ≠ 15 → μ.1 47 j = b.1 47 j)))
theorem RdT.ts {μ : Mm} {s : Nat → Int32} (h : RdT μ s) : TS μ := fun t c q => by
  obtain ⟨h1, h2, h3, h4, h5, -⟩ := h
  rcases q with ⟨rfl, rfl⟩ | ⟨rfl, rfl⟩ | ⟨rfl, rfl⟩ | ⟨rfl, rfl⟩ | ⟨rfl, rfl⟩
  · exact ⟨_, _, h1⟩
  · exact ⟨_, _, h2⟩
  · exact ⟨_, _, h3⟩
  · exact ⟨_, _, h4⟩
  · exact ⟨_, _, h5⟩
theorem RdT.fs {S : Nat → Prop} {μ μ' : Mm} {s : Nat → Int32} (h : RdT μ s) (hF : Fs S μ μ') (hS : ∀ a, 47 ≤ a → a < 69 → ¬ S a) : RdT μ' s := by
  obtain ⟨h1, h2, h3, h4, h5, h6, h7, h8, h9⟩ := h
  refine ⟨h1.fs hF (hS _ (by decide) (by decide)) (hS _ (by decide) (by decide)), h2.fs hF (hS _ (by decide) (by decide)) (hS _ (by decide) (by decide)), h3.fs hF (hS _ (by decide) (by decide)) (hS _ (by decide) (by decide)), h4.fs hF (hS _ (by decide) (by decide)) (hS _ (by decide) (by decide)), h5.fs hF (hS _ (by decide) (by decide)) (hS _ (by decide) (by decide)), ?_, ?_, ?_, ?_⟩
  · rw [(hF.1 50 (hS _ (by decide) (by decide))).1]; exact h6
  · rw [(hF.1 51 (hS _ (by decide) (by decide))).1]; exact h7
  · rw [(hF.1 47 (hS _ (by decide) (by decide))).1]; exact h8
  · rw [(hF.1 47 (hS _ (by decide) (by decide))).1]; exact h9
theorem i32_rg {v : Int32} {lo hi : Nat} (h1 : ¬ v < nI lo) (h2 : v ≤ nI hi) (hl : lo < 2 ^ 30) (hh : hi < 2 ^ 30) : ∃ w, v = nI w ∧ (lo ≤ w ∧ w ≤ hi) := by
  have h0 : ¬ v < 0 := fun z => h1 (Int32.lt_of_lt_of_le z (nI_pos' (by omega)))
  obtain ⟨w, w1, rfl⟩ := i32_pos h0
  refine ⟨w, rfl, ?_, ?_⟩
  · rcases Nat.lt_or_ge w lo with z | z
    · exact absurd (nI_lt z (by omega)) h1
    · exact z
  · rcases Nat.lt_or_ge hi w with z | z
    · exact absurd h2 (nI_ge z w1)
    · exact z
theorem i32_rp {v : Int32} {lo c : Nat} (h1 : ¬ v < nI lo) (h2 : v ≤ nI c - 1) (hl : lo < 2 ^ 30) (hc : c < 2 ^ 30) : ∃ w, v = nI w ∧ (lo ≤ w ∧ w < c) := by
  rcases Nat.eq_zero_or_pos c with e | e
  · exfalso
    rw [e] at h2
    have h0 : ¬ v < 0 := fun z => h1 (Int32.lt_of_lt_of_le z (nI_pos' (by omega)))
    exact h0 (Int32.lt_of_le_of_lt h2 (by decide))
  · rw [nI_sub1 e] at h2
    obtain ⟨w, w1, w2, w3⟩ := i32_rg h1 h2 hl (by omega)
    exact ⟨w, w1, w2, by omega⟩
section STEP
variable {f : Nat → Int32} {n t a k o : Nat} {s s' : Nat → Int32} {q : Int32} {b b' μ μc μm : Mm}
theorem GC.fx {μ' : Mm} (h : GC f n t s b μ) (hk : k ≠ 0 ∧ k < 10) (he : Er k o μ') (k34 : K34 μ μ') : FX f n k o b μ' := by
  obtain ⟨h1, h2, h3, h4, h5⟩ := h
  exact ⟨hk, he, h3.ts.fs k34.1 (fun t c q => by unfold tt at q; omega), ⟨t, h1.k34 k34⟩, (h4.mo (fun a e => by unfold LSg at e; unfold LSt; omega)).tr (k34.1.mo (fun a e => Or.inl e))⟩
theorem GC.mv {t' : Nat} {μ' : Mm} (h : GC f n t s b μ) (hc : CL f n t' μ') (k45 : K45 μ μ') : GC f n t' s b μ' := by
  obtain ⟨h1, h2, h3, h4, h5⟩ := h
  exact ⟨hc, ⟨(k45.2 4 (by decide)).trans h2.1, (k45.2 3 (by decide)).trans h2.2⟩, h3.fs k45.1 (fun a x y => by omega), h4.tr (k45.1.mo (fun a e => Or.inl e)), fun j j3 j5 => by rw [(k45.1.1 47 (by decide)).1]; exact h5 j j3 j5⟩
theorem gc_fail (h : GC f n t s b μ) (hk : k ≠ 0 ∧ k < 10) : Op (F_X0_fail (nI k) (nI o) μ) (fun μ' => FX f n k o b μ') := op_m (x0_fail0 (k := k) (o := o) h.2.1.1) (fun μ' w => h.fx hk w.1 w.2)
end STEP

