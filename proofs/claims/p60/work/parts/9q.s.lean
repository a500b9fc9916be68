/-! ===== load ===== -/
section LDC
variable {μ ν μ' b : Mm} {f : Nat → Int32} {n t k o : Nat} {s : Nat → Int32}
/-- what the class' load changes -/
def SLd (a : Nat) : Prop := a < 23 ∨ (a = 45 ∨ ((47 ≤ a ∧ a < 69) ∨ a = 292))
theorem x1_rankF (h : TS μ) : Op (F_X1_rankRights 47 μ) (fun μ' => Fs (fun a => a = 57) μ μ') := by
  obtain ⟨m, g, w⟩ := h 55 10 tt2
  have h2 := w.2.2.1.1
  rw [show ln (55 + 1) = 100 by decide +kernel] at h2
  have hm : m ≤ 10 := by omega
  refine op_m (x1_rank (s := fun j => if j = 2 then nI m else g ((j - 60) / 10) 2) (b := 47) kd_47 w (fun q hq => ?_) hm ?_) (fun μ' w => w.2)
  · show g q 2 = if 58 + 10 * q + 2 = 2 then nI m else g ((58 + 10 * q + 2 - 60) / 10) 2
    rw [if_neg (by omega), show (58 + 10 * q + 2 - 60) / 10 = q by omega]
  · exact ct_nI (n := m) (if_pos rfl) (by omega)
theorem c_good (e1 : F_X0_readText μ = (F_X0_readText_28 qFuel 0 b).bind rtB) {oc : Mm} (e2 : F_X0_readText_28 qFuel 0 b = some oc) (F0 : Fs (fun a => a = 45 ∨ Blk 47 a) μ b) (N0 : NV b 47 sE gE) (C : GC f n t s b oc) (R : Rok s) (hk : KB μ 1) :
    ∃ μ1, F_X3_load μ = some (0, s 2, μ1) ∧ (NV μ1 1 s gE ∧ (KB μ1 47 ∧ (μ1.1 0 5 = 0 ∧ ((∀ j, j < 2 → μ1.1 292 j = 0) ∧ ((μ1.1 45 2 = 0 ∧ (μ1.1 45 3 = -1 ∧ μ1.1 45 4 = 0)) ∧ Fs SLd μ μ1))))) := by
  obtain ⟨h1, ⟨h4, h3⟩, h5, h6, h7⟩ := C
  obtain ⟨m38, e3, N3, F3⟩ := c_post h5 R N0 h6 h7
  have F38 : Fs (fun a => a = 45 ∨ Blk 47 a) μ m38 := (F0.tr (h6.mo (fun a e => by unfold LSg at e; unfold Blk; omega))).tr (F3.mo (fun a e => by unfold Blk; omega))
  have F39 : Fs (fun a => a = 45 ∨ Blk 47 a) μ (uI m38 45 2 0) := F38.tr (Fs.uI (Or.inl rfl))
  have e45 : m38.1 45 = oc.1 45 := (F3.1 45 (by decide)).1
  have N4 : NV (uI m38 45 2 0) 47 s gE := SV.fs N3 (Fs.uI (S := fun a => a = 45) rfl) (fun a x y => by omega)
  obtain ⟨m10, e5, N5, F5⟩ := x1_copy N4 kd1 kd_47 (by decide) (hk.fs F39 (fun a x y => by unfold Blk; omega))
  obtain ⟨m19, e6, z6, F6⟩ := c_l51 2 qFuel 0 (uI m10 0 5 0) (by decide) (by decide) (fun j h => absurd h (Nat.not_lt_zero j))
  have N6 : NV m19 1 s gE := SV.fs (SV.fs N5 (Fs.uI (S := fun a => a = 0) (k := 5) (v := 0) rfl) (fun a x y => by omega)) F6 (fun a x y => by omega)
  have G6 : Fs (fun a => a < 23 ∨ a = 292) (uI m38 45 2 0) m19 := ((F5.mo (fun a e => by unfold Blk at e; omega)).tr (Fs.uI (Or.inl (by decide)))).tr (F6.mo (fun a e => Or.inr e))
  have hrt : F_X0_readText μ = some (1, m38) := e1.trans (be_ e2 (be_ e3 (if_pos (by rw [e45]; exact h4))))
  have e45' : ∀ j, m19.1 45 j = if j = 2 then 0 else oc.1 45 j := fun j => by rw [(G6.1 45 (by omega)).1, uI_eq, e45]
  refine ⟨m19, ?_, N6, ((SV.kb N4).fs G6 (fun a x y => by omega)), ?_, z6, ⟨by rw [e45']; rfl, by rw [e45']; exact h3, by rw [e45']; exact h4⟩, (F39.mo (fun a e => by unfold Blk at e; unfold SLd; omega)).tr (G6.mo (fun a e => by unfold SLd; omega))⟩
  · unfold F_X3_load
    refine be_ hrt (be_ rfl ((if_neg n10).trans (be_ e5 (be_ rfl (be_ e6 ?_)))))
    have q : m19.1 9 2 = s 2 := by
      have := N6.rgt.2.1
      rw [show (1 : Nat) + 8 = 9 from rfl] at this
      rw [this]
      exact R.1.2.2.1.1.symm
    rw [q]
  · rw [(F6.1 0 (by decide)).1, uI_eq]
    rfl
theorem c_bad (e1 : F_X0_readText μ = (F_X0_readText_28 qFuel 0 b).bind rtB) {oc : Mm} (e2 : F_X0_readText_28 qFuel 0 b = some oc) (F0 : Fs (fun a => a = 45 ∨ Blk 47 a) μ b) (N0 : NV b 47 sE gE) (X : FX f n k o b oc) :
    ∃ μ1, F_X3_load μ = some (3, 0, μ1) ∧ (KB μ1 47 ∧ ((μ1.1 45 2 = 0 ∧ (μ1.1 45 3 = nI o ∧ μ1.1 45 4 = nI k)) ∧ Fs (fun a => a = 45 ∨ (47 ≤ a ∧ a < 69)) μ μ1)) := by
  have he := X.er
  obtain ⟨h1, ⟨h4, h3⟩, hT, ht, h6⟩ := X
  obtain ⟨m38, e3, F3⟩ := x1_rankF hT
  have F38 : Fs (fun a => a = 45 ∨ (47 ≤ a ∧ a < 69)) μ m38 := ((F0.mo (fun a e => by unfold Blk at e; omega)).tr (h6.mo (fun a e => by unfold LSt at e; omega))).tr (F3.mo (fun a e => by omega))
  have e45 : m38.1 45 = oc.1 45 := (F3.1 45 (by decide)).1
  have hrt : F_X0_readText μ = some (0, m38) := e1.trans (be_ e2 (be_ e3 (if_neg (by rw [e45]; exact he))))
  have e45' : ∀ j, (uI m38 45 2 0).1 45 j = if j = 2 then 0 else oc.1 45 j := fun j => by rw [uI_eq, e45]
  have FT : Fs (fun a => a = 45 ∨ a = 57) oc (uI m38 45 2 0) := (F3.mo (fun a e => Or.inr e)).tr (Fs.uI (Or.inl rfl))
  have hc : ∀ t c, tt t c → (uI m38 45 2 0).1 t 0 = nI c := fun t c q => by
    obtain ⟨m, g, w⟩ := hT t c q
    rw [(FT.1 t (by unfold tt at q; omega)).1]
    exact w.1
  have hb := N0.kb
  have FB : Fs (fun a => a = 45 ∨ (47 ≤ a ∧ a < 63)) b (uI m38 45 2 0) := (h6.mo (fun a e => by unfold LSt at e; omega)).tr (FT.mo (fun a e => by omega))
  refine ⟨uI m38 45 2 0, ?_, ⟨hc _ _ tt0, hc _ _ tt1, hc _ _ tt2, hc _ _ tt3, hc _ _ tt4, ?_, ?_, ?_⟩, ⟨by rw [e45']; rfl, by rw [e45']; exact h3, by rw [e45']; exact h4⟩, F38.tr (Fs.uI (Or.inl rfl))⟩
  · unfold F_X3_load
    exact be_ hrt (be_ rfl (if_pos rfl))
  · rw [(FB.1 (47 + 16) (by decide)).1]; exact hb.2.2.2.2.2.1
  · rw [(FB.1 (47 + 18) (by decide)).1]; exact hb.2.2.2.2.2.2.1
  · rw [(FB.1 (47 + 20) (by decide)).1]; exact hb.2.2.2.2.2.2.2
end LDC

