/-! ===== restore, save ===== -/
section RSV
variable {μ ν μ' : Mm} {k : Nat}
theorem slot_c (p : Int32) : (∃ i, i < 2 ∧ (p = nI i ∧ (F_X3_needSlot p μ = some 0 ∧ F_X4_inRange p 0 1 ν = some 1))) ∨ (F_X3_needSlot p μ = some 1 ∧ F_X4_inRange p 0 1 ν = some 0) := by
  rcases range_c (μ := μ) (ν := ν) p (lo := 0) (hi := 1) (by decide) (by decide) with ⟨v, v1, v2, rfl, v4, v5⟩ | ⟨v4, v5⟩
  · exact Or.inl ⟨v, by omega, rfl, (if_neg (nI_pos (by omega))).trans (if_pos (show nI v < nI 2 from nI_lt (by omega) (by decide))), v5⟩
  · refine Or.inr ⟨?_, v5⟩
    unfold F_X3_needSlot
    by_cases e : p < 0
    · rw [if_pos e]
    · rw [if_neg e]
      by_cases e2 : p < 2
      · exfalso
        obtain ⟨v, hv, rfl⟩ := i32_pos (p := p) e
        have hv2 : v < 2 := (nI_ltn (b := 2) (by decide) hv).mp e2
        have : F_X3_needRange (nI v) (nI 0) (nI 1) μ = some 0 := (if_neg (nI_pos (by omega))).trans (if_pos (nI_le (by omega) (by decide)))
        rw [this] at v4
        cases v4
      · rw [if_neg e2]
theorem slot_kd {i : Nat} (h : i < 2) : kd (248 + 22 * i) = 1 := by
  have key : ∀ i, i < 2 → kd (248 + 22 * i) = 1 := by decide +kernel
  exact key i h
theorem a_restore (h : Cor k μ) (hk : k < 512) (p : Int32) : ∃ e t v w' μ1 μ2, F_X3_restore p μ = some (e, v, μ1) ∧ (F_X4_restore p μ1 = some (w', μ2) ∧ ((e, t) ∈ [(0, 0), (1, 1), (4, 2)] ∧ (μ2.1 295 0 = nI t ∧ ((e = 0 → v = w') ∧ PA k μ μ2)))) := by
  have hS := h.2.2.2.2
  obtain ⟨c, pp, S, q1, q2, q3⟩ := h.2.2.2.1
  have no : ∀ {e t : Nat}, e ≠ 0 → (e, t) ∈ [(0, 0), (1, 1), (4, 2)] → F_X3_restore p μ = some (e, 0, μ) → F_X4_restore p μ = some (0, uI μ 295 0 (nI t)) → ∃ e t v w' μ1 μ2, F_X3_restore p μ = some (e, v, μ1) ∧ (F_X4_restore p μ1 = some (w', μ2) ∧ ((e, t) ∈ [(0, 0), (1, 1), (4, 2)] ∧ (μ2.1 295 0 = nI t ∧ ((e = 0 → v = w') ∧ PA k μ μ2)))) := fun {e t} he hm h1 h2 => ⟨e, t, 0, 0, μ, uI μ 295 0 (nI t), h1, h2, hm, by rw [uI_eq]; rfl, fun z => absurd z he, PA.th h hk _⟩
  rcases slot_c (μ := μ) (ν := μ) p with ⟨i, i2, rfl, s1, s2⟩ | ⟨s1, s2⟩
  · obtain ⟨h1, h2, h3, h4⟩ := hS i i2
    have a292 : aI μ 292 (nI i) = some (μ.1 292 i) := aI_ok rfl (by rw [ln292]; exact i2)
    have a305 : ∀ ν : Mm, ν.1 305 = μ.1 305 → aI ν 305 (nI i) = some (μ.1 292 i) := fun ν e => (aI_ok rfl (by rw [ln305]; exact i2)).trans (congrArg some (by rw [e, h2]))
    rcases h3 with e0 | e1
    · refine no (t := 2) (show 4 ≠ 0 by decide) (by decide) (be_ s1 ((if_pos rfl).trans (be_ a292 (if_pos e0)))) ?_
      refine be_ s2 ?_
      refine (m_tail (t := 2) (z := 0) ?_ (by decide)).trans (if_neg (by decide))
      exact (if_neg n10).trans (be_ (a305 _ rfl) (if_pos e0))
    · have hne : ¬ μ.1 292 i = 0 := by rw [e1]; decide
      obtain ⟨hN, hO⟩ := h4 e1
      have hkd := slot_kd i2
      obtain ⟨ma, a1, a2, a3⟩ := x1_copy hN kd1 hkd (by omega) (h.2.1 1 kd1)
      have F0 : Fs (fun a => a = 0 ∨ Blk 1 a) μ (uI ma 0 5 0) := (a3.mo (fun a e => Or.inr e)).tr (Fs.uI (Or.inl rfl))
      have A2 : NV (uI ma 0 5 0) 1 (sr μ i) (sl μ i) := SV.fs a2 (Fs.uI (S := fun a => a = 0) rfl) (fun a a1 a2 => by omega)
      have c0 : (uI ma 0 5 0).1 0 5 = nI 0 := by rw [uI_eq]; rfl
      have q1' := q1.less (c' := 0) F0 (by unfold Blk; omega) (fun a x y => by unfold Blk; omega) c0 (Nat.zero_le c)
      have t14 : (uI ma 0 5 0).1 1 14 = sr μ i 5 := A2.sca.2.1
      generalize hmb : uI ma 0 5 0 = mb at *
      have b295 : mb.1 295 = μ.1 295 := (F0.1 295 (by unfold Blk; omega)).1
      have g303 : (uI mb 295 0 0).1 303 = μ.1 303 := (uI_ne (by decide)).trans (F0.1 303 (by unfold Blk; omega)).1
      have g304 : (uI mb 295 0 0).2.1 304 = μ.2.1 304 := (F0.1 304 (by unfold Blk; omega)).2
      obtain ⟨m6, b1, b2, -, b4⟩ := cpLoopM (loop := F_X4_restore_42 (nI i)) (src := 303) (dst := 296) (N := 521) (ix := fun _ v => 521 * nI i + v) (by decide) (by decide) (fun m v μ => by rw [F_X4_restore_42]; rfl) (off := 521 * i) (R := fun _ => True) (fun μ k _ _ => by show nI 521 * nI i + nI k = _; rw [pk_mul, nI_add]) (by rw [ln303]; omega) (by rw [ln296]; decide) (fun m k v _ => trivial) (f := μ.1 303) (f0 := (uI mb 295 0 0).1 296) 521 qFuel 0 (uI mb 295 0 0) (by decide) (by decide) trivial g303 cpT_0.symm
      obtain ⟨m7, d1, d2, -, d4⟩ := cpLoopLM (loop := F_X4_restore_75 (nI i)) (src := 304) (dst := 300) (N := 15) (ix := fun _ v => 15 * nI i + v) (by decide) (by decide) (fun m v μ => by rw [F_X4_restore_75]; rfl) (off := 15 * i) (R := fun _ => True) (fun μ k _ _ => by show nI 15 * nI i + nI k = _; rw [pk_mul, nI_add]) (by rw [ln304]; omega) (by rw [ln300]; decide) (fun m k v _ => trivial) (f := μ.2.1 304) (f0 := m6.2.1 300) 15 qFuel 0 m6 (by decide) (by decide) trivial ((b4.1 304 (by decide)).2.trans g304) cpTL_0.symm
      have F7 : Fs (fun a => a = 295 ∨ (a = 296 ∨ a = 300)) mb (uI m7 295 8 0) := ((((Fs.uI (Or.inl rfl)).tr (b4.mo (fun a e => Or.inr (Or.inl e)))).tr (d4.mo (fun a e => Or.inr (Or.inr e))))).tr (Fs.uI (Or.inl rfl))
      have FA : Fs AS μ (uI m7 295 8 0) := (F0.mo (fun a e => by unfold Blk at e; unfold AS; omega)).tr (F7.mo (fun a e => by unfold AS; omega))
      have FB : Fs (fun a => (a = 0 ∨ Blk 1 a) ∨ (a = 295 ∨ (a = 296 ∨ a = 300))) μ (uI m7 295 8 0) := (F0.mo (fun a e => Or.inl e)).tr (F7.mo (fun a e => Or.inr e))
      have e295 : m7.1 295 = (uI mb 295 0 0).1 295 := (d4.1 295 (by decide)).1.trans (b4.1 295 (by decide)).1
      have K : K5 μ (uI m7 295 8 0) := fun j j0 j8 => by
        rw [uI_eq]
        refine (if_neg j8).trans ?_
        rw [e295, uI_eq]
        refine (if_neg j0).trans ?_
        rw [b295]
      have v8 : (uI m7 295 8 0).1 295 8 = nI 0 := by rw [uI_eq]; rfl
      have v0 : (uI m7 295 8 0).1 295 0 = nI 0 := by
        rw [uI_eq]
        refine (if_neg (by decide)).trans ?_
        rw [e295, uI_eq]
        rfl
      have e296 : (uI m7 295 8 0).1 296 = m6.1 296 := (uI_ne (by decide)).trans (d4.1 296 (by decide)).1
      have E : E5 (sr μ i) ((uI m7 295 8 0).1 296) := fun j hj => by
        rw [e296, b2, cpT_at hj]
        rfl
      have Gg : ∀ j, j < 15 → (uI m7 295 8 0).2.1 300 j = (sl μ i) j := fun j hj => by
        show m7.2.1 300 j = _
        rw [d2, cpTL_at hj]
        rfl
      have N7 : NV (uI m7 295 8 0) 1 (sr μ i) (sl μ i) := SV.fs A2 F7 (fun a a1 a2 => by omega)
      have c00 : (uI m7 295 8 0).1 0 5 = nI 0 := by rw [(F7.1 0 (by omega)).1]; exact c0
      refine ⟨0, 0, sr μ i 5, sr μ i 5, mb, uI m7 295 8 0, ?_, ?_, by decide, v0, fun _ => rfl, h.act hk FA K (N7.e5 kd1 hO E Gg) ((hO.e5 E).mono (by omega)) ⟨0, pp, S, q1'.less F7 (by omega) (fun a x y => by omega) c00 (Nat.le_refl 0), q2.less (c' := 0) FB v8 (Nat.zero_le c) (by unfold Blk; omega) (by unfold Blk; omega), fun j hj => absurd hj (Nat.not_lt_zero j)⟩, FA, K⟩
      · refine be_ s1 ((if_pos rfl).trans (be_ a292 ((if_neg hne).trans (be_ (aR_ok (k := i) rfl (by rw [ln247]; exact i2) h1 hkd) (be_ a1 (be_ rfl ?_))))))
        rw [hmb, t14]
      · have s2' : F_X4_inRange (nI i) 0 1 mb = some 1 := s2
        refine be_ s2' ?_
        refine (m_tail (t := 0) (z := 0) ?_ (by decide)).trans ((if_pos rfl).trans (be_ b1 (be_ d1 (be_ rfl (be_ (mg (k := 5) rfl (by decide)) ?_)))))
        · exact (if_neg n10).trans (be_ (a305 mb (F0.1 305 (by unfold Blk; omega)).1) (if_neg hne))
        · rw [E 5 (by decide)]
  · refine no (t := 1) (show 1 ≠ 0 by decide) (by decide) (be_ s1 rfl) ?_
    unfold F_X4_restore
    rw [s2]
    refine be_ (a := (0 : Int32)) rfl ?_
    rw [if_pos (show (0 : Int32) = 0 from rfl)]
    refine (m_tail (t := 1) (z := 0) ?_ (by decide)).trans ?_
    · rfl
    · rfl
end RSV
