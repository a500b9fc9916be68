/-! ===== the text's loop ===== -/
section LLP
variable {f : Nat → Int32} {n t a k o t0 : Nat} {s s' : Nat → Int32} {q : Int32} {b b' μ μ' μc μm : Mm}
def MY (k o : Nat) (b μ : Mm) : Prop := (k ≠ 0 ∧ k < 10) ∧ (Em k o μ ∧ MFr b μ)
theorem MX.my (h : MX f n k o b μ) : MY k o b μ := ⟨h.1, h.2.1, h.2.2.2⟩
theorem MY.er (h : MY k o b μ) : ¬ μ.1 295 17 = 0 := by
  have h1 := h.1
  rw [h.2.1.1]
  exact nI_ne0 (by omega) (by omega)
theorem MY.at (h : MY k o b μ) {v : Int32} : MY k o b (uI μ 295 15 v) := by
  obtain ⟨h1, ⟨h2, h3⟩, h4⟩ := h
  have e : ∀ j, j ≠ 15 → (uI μ 295 15 v).1 295 j = μ.1 295 j := fun j hj => by rw [uI_eq]; exact if_neg hj
  exact ⟨h1, ⟨(e 17 (by decide)).trans h2, (e 16 (by decide)).trans h3⟩, h4.tr ⟨Fs.uI (Or.inl rfl), fun j hj => e j (by omega)⟩⟩
theorem my_lo {m : Nat} (h : MY k o b μ) : F_X4_load_37 (m + 1) μ = some μ := by
  rw [F_X4_load_37]
  exact be_ (m_failed1 h.er) (if_neg n10)
theorem fx_rt {m : Nat} {v : Int32} (h : FX f n k o b μ) : F_X0_readText_28 (m + 1) v μ = some μ := by
  rw [F_X0_readText_28]
  by_cases e1 : μ.1 45 2 ≤ v
  · rw [if_pos e1]
  · rw [if_neg e1]
    by_cases e2 : μ.1 45 5 = 0
    · rw [if_pos e2]
    · rw [if_neg e2, if_neg h.er]
def LEn (f : Nat → Int32) (n : Nat) (b b' μc μm : Mm) : Prop := (∃ t a s, GC f n t s b μc ∧ (GM f n a s (qf s) b' μm ∧ Rok s)) ∨ (∃ k o, FX f n k o b μc ∧ MY k o b' μm)
theorem bt_1 (hB : BY f n) (h : t < n) : ¬ bt f n t = -1 := by
  unfold bt
  rw [if_pos h]
  obtain ⟨p1, p2, -⟩ := by_p (hB.2 t h)
  intro z
  by_cases e : 0 ≤ f t
  · rw [p1 e] at z
    rw [z] at e
    exact absurd e (by decide)
  · have := p2 (Int32.not_le.mp e)
    rw [z] at this
    exact absurd this (by decide)
theorem tk3 : tk f n t = 3 ↔ t < n ∧ f t = 59 := by
  unfold tk
  by_cases e : n ≤ t
  · rw [if_pos e]
    exact ⟨fun z => absurd z (by decide), fun z => by omega⟩
  · rw [if_neg e]
    by_cases e1 : letB (f t) = true
    · rw [if_pos e1]
      refine ⟨fun z => absurd z (by decide), fun z => ?_⟩
      rw [z.2] at e1
      exact absurd e1 (by decide)
    · rw [if_neg e1]
      by_cases e2 : digB (f t) = true
      · rw [if_pos e2]
        refine ⟨fun z => absurd z (by decide), fun z => ?_⟩
        rw [z.2] at e2
        exact absurd e2 (by decide)
      · rw [if_neg e2]
        by_cases e3 : f t = 59
        · rw [if_pos e3]
          exact ⟨fun _ => ⟨by omega, e3⟩, fun _ => rfl⟩
        · rw [if_neg e3]
          exact ⟨fun z => absurd z (by decide), fun z => absurd z.2 e3⟩
theorem te3 (h : tk f n t = 3) : te f n t = t + 1 := by
  obtain ⟨h1, h2⟩ := tk3.mp h
  unfold te
  rw [if_neg (by omega), h2]
  rfl
theorem tk0 (h : t < n) : tk f n t ≠ 0 := by
  unfold tk
  rw [if_neg (by omega)]
  split
  · decide
  · split
    · decide
    · split <;> decide
theorem l_loop (hB : BY f n) : ∀ (d m m' i t a : Nat) (s : Nat → Int32) (μc μm : Mm), n - i = d → d < m → d < m' → i ≤ t → GC f n t s b μc → GM f n a s (qf s) b' μm → skp f n a = t → Rok s → Op2 (F_X0_readText_28 m (nI i) μc) (F_X4_load_37 m' μm) (LEn f n b b') := by
  have hn := hB.1
  intro d
  induction d with
  | zero =>
    intro m m' i t a s μc μm hd hm hm' hi C M ht R
    obtain ⟨m, rfl⟩ : ∃ q, m = q + 1 := ⟨m - 1, by omega⟩
    obtain ⟨m', rfl⟩ : ∃ q, m' = q + 1 := ⟨m' - 1, by omega⟩
    have htn := C.1.2.1
    rw [F_X0_readText_28, F_X4_load_37, C.1.1.1, if_pos (nI_le (by omega) (by omega))]
    refine o2_r (m_failed0 M.2.2.1.1) ?_
    rw [if_pos rfl]
    refine o2_rb (m_peek hB M.1 (by have := M.2.1; omega)) (fun z w => ?_)
    rw [ht] at w
    rw [w.1, if_pos (show bt f n t = -1 from if_neg (by omega))]
    exact o2_rt (Or.inl ⟨t, t, s, C, M.mv w.2.1 htn w.2.2, R⟩)
  | succ d ih =>
    intro m m' i t a s μc μm hd hm hm' hi C M ht R
    obtain ⟨m, rfl⟩ : ∃ q, m = q + 1 := ⟨m - 1, by omega⟩
    obtain ⟨m', rfl⟩ : ∃ q, m' = q + 1 := ⟨m' - 1, by omega⟩
    have htn := C.1.2.1
    have htk := tk_le (f := f) (n := n) (t := t)
    rw [F_X0_readText_28, F_X4_load_37, C.1.1.1, if_neg (nI_ge (by omega) (by omega))]
    refine o2_r (m_failed0 M.2.2.1.1) ?_
    rw [if_pos rfl]
    refine o2_rb (m_peek hB M.1 (by have := M.2.1; omega)) (fun z w => ?_)
    rw [ht] at w
    have M0 := M.mv w.2.1 htn w.2.2
    rw [w.1]
    by_cases e : t < n
    · rw [if_neg (bt_1 hB e), if_neg (show ¬ μc.1 45 5 = 0 from by
        rw [C.1.2.2.2.1]
        have := tk0 (f := f) e
        exact nI_ne0 (by omega) (by omega)), if_pos C.2.1.1]
      refine o2_b (l_line hB C M0 R e) (fun μ1 μ2 L => ?_)
      rcases L with ⟨t', a', s', C', M', ht', R', hlt⟩ | ⟨k, o, X, Y⟩
      · have htn' := C'.1.2.1
        have htk' := tk_le (f := f) (n := n) (t := t')
        have hc5 : (μ1.1 45 5 = 3) ↔ tk f n t' = 3 := by
          rw [C'.1.2.2.2.1]
          exact ⟨fun z => nI_inj (b := 3) (by omega) (by decide) z, fun z => by rw [z]; rfl⟩
        rw [C'.1.2.2.2.2.1]
        refine o2_r (m_failed0 M'.2.2.1.1) ?_
        rw [if_pos rfl]
        obtain ⟨z2, e2, w2⟩ := m_peek hB M'.1 (by have := M'.2.1; omega)
        rw [ht'] at w2
        have M2 := M'.mv w2.2.1 htn' w2.2.2
        rw [e2]
        show Op2 _ ((if z2.1 = 59 then some z2.2 else ((F_X4_fail (1 : Int32) (z2.2.1 295 15) z2.2).bind fun o45 => some o45)).bind fun o47 => (some (uI o47 295 15 ((o47.1 295 15) + (1 : Int32)))).bind fun m48 => F_X4_load_37 m' m48) _
        rw [w2.1, w2.2.1.2]
        have hb5 : bt f n t' = 59 ↔ tk f n t' = 3 := (bt_eq hB (by decide) (by decide)).trans tk3.symm
        by_cases e3 : tk f n t' = 3
        · rw [if_pos (hc5.mpr e3), if_pos (hb5.mpr e3)]
          have h1 := tk3.mp e3
          refine o2_l rfl (o2_r rfl ?_)
          refine o2_lb (gc_next hB C') (fun μ3 C3 => o2_r rfl ?_)
          rw [te3 e3] at C3
          have hsk : t' + 1 ≤ skp f n (t' + 1) := ru_ge
          have M3 : GM f n (t' + 1) s' (qf s') b' (uI z2.2 295 15 ((z2.2.1 295 15) + (1 : Int32))) := M2.mv (w2.2.1.at (by rw [w2.2.1.2]; exact nI_1 t')) (by omega) K15.u
          rw [nI_1]
          exact ih m m' (i + 1) _ (t' + 1) s' μ3 _ (by omega) (by omega) (by omega) (by omega) C3 M3 rfl R'
        · rw [if_neg (fun z => e3 (hc5.mp z)), if_neg (fun z => e3 (hb5.mp z))]
          obtain ⟨m1, e4, X⟩ := gc_fail (k := 1) (o := t') C' ⟨by decide, by decide⟩
          obtain ⟨m2, e5, Y⟩ := gm_fail (k := 1) (o := t') M2 ⟨by decide, by decide⟩
          refine o2_l (be_ e4 rfl) (o2_lb (fx_next hn X) (fun μ3 X3 => o2_r (be_ e5 rfl) (o2_r rfl ?_)))
          have Y3 := (Y.my).at (v := (m2.1 295 15) + (1 : Int32))
          obtain ⟨m, rfl⟩ : ∃ q, m = q + 1 := ⟨m - 1, by omega⟩
          obtain ⟨m', rfl⟩ : ∃ q, m' = q + 1 := ⟨m' - 1, by omega⟩
          rw [fx_rt X3, my_lo Y3]
          exact o2_rt (Or.inr ⟨1, t', X3, Y3⟩)
      · have hx : Op (if (μ1.1 45 5) = (3 : Int32) then (some μ1) else ((F_X0_fail (1 : Int32) (μ1.1 45 6) μ1).bind fun o28 => some o28)) (FX f n k o b) := by
          by_cases e3 : (μ1.1 45 5) = (3 : Int32)
          · rw [if_pos e3]; exact op_r X
          · rw [if_neg e3]; exact op_eb (fx_fail X) (op_r X)
        refine o2_lb hx (fun μ3 X3 => o2_lb (fx_next hn X3) (fun μ4 X4 => o2_r (m_failed1 Y.er) ?_))
        rw [if_neg n10]
        refine o2_r rfl (o2_r rfl ?_)
        have Y3 := (Y.my).at (v := (μ2.1 295 15) + (1 : Int32))
        obtain ⟨m, rfl⟩ : ∃ q, m = q + 1 := ⟨m - 1, by omega⟩
        obtain ⟨m', rfl⟩ : ∃ q, m' = q + 1 := ⟨m' - 1, by omega⟩
        rw [fx_rt X4, my_lo Y3]
        exact o2_rt (Or.inr ⟨k, o, X4, Y3⟩)
    · rw [if_pos (show bt f n t = -1 from if_neg e), if_pos (show μc.1 45 5 = 0 from by
        rw [C.1.2.2.2.1]
        unfold tk
        rw [if_pos (by omega)]
        rfl)]
      exact o2_rt (Or.inl ⟨t, t, s, C, M0, R⟩)
end LLP
