/-! ===== setMinimum, transfer ===== -/
section SETM
variable {μ ν : Mm} {s : Nat → Int32} {g : Nat → Int64} {k : Nat}
theorem a_setMinimum (h : Cor k μ) (hk : k < 512) (p1 p2 : Int32) : ∃ e t v w' μ1 μ2, F_X3_setMinimum p1 p2 μ = some (e, v, μ1) ∧ (F_X4_setMinimum p1 p2 μ1 = some (w', μ2) ∧ ((e, t) ∈ [(0, 0), (1, 1), (3, 2)] ∧ (μ2.1 295 0 = nI t ∧ ((e = 0 → v = w') ∧ PA k μ μ2)))) := by
  have hB := h.1
  have ho := hB.2.2.2.1
  have h06 := ho.1.1.1.2
  have h210 := ho.1.1.2.2.1.2
  refine FQg (i1 := fun ν => F_X4_isReach p1 ν) (i2 := fun ν => F_X4_inRange p2 0 999 ν) (P := PA k) (by decide) (by decide) (fun t => PA.th h hk t) ?_
  rcases isR_c hB p1 with ⟨r, h1, rfl, h3, h4⟩ | ⟨h3, h4⟩
  · refine Or.inl ⟨h3, ?_⟩
    rcases range_c (μ := μ) (ν := μ) p2 (lo := 0) (hi := 999) (by decide) (by decide) with ⟨v, v1, v2, rfl, v4, v5⟩ | ⟨v4, v5⟩
    · obtain ⟨c, pp, S, q1, q2, q3⟩ := h.2.2.2.1
      obtain ⟨ma, x1, ⟨p', x2⟩, x3, x4⟩ := x3_record q1 hB.1
      have hput := x2_put (t := 2) (k := 1) (v := nI v) x3.rch h1 (by decide)
      have hNb := nv_rch (c := 1) (v := nI v) x3 kd1 ho.1 h1 (by decide)
      rw [show 8 + 6 * 1 + r = 14 + r by omega] at hNb
      have y5 : Fs (Blk 1) ma (uI ma (1 + 1 + 1) (r * 3 + 1) (nI v)) := Fs.uI (by unfold Blk; omega)
      have F1 : Fs (fun a => P70 a ∨ Blk 1 a) μ (uI ma (1 + 1 + 1) (r * 3 + 1) (nI v)) := (x4.mo (fun a e => Or.inl e)).tr (y5.mo (fun a e => Or.inr e))
      obtain ⟨z1, z2, z3, z4, z5, z6⟩ := at_m h F1 q2
      obtain ⟨od, d1, d2, d3, d3', mc, r2, r3, r4, d4⟩ := m_sets (j0 := 14 + r) (v := nI v) z1 z2 z3 (by omega)
      have hO' : Ok (36 * k) (upd (μ.1 296) (14 + r) (nI v)) := by
        have e : ∀ j, j ≠ 14 + r → upd (μ.1 296) (14 + r) (nI v) j = μ.1 296 j := fun j hj => pk_un hj
        refine ho.stat (fun j hj => e j (by omega)) (fun q hq => ?_) (fun q hq => ?_) (fun a b ha hb q => ?_)
        · by_cases eq : q = r
          · have e6 : upd (μ.1 296) (14 + r) (nI v) (14 + q) = nI v := by rw [eq, pk_us]
            exact ⟨nI_ct e6 (by omega), by rw [ct_nI e6 (by omega)]; exact v2⟩
          · exact (ho.1.1.2.2.2.2.1 q hq).eq (e _ (by omega))
        · have f := ho.1.1.2.2.2.2.2 q hq
          have e0 := e (58 + 10 * q + 0) (by omega)
          rw [ct_eq e0, e0]
          exact ⟨f.1, f.2.2.2.2.2.1.eq (e _ (by omega)), f.2.2.2.2.2.2.eq (e _ (by omega))⟩
        · rw [ct_eq (e 2 (by omega))] at ha hb
          rw [e _ (by omega), e _ (by omega)] at q
          exact ho.1.2.1 a b ha hb q
      obtain ⟨f1, f2, f3, f4⟩ := h.fin hk q3 q1.2.1 x2 x4 y5 r2 r3 r4 (d4.mo (fun a e => Or.inl e)) hNb (hO'.mono (by omega)) (fun j _ => by rw [d3]) (fun j _ => by rw [d3'])
      refine Or.inl ⟨v4, μ.1 296 (14 + r), uI ma (1 + 1 + 1) (r * 3 + 1) (nI v), od.2, 1, 1, ?_, ?_, by decide, ?_, by decide, ?_, f4, f1, f2, f3⟩
      · exact be_ x1 (be_ (x2_get (t := 2) (k := 1) x3.rch h1 (by decide)) (be_ hput rfl))
      · have e2 : (uI ma (1 + 1 + 1) (r * 3 + 1) (nI v)).1 296 0 = nI (ct (μ.1 296) 0) := by rw [(F1.1 296 (by unfold P70 Blk; omega)).1]; exact ho.1.1.1.1
        refine be_ (mg (k := 0) rfl (by decide)) ?_
        rw [e2, nI_sub1 (by omega)]
        exact be_ (inR_y (nI_pos (by omega)) (nI_nlt (by omega) (by omega))) rfl
      · exact inR_y (show ¬ nI v < nI 0 from nI_nlt (by omega) (by omega)) (show ¬ nI 999 < nI v from nI_nlt (by omega) (by omega))
      · show (F_X4_sets (nI 14 + nI r) (nI v) _).bind _ = _
        rw [nI_add]
        refine be_ d1 ?_
        rw [← d2]
    · exact Or.inr ⟨v4, 1, h4, by decide, v5⟩
  · exact Or.inr ⟨h3, h4⟩
end SETM
