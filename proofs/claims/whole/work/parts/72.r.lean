/-! ===== setKeep, setMinimum ===== -/
section SETK
variable {μ ν : Mm} {s : Nat → Int32} {g : Nat → Int64} {k : Nat}
theorem m_sets {c : Nat} {S : Nat → Sh} {j0 : Nat} {v : Int32} (z1 : PM ν c S) (z2 : ν.1 296 = s) (z3 : ν.2.1 300 = g) (hj : j0 < 521) : Op (F_X4_sets (nI j0) v ν) (fun o => o.1 = s j0 ∧ (o.2.1 296 = upd s j0 v ∧ (o.2.2.1 300 = g ∧ ∃ mc, PM mc (pC c) (pS c S (s, g)) ∧ (Fs R299 ν mc ∧ ((∀ j, j ≠ 8 → mc.1 295 j = ν.1 295 j) ∧ Fs F296 mc o.2))))) := by
  unfold F_X4_sets
  refine op_mb (m_record (s := s) (g := g) z1 z2 z3) (fun mc w => ?_)
  obtain ⟨r2, r3, r4⟩ := w
  have e296 : mc.1 296 = s := (r3.1 296 (by unfold R299; decide)).1.trans z2
  refine op_eb (mg (k := j0) rfl hj) ?_
  rw [e296]
  refine op_mb (ms (k := j0) rfl hj) (fun m1 w1 => op_r ⟨rfl, ?_, ?_, mc, r2, r3, r4, w1.2⟩)
  · rw [w1.1, e296]
  · exact (w1.2.1 300 (by decide)).2.trans ((r3.1 300 (by unfold R299; decide)).2.trans z3)
theorem nv_rgt {b : Nat} {ma : Mm} {r c : Nat} {v : Int32} (h : NV ma b s g) (hb : kd b = 1) (ho : Stc s) (hr : r < ct s 2) (hc : c < 9) (hsen : c ≠ 2) : NV (uI ma (b + 8 + 1) (r * 10 + c) v) b (upd s (58 + 10 * r + c) v) g := by
  have h210 := ho.1.2.2.1.2
  have e : ∀ j, j ≠ 58 + 10 * r + c → upd s (58 + 10 * r + c) v j = s j := fun j hj => pk_un hj
  have e2 : ct (upd s (58 + 10 * r + c) v) 2 = ct s 2 := ct_eq (e 2 (by omega))
  refine NV.mk2 (s := s) ?_ ho.2.2.2.2.1.2 ho.2.2.2.2.2.1.2 ho.1.1.2 h210 (fun j hj => e j (by omega))
  refine SV.wRgt h (SV.cnt h hb) (Fs.uI (Or.inr rfl)) ?_ (fun j hj hj2 => e j (by omega)) (fun o ho' => e _ (by omega))
  rw [e2]
  refine (Tb.set h.rgt hr (by omega)).congr (fun q k hq hk => ?_)
  unfold up2
  by_cases e3 : q = r ∧ k = c
  · rw [if_pos e3, e3.1, e3.2, if_neg (by omega), pk_us]
  · rw [if_neg e3]
    show (if k = 9 then s (58 + 10 * q + 9) else s (58 + 10 * q + k)) = (if k = 9 then s (58 + 10 * q + 9) else upd s (58 + 10 * r + c) v (58 + 10 * q + k))
    by_cases e9 : k = 9
    · rw [if_pos e9, if_pos e9]
    · rw [if_neg e9, if_neg e9, e _ (by omega)]
theorem nv_rch {b : Nat} {ma : Mm} {r c : Nat} {v : Int32} (h : NV ma b s g) (hb : kd b = 1) (ho : Stc s) (hr : r < ct s 0) (hc : c < 3) : NV (uI ma (b + 1 + 1) (r * 3 + c) v) b (upd s (8 + 6 * c + r) v) g := by
  have h06 := ho.1.1.2
  have h210 := ho.1.2.2.1.2
  have e : ∀ j, j ≠ 8 + 6 * c + r → upd s (8 + 6 * c + r) v j = s j := fun j hj => pk_un hj
  have e0 : ct (upd s (8 + 6 * c + r) v) 0 = ct s 0 := ct_eq (e 0 (by omega))
  refine NV.mk2 (s := s) ?_ ho.2.2.2.2.1.2 ho.2.2.2.2.2.1.2 h06 h210 (fun j hj => e j (by omega))
  refine SV.wRch h (SV.cnt h hb) (Fs.uI (Or.inr rfl)) ?_ (fun j hj hj2 => e j (by omega))
  rw [e0]
  refine (Tb.set h.rch hr hc).congr (fun q k hq hk => ?_)
  unfold up2
  by_cases e3 : q = r ∧ k = c
  · rw [if_pos e3, e3.1, e3.2, pk_us]
  · rw [if_neg e3, e _ (by omega)]
theorem a_setKeep (h : Cor k μ) (hk : k < 512) (p1 p2 : Int32) : ∃ e t v w' μ1 μ2, F_X3_setKeep p1 p2 μ = some (e, v, μ1) ∧ (F_X4_setKeep p1 p2 μ1 = some (w', μ2) ∧ ((e, t) ∈ [(0, 0), (1, 1), (3, 2)] ∧ (μ2.1 295 0 = nI t ∧ ((e = 0 → v = w') ∧ PA k μ μ2)))) := by
  have hB := h.1
  have ho := hB.2.2.2.1
  have h210 := ho.1.1.2.2.1.2
  refine FQg (i1 := fun ν => F_X4_isRight p1 ν) (i2 := fun ν => F_X4_inRange p2 0 100 ν) (P := PA k) (by decide) (by decide) (fun t => PA.th h hk t) ?_
  rcases isI_c hB p1 with ⟨r, h1, rfl, h3, h4⟩ | ⟨h3, h4⟩
  · refine Or.inl ⟨h3, ?_⟩
    rcases range_c (μ := μ) (ν := μ) p2 (lo := 0) (hi := 100) (by decide) (by decide) with ⟨v, v1, v2, rfl, v4, v5⟩ | ⟨v4, v5⟩
    · obtain ⟨c, pp, S, q1, q2, q3⟩ := h.2.2.2.1
      obtain ⟨ma, x1, ⟨p', x2⟩, x3, x4⟩ := x3_record q1 hB.1
      have hput := x2_put (t := 9) (k := 6) (v := nI v) x3.rgt h1 (by decide)
      have hNb := nv_rgt (c := 6) (v := nI v) x3 kd1 ho.1 h1 (by decide) (by decide)
      have y5 : Fs (Blk 1) ma (uI ma (1 + 8 + 1) (r * 10 + 6) (nI v)) := Fs.uI (by unfold Blk; omega)
      have F1 : Fs (fun a => P70 a ∨ Blk 1 a) μ (uI ma (1 + 8 + 1) (r * 10 + 6) (nI v)) := (x4.mo (fun a e => Or.inl e)).tr (y5.mo (fun a e => Or.inr e))
      obtain ⟨z1, z2, z3, z4, z5, z6⟩ := at_m h F1 q2
      obtain ⟨od, d1, d2, d3, d3', mc, r2, r3, r4, d4⟩ := m_sets (j0 := 58 + 10 * r + 6) (v := nI v) z1 z2 z3 (by omega)
      have hO' : Ok (36 * k) (upd (μ.1 296) (58 + 10 * r + 6) (nI v)) := by
        have e : ∀ j, j ≠ 58 + 10 * r + 6 → upd (μ.1 296) (58 + 10 * r + 6) (nI v) j = μ.1 296 j := fun j hj => pk_un hj
        refine ho.stat (fun j hj => e j (by omega)) (fun q hq => (ho.1.1.2.2.2.2.1 q hq).eq (e _ (by have := ho.1.1.1.2; omega))) (fun q hq => ?_) (fun a b ha hb q => ?_)
        · have f := ho.1.1.2.2.2.2.2 q hq
          have e0 := e (58 + 10 * q + 0) (by omega)
          rw [ct_eq e0, e0]
          refine ⟨f.1, ?_, f.2.2.2.2.2.2.eq (e _ (by omega))⟩
          by_cases eq : q = r
          · have e6 : upd (μ.1 296) (58 + 10 * r + 6) (nI v) (58 + 10 * q + 6) = nI v := by rw [eq, pk_us]
            exact ⟨nI_ct e6 (by omega), by rw [ct_nI e6 (by omega)]; exact v2⟩
          · exact f.2.2.2.2.2.1.eq (e _ (by omega))
        · rw [ct_eq (e 2 (by omega))] at ha hb
          rw [e _ (by omega), e _ (by omega)] at q
          exact ho.1.2.1 a b ha hb q
      obtain ⟨f1, f2, f3, f4⟩ := h.fin hk q3 q1.2.1 x2 x4 y5 r2 r3 r4 (d4.mo (fun a e => Or.inl e)) hNb (hO'.mono (by omega)) (fun j _ => by rw [d3]) (fun j _ => by rw [d3'])
      have hb3 : Bo (36 * k) (uI ma (1 + 8 + 1) (r * 10 + 6) (nI v)) (upd (μ.1 296) (58 + 10 * r + 6) (nI v)) (μ.2.1 300) ∨ True := Or.inr trivial
      refine Or.inl ⟨v4, μ.1 296 (58 + 10 * r + 6), uI ma (1 + 8 + 1) (r * 10 + 6) (nI v), od.2, 1, 1, ?_, ?_, by decide, ?_, by decide, ?_, f4, f1, f2, f3⟩
      · refine be_ x1 (be_ ((x2_get (t := 9) (k := 6) x3.rgt h1 (by decide)).trans (congrArg some (if_neg (by decide)))) (be_ hput rfl))
      · have e2 : (uI ma (1 + 8 + 1) (r * 10 + 6) (nI v)).1 296 2 = nI (ct (μ.1 296) 2) := by rw [(F1.1 296 (by unfold P70 Blk; omega)).1]; exact ho.1.1.2.2.1.1
        refine be_ (mg (k := 2) rfl (by decide)) ?_
        rw [e2, nI_sub1 (by omega)]
        exact be_ (inR_y (nI_pos (by omega)) (nI_nlt (by omega) (by omega))) rfl
      · exact inR_y (show ¬ nI v < nI 0 from nI_nlt (by omega) (by omega)) (show ¬ nI 100 < nI v from nI_nlt (by omega) (by omega))
      · refine be_ (show F_X4_rightAt (nI r) 6 _ = some (nI (58 + 10 * r + 6)) from m_rt) (be_ d1 ?_)
        rw [← d2]
    · exact Or.inr ⟨v4, 1, h4, by decide, v5⟩
  · exact Or.inr ⟨h3, h4⟩
end SETK
