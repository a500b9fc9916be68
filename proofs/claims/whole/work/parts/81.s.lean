/-! ===== release, the action ===== -/
section REL4
variable {μ : Mm} {k : Nat}
theorem a_release (h : Cor k μ) (hk : k < 512) (p1 p2 p3 : Int32) : ∃ e t v w' μ1 μ2, F_X3_release p1 p2 p3 μ = some (e, v, μ1) ∧ (F_X4_release p1 p2 p3 μ1 = some (w', μ2) ∧ ((e, t) ∈ [(0, 0), (1, 1), (3, 2), (4, 3)] ∧ (μ2.1 295 0 = nI t ∧ ((e = 0 → v = w') ∧ PA k μ μ2)))) := by
  have hB := h.1
  have ho := hB.2.2.2.1
  have h06 := ho.1.1.1.2
  have h15 := ho.1.1.2.1.2
  have no : ∀ {e t : Nat}, e ≠ 0 → (e, t) ∈ [(0, 0), (1, 1), (3, 2), (4, 3)] → F_X3_release p1 p2 p3 μ = some (e, 0, μ) → F_X4_release p1 p2 p3 μ = some (0, uI μ 295 0 (nI t)) → ∃ e t v w' μ1 μ2, F_X3_release p1 p2 p3 μ = some (e, v, μ1) ∧ (F_X4_release p1 p2 p3 μ1 = some (w', μ2) ∧ ((e, t) ∈ [(0, 0), (1, 1), (3, 2), (4, 3)] ∧ (μ2.1 295 0 = nI t ∧ ((e = 0 → v = w') ∧ PA k μ μ2)))) := fun {e t} he hm h1 h2 => ⟨e, t, 0, 0, μ, uI μ 295 0 (nI t), h1, h2, hm, by rw [uI_eq]; rfl, fun z => absurd z he, PA.th h hk _⟩
  rcases isA_c hB p1 with ⟨a, a1, rfl, a3, a4⟩ | ⟨a3, a4⟩
  · rcases isR_c hB p2 with ⟨r, r1, rfl, r3, r4⟩ | ⟨r3, r4⟩
    · have ba := (ho.2.1.2.2.1 a (by omega)).1
      have ga : F_X2_get 6 (nI a) 0 μ = some (nI (ct (μ.1 296) (26 + a))) := (x2_get (t := 6) (k := 0) hB.1.acc a1 (by decide)).trans (congrArg some ba)
      have na : ∀ ν : Mm, ν.1 296 (26 + a) = nI (ct (μ.1 296) (26 + a)) → aI ν 296 (26 + nI a) = some (nI (ct (μ.1 296) (26 + a))) := fun ν e => (mg (k := 26 + a) (nI_add 26 a) (by omega)).trans (congrArg some e)
      by_cases e1 : p3 < 1
      · refine no (t := 2) (show 3 ≠ 0 by decide) (by decide) (be_ a3 ((if_pos rfl).trans (be_ r3 ((if_pos rfl).trans (if_neg (Int32.not_le.mpr e1)))))) ?_
        refine be_ a4 ?_
        refine (m_tail (t := 2) (z := 0) ?_ (by decide)).trans (if_neg (by decide))
        exact (if_neg n10).trans (be_ r4 ((if_neg n10).trans (if_neg (Int32.not_le.mpr e1))))
      · by_cases e2 : p3 ≤ nI (ct (μ.1 296) (26 + a))
        · obtain ⟨v, v1, rfl⟩ := i32_pos (p := p3) (fun z => e1 (Int32.lt_trans z (by decide)))
          have hbl : ct (μ.1 296) (26 + a) < 2 ^ 31 := Int32.toNatClampNeg_lt (μ.1 296 (26 + a))
          have hv : v ≤ ct (μ.1 296) (26 + a) := by
            rcases Nat.lt_or_ge (ct (μ.1 296) (26 + a)) v with z | z
            · exact absurd e2 (nI_ge z v1)
            · exact z
          obtain ⟨cc, pp, S, q1, q2, q3⟩ := h.2.2.2.1
          obtain ⟨ma, x1, ⟨p', x2⟩, x3, x4⟩ := x3_record q1 hB.1
          obtain ⟨ob, y1, y2, y3, y4, y5⟩ := x3_rel (v := nI v) x3 ho.1 a1 r1
          have F1 : Fs (fun a => P70 a ∨ Blk 1 a) μ ob.2.2 := (x4.mo (fun a e => Or.inl e)).tr (y5.mo (fun a e => Or.inr e))
          obtain ⟨z1, z2, z3, z4, z5, z6⟩ := at_m h F1 q2
          obtain ⟨mc, s1, s2, s3, s4⟩ := m_record (s := μ.1 296) (g := μ.2.1 300) z1 z2 z3
          have c296 : mc.1 296 = μ.1 296 := (s3.1 296 (by unfold R299; decide)).1.trans z2
          have c300 : mc.2.1 300 = μ.2.1 300 := (s3.1 300 (by unfold R299; decide)).2.trans z3
          obtain ⟨od, d1, d2, d3, d4⟩ := m_rel (v := nI v) c296 (show a < 5 by omega) (show r < 6 by omega)
          have hO' := ho.rel hB.2.2.2.2 (show a < 5 by omega) (show r < 6 by omega) hv
          obtain ⟨f1, f2, f3, f4⟩ := h.fin hk q3 q1.2.1 x2 x4 y5 s2 s3 s4 (d4.mo (fun a e => Or.inl e)) y4 (hO'.mono (by omega)) (fun i _ => by rw [d3]) (fun i _ => by rw [(d4.1 300 (by decide)).2, c300])
          have hb2 : ob.2.2.1 296 = μ.1 296 := (F1.1 296 (by unfold P70 Blk; omega)).1
          have i1 : F_X4_isAccount (nI a) ob.2.2 = some 1 := by
            refine be_ (mg (k := 1) rfl (by decide)) ?_
            rw [hb2, ho.1.1.2.1.1, nI_sub1 (by omega)]
            exact be_ (inR_y (nI_pos (by omega)) (nI_nlt (by omega) (by omega))) rfl
          have i0 : F_X4_isReach (nI r) ob.2.2 = some 1 := by
            refine be_ (mg (k := 0) rfl (by decide)) ?_
            rw [hb2, ho.1.1.1.1, nI_sub1 (by omega)]
            exact be_ (inR_y (nI_pos (by omega)) (nI_nlt (by omega) (by omega))) rfl
          refine ⟨0, 0, μ.1 296 (26 + a) - nI v, μ.1 296 (26 + a) - nI v, ob.2.2, od.2, ?_, ?_, by decide, f4, fun _ => rfl, f1, f2, f3⟩
          · refine be_ a3 ((if_pos rfl).trans (be_ r3 ((if_pos rfl).trans ((if_pos (Int32.not_lt.mp e1)).trans (be_ ga ((if_pos e2).trans (be_ x1 ?_)))))))
            rw [y1, ← y2, ← y3]
          · refine be_ i1 ?_
            refine (m_tail (t := 0) (z := 0) ?_ (by decide)).trans ((if_pos rfl).trans (be_ s1 ?_))
            · exact (if_neg n10).trans (be_ i0 ((if_neg n10).trans ((if_pos (Int32.not_lt.mp e1)).trans (be_ (na _ (by rw [hb2]; exact ba)) (if_pos e2)))))
            · rw [d1, ← d2]
        · refine no (t := 3) (show 4 ≠ 0 by decide) (by decide) (be_ a3 ((if_pos rfl).trans (be_ r3 ((if_pos rfl).trans ((if_pos (Int32.not_lt.mp e1)).trans (be_ ga (if_neg e2))))))) ?_
          refine be_ a4 ?_
          refine (m_tail (t := 3) (z := 0) ?_ (by decide)).trans (if_neg (by decide))
          exact (if_neg n10).trans (be_ r4 ((if_neg n10).trans ((if_pos (Int32.not_lt.mp e1)).trans (be_ (na _ ba) (if_neg e2)))))
    · refine no (t := 1) (show 1 ≠ 0 by decide) (by decide) (be_ a3 ((if_pos rfl).trans (be_ r3 rfl))) ?_
      refine be_ a4 ?_
      refine (m_tail (t := 1) (z := 0) ?_ (by decide)).trans (if_neg (by decide))
      exact (if_neg n10).trans (be_ r4 (if_pos rfl))
  · refine no (t := 1) (show 1 ≠ 0 by decide) (by decide) (be_ a3 rfl) ?_
    unfold F_X4_release
    rw [a4]
    refine be_ (a := (0 : Int32)) rfl ?_
    rw [if_pos (show (0 : Int32) = 0 from rfl)]
    refine (m_tail (t := 1) (z := 0) ?_ (by decide)).trans ?_
    · rfl
    · rfl
end REL4
