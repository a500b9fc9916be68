/-! ===== transfer ===== -/
section TRF
variable {μ : Mm} {k : Nat}
theorem isI_at {mb : Mm} {s : Nat → Int32} (e : mb.1 296 2 = s 2) (h : Bn s 2 10) {r : Nat} (h1 : r < ct s 2) : F_X4_isRight (nI r) mb = some 1 := by
  have h210 := h.2
  refine be_ (mg (k := 2) rfl (by decide)) ?_
  rw [e, h.1, nI_sub1 (by omega)]
  exact be_ (inR_y (nI_pos (by omega)) (nI_nlt (by omega) (by omega))) rfl
theorem isA_at {mb : Mm} {s : Nat → Int32} (e : mb.1 296 1 = s 1) (h : Bn s 1 5) {r : Nat} (h1 : r < ct s 1) : F_X4_isAccount (nI r) mb = some 1 := by
  have h210 := h.2
  refine be_ (mg (k := 1) rfl (by decide)) ?_
  rw [e, h.1, nI_sub1 (by omega)]
  exact be_ (inR_y (nI_pos (by omega)) (nI_nlt (by omega) (by omega))) rfl
theorem a_transfer (h : Cor k μ) (hk : k < 512) (p1 p2 p3 : Int32) : ∃ e t v w' μ1 μ2, F_X3_transfer p1 p2 p3 μ = some (e, v, μ1) ∧ (F_X4_transfer p1 p2 p3 μ1 = some (w', μ2) ∧ ((e, t) ∈ [(0, 0), (1, 1), (3, 2)] ∧ (μ2.1 295 0 = nI t ∧ ((e = 0 → v = w') ∧ PA k μ μ2)))) := by
  have hB := h.1
  have ho := hB.2.2.2.1
  have h15 := ho.1.1.2.1.2
  have h210 := ho.1.1.2.2.1.2
  have no : ∀ {e t : Nat}, e ≠ 0 → (e, t) ∈ [(0, 0), (1, 1), (3, 2)] → F_X3_transfer p1 p2 p3 μ = some (e, 0, μ) → F_X4_transfer p1 p2 p3 μ = some (0, uI μ 295 0 (nI t)) → ∃ e t v w' μ1 μ2, F_X3_transfer p1 p2 p3 μ = some (e, v, μ1) ∧ (F_X4_transfer p1 p2 p3 μ1 = some (w', μ2) ∧ ((e, t) ∈ [(0, 0), (1, 1), (3, 2)] ∧ (μ2.1 295 0 = nI t ∧ ((e = 0 → v = w') ∧ PA k μ μ2)))) := fun {e t} he hm h1 h2 => ⟨e, t, 0, 0, μ, uI μ 295 0 (nI t), h1, h2, hm, by rw [uI_eq]; rfl, fun z => absurd z he, PA.th h hk _⟩
  rcases isI_c hB p1 with ⟨r, h1, rfl, h3, h4⟩ | ⟨h3, h4⟩
  · rcases isA_c hB p2 with ⟨a, a1, rfl, a3, a4⟩ | ⟨a3, a4⟩
    · rcases range_c (μ := μ) (ν := μ) p3 (lo := 0) (hi := 9999) (by decide) (by decide) with ⟨v, v1, v2, rfl, v4, v5⟩ | ⟨v4, v5⟩
      · have f0 := (ho.1.1.2.2.2.2.2 r h1).1
        obtain ⟨cc, pp, S, q1, q2, q3⟩ := h.2.2.2.1
        obtain ⟨ma, x1, ⟨p', x2⟩, x3, x4⟩ := x3_record q1 hB.1
        generalize hb : ct (μ.1 296) (58 + 10 * r + 0) = bf at f0
        have hbf : bf < 5 := by omega
        obtain ⟨mp, y1, y2, y3⟩ := x1_pay (μ := ma) (b := 1) kd1 (a := a) (o := bf) (x := nI v) (by omega) hbf
        have hN1 : NV mp 1 (μ.1 296) (pay (μ.2.1 300) a bf (nI v).toInt64) := SV.wBal x3 y3 (fun j hj => (y2 j).trans (pay_congr x3.bal (by omega) hbf hj)) (fun j hj => pay_hi (by omega) hbf hj)
        have hput := x2_put (t := 9) (k := 0) (v := nI a) hN1.rgt h1 (by decide)
        have hNb := nv_rgt (c := 0) (v := nI a) hN1 kd1 ho.1 h1 (by decide) (by decide)
        have y5 : Fs (Blk 1) ma (uI mp (1 + 8 + 1) (r * 10 + 0) (nI a)) := (y3.mo (fun a e => by unfold Blk; omega)).tr (Fs.uI (by unfold Blk; omega))
        have F1 : Fs (fun a => P70 a ∨ Blk 1 a) μ (uI mp (1 + 8 + 1) (r * 10 + 0) (nI a)) := (x4.mo (fun a e => Or.inl e)).tr (y5.mo (fun a e => Or.inr e))
        obtain ⟨z1, z2, z3, z4, z5, z6⟩ := at_m h F1 q2
        obtain ⟨od, d1, d2, d3, d3', mc, r2, r3, r4, d4⟩ := m_sets (j0 := 58 + 10 * r + 0) (v := nI a) z1 z2 z3 (by omega)
        obtain ⟨md, e1, e2, e3⟩ := m_pays (μ := od.2) (a := a) (o := bf) (x := (nI v).toInt64) (by omega) hbf
        have hO' : Ok (36 * k) (upd (μ.1 296) (58 + 10 * r + 0) (nI a)) := by
          have e : ∀ j, j ≠ 58 + 10 * r + 0 → upd (μ.1 296) (58 + 10 * r + 0) (nI a) j = μ.1 296 j := fun j hj => pk_un hj
          refine ho.stat (fun j hj => e j (by omega)) (fun q hq => (ho.1.1.2.2.2.2.1 q hq).eq (e _ (by have := ho.1.1.1.2; omega))) (fun q hq => ?_) (fun a b ha hb q => ?_)
          · have f := ho.1.1.2.2.2.2.2 q hq
            refine ⟨?_, f.2.2.2.2.2.1.eq (e _ (by omega)), f.2.2.2.2.2.2.eq (e _ (by omega))⟩
            by_cases eq : q = r
            · have e6 : upd (μ.1 296) (58 + 10 * r + 0) (nI a) (58 + 10 * q + 0) = nI a := by rw [eq, pk_us]
              exact ⟨nI_ct e6 (by omega), by rw [ct_nI e6 (by omega)]; exact a1⟩
            · have e0 := e (58 + 10 * q + 0) (by omega)
              rw [ct_eq e0, e0]
              exact f.1
          · rw [ct_eq (e 2 (by omega))] at ha hb
            rw [e _ (by omega), e _ (by omega)] at q
            exact ho.1.2.1 a b ha hb q
        have dF : Fs Fm mc md := (d4.mo (T := Fm) (fun a e => Or.inl e)).tr (e3.mo (fun a e => by unfold Fm; omega))
        obtain ⟨f1, f2, f3, f4⟩ := h.fin hk q3 q1.2.1 x2 x4 y5 r2 r3 r4 dF hNb (hO'.mono (by omega)) (fun j _ => by rw [(e3.1 296 (by decide)).1, d3]) (fun j _ => by rw [e2, d3'])
        have hb2 : (uI mp (1 + 8 + 1) (r * 10 + 0) (nI a)).1 296 = μ.1 296 := (F1.1 296 (by unfold P70 Blk; omega)).1
        refine ⟨0, 0, μ.1 296 (58 + 10 * r + 0), μ.1 296 (58 + 10 * r + 0), uI mp (1 + 8 + 1) (r * 10 + 0) (nI a), md, ?_, ?_, by decide, f4, fun _ => rfl, f1, f2, f3⟩
        · refine be_ h3 ((if_pos rfl).trans (be_ a3 ((if_pos rfl).trans (be_ v4 ((if_pos rfl).trans (be_ x1 (be_ ((x2_get (t := 9) (k := 0) x3.rgt h1 (by decide)).trans (congrArg some (if_neg (by decide)))) ?_)))))))
          rw [f0.1]
          exact be_ y1 (be_ hput rfl)
        · refine be_ (isI_at (s := μ.1 296) (by rw [hb2]) ho.1.1.2.2.1 h1) ?_
          refine (m_tail (t := 0) (z := 0) ?_ (by decide)).trans ((if_pos rfl).trans ?_)
          · exact (if_neg n10).trans (be_ (isA_at (s := μ.1 296) (by rw [hb2]) ho.1.1.2.1 a1) ((if_neg n10).trans (be_ (inR_y (show ¬ nI v < nI 0 from nI_nlt (by omega) (by omega)) (show ¬ nI 9999 < nI v from nI_nlt (by omega) (by omega))) (if_neg n10))))
          · refine be_ (show F_X4_rightAt (nI r) 0 _ = some (nI (58 + 10 * r + 0)) from m_rt) (be_ d1 ?_)
            rw [d2, f0.1]
            exact be_ e1 rfl
      · refine no (t := 2) (show 3 ≠ 0 by decide) (by decide) (be_ h3 ((if_pos rfl).trans (be_ a3 ((if_pos rfl).trans (be_ v4 rfl))))) ?_
        refine be_ h4 ?_
        refine (m_tail (t := 2) (z := 0) ?_ (by decide)).trans (if_neg (by decide))
        exact (if_neg n10).trans (be_ a4 ((if_neg n10).trans (be_ v5 (if_pos rfl))))
    · refine no (t := 1) (show 1 ≠ 0 by decide) (by decide) (be_ h3 ((if_pos rfl).trans (be_ a3 rfl))) ?_
      refine be_ h4 ?_
      refine (m_tail (t := 1) (z := 0) ?_ (by decide)).trans (if_neg (by decide))
      exact (if_neg n10).trans (be_ a4 (if_pos rfl))
  · refine no (t := 1) (show 1 ≠ 0 by decide) (by decide) (be_ h3 rfl) ?_
    unfold F_X4_transfer
    rw [h4]
    refine be_ (a := (0 : Int32)) rfl ?_
    rw [if_pos (show (0 : Int32) = 0 from rfl)]
    refine (m_tail (t := 1) (z := 0) ?_ (by decide)).trans ?_
    · rfl
    · rfl
end TRF
