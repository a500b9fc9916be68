/-! ===== lease, in one ===== -/
section LSE3
variable {μ : Mm} {k : Nat}
theorem lease_good (p4 p5 p6 : Int32) (ν : Mm) : (∃ a b c, a ≤ 999 ∧ (b ≤ 99 ∧ (p4 = nI a ∧ (p5 = nI b ∧ (p6 = nI c ∧ (F_X3_needRange p4 1 999 μ = some 0 ∧ (F_X3_needRange p5 0 99 μ = some 0 ∧ (F_X3_needRange p6 1 36 μ = some 0 ∧ ∀ ν : Mm, ((F_X4_inRange p4 (1 : Int32) (999 : Int32) ν).bind fun o2 => (if o2 = 0 then some (0 : Int32) else ((F_X4_inRange p5 (0 : Int32) (99 : Int32) ν).bind fun o10 => if o10 = 0 then some (0 : Int32) else ((F_X4_isMonths p6 ν).bind fun o15 => if o15 = 0 then some (0 : Int32) else some (1 : Int32))))) = some 1)))))))) ∨ (((F_X4_inRange p4 (1 : Int32) (999 : Int32) ν).bind fun o2 => (if o2 = 0 then some (0 : Int32) else ((F_X4_inRange p5 (0 : Int32) (99 : Int32) ν).bind fun o10 => if o10 = 0 then some (0 : Int32) else ((F_X4_isMonths p6 ν).bind fun o15 => if o15 = 0 then some (0 : Int32) else some (1 : Int32))))) = some 0 ∧ (F_X3_needRange p4 1 999 μ = some 3 ∨ (F_X3_needRange p4 1 999 μ = some 0 ∧ (F_X3_needRange p5 0 99 μ = some 3 ∨ (F_X3_needRange p5 0 99 μ = some 0 ∧ F_X3_needRange p6 1 36 μ = some 3))))) := by
  rcases range_c (μ := μ) (ν := ν) p4 (lo := 1) (hi := 999) (by decide) (by decide) with ⟨a, a1, a2, rfl, a4, a5⟩ | ⟨a4, a5⟩
  · rcases range_c (μ := μ) (ν := ν) p5 (lo := 0) (hi := 99) (by decide) (by decide) with ⟨b, b1, b2, rfl, b4, b5⟩ | ⟨b4, b5⟩
    · rcases isM_c (μ := μ) (ν := ν) p6 with ⟨c, c1, c2, rfl, c4, c5⟩ | ⟨c4, c5⟩
      · refine Or.inl ⟨a, b, c, a2, b2, rfl, rfl, rfl, a4, b4, c4, fun ν => ?_⟩
        refine be_ (inR_y (show ¬ nI a < nI 1 from nI_nlt a1 (by omega)) (show ¬ nI 999 < nI a from nI_nlt a2 (by omega))) ((if_neg (by decide)).trans (be_ (inR_y (show ¬ nI b < nI 0 from nI_nlt b1 (by omega)) (show ¬ nI 99 < nI b from nI_nlt b2 (by omega))) ((if_neg (by decide)).trans (be_ (isM_y c1 c2) (if_neg (by decide))))))
      · exact Or.inr ⟨be_ a5 ((if_neg (by decide)).trans (be_ b5 ((if_neg (by decide)).trans (be_ c5 (if_pos rfl))))), Or.inr ⟨a4, Or.inr ⟨b4, c4⟩⟩⟩
    · exact Or.inr ⟨be_ a5 ((if_neg (by decide)).trans (be_ b5 (if_pos rfl))), Or.inr ⟨a4, Or.inl b4⟩⟩
  · exact Or.inr ⟨be_ a5 (if_pos rfl), Or.inl a4⟩
theorem n10 : ¬ (1 : Int32) = 0 := by decide
theorem a_lease (h : Cor k μ) (hk : k < 512) (p1 p2 p3 p4 p5 p6 : Int32) : ∃ e t v w' μ1 μ2, F_X3_lease p1 p2 p3 p4 p5 p6 μ = some (e, v, μ1) ∧ (F_X4_lease p1 p2 p3 p4 p5 p6 μ1 = some (w', μ2) ∧ ((e, t) ∈ [(0, 0), (1, 1), (3, 2), (4, 3)] ∧ (μ2.1 295 0 = nI t ∧ ((e = 0 → v = w') ∧ PA k μ μ2)))) := by
  have hB := h.1
  have ho := hB.2.2.2.1
  have h06 := ho.1.1.1.2
  have h210 := ho.1.1.2.2.1.2
  have h3 := ho.1.2.2.2.2.1
  have h38 := h3.2
  have hlen : (LSo (μ.1 296)).length = ct (μ.1 296) 3 := rwT_len _ _
  have e13 : μ.1 13 2 = nI (ct (μ.1 296) 3) := hlen ▸ hB.1.lea.2.1
  have no : ∀ {e t : Nat}, e ≠ 0 → (e, t) ∈ [(0, 0), (1, 1), (3, 2), (4, 3)] → F_X3_lease p1 p2 p3 p4 p5 p6 μ = some (e, 0, μ) → F_X4_lease p1 p2 p3 p4 p5 p6 μ = some (0, uI μ 295 0 (nI t)) → ∃ e t v w' μ1 μ2, F_X3_lease p1 p2 p3 p4 p5 p6 μ = some (e, v, μ1) ∧ (F_X4_lease p1 p2 p3 p4 p5 p6 μ1 = some (w', μ2) ∧ ((e, t) ∈ [(0, 0), (1, 1), (3, 2), (4, 3)] ∧ (μ2.1 295 0 = nI t ∧ ((e = 0 → v = w') ∧ PA k μ μ2)))) := fun {e t} he hm h1 h2 => ⟨e, t, 0, 0, μ, uI μ 295 0 (nI t), h1, h2, hm, by rw [uI_eq]; rfl, fun z => absurd z he, PA.th h hk _⟩
  have shape : ∀ (ν : Mm) (gd : Int32), ((F_X4_inRange p4 (1 : Int32) (999 : Int32) ν).bind fun o2 => (if o2 = 0 then some (0 : Int32) else ((F_X4_inRange p5 (0 : Int32) (99 : Int32) ν).bind fun o10 => if o10 = 0 then some (0 : Int32) else ((F_X4_isMonths p6 ν).bind fun o15 => if o15 = 0 then some (0 : Int32) else some (1 : Int32))))) = some gd → F_X4_lease p1 p2 p3 p4 p5 p6 ν = ((F_X4_isRight p1 ν).bind fun o21 => (if o21 = 0 then some (1 : Int32) else ((F_X4_isAccount p2 ν).bind fun o29 => if o29 = 0 then some (1 : Int32) else ((F_X4_isReach p3 ν).bind fun o34 => if o34 = 0 then some (1 : Int32) else (if gd = 0 then some (2 : Int32) else ((aI ν 296 (3 : Int32)).bind fun x40 => if x40 = (8 : Int32) then some (3 : Int32) else some (0 : Int32)))))).bind fun o44 => (some (uI ν 295 0 o44)).bind fun m45 => if (m45.1 295 0) ≤ 0 then ((F_X4_record m45).bind fun o50 => (aI o50 296 (3 : Int32)).bind fun x52 =>
  (sI o50 296 (((158 : Int32) + ((6 : Int32) * x52)) + (0 : Int32)) p1).bind fun m54 =>
  (sI m54 296 (((158 : Int32) + ((6 : Int32) * x52)) + (1 : Int32)) p2).bind fun m56 =>
  (sI m56 296 (((158 : Int32) + ((6 : Int32) * x52)) + (2 : Int32)) p3).bind fun m58 =>
  (sI m58 296 (((158 : Int32) + ((6 : Int32) * x52)) + (3 : Int32)) p4).bind fun m60 =>
  (sI m60 296 (((158 : Int32) + ((6 : Int32) * x52)) + (4 : Int32)) p5).bind fun m62 =>
  (sI m62 296 (((158 : Int32) + ((6 : Int32) * x52)) + (5 : Int32)) p6).bind fun m64 =>
  (aI m64 296 (3 : Int32)).bind fun x66 =>
  (sI m64 296 (3 : Int32) (x66 + (1 : Int32))).bind fun m68 =>
  (aI m68 296 (3 : Int32)).bind fun x70 =>
  some ((x70 - (1 : Int32)), m68)) else some ((0 : Int32), m45)) := fun ν gd e => by
    unfold F_X4_lease
    rw [bind_tail, e]
    rfl
  rcases lease_good (μ := μ) p4 p5 p6 μ with ⟨a, b, c, a2, b2, rfl, rfl, rfl, g4, g5, g6, gd⟩ | ⟨gd, bad⟩
  · rcases isI_c hB p1 with ⟨r, r1, rfl, r3, r4⟩ | ⟨r3, r4⟩
    · rcases isA_c hB p2 with ⟨w, w1, rfl, w3, w4⟩ | ⟨w3, w4⟩
      · rcases isR_c hB p3 with ⟨j, j1, rfl, j3, j4⟩ | ⟨j3, j4⟩
        · by_cases e8 : ct (μ.1 296) 3 < 8
          · obtain ⟨cc, pp, S, q1, q2, q3⟩ := h.2.2.2.1
            obtain ⟨ma, x1, ⟨p', x2⟩, x3, x4⟩ := x3_record q1 hB.1
            obtain ⟨ob, y1, y2, y3, y4⟩ := x1_addLease x3 kd1 (show (LSo (μ.1 296)).length ≤ 8 by omega) (a0 := nI r) (a1 := nI w) (a2 := nI j) (a3 := nI a) (a4 := nI b) (a5 := nI c)
            have y5 : Fs (Blk 1) ma ob.2 := y4.mo (fun a e => by unfold Blk; omega)
            have F1 : Fs (fun a => P70 a ∨ Blk 1 a) μ ob.2 := (x4.mo (fun a e => Or.inl e)).tr (y5.mo (fun a e => Or.inr e))
            obtain ⟨z1, z2, z3, z4, z5, z6⟩ := at_m h F1 q2
            obtain ⟨mc, s1, s2, s3, s4⟩ := m_record (s := μ.1 296) (g := μ.2.1 300) z1 z2 z3
            have c296 : mc.1 296 = μ.1 296 := (s3.1 296 (by unfold R299; decide)).1.trans z2
            have c300 : mc.2.1 300 = μ.2.1 300 := (s3.1 300 (by unfold R299; decide)).2.trans z3
            obtain ⟨od, d1, d2, d3, d4⟩ := m_ros (row := rw6 (nI r) (nI w) (nI j) (nI a) (nI b) (nI c)) e8 c296 h3.1 rfl
            obtain ⟨lr, cn⟩ := lease_row (m := c) ho.1 r1 w1 j1 a2 b2
            have eL := leS_L h3 e8 cn
            have ns : ∀ i, i < 521 → (i ≠ 3 → (¬ (158 ≤ i ∧ i < 206) → leS (μ.1 296) (ct (μ.1 296) 3) (rw6 (nI r) (nI w) (nI j) (nI a) (nI b) (nI c)) i = μ.1 296 i)) := fun i _ i2 i3 => leS_n e8 i2 i3
            have e3 : leS (μ.1 296) (ct (μ.1 296) 3) (rw6 (nI r) (nI w) (nI j) (nI a) (nI b) (nI c)) 3 = nI (ct (μ.1 296) 3 + 1) := by unfold leS; rw [pk_us]
            have hO' := ho.lea ns ⟨nI_ct e3 (by omega), by rw [ct_nI e3 (by omega)]; omega⟩ (by
              rw [eL]
              intro x hx
              rcases List.mem_append.mp hx with hx | hx
              · exact ho.1.2.2.1 x hx
              · rw [List.mem_singleton] at hx
                rw [hx]
                exact lr)
            obtain ⟨f1, f2, f3, f4⟩ := h.fin hk q3 q1.2.1 x2 x4 y5 s2 s3 s4 (d4.mo (fun a e => Or.inl e)) (NV.leaO y3 kd1 ho.1 ns eL) (hO'.mono (by omega)) (fun i _ => by rw [d3]) (fun i _ => by rw [(d4.1 300 (by decide)).2, c300])
            have hb2 : ∀ {i n : Nat}, i < 3 → μ.1 296 i = nI n → ob.2.1 296 i = nI n := fun {i n} _ e => by rw [(F1.1 296 (by unfold P70 Blk; omega)).1]; exact e
            have i0 : F_X4_isReach (nI j) ob.2 = some 1 := by
              refine be_ (mg (k := 0) rfl (by decide)) ?_
              rw [hb2 (by decide) ho.1.1.1.1, nI_sub1 (by omega)]
              exact be_ (inR_y (nI_pos (by omega)) (nI_nlt (by omega) (by omega))) rfl
            have h15 := ho.1.1.2.1.2
            have i1 : F_X4_isAccount (nI w) ob.2 = some 1 := by
              refine be_ (mg (k := 1) rfl (by decide)) ?_
              rw [hb2 (by decide) ho.1.1.2.1.1, nI_sub1 (by omega)]
              exact be_ (inR_y (nI_pos (by omega)) (nI_nlt (by omega) (by omega))) rfl
            have i2 : F_X4_isRight (nI r) ob.2 = some 1 := by
              refine be_ (mg (k := 2) rfl (by decide)) ?_
              rw [hb2 (by decide) ho.1.1.2.2.1.1, nI_sub1 (by omega)]
              exact be_ (inR_y (nI_pos (by omega)) (nI_nlt (by omega) (by omega))) rfl
            refine ⟨0, 0, nI (ct (μ.1 296) 3), nI (ct (μ.1 296) 3), ob.2, od.2, ?_, ?_, by decide, f4, fun _ => rfl, f1, f2, f3⟩
            · refine be_ r3 ((if_pos rfl).trans (be_ w3 ((if_pos rfl).trans (be_ j3 ((if_pos rfl).trans (be_ g4 ((if_pos rfl).trans (be_ g5 ((if_pos rfl).trans (be_ g6 ((if_pos rfl).trans ?_)))))))))))
              rw [e13, if_pos (show nI (ct (μ.1 296) 3) < (8 : Int32) from nI_lt (b := 8) e8 (by decide))]
              refine be_ x1 (be_ y1 ?_)
              rw [y2, hlen]
            · refine (shape ob.2 1 (gd ob.2)).trans ?_
              rw [i2]
              refine (m_tail (t := 0) (z := 0) ?_ (by decide)).trans ((if_pos rfl).trans (be_ s1 ?_))
              · refine (if_neg n10).trans (be_ i1 ((if_neg n10).trans (be_ i0 ((if_neg n10).trans ((if_neg n10).trans (be_ (mg (k := 3) rfl (by decide)) ?_))))))
                rw [(F1.1 296 (by unfold P70 Blk; omega)).1, h3.1]
                exact if_neg (fun z => by have := nI_inj (b := 8) (by omega) (by decide) z; omega)
              · rw [d1, ← d2]
          · have e88 : ct (μ.1 296) 3 = 8 := by omega
            refine no (t := 3) (show 4 ≠ 0 by decide) (by decide) ?_ ?_
            · refine be_ r3 ((if_pos rfl).trans (be_ w3 ((if_pos rfl).trans (be_ j3 ((if_pos rfl).trans (be_ g4 ((if_pos rfl).trans (be_ g5 ((if_pos rfl).trans (be_ g6 ((if_pos rfl).trans ?_)))))))))))
              rw [e13, e88]
              rfl
            · refine (shape μ 1 (gd μ)).trans ?_
              rw [r4]
              refine (m_tail (t := 3) (z := 0) ?_ (by decide)).trans (if_neg (by decide))
              refine (if_neg n10).trans (be_ w4 ((if_neg n10).trans (be_ j4 ((if_neg n10).trans ((if_neg n10).trans (be_ (mg (k := 3) rfl (by decide)) ?_))))))
              rw [h3.1, e88]
              rfl
        · refine no (t := 1) (show 1 ≠ 0 by decide) (by decide) (be_ r3 ((if_pos rfl).trans (be_ w3 ((if_pos rfl).trans (be_ j3 rfl))))) ((shape μ 1 (gd μ)).trans ?_)
          rw [r4]
          refine (m_tail (t := 1) (z := 0) ?_ (by decide)).trans (if_neg (by decide))
          exact (if_neg n10).trans (be_ w4 ((if_neg n10).trans (be_ j4 (if_pos rfl))))
      · refine no (t := 1) (show 1 ≠ 0 by decide) (by decide) (be_ r3 ((if_pos rfl).trans (be_ w3 rfl))) ((shape μ 1 (gd μ)).trans ?_)
        rw [r4]
        refine (m_tail (t := 1) (z := 0) ?_ (by decide)).trans (if_neg (by decide))
        exact (if_neg n10).trans (be_ w4 (if_pos rfl))
    · refine no (t := 1) (show 1 ≠ 0 by decide) (by decide) (be_ r3 rfl) ((shape μ 1 (gd μ)).trans ?_)
      rw [r4]
      refine be_ (a := (0 : Int32)) rfl ?_
      rw [if_pos (show (0 : Int32) = 0 from rfl)]
      refine (m_tail (t := 1) (z := 0) ?_ (by decide)).trans ?_
      · rfl
      · rfl
  · rcases isI_c hB p1 with ⟨r, r1, rfl, r3, r4⟩ | ⟨r3, r4⟩
    · rcases isA_c hB p2 with ⟨w, w1, rfl, w3, w4⟩ | ⟨w3, w4⟩
      · rcases isR_c hB p3 with ⟨j, j1, rfl, j3, j4⟩ | ⟨j3, j4⟩
        · refine no (t := 2) (show 3 ≠ 0 by decide) (by decide) (be_ r3 ((if_pos rfl).trans (be_ w3 ((if_pos rfl).trans (be_ j3 ((if_pos rfl).trans ?_)))))) ((shape μ 0 gd).trans ?_)
          · rcases bad with b1 | ⟨b1, b2 | ⟨b2, b3⟩⟩
            · exact be_ b1 rfl
            · exact be_ b1 ((if_pos rfl).trans (be_ b2 rfl))
            · exact be_ b1 ((if_pos rfl).trans (be_ b2 ((if_pos rfl).trans (be_ b3 rfl))))
          · rw [r4]
            refine (m_tail (t := 2) (z := 0) ?_ (by decide)).trans (if_neg (by decide))
            exact (if_neg n10).trans (be_ w4 ((if_neg n10).trans (be_ j4 ((if_neg n10).trans (if_pos rfl)))))
        · refine no (t := 1) (show 1 ≠ 0 by decide) (by decide) (be_ r3 ((if_pos rfl).trans (be_ w3 ((if_pos rfl).trans (be_ j3 rfl))))) ((shape μ 0 gd).trans ?_)
          rw [r4]
          refine (m_tail (t := 1) (z := 0) ?_ (by decide)).trans (if_neg (by decide))
          exact (if_neg n10).trans (be_ w4 ((if_neg n10).trans (be_ j4 (if_pos rfl))))
      · refine no (t := 1) (show 1 ≠ 0 by decide) (by decide) (be_ r3 ((if_pos rfl).trans (be_ w3 rfl))) ((shape μ 0 gd).trans ?_)
        rw [r4]
        refine (m_tail (t := 1) (z := 0) ?_ (by decide)).trans (if_neg (by decide))
        exact (if_neg n10).trans (be_ w4 (if_pos rfl))
    · refine no (t := 1) (show 1 ≠ 0 by decide) (by decide) (be_ r3 rfl) ((shape μ 0 gd).trans ?_)
      rw [r4]
      refine be_ (a := (0 : Int32)) rfl ?_
      rw [if_pos (show (0 : Int32) = 0 from rfl)]
      refine (m_tail (t := 1) (z := 0) ?_ (by decide)).trans ?_
      · rfl
      · rfl
end LSE3
