/-! ===== swap, the action ===== -/
section SWP2
variable {μ : Mm} {s : Nat → Int32} {g : Nat → Int64} {k : Nat}
theorem x3_swp {ma : Mm} {r o : Nat} (h : NV ma 1 s g) (ho : Stc s) (hd : Dst (swS s r o)) (hr : r < ct s 2) (hq : o < ct s 2) : Op ((F_X2_get 9 (nI r) (2 : Int32) ma).bind fun o23 =>
  (F_X2_get 9 (nI o) (2 : Int32) ma).bind fun o26 =>
  (F_X2_put 9 (nI r) (2 : Int32) o26 ma).bind fun o29 =>
  (F_X2_put 9 (nI o) (2 : Int32) o23 o29).bind fun o32 =>
  (F_X1_rankRights 1 o32).bind fun o35 =>
  (F_X2_get 9 (nI r) (2 : Int32) o35).bind fun o38 =>
  some ((0 : Nat), o38, o35)) (fun w => w.1 = 0 ∧ (w.2.1 = swS s r o (58 + 10 * r + 2) ∧ (NV w.2.2 1 (swS s r o) g ∧ Fs (Blk 1) ma w.2.2))) := by
  have h210 := ho.1.2.2.1.2
  have h06 := ho.1.1.2
  have e : ∀ j, (j ≠ 58 + 10 * r + 2 ∧ j ≠ 58 + 10 * o + 2) → swS s r o j = s j := fun j hj => swS_n hj.1 hj.2
  refine op_eb ((x2_get (t := 9) (k := 2) h.rgt hr (by decide)).trans (congrArg some (if_neg (by decide)))) ?_
  refine op_eb ((x2_get (t := 9) (k := 2) h.rgt hq (by decide)).trans (congrArg some (if_neg (by decide)))) ?_
  refine op_eb (x2_put (t := 9) (k := 2) h.rgt hr (by decide)) ?_
  have t1 := Tb.set (r := r) (k := 2) (v := s (58 + 10 * o + 2)) h.rgt hr (by decide)
  refine op_eb (x2_put (t := 9) (k := 2) t1 hq (by decide)) ?_
  have t2 := (Tb.set (r := o) (k := 2) (v := s (58 + 10 * r + 2)) t1 hq (by decide)).congr (g := fun q k => if k = 9 then s (58 + 10 * q + 9) else swS s r o (58 + 10 * q + k)) (fun q j hq' hj => by
    unfold up2
    by_cases e1 : q = o ∧ j = 2
    · rw [if_pos e1, e1.1, e1.2, if_neg (by decide)]
      unfold swS
      rw [pk_us]
    · rw [if_neg e1]
      by_cases e2 : q = r ∧ j = 2
      · rw [if_pos e2, e2.1, e2.2, if_neg (by decide)]
        unfold swS
        rw [pk_un (by omega), pk_us]
      · rw [if_neg e2]
        show (if j = 9 then s (58 + 10 * q + 9) else s (58 + 10 * q + j)) = (if j = 9 then s (58 + 10 * q + 9) else swS s r o (58 + 10 * q + j))
        by_cases e9 : j = 9
        · rw [if_pos e9, if_pos e9]
        · rw [if_neg e9, if_neg e9, e _ (by omega)])
  generalize hm2 : uI (uI ma (1 + 8 + 1) (r * 10 + 2) (s (58 + 10 * o + 2))) (1 + 8 + 1) (o * 10 + 2) (s (58 + 10 * r + 2)) = m2 at t2
  have f2 : Fs (fun a => a = 1 + 9 ∨ a = 1 + 10) ma m2 := by
    rw [← hm2]
    exact (Fs.uI (by omega)).tr (Fs.uI (by omega))
  have c2 : ct (swS s r o) 2 = ct s 2 := ct_eq (e 2 (by omega))
  refine op_mb (x1_rank (s := swS s r o) (b := 1) kd1 t2 (fun q _ => if_neg (by decide)) h210 c2) (fun m3 w3 => ?_)
  have f3 : Fs (fun a => a = 1 + 9 ∨ a = 1 + 10) ma m3 := f2.tr (w3.2.mo (fun a e => Or.inr e))
  have S3 : SV m3 1 (LSo s) (OSo s) (if s 57 = 0 then 0 else ct s 0) (fun q k => s (394 + 5 * q + k)) (fun r => s (58 + 10 * r + 9)) (swS s r o) g := SV.prio h (SV.cnt h kd1) f3 (fun j hj hj2 => e j (by omega)) (t2.fs w3.2 (by omega) (by omega)) (w3.1 hd)
  have N3 : NV m3 1 (swS s r o) g := NV.mk2 S3 ho.2.2.2.2.1.2 ho.2.2.2.2.2.1.2 h06 h210 (fun j hj => e j (by omega))
  refine op_eb ((x2_get (t := 9) (k := 2) N3.rgt (by rw [c2]; exact hr) (by decide)).trans (congrArg some (if_neg (by decide)))) (op_r ⟨rfl, rfl, N3, f3.mo (fun a e => by unfold Blk; omega)⟩)
theorem a_swap (h : Cor k μ) (hk : k < 512) (p1 p2 : Int32) : ∃ e t v w' μ1 μ2, F_X3_swap p1 p2 μ = some (e, v, μ1) ∧ (F_X4_swap p1 p2 μ1 = some (w', μ2) ∧ ((e, t) ∈ [(0, 0), (1, 1), (4, 2)] ∧ (μ2.1 295 0 = nI t ∧ ((e = 0 → v = w') ∧ PA k μ μ2)))) := by
  have hB := h.1
  have ho := hB.2.2.2.1
  have h210 := ho.1.1.2.2.1.2
  have no : ∀ {e t : Nat}, e ≠ 0 → (e, t) ∈ [(0, 0), (1, 1), (4, 2)] → F_X3_swap p1 p2 μ = some (e, 0, μ) → F_X4_swap p1 p2 μ = some (0, uI μ 295 0 (nI t)) → ∃ e t v w' μ1 μ2, F_X3_swap p1 p2 μ = some (e, v, μ1) ∧ (F_X4_swap p1 p2 μ1 = some (w', μ2) ∧ ((e, t) ∈ [(0, 0), (1, 1), (4, 2)] ∧ (μ2.1 295 0 = nI t ∧ ((e = 0 → v = w') ∧ PA k μ μ2)))) := fun {e t} he hm h1 h2 => ⟨e, t, 0, 0, μ, uI μ 295 0 (nI t), h1, h2, hm, by rw [uI_eq]; rfl, fun z => absurd z he, PA.th h hk _⟩
  rcases isI_c hB p1 with ⟨r, h1, rfl, h3, h4⟩ | ⟨h3, h4⟩
  · rcases isI_c hB p2 with ⟨o, o1, rfl, o3, o4⟩ | ⟨o3, o4⟩
    · have g1 : F_X2_get 9 (nI r) 0 μ = some (μ.1 296 (58 + 10 * r + 0)) := (x2_get (t := 9) (k := 0) hB.1.rgt h1 (by decide)).trans (congrArg some (if_neg (by decide)))
      have g2 : F_X2_get 9 (nI o) 0 μ = some (μ.1 296 (58 + 10 * o + 0)) := (x2_get (t := 9) (k := 0) hB.1.rgt o1 (by decide)).trans (congrArg some (if_neg (by decide)))
      have ro : ∀ (ν : Mm) {q : Nat}, ν.1 296 = μ.1 296 → q < 10 → F_X4_rightOf (nI q) 0 ν = some (μ.1 296 (58 + 10 * q + 0)) := fun ν {q} e hq => (m_rO (k := 0) hq (by decide)).trans (congrArg some (by rw [e]))
      by_cases e1 : μ.1 296 (58 + 10 * r + 0) = μ.1 296 (58 + 10 * o + 0)
      · obtain ⟨cc, pp, S, q1, q2, q3⟩ := h.2.2.2.1
        obtain ⟨ma, x1, ⟨p', x2⟩, x3, x4⟩ := x3_record q1 hB.1
        obtain ⟨hO', hd⟩ := ho.swp h1 o1
        obtain ⟨ob, y1, y2, y3, y4, y5⟩ := x3_swp x3 ho.1 hd h1 o1
        have F1 : Fs (fun a => P70 a ∨ Blk 1 a) μ ob.2.2 := (x4.mo (fun a e => Or.inl e)).tr (y5.mo (fun a e => Or.inr e))
        obtain ⟨z1, z2, z3, z4, z5, z6⟩ := at_m h F1 q2
        obtain ⟨od, d1, d2, d3, d3', mc, r2, r3, r4, d4⟩ := m_sets (j0 := 58 + 10 * r + 2) (v := μ.1 296 (58 + 10 * o + 2)) z1 z2 z3 (by omega)
        obtain ⟨md, e2, e3, e4⟩ := ms (μ := od.2) (i := nI (58 + 10 * o + 2)) (v := μ.1 296 (58 + 10 * r + 2)) (k := 58 + 10 * o + 2) rfl (by omega)
        have e296 : md.1 296 = swS (μ.1 296) r o := by rw [e3, d3]; rfl
        have dF : Fs Fm mc md := (d4.mo (T := Fm) (fun a e => Or.inl e)).tr (e4.mo (fun a e => Or.inl e))
        obtain ⟨f1, f2, f3, f4⟩ := h.fin hk q3 q1.2.1 x2 x4 y5 r2 r3 r4 dF y4 (hO'.mono (by omega)) (fun j _ => by rw [e296]) (fun j _ => by rw [(e4.1 300 (by decide)).2, d3'])
        have hb2 : ob.2.2.1 296 = μ.1 296 := (F1.1 296 (by unfold P70 Blk; omega)).1
        refine ⟨0, 0, swS (μ.1 296) r o (58 + 10 * r + 2), swS (μ.1 296) r o (58 + 10 * r + 2), ob.2.2, md, ?_, ?_, by decide, f4, fun _ => rfl, f1, f2, f3⟩
        · refine be_ h3 ((if_pos rfl).trans (be_ o3 ((if_pos rfl).trans (be_ g1 (be_ g2 ((if_pos e1).trans (be_ x1 (y1.trans ?_))))))))
          rw [← y2, ← y3]
        · refine be_ (isI_at (s := μ.1 296) (by rw [hb2]) ho.1.1.2.2.1 h1) ?_
          refine (m_tail (t := 0) (z := 0) ?_ (by decide)).trans ((if_pos rfl).trans ?_)
          · exact (if_neg n10).trans (be_ (isI_at (s := μ.1 296) (by rw [hb2]) ho.1.1.2.2.1 o1) ((if_neg n10).trans (be_ (ro _ hb2 (by omega)) (be_ (ro _ hb2 (by omega)) (if_pos e1)))))
          · refine be_ (show F_X4_rightAt (nI r) 2 _ = some (nI (58 + 10 * r + 2)) from m_rt) (be_ ((m_rO (k := 2) (by omega) (by decide)).trans (congrArg some (by rw [z2]))) (be_ d1 (be_ (show F_X4_rightAt (nI o) 2 _ = some (nI (58 + 10 * o + 2)) from m_rt) ?_)))
            rw [d2]
            refine be_ e2 (be_ ((m_rO (k := 2) (by omega) (by decide)).trans (congrArg some (by rw [e296]))) rfl)
      · refine no (t := 2) (show 4 ≠ 0 by decide) (by decide) (be_ h3 ((if_pos rfl).trans (be_ o3 ((if_pos rfl).trans (be_ g1 (be_ g2 (if_neg e1))))))) ?_
        refine be_ h4 ?_
        refine (m_tail (t := 2) (z := 0) ?_ (by decide)).trans (if_neg (by decide))
        exact (if_neg n10).trans (be_ o4 ((if_neg n10).trans (be_ (ro _ rfl (by omega)) (be_ (ro _ rfl (by omega)) (if_neg e1)))))
    · refine no (t := 1) (show 1 ≠ 0 by decide) (by decide) (be_ h3 ((if_pos rfl).trans (be_ o3 rfl))) ?_
      refine be_ h4 ?_
      refine (m_tail (t := 1) (z := 0) ?_ (by decide)).trans (if_neg (by decide))
      exact (if_neg n10).trans (be_ o4 (if_pos rfl))
  · refine no (t := 1) (show 1 ≠ 0 by decide) (by decide) (be_ h3 rfl) ?_
    unfold F_X4_swap
    rw [h4]
    refine be_ (a := (0 : Int32)) rfl ?_
    rw [if_pos (show (0 : Int32) = 0 from rfl)]
    refine (m_tail (t := 1) (z := 0) ?_ (by decide)).trans ?_
    · rfl
    · rfl
end SWP2
