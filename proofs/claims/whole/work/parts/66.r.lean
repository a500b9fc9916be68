/-! ===== injured ===== -/
section INJ
variable {μ ν : Mm} {s : Nat → Int32} {g : Nat → Int64} {T : Nat}
theorem nI_ct {n : Nat} {x : Nat → Int32} {j : Nat} (h : x j = nI n) (hn : n < 2 ^ 31) : x j = nI (ct x j) := by rw [ct_nI h hn]; exact h
theorem inj_x {κ : Nat → Int32} {k j v : Nat} (ho : Ok T s) (hk : k < ct s 2) (hj : j < ct s 0) (hv : v ≤ 999) (h24 : κ 24 = nI k) (h23 : κ 23 = nI j) (h25 : κ 25 = nI v) : Xtr κ s [rw6 (nI k) (s (58 + 10 * k + 0)) (nI j) (nI v) 0 1] := by
  have h2 := ho.1.1.2.2.1.2
  have h0 := ho.1.1.1.2
  have hf := ho.1.1.2.2.2.2.2 k hk
  have x0 : (rw6 (nI k) (s (58 + 10 * k + 0)) (nI j) (nI v) 0 1) 0 = nI k := rfl
  have x1 : (rw6 (nI k) (s (58 + 10 * k + 0)) (nI j) (nI v) 0 1) 1 = s (58 + 10 * k + 0) := rfl
  have x2 : (rw6 (nI k) (s (58 + 10 * k + 0)) (nI j) (nI v) 0 1) 2 = nI j := rfl
  have x3 : (rw6 (nI k) (s (58 + 10 * k + 0)) (nI j) (nI v) 0 1) 3 = nI v := rfl
  have x4 : (rw6 (nI k) (s (58 + 10 * k + 0)) (nI j) (nI v) 0 1) 4 = nI 0 := rfl
  generalize rw6 (nI k) (s (58 + 10 * k + 0)) (nI j) (nI v) 0 1 = x at *
  have c0 := ct_nI x0 (by omega)
  have c2 := ct_nI x2 (by omega)
  have c3 := ct_nI x3 (by omega)
  have c4 := ct_nI x4 (by decide)
  have c1 : ct x 1 = ct s (58 + 10 * k + 0) := congrArg Int32.toNatClampNeg x1
  refine Or.inr ⟨x, rfl, ⟨⟨⟨by rw [c0]; exact x0, by rw [c0]; exact hk⟩, ⟨by rw [c1, x1]; exact hf.1.1, by rw [c1]; exact hf.1.2⟩, ⟨by rw [c2]; exact x2, by rw [c2]; exact hj⟩⟩, ⟨by rw [c3]; exact x3, by rw [c3]; exact hv⟩, ⟨by rw [c4]; exact x4, by rw [c4]; decide⟩⟩, by rw [x0]; exact h24, by rw [c0]; exact x1, by rw [x2]; exact h23, by rw [x3]; exact h25, c4⟩
theorem f_injured (h : Bo T μ s g) (hk : KB μ 23) (hf : Fl μ) (hT : T ≤ 19900) (p1 p2 p3 : Int32) : FI M13 (F_X3_injured p1 p2 p3 μ) (F_X4_injured p1 p2 p3) μ := by
  have h210 := h.2.2.2.1.1.1.2.2.1.2
  have h06 := h.2.2.2.1.1.1.1.2
  have ho := h.2.2.2.1
  have h38 := ho.1.2.2.2.2.1.2
  have no1 : ∀ {e q : Nat}, (e = 1 ∧ q = 1) ∨ (e = 3 ∧ q = 2) → F_X3_injured p1 p2 p3 μ = some (e, 0, μ) → F_X4_injured p1 p2 p3 μ = some (0, uI μ 295 0 (nI q)) → FI M13 (F_X3_injured p1 p2 p3 μ) (F_X4_injured p1 p2 p3) μ := fun {e q} he e1 e2 => by
    rcases he with ⟨rfl, rfl⟩ | ⟨rfl, rfl⟩
    · exact ⟨1, 1, 0, 0, μ, uI μ 295 0 (nI 1), e1, e2, by decide, by rw [uI_eq]; rfl, fun e => absurd e (by decide), KQ.th hk⟩
    · exact ⟨3, 2, 0, 0, μ, uI μ 295 0 (nI 2), e1, e2, by decide, by rw [uI_eq]; rfl, fun e => absurd e (by decide), KQ.th hk⟩
  rcases isI_c h p1 with ⟨k, h1, rfl, h3, h4⟩ | ⟨h3, h4⟩
  · rcases isR_c h p2 with ⟨j, j1, rfl, j3, j4⟩ | ⟨j3, j4⟩
    · rcases range_c (μ := μ) (ν := μ) p3 (lo := 1) (hi := 999) (by decide) (by decide) with ⟨v, v1, v2, rfl, v4, v5⟩ | ⟨v4, v5⟩
      · obtain ⟨m2, a1, a2, a2z, a3, a4⟩ := x3_usual h hk hT
        obtain ⟨hb2, c295, c307, c308⟩ := bo_kp h a4
        obtain ⟨m3, b1, b2, b3⟩ := x1_copy hb2.1 kd23 kd1 (by decide) a3
        have hb3' := bo_kp h (a4.tr (b3.mo (fun a e => Or.inl e)))
        obtain ⟨oL, l1, l2, l3, l4⟩ := x1_addLease b2 kd23 (show (LSo s).length ≤ 8 by rw [show (LSo s).length = ct s 3 from rwT_len _ _]; exact h38) (a0 := nI k) (a1 := s (58 + 10 * k + 0)) (a2 := nI j) (a3 := nI v) (a4 := 0) (a5 := 1)
        have l4' : Fs (Blk 23) m3 oL.2 := l4.mo (fun a e => by unfold Blk; omega)
        have hsv : ∀ st2, C5 s g st2 → SV oL.2 23 (LSo st2.1 ++ [rw6 (nI k) (s (58 + 10 * k + 0)) (nI j) (nI v) 0 1]) (OSo st2.1) (if s 57 = 0 then 0 else ct s 0) (fun q k => s (394 + 5 * q + k)) (fun r => s (58 + 10 * r + 9)) st2.1 st2.2.1 := fun st2 hc => by
          rw [hc.1.ls ho.1.2.2.2.2.1.2, hc.1.os ho.1.2.2.2.2.2.1.2]
          exact SV.e5 l3 kd23 hc.1 hc.2
        have hXs : ∀ st2, C5 s g st2 → Xtr (fun q => if q = 24 then nI k else if q = 23 then nI j else nI v) st2.1 [rw6 (nI k) (s (58 + 10 * k + 0)) (nI j) (nI v) 0 1] := fun st2 hc => by
          have := inj_x (T := T) (s := st2.1) (κ := fun q => if q = 24 then nI k else if q = 23 then nI j else nI v) (k := k) (j := j) (v := v) (ho.e5 hc.1) (by rw [ct_eq (hc.1 2 (by decide))]; exact h1) (by rw [ct_eq (hc.1 0 (by decide))]; exact j1) v2 rfl rfl rfl
          rw [hc.1 _ (by omega)] at this
          exact this
        obtain ⟨o, d1, d2⟩ := op_all (x := F_X1_runMonth 23 (-1) oL.2) (C := C5 s g) (s, g, μ.1 307, μ.1 308) ⟨fun _ _ => rfl, fun _ _ => rfl⟩ (fun st2 hc => x1_got (p := -1) (st := st2) (hsv st2 hc) (ho.e5 hc.1) hT (hXs st2 hc))
        have d0 := d2 (s, g, μ.1 307, μ.1 308) ⟨fun _ _ => rfl, fun _ _ => rfl⟩
        have F3 : Fs kpS μ o.2 := ((a4.tr (b3.mo (fun a e => Or.inl e))).tr (l4'.mo (fun a e => Or.inl e))).tr (d0.2.2.2.mo (fun a e => Or.inl e))
        obtain ⟨hb3, e295, e307, e308⟩ := bo_kp h F3
        generalize hx : [rw6 (nI k) (s (58 + 10 * k + 0)) (nI j) (nI v) 0 1] = X at *
        have hWall : ∀ st2, C5 s g st2 → ∀ r, r < ct s 2 → (gM (-1) X st2).1 (58 + 10 * r + 7) = (gM (-1) X (s, g, μ.1 307, μ.1 308)).1 (58 + 10 * r + 7) := fun st2 hc r hr => by
          have q := (d2 st2 hc).1 r (by rw [ct_eq (hc.1 2 (by decide))]; exact hr)
          rw [d0.1 r hr] at q
          exact (Option.some.inj q).symm
        have hU : ∀ r, r < ct s 2 → o.2.1 69 r = (gM (-1) [] (s, g, μ.1 307, μ.1 308)).1 (58 + 10 * r + 7) := fun r hr => by
          rw [(d0.2.2.2.1 69 (by unfold Blk; decide)).1, (l4'.1 69 (by unfold Blk; decide)).1, (b3.1 69 (by unfold Blk; decide)).1]
          exact a2 r hr
        have hU0 : ∀ r, ct s 2 ≤ r → r < 10 → o.2.1 69 r = 0 := fun r h1 h2 => by
          rw [(d0.2.2.2.1 69 (by unfold Blk; decide)).1, (l4'.1 69 (by unfold Blk; decide)).1, (b3.1 69 (by unfold Blk; decide)).1]
          exact a2z r h1 h2
        have hXz : Xtr (fun q => if q = 24 then nI k else if q = 23 then nI j else nI v) s X := hXs (s, g, μ.1 307, μ.1 308) ⟨fun _ _ => rfl, fun _ _ => rfl⟩
        have hs : ∀ r, r < ct s 2 → (0 ≤ (gM (-1) X (s, g, μ.1 307, μ.1 308)).1 (58 + 10 * r + 7) - (gM (-1) [] (s, g, μ.1 307, μ.1 308)).1 (58 + 10 * r + 7) ↔ (gM (-1) [] (s, g, μ.1 307, μ.1 308)).1 (58 + 10 * r + 7) ≤ (gM (-1) X (s, g, μ.1 307, μ.1 308)).1 (58 + 10 * r + 7)) := fun r hr => by
          obtain ⟨a, z1, z2⟩ := gM_nI (p := -1) (X := X) (st := (s, g, μ.1 307, μ.1 308)) ho hT hXz (show r < 10 by omega) rfl
          obtain ⟨c, z3, z4⟩ := gM_nI (κ := fun _ => -1) (p := -1) (X := []) (st := (s, g, μ.1 307, μ.1 308)) ho hT (noX rfl h210) (show r < 10 by omega) rfl
          rw [z1, z3]
          exact sgnG z2 z4
        have hcl := x3_injuredL (μ := o.2) (k := k) (n := ct s 2) h210 (by omega) (U := fun r => (gM (-1) [] (s, g, μ.1 307, μ.1 308)).1 (58 + 10 * r + 7)) (W := fun r => (gM (-1) X (s, g, μ.1 307, μ.1 308)).1 (58 + 10 * r + 7)) (b := fun r => decide (r ≠ k ∧ ¬ (gM (-1) [] (s, g, μ.1 307, μ.1 308)).1 (58 + 10 * r + 7) ≤ (gM (-1) X (s, g, μ.1 307, μ.1 308)).1 (58 + 10 * r + 7))) d0.1 d0.2.1 hU hU0 hs (fun r hr => rfl)
        have ν296 : (uI o.2 295 0 0).1 296 = s := th296.trans hb3.2.1
        have fj : ∀ q, q ≠ 0 → (uI o.2 295 0 0).1 295 q = μ.1 295 q := fun q hq => by
          rw [uI_eq]
          exact (if_neg hq).trans (congrFun e295 q)
        have n307 : (uI o.2 295 0 0).1 307 = μ.1 307 := (uI_ne (by decide)).trans e307
        have n308 : (uI o.2 295 0 0).1 308 = μ.1 308 := (uI_ne (by decide)).trans e308
        have hX0 : Xtr (fun q => if q = 24 then nI k else if q = 23 then nI j else nI v) s X := hXs (s, g, μ.1 307, μ.1 308) ⟨fun _ _ => rfl, fun _ _ => rfl⟩
        have hfF : ∀ m : Mm, Fs (fun a => a = 295) m (uI (uI (uI m 295 24 (nI k)) 295 25 (nI v)) 295 23 (nI j)) := fun m => ((Fs.uI (S := fun a => a = 295) rfl).tr (Fs.uI rfl)).tr (Fs.uI rfl)
        obtain ⟨q, q1, q2, q3, q4, q5, q6⟩ := m_twice (ν := uI o.2 295 0 0) (κ := upd (upd (upd ((uI o.2 295 0 0).1 295) 24 (nI k)) 25 (nI v)) 23 (nI j)) (X := X) (u := -1) (p1 := nI k) (k := k) (f := fun m => uI (uI (uI m 295 24 (nI k)) 295 25 (nI v)) 295 23 (nI j)) (fb := fun m => uI m 295 24 (-1)) (W := fun r => (gM (-1) X (s, g, μ.1 307, μ.1 308)).1 (58 + 10 * r + 7)) (b := fun r => decide (r ≠ k ∧ ¬ (gM (-1) [] (s, g, μ.1 307, μ.1 308)).1 (58 + 10 * r + 7) ≤ (gM (-1) X (s, g, μ.1 307, μ.1 308)).1 (58 + 10 * r + 7)))
          ν296 hb3.2.2.1 ho hT ⟨(fj 22 (by decide)).trans hf.1, (fj 24 (by decide)).trans hf.2.1, (fj 26 (by decide)).trans hf.2.2⟩ rfl h1 hfF (fun m => Fs.uI rfl) (fun m hm => by rw [uI_eq, uI_eq, uI_eq, hm]; rfl) ((pk_un (by decide)).trans ((pk_un (by decide)).trans ((pk_un (by decide)).trans ((fj 22 (by decide)).trans hf.1)))) (by
            rcases hX0 with ⟨x1, x2⟩ | ⟨x, x1, x2, x3, x4, x5, x6, x7⟩
            · rw [← hx] at x1
              cases x1
            · exact Or.inr ⟨x, x1, x2, x3, x4, x5, x6, x7⟩) (fun m hm q j1 j2 => by
            rw [uI_eq, hm]
            by_cases e : q = 24
            · refine (if_pos e).trans ?_
              rw [e, fj 24 (by decide), hf.2.1]
            · exact (if_neg e).trans ((pk_un j1).trans ((pk_un j2).trans (pk_un e)))) (fun st2 hc r hr => by
            rw [show (upd (upd (upd ((uI o.2 295 0 0).1 295) 24 (nI k)) 25 (nI v)) 23 (nI j)) 26 = -1 from (pk_un (by decide)).trans ((pk_un (by decide)).trans ((pk_un (by decide)).trans ((fj 26 (by decide)).trans hf.2.2)))]
            exact hWall st2 hc r hr) (fun r hr => by
            rw [n307, n308]
            obtain ⟨a, z1, z2⟩ := gM_nI (p := -1) (X := X) (st := (s, g, μ.1 307, μ.1 308)) ho hT hX0 (show r < 10 by omega) rfl
            obtain ⟨c, z3, z4⟩ := gM_nI (κ := fun _ => -1) (p := -1) (X := []) (st := (s, g, μ.1 307, μ.1 308)) ho hT (noX rfl h210) (show r < 10 by omega) rfl
            rw [z1, z3]
            have := sgnN z2 z4
            simp only [this])
        refine ⟨0, 0, bset (fun r => decide (r ≠ k ∧ ¬ (gM (-1) [] (s, g, μ.1 307, μ.1 308)).1 (58 + 10 * r + 7) ≤ (gM (-1) X (s, g, μ.1 307, μ.1 308)).1 (58 + 10 * r + 7))) (ct s 2) 0 0, _, o.2, q.2, ?_, ?_, by decide, ?_, fun _ => rfl, ?_⟩
        · refine be_ h3 ((if_pos rfl).trans (be_ j3 ((if_pos rfl).trans (be_ v4 ((if_pos rfl).trans ?_)))))
          rw [bind_tail (x := F_X3_tryMonths 1 μ) (f := fun o7 => F_X3_keepUsualGot o7)]
          refine be_ a1 (be_ b1 (be_ (a := s (58 + 10 * k + 0)) ?_ (be_ l1 (be_ d1 (be_ hcl rfl)))))
          refine (x2_get (t := 9) (k := 0) hb3'.1.1.rgt h1 (by decide)).trans (congrArg some ?_)
          rw [if_neg (by decide)]
        · refine be_ (isI_y hb3 h1) ?_
          rw [if_neg (show ¬ (1 : Int32) = 0 by decide), isR_y hb3 j1]
          show (((if (1 : Int32) = 0 then some (1 : Int32) else ((F_X4_inRange (nI v) 1 999 o.2).bind fun o15 => if o15 = 0 then some (2 : Int32) else some (0 : Int32)))).bind _) = _
          rw [if_neg (show ¬ (1 : Int32) = 0 by decide), show F_X4_inRange (nI v) 1 999 o.2 = some 1 from inR_y (show ¬ nI v < nI 1 from nI_nlt v1 (by omega)) (show ¬ nI 999 < nI v from nI_nlt v2 (by omega))]
          refine (m_tail (o := some 0) (t := 0) (z := 0) rfl (by decide)).trans ((if_pos rfl).trans ?_)
          simp only [Option.bind_some]
          exact q1.trans (congrArg some (Prod.ext q2 rfl))
        · rw [q5 0 (by decide) (by decide), uI_eq]
          rfl
        · exact KQ.of h.2.1 h.2.2.1 F3 d0.2.2.1 q3 q4 (fun q a b c => by rw [q5 q b c, uI_eq]; exact if_neg a) ((Fs.uI (Or.inr (Or.inl rfl))).tr q6)
      · refine no1 (Or.inr ⟨rfl, rfl⟩) (be_ h3 ((if_pos rfl).trans (be_ j3 ((if_pos rfl).trans (be_ v4 rfl))))) ?_
        unfold F_X4_injured
        rw [h4, j4, show F_X4_inRange p3 1 999 μ = some 0 from v5]
        refine be_ (a := (1 : Int32)) rfl ?_
        rw [if_neg (show ¬ (1 : Int32) = 0 by decide)]
        refine (m_tail (t := 2) (z := 0) ?_ (by decide)).trans ?_
        · rfl
        · rfl
    · refine no1 (Or.inl ⟨rfl, rfl⟩) (be_ h3 ((if_pos rfl).trans (be_ j3 rfl))) ?_
      unfold F_X4_injured
      rw [h4, j4]
      refine be_ (a := (1 : Int32)) rfl ?_
      rw [if_neg (show ¬ (1 : Int32) = 0 by decide)]
      refine (m_tail (t := 1) (z := 0) ?_ (by decide)).trans ?_
      · rfl
      · rfl
  · refine no1 (Or.inl ⟨rfl, rfl⟩) (be_ h3 rfl) ?_
    unfold F_X4_injured
    rw [h4]
    refine be_ (a := (0 : Int32)) rfl ?_
    rw [if_pos (show (0 : Int32) = 0 from rfl)]
    refine (m_tail (t := 1) (z := 0) ?_ (by decide)).trans ?_
    · rfl
    · rfl
end INJ
