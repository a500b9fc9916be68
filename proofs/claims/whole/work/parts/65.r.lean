/-! ===== blocked ===== -/
section BLK2
variable {μ ν : Mm} {s : Nat → Int32} {g : Nat → Int64} {T : Nat}
def C5 (s : Nat → Int32) (g : Nat → Int64) (st : Sg) : Prop := E5 s st.1 ∧ ∀ k, k < 15 → st.2.1 k = g k
/-- the reference lays gains twice -/
theorem m_twice {κ : Nat → Int32} {X : List (Nat → Int32)} {u : Int32} {p1 : Int32} {k : Nat} {f : Mm → Mm} {fb : Mm → Mm} {W : Nat → Int32} {b : Nat → Bool}
  (h1 : ν.1 296 = s) (h2 : ν.2.1 300 = g) (ho : Ok T s) (hT : T ≤ 19900) (hf : Fl ν) (hp : p1 = nI k) (hk : k < ct s 2)
  (hfF : ∀ m, Fs (fun a => a = 295) m (f m)) (hbF : ∀ m, Fs (fun a => a = 295) m (fb m))
  (hκ : ∀ m, m.1 295 = ν.1 295 → (f m).1 295 = κ) (h22 : κ 22 = -1) (hX : Xtr κ s X)
  (hback : ∀ m, m.1 295 = κ → ∀ j, j ≠ 23 → (j ≠ 25 → (fb m).1 295 j = ν.1 295 j))
  (hW : ∀ st2, C5 s g st2 → ∀ r, r < ct s 2 → (gM (κ 26) X st2).1 (58 + 10 * r + 7) = W r)
  (hb : ∀ r, r < ct s 2 → b r = decide (r ≠ k ∧ ¬ (W r - (gM (-1) [] (s, g, ν.1 307, ν.1 308)).1 (58 + 10 * r + 7)) * u ≤ 0)) :
  Op ((F_X4_laysGains 1 ν).bind fun o25 => (F_X4_laysGains 0 (f o25)).bind fun o34 => (F_X4_parted p1 u (fb o34)).bind fun o39 => some (o39, fb o34)) (fun o => o.1 = bset b (ct s 2) 0 0 ∧ (E5 s (o.2.1 296) ∧ ((∀ k, k < 15 → o.2.2.1 300 k = g k) ∧ ((∀ j, j ≠ 23 → (j ≠ 25 → o.2.1 295 j = ν.1 295 j)) ∧ Fs (fun a => (Fm a ∨ (a = 298 ∨ a = 301)) ∨ (a = 295 ∨ a = 309)) ν o.2)))) := by
  have h2b := ho.1.1.2.2.1
  have h210 := h2b.2
  subst hp
  have mv : MV ν (s, g, ν.1 307, ν.1 308) := ⟨h1, h2, rfl, rfl⟩
  refine op_mb (m_gains (u := 1) (X := []) mv rfl ho hT (noX hf.2.1 h210) hf.1) (fun o1 w1 => ?_)
  obtain ⟨a1, a2, a3, a4⟩ := w1
  have e295 : o1.1 295 = ν.1 295 := (a4.1 295 (by unfold Fm; decide)).1
  have F1 := hfF o1
  have mv2 : MV (f o1) (o1.1 296, o1.2.1 300, o1.1 307, o1.1 308) := ⟨(F1.1 296 (by decide)).1, (F1.1 300 (by decide)).2, (F1.1 307 (by decide)).1, (F1.1 308 (by decide)).1⟩
  have a2' : E5 s (o1.1 296) := a2
  have eX : Xtr κ (o1.1 296) X := by
    rcases hX with ⟨x1, x2⟩ | ⟨x, x1, x2, x3, x4, x5, x6, x7⟩
    · exact Or.inl ⟨x1, fun r hr => x2 r (by rw [ct_eq (a2' 2 (by decide))] at hr; exact hr)⟩
    · refine Or.inr ⟨x, x1, ⟨x2.1.sta (a2' 0 (by decide)) (a2' 1 (by decide)) (a2' 2 (by decide)), x2.2⟩, x3, ?_, x5, x6, x7⟩
      rw [a2' _ (by have := x2.1.1.2; omega)]
      exact x4
  refine op_mb (m_gains (u := 0) (X := X) mv2 (hκ o1 e295) (ho.e5 a2') hT eX h22) (fun o2 w2 => ?_)
  obtain ⟨b1, b2, b3, b4⟩ := w2
  have f295 : o2.1 295 = κ := (b4.1 295 (by unfold Fm; decide)).1.trans (hκ o1 e295)
  have F2 := hbF o2
  have e2 : ct (o1.1 296) 2 = ct s 2 := ct_eq (a2' 2 (by decide))
  have z309 : (f o1).1 309 = o1.1 309 := (F1.1 309 (by decide)).1
  have key : ∀ r, r < ct s 2 → (fb o2).1 309 r = W r - (gM (-1) [] (s, g, ν.1 307, ν.1 308)).1 (58 + 10 * r + 7) := by
    intro r hr
    have q1 := a1 r hr
    rw [if_neg (by decide), hf.2.2] at q1
    have q2 := b1 r (show r < ct (o1.1 296) 2 by rw [e2]; exact hr)
    rw [if_pos rfl, z309, q1, hW _ ⟨a2', a3⟩ r hr] at q2
    rw [(F2.1 309 (by decide)).1, q2]
    show W r - o1.1 296 (58 + 10 * r + 7) - ((gM (-1) [] (s, g, ν.1 307, ν.1 308)).1 (58 + 10 * r + 7) - s (58 + 10 * r + 7)) = _
    rw [a2' _ (by omega), i32_ss]
  have E : E5 s (o2.1 296) := fun j hj => (b2 j hj).trans (a2' j hj)
  refine op_eb (m_parted (u := u) (k := k) (n := ct s 2) h210 (by omega) (by rw [(F2.1 296 (by decide)).1, E 2 (by decide)]; exact h2b.1) (b := b) (fun r hr => by rw [key r hr]; exact hb r hr)) (op_r ⟨rfl, ?_, ?_, ?_, ?_⟩)
  · intro j hj
    show (fb o2).1 296 j = s j
    rw [(F2.1 296 (by decide)).1]
    exact E j hj
  · intro k hk
    show (fb o2).2.1 300 k = g k
    rw [(F2.1 300 (by decide)).2]
    exact (b3 k hk).trans (a3 k hk)
  · exact hback o2 f295
  · refine (((a4.mo (fun a e => ?_)).tr (F1.mo (fun a e => Or.inr (Or.inl e)))).tr (b4.mo (fun a e => ?_))).tr (F2.mo (fun a e => Or.inr (Or.inl e)))
    · exact e.elim Or.inl (fun z => Or.inr (Or.inr z))
    · exact e.elim Or.inl (fun z => Or.inr (Or.inr z))
theorem bo_kp {μ1 : Mm} (h : Bo T μ s g) (hF : Fs kpS μ μ1) : Bo T μ1 s g ∧ (μ1.1 295 = μ.1 295 ∧ (μ1.1 307 = μ.1 307 ∧ μ1.1 308 = μ.1 308)) := by
  have n : ∀ a, (a < 23 ∨ (45 ≤ a ∧ a ≠ 69)) → ¬ kpS a := fun a ha z => by unfold kpS Blk at z; omega
  exact ⟨⟨SV.fs h.1 hF (fun a h1 h2 => n a (by omega)), (hF.1 296 (n _ (by decide))).1.trans h.2.1, (hF.1 300 (n _ (by decide))).2.trans h.2.2.1, h.2.2.2⟩, (hF.1 295 (n _ (by decide))).1, (hF.1 307 (n _ (by decide))).1, (hF.1 308 (n _ (by decide))).1⟩
theorem gM_nI {κ : Nat → Int32} {X : List (Nat → Int32)} {p : Int32} {st : Sg} (ho : Ok T st.1) (hT : T ≤ 19900) (hX : Xtr κ st.1 X) {r : Nat} (hr : r < 10) {W : Int32} (hW : (gM p X st).1 (58 + 10 * r + 7) = W) : ∃ a, W = nI a ∧ a < 2 ^ 30 := by
  obtain ⟨a, a1, a2⟩ := gM_got (p := p) ho hT hX hr
  exact ⟨a, hW.symm.trans a1, a2⟩
theorem f_blocked (h : Bo T μ s g) (hk : KB μ 23) (hf : Fl μ) (hT : T ≤ 19900) (p : Int32) : FI M1 (F_X3_blocked p μ) (F_X4_blocked p) μ := by
  have h210 := h.2.2.2.1.1.1.2.2.1.2
  have ho := h.2.2.2.1
  rcases isI_c h p with ⟨k, h1, rfl, h3, h4⟩ | ⟨h3, h4⟩
  · obtain ⟨m2, a1, a2, a2z, a3, a4⟩ := x3_usual h hk hT
    obtain ⟨hb2, c295, c307, c308⟩ := bo_kp h a4
    obtain ⟨m3, b1, b2, b3⟩ := x1_copy hb2.1 kd23 kd1 (by decide) a3
    have hsv : ∀ st2, C5 s g st2 → SV m3 23 (LSo st2.1 ++ []) (OSo st2.1) (if s 57 = 0 then 0 else ct s 0) (fun q k => s (394 + 5 * q + k)) (fun r => s (58 + 10 * r + 9)) st2.1 st2.2.1 := fun st2 hc => by
      rw [List.append_nil, hc.1.ls ho.1.2.2.2.2.1.2, hc.1.os ho.1.2.2.2.2.2.1.2]
      exact SV.e5 b2 kd23 hc.1 hc.2
    obtain ⟨o, d1, d2⟩ := op_all (x := F_X1_runMonth 23 (nI k) m3) (C := C5 s g) (s, g, μ.1 307, μ.1 308) ⟨fun _ _ => rfl, fun _ _ => rfl⟩ (fun st2 hc => x1_got (κ := fun _ => -1) (X := []) (p := nI k) (st := st2) (hsv st2 hc) (ho.e5 hc.1) hT (noX rfl (by rw [ct_eq (hc.1 2 (by decide))]; exact h210)))
    have d0 := d2 (s, g, μ.1 307, μ.1 308) ⟨fun _ _ => rfl, fun _ _ => rfl⟩
    have F3 : Fs kpS μ o.2 := (a4.tr (b3.mo (fun a e => Or.inl e))).tr (d0.2.2.2.mo (fun a e => Or.inl e))
    obtain ⟨hb3, e295, e307, e308⟩ := bo_kp h F3
    have hWall : ∀ st2, C5 s g st2 → ∀ r, r < ct s 2 → (gM (nI k) [] st2).1 (58 + 10 * r + 7) = (gM (nI k) [] (s, g, μ.1 307, μ.1 308)).1 (58 + 10 * r + 7) := fun st2 hc r hr => by
      have q := (d2 st2 hc).1 r (by rw [ct_eq (hc.1 2 (by decide))]; exact hr)
      rw [d0.1 r hr] at q
      exact (Option.some.inj q).symm
    have hU : ∀ r, r < ct s 2 → o.2.1 69 r = (gM (-1) [] (s, g, μ.1 307, μ.1 308)).1 (58 + 10 * r + 7) := fun r hr => by
      rw [(d0.2.2.2.1 69 (by unfold Blk; decide)).1, (b3.1 69 (by unfold Blk; decide)).1]
      exact a2 r hr
    have hU0 : ∀ r, ct s 2 ≤ r → r < 10 → o.2.1 69 r = 0 := fun r h1 h2 => by
      rw [(d0.2.2.2.1 69 (by unfold Blk; decide)).1, (b3.1 69 (by unfold Blk; decide)).1]
      exact a2z r h1 h2
    have hs : ∀ r, r < ct s 2 → ((gM (nI k) [] (s, g, μ.1 307, μ.1 308)).1 (58 + 10 * r + 7) - (gM (-1) [] (s, g, μ.1 307, μ.1 308)).1 (58 + 10 * r + 7) ≤ 0 ↔ (gM (nI k) [] (s, g, μ.1 307, μ.1 308)).1 (58 + 10 * r + 7) ≤ (gM (-1) [] (s, g, μ.1 307, μ.1 308)).1 (58 + 10 * r + 7)) := fun r hr => by
      obtain ⟨a, z1, z2⟩ := gM_nI (κ := fun _ => -1) (p := nI k) (X := []) (st := (s, g, μ.1 307, μ.1 308)) ho hT (noX rfl h210) (show r < 10 by omega) rfl
      obtain ⟨c, z3, z4⟩ := gM_nI (κ := fun _ => -1) (p := -1) (X := []) (st := (s, g, μ.1 307, μ.1 308)) ho hT (noX rfl h210) (show r < 10 by omega) rfl
      rw [z1, z3]
      exact sgn0 z2 z4
    have hcl := x3_blockedL (μ := o.2) (k := k) (n := ct s 2) h210 (by omega) (U := fun r => (gM (-1) [] (s, g, μ.1 307, μ.1 308)).1 (58 + 10 * r + 7)) (W := fun r => (gM (nI k) [] (s, g, μ.1 307, μ.1 308)).1 (58 + 10 * r + 7)) (b := fun r => decide (r ≠ k ∧ ¬ (gM (nI k) [] (s, g, μ.1 307, μ.1 308)).1 (58 + 10 * r + 7) ≤ (gM (-1) [] (s, g, μ.1 307, μ.1 308)).1 (58 + 10 * r + 7))) d0.1 d0.2.1 hU hU0 hs (fun r hr => rfl)
    have ν296 : (uI o.2 295 0 0).1 296 = s := th296.trans hb3.2.1
    have fj : ∀ j, j ≠ 0 → (uI o.2 295 0 0).1 295 j = μ.1 295 j := fun j hj => by
      rw [uI_eq]
      exact (if_neg hj).trans (congrFun e295 j)
    have n307 : (uI o.2 295 0 0).1 307 = μ.1 307 := (uI_ne (by decide)).trans e307
    have n308 : (uI o.2 295 0 0).1 308 = μ.1 308 := (uI_ne (by decide)).trans e308
    obtain ⟨q, q1, q2, q3, q4, q5, q6⟩ := m_twice (ν := uI o.2 295 0 0) (κ := upd ((uI o.2 295 0 0).1 295) 26 (nI k)) (X := []) (u := 1) (p1 := nI k) (k := k) (f := fun m => uI m 295 26 (nI k)) (fb := fun m => uI m 295 26 (-1)) (W := fun r => (gM (nI k) [] (s, g, μ.1 307, μ.1 308)).1 (58 + 10 * r + 7)) (b := fun r => decide (r ≠ k ∧ ¬ (gM (nI k) [] (s, g, μ.1 307, μ.1 308)).1 (58 + 10 * r + 7) ≤ (gM (-1) [] (s, g, μ.1 307, μ.1 308)).1 (58 + 10 * r + 7)))
      ν296 hb3.2.2.1 ho hT ⟨(fj 22 (by decide)).trans hf.1, (fj 24 (by decide)).trans hf.2.1, (fj 26 (by decide)).trans hf.2.2⟩ rfl h1 (fun m => Fs.uI rfl) (fun m => Fs.uI rfl) (fun m hm => by rw [uI_eq, hm]; rfl) ((pk_un (by decide)).trans ((fj 22 (by decide)).trans hf.1)) (noX ((pk_un (by decide)).trans ((fj 24 (by decide)).trans hf.2.1)) h210) (fun m hm j j1 j2 => by
        rw [uI_eq, hm]
        by_cases e : j = 26
        · refine (if_pos e).trans ?_
          rw [e, fj 26 (by decide), hf.2.2]
        · exact (if_neg e).trans (pk_un e)) (fun st2 hc r hr => by rw [pk_us]; exact hWall st2 hc r hr) (fun r hr => by
        rw [n307, n308]
        obtain ⟨a, z1, z2⟩ := gM_nI (κ := fun _ => -1) (p := nI k) (X := []) (st := (s, g, μ.1 307, μ.1 308)) ho hT (noX rfl h210) (show r < 10 by omega) rfl
        obtain ⟨c, z3, z4⟩ := gM_nI (κ := fun _ => -1) (p := -1) (X := []) (st := (s, g, μ.1 307, μ.1 308)) ho hT (noX rfl h210) (show r < 10 by omega) rfl
        rw [z1, z3]
        have := sgnP z2 z4
        simp only [this])
    refine ⟨0, 0, bset (fun r => decide (r ≠ k ∧ ¬ (gM (nI k) [] (s, g, μ.1 307, μ.1 308)).1 (58 + 10 * r + 7) ≤ (gM (-1) [] (s, g, μ.1 307, μ.1 308)).1 (58 + 10 * r + 7))) (ct s 2) 0 0, _, o.2, q.2, ?_, ?_, by decide, ?_, fun _ => rfl, ?_⟩
    · refine be_ h3 ((if_pos rfl).trans ?_)
      rw [bind_tail (x := F_X3_tryMonths 1 μ) (f := fun o7 => F_X3_keepUsualGot o7)]
      exact be_ a1 (be_ b1 (be_ d1 (be_ hcl rfl)))
    · refine be_ (isI_y hb3 h1) ?_
      rw [if_neg (show ¬ (1 : Int32) = 0 by decide)]
      refine (m_tail (o := some 0) (t := 0) (z := 0) rfl (by decide)).trans ((if_pos rfl).trans ?_)
      simp only [Option.bind_some]
      exact q1.trans (congrArg some (Prod.ext q2 rfl))
    · rw [q5 0 (by decide) (by decide), uI_eq]
      rfl
    · exact KQ.of h.2.1 h.2.2.1 F3 d0.2.2.1 q3 q4 (fun j a b c => by rw [q5 j b c, uI_eq]; exact if_neg a) ((Fs.uI (Or.inr (Or.inl rfl))).tr q6)
  · refine ⟨1, 1, 0, 0, μ, uI μ 295 0 (nI 1), be_ h3 rfl, ?_, by decide, by rw [uI_eq]; rfl, fun e => absurd e (by decide), KQ.th hk⟩
    refine be_ h4 ?_
    exact m_tail (f := _) (o := some 1) (t := 1) (z := 0) rfl (by decide)
end BLK2
