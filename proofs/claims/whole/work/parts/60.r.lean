/-! ===== forecasts ===== -/
section FC
variable {μ : Mm} {s : Nat → Int32} {g : Nat → Int64} {T : Nat}
theorem isI_y (h : Bo T μ s g) {k : Nat} (hk : k < ct s 2) : F_X4_isRight (nI k) μ = some 1 := by
  have h2 := h.2.2.2.1.1.1.2.2.1
  have h10 := h2.2
  refine be_ (mg (k := 2) rfl (by decide)) ?_
  rw [h.2.1, h2.1, nI_sub1 (by omega)]
  exact be_ (inR_y (nI_pos (by omega)) (nI_nlt (by omega) (by omega))) rfl
theorem isA_y (h : Bo T μ s g) {k : Nat} (hk : k < ct s 1) : F_X4_isAccount (nI k) μ = some 1 := by
  have h2 := h.2.2.2.1.1.1.2.1
  have h10 := h2.2
  refine be_ (mg (k := 1) rfl (by decide)) ?_
  rw [h.2.1, h2.1, nI_sub1 (by omega)]
  exact be_ (inR_y (nI_pos (by omega)) (nI_nlt (by omega) (by omega))) rfl
theorem isR_y (h : Bo T μ s g) {k : Nat} (hk : k < ct s 0) : F_X4_isReach (nI k) μ = some 1 := by
  have h2 := h.2.2.2.1.1.1.1
  have h10 := h2.2
  refine be_ (mg (k := 0) rfl (by decide)) ?_
  rw [h.2.1, h2.1, nI_sub1 (by omega)]
  exact be_ (inR_y (nI_pos (by omega)) (nI_nlt (by omega) (by omega))) rfl
theorem isM_y {k : Nat} (h1 : 1 ≤ k) (h2 : k ≤ 36) : F_X4_isMonths (nI k) μ = some 1 := be_ (inR_y (show ¬ nI k < nI 1 from nI_nlt (by omega) (by omega)) (show ¬ nI 36 < nI k from nI_nlt (by omega) (by omega))) rfl
theorem f_expected (h : Bo T μ s g) (hk : KB μ 23) (hf : Fl μ) (hT : T ≤ 19900) (p1 p2 : Int32) : FI M13 (F_X3_expected p1 p2 μ) (F_X4_expected p1 p2) μ := by
  refine FQ hk ?_
  rcases isI_c h p1 with ⟨k, h1, rfl, h3, h4⟩ | ⟨h3, h4⟩
  · refine Or.inl ⟨h3, ?_⟩
    rcases isM_c (μ := μ) (ν := μ) p2 with ⟨n, n1, n2, rfl, n4, n5⟩ | ⟨n4, n5⟩
    · obtain ⟨v, μ1, μ2, e1, e2, e3, e4, e5⟩ := f_grows h hk hf hT h1 (c := 7) (by decide) n2
      exact Or.inl ⟨n4, v, μ1, μ2, e1, isI_y e2 h1, isM_y n1 n2, e3, e4, e5⟩
    · exact Or.inr ⟨n4, h4, n5⟩
  · exact Or.inr ⟨h3, h4⟩
theorem f_cutMonths (h : Bo T μ s g) (hk : KB μ 23) (hf : Fl μ) (hT : T ≤ 19900) (p1 p2 : Int32) : FI M13 (F_X3_cutMonths p1 p2 μ) (F_X4_cutMonths p1 p2) μ := by
  refine FQ hk ?_
  rcases isI_c h p1 with ⟨k, h1, rfl, h3, h4⟩ | ⟨h3, h4⟩
  · refine Or.inl ⟨h3, ?_⟩
    rcases isM_c (μ := μ) (ν := μ) p2 with ⟨n, n1, n2, rfl, n4, n5⟩ | ⟨n4, n5⟩
    · obtain ⟨v, μ1, μ2, e1, e2, e3, e4, e5⟩ := f_grows h hk hf hT h1 (c := 9) (by decide) n2
      exact Or.inl ⟨n4, v, μ1, μ2, e1, isI_y e2 h1, isM_y n1 n2, e3, e4, e5⟩
    · exact Or.inr ⟨n4, h4, n5⟩
  · exact Or.inr ⟨h3, h4⟩
theorem f_balanceAfter (h : Bo T μ s g) (hk : KB μ 23) (hf : Fl μ) (hT : T ≤ 19900) (p1 p2 : Int32) : FI M13 (F_X3_balanceAfter p1 p2 μ) (F_X4_balanceAfter p1 p2) μ := by
  refine FQ hk ?_
  rcases isA_c h p1 with ⟨k, h1, rfl, h3, h4⟩ | ⟨h3, h4⟩
  · refine Or.inl ⟨h3, ?_⟩
    rcases isM_c (μ := μ) (ν := μ) p2 with ⟨n, n1, n2, rfl, n4, n5⟩ | ⟨n4, n5⟩
    · have h15 := h.2.2.2.1.1.1.2.1.2
      obtain ⟨μ1, x1, x2, x3⟩ := x3_tryMonths h hk n2 hT (μ.1 307) (μ.1 308)
      have hb1 := h.fs x3
      have fl1 : (uI μ1 295 0 0).1 307 = μ.1 307 := (uI_ne (by decide)).trans (blk1 x3 307 (by omega)).1
      have fl2 : (uI μ1 295 0 0).1 308 = μ.1 308 := (uI_ne (by decide)).trans (blk1 x3 308 (by omega)).1
      have e295 : ∀ j, j ≠ 0 → (uI μ1 295 0 0).1 295 j = μ.1 295 j := fun j hj => by
        rw [uI_eq]
        exact (if_neg hj).trans (congrFun (blk1 x3 295 (by omega)).1 j)
      obtain ⟨o, y1, y2, y3, y4, y5⟩ := m_back (T := T) (n := n) (ν := uI μ1 295 0 0) (f := fun m => aL m 300 (nI k)) (v := (evn n (s, g, μ.1 307, μ.1 308)).2.1 k) (th296.trans hb1.2.1) hb1.2.2.1 h.2.2.2.1 hT n2 ⟨(e295 22 (by decide)).trans hf.1, (e295 24 (by decide)).trans hf.2.1, (e295 26 (by decide)).trans hf.2.2⟩ (fun m hm => by
        rw [fl1, fl2] at hm
        exact (aL_ok (k := k) rfl (by rw [ln300]; omega)).trans (congrArg some (by rw [hm.2.1])))
      refine Or.inl ⟨n4, (evn n (s, g, μ.1 307, μ.1 308)).2.1 k, μ1, o.2, be_ x1 (be_ (x1_bal x2 kd23 (by omega)) rfl), isA_y hb1 h1, isM_y n1 n2, ?_, ?_, ?_⟩
      · refine y1.trans ?_
        rw [← y2]
      · rw [(y5.1 295 (by unfold Fm; omega)).1, uI_eq]
        rfl
      · exact KQ.of h.2.1 h.2.2.1 (x3.mo (fun a e => Or.inl e)) x2.kb y3 y4 (fun j a b c => by rw [(y5.1 295 (by unfold Fm; omega)).1, uI_eq]; exact if_neg a) ((Fs.uI (Or.inr (Or.inl rfl))).tr (y5.mo (fun a e => Or.inl e)))
    · exact Or.inr ⟨n4, h4, n5⟩
  · exact Or.inr ⟨h3, h4⟩
/-- two checks, the codes given -/
theorem FQg {α : Type} {c1 c2 : Nat} {r1 : Option Nat} {w : Option Nat} {i1 : Mm → Option Int32} {i2 : Mm → Option Int32} {X : Option (Nat × α × Mm)} {F : Mm → Option (α × Mm)} {z z1 z2 : α} {P : Mm → Mm → Prop} (hc1 : c1 ≠ 0) (hc2 : c2 ≠ 0) (hk : ∀ t, P μ (uI μ 295 0 t))
    (h : (r1 = some 0 ∧ ((w = some 0 ∧ ∃ v μ1 μ2 y1 y2, X = some (0, v, μ1) ∧ (i1 μ1 = some y1 ∧ (y1 ≠ 0 ∧ (i2 μ1 = some y2 ∧ (y2 ≠ 0 ∧ (F (uI μ1 295 0 0) = some (v, μ2) ∧ (μ2.1 295 0 = 0 ∧ P μ μ2))))))) ∨ (w = some c2 ∧ ∃ y1, i1 μ = some y1 ∧ (y1 ≠ 0 ∧ i2 μ = some 0)))) ∨ (r1 = some c1 ∧ i1 μ = some 0)) :
    ∃ e t v w' μ1 μ2, (r1.bind fun o2 => if o2 = 0 then (w.bind fun o7 => if o7 = 0 then X else some (o7, z1, μ)) else some (o2, z2, μ)) = some (e, v, μ1) ∧ (((i1 μ1).bind fun o2 => (if o2 = 0 then some (1 : Int32) else ((i2 μ1).bind fun o10 => if o10 = 0 then some (2 : Int32) else some (0 : Int32))).bind fun o14 => (some (uI μ1 295 0 o14)).bind fun m => if (m.1 295 0) ≤ 0 then F m else some (z, m)) = some (w', μ2) ∧ ((e, t) ∈ [(0, 0), (c1, 1), (c2, 2)] ∧ (μ2.1 295 0 = nI t ∧ ((e = 0 → v = w') ∧ P μ μ2)))) := by
  rcases h with ⟨rfl, ⟨rfl, v, μ1, μ2, y1, y2, e1, e2, n1, e3, n2, e4, e5, e6⟩ | ⟨rfl, y1, e1, n1, e2⟩⟩ | ⟨rfl, e1⟩
  · refine ⟨0, 0, v, v, μ1, μ2, e1, ?_, List.mem_cons_self, e5, fun _ => rfl, e6⟩
    rw [e2, e3]
    show ((if y1 = 0 then some (1 : Int32) else (if y2 = 0 then some (2 : Int32) else some (0 : Int32))).bind _) = _
    rw [if_neg n1, if_neg n2]
    exact (m_tail (o := some 0) (t := 0) (z := z) rfl (by decide)).trans e4
  · refine ⟨c2, 2, z1, z, μ, uI μ 295 0 (nI 2), if_neg hc2, ?_, List.mem_cons_of_mem _ (List.mem_cons_of_mem _ List.mem_cons_self), by rw [uI_eq]; rfl, fun e => absurd e hc2, hk _⟩
    rw [e1, e2]
    show ((if y1 = 0 then some (1 : Int32) else some (2 : Int32)).bind _) = _
    rw [if_neg n1]
    exact (m_tail (f := F) (o := some 2) (t := 2) rfl (by decide))
  · refine ⟨c1, 1, z2, z, μ, uI μ 295 0 (nI 1), if_neg hc1, ?_, List.mem_cons_of_mem _ List.mem_cons_self, by rw [uI_eq]; rfl, fun e => absurd e hc1, hk _⟩
    rw [e1]
    exact (m_tail (f := F) (o := some 1) (t := 1) rfl (by decide))
def ouN (st : Sg) : Int32 := if ct st.1 0 = 0 then 0 else st.1 (394 + 5 * (ct st.1 0 - 1) + 2)
theorem x1_ouN {b : Nat} {st : Sg} (h : NV μ b st.1 st.2.1) (hb : kd b = 1) (h57 : st.1 57 = 1) : F_X1_outflowOfMonth b μ = some (ouN st) := by
  refine (x1_out h hb).trans (congrArg some ?_)
  have e : (if st.1 57 = 0 then 0 else ct st.1 0) = ct st.1 0 := if_neg (by rw [h57]; decide)
  rw [e]
  rfl
theorem m_ouN {st : Sg} (h : MV μ st) (h0 : Bn st.1 0 6) : F_X4_outflowNow μ = some (ouN st) := by
  refine (m_outN (by rw [h.1]; exact h0)).trans (congrArg some ?_)
  rw [h.1]
  rfl
theorem ev_57 {p : Int32} {st : Sg} : (ev p st).1 57 = 1 := by
  show fiS (mst (LSo st.1) (OSo st.1) (silP p) st.1 st.2.1 st.2.2.1 st.2.2.2) (decL (LSo st.1)) 57 = 1
  exact fiS_57
def drF : Nat → Nat → Nat → Int32 → Sg → Nat
  | 0, _, b, _, _ => b
  | d + 1, v, b, l, st => if l ≤ ouN (ev (-1) st) then drF d (v + 1) b l (ev (-1) st) else drF d (v + 1) v (ouN (ev (-1) st)) (ev (-1) st)
theorem dr_c {n : Nat} (hn : n ≤ 36) (hT : T + n ≤ 20000) : ∀ (d m v b : Nat) (l : Int32) (st : Sg) (μc : Mm), 1 ≤ v → v + d = n + 1 → d < m → NV μc 23 st.1 st.2.1 → Ok (T + (v - 1)) st.1 → Op (F_X3_driestMonth_29 (nI n) m (nI b) l (nI v) μc) (fun o => o.1 = nI (drF d v b l st) ∧ (KB o.2 23 ∧ Fs (Blk 23) μc o.2)) := by
  intro d
  induction d with
  | zero =>
    intro m v b l st μc hv1 hv hm hc ho
    obtain ⟨m, rfl⟩ : ∃ z, m = z + 1 := ⟨m - 1, by omega⟩
    rw [F_X3_driestMonth_29]
    exact op_t (nI_lt (by omega) (by omega)) (op_r ⟨rfl, hc.kb, Fs.rf⟩)
  | succ d ih =>
    intro m v b l st μc hv1 hv hm hc ho
    obtain ⟨m, rfl⟩ : ∃ z, m = z + 1 := ⟨m - 1, by omega⟩
    obtain ⟨oc, c1, c2, c3, c4⟩ := x1_ev (p := -1) hc kd23 ho (by omega)
    have ho' : Ok (T + (v + 1 - 1)) (ev (-1) st).1 := by
      rw [show T + (v + 1 - 1) = T + (v - 1) + 1 by omega]
      exact ho.ev (by omega)
    have oc1 := x1_ouN (st := ev (-1) st) c3 kd23 ev_57
    rw [F_X3_driestMonth_29, drF]
    refine op_f (nI_nlt (by omega) (by omega)) (op_eb c1 (op_eb oc1 ?_))
    by_cases e : l ≤ ouN (ev (-1) st)
    · rw [if_pos e, if_pos e, nI_1]
      refine op_br ?_
      exact op_m (ih m (v + 1) b l (ev (-1) st) oc.2 (by omega) (by omega) (by omega) c3 ho') (fun o z => ⟨z.1, z.2.1, c4.tr z.2.2⟩)
    · rw [if_neg e, if_neg e, nI_1]
      refine op_b (op_eb oc1 (op_r ?_))
      exact op_m (ih m (v + 1) v (ouN (ev (-1) st)) (ev (-1) st) oc.2 (by omega) (by omega) (by omega) c3 ho') (fun o z => ⟨z.1, z.2.1, c4.tr z.2.2⟩)
theorem dr_m {n : Nat} (hn : n ≤ 36) (hT : T + n ≤ 20000) : ∀ (d m v b : Nat) (l : Int32) (st : Sg) (μm : Mm), 1 ≤ v → v + d = n + 1 → d < m → 1 ≤ b → b ≤ 36 → MV μm st → Ok (T + (v - 1)) st.1 → Fl μm → Op (F_X4_driestMonth_50 (nI n) m (nI b) l (nI v) μm) (fun o => o.1 = nI (drF d v b l st) ∧ Fs Fm μm o.2) := by
  intro d
  induction d with
  | zero =>
    intro m v b l st μm hv1 hv hm b1 b2 hmm ho hf
    obtain ⟨m, rfl⟩ : ∃ z, m = z + 1 := ⟨m - 1, by omega⟩
    rw [F_X4_driestMonth_50]
    exact op_t (nI_lt (by omega) (by omega)) (op_r ⟨rfl, Fs.rf⟩)
  | succ d ih =>
    intro m v b l st μm hv1 hv hm b1 b2 hmm ho hf
    obtain ⟨m, rfl⟩ : ∃ z, m = z + 1 := ⟨m - 1, by omega⟩
    obtain ⟨om, k1, k2, k3⟩ := m_months (n := 1) (T := T + (v - 1)) (by omega) (by decide) 1 qFuel 0 μm st (by decide) (by decide) hmm ho hf.2.1 hf.1 hf.2.2
    have k2 : MV om (ev (-1) st) := k2
    have ho' : Ok (T + (v + 1 - 1)) (ev (-1) st).1 := by
      rw [show T + (v + 1 - 1) = T + (v - 1) + 1 by omega]
      exact ho.ev (by omega)
    have e295 : om.1 295 = μm.1 295 := (k3.1 295 (by unfold Fm; decide)).1
    have hf' : Fl om := by
      unfold Fl
      rw [e295]
      exact hf
    have om1 := m_ouN k2 ho'.1.1.1
    rw [F_X4_driestMonth_50, drF]
    refine op_f (nI_nlt (by omega) (by omega)) (op_eb (show F_X4_months 1 μm = some om from be_ k1 rfl) ?_)
    rw [if_neg (nI_ne0 (by omega) (by omega))]
    by_cases e : l ≤ ouN (ev (-1) st)
    · rw [if_pos e]
      refine op_b (op_eb om1 (op_t e (op_r ?_)))
      rw [nI_1]
      exact op_m (ih m (v + 1) b l (ev (-1) st) om (by omega) (by omega) (by omega) b1 b2 k2 ho' hf') (fun o z => ⟨z.1, k3.tr z.2⟩)
    · rw [if_neg e]
      refine op_b (op_eb om1 (op_f e (op_eb om1 (op_r ?_))))
      rw [nI_1]
      exact op_m (ih m (v + 1) v (ouN (ev (-1) st)) (ev (-1) st) om (by omega) (by omega) (by omega) (by omega) (by omega) k2 ho' hf') (fun o z => ⟨z.1, k3.tr z.2⟩)
theorem f_driestMonth (h : Bo T μ s g) (hk : KB μ 23) (hf : Fl μ) (hT : T ≤ 19900) (p : Int32) : ∃ e t v w' μ1 μ2, F_X3_driestMonth p μ = some (e, v, μ1) ∧ (F_X4_driestMonth p μ1 = some (w', μ2) ∧ ((e, t) ∈ [(0, 0), (3, 1), (4, 2)] ∧ (μ2.1 295 0 = nI t ∧ ((e = 0 → v = w') ∧ KQ μ μ2)))) := by
  have h0 := h.2.2.2.1.1.1.1
  have h6 := h0.2
  refine FQg (i1 := fun ν => F_X4_isMonths p ν) (i2 := fun ν => aI ν 296 0) (P := KQ) (by decide) (by decide) (fun t => KQ.th hk) ?_
  have e20 : μ.1 2 2 = nI (ct s 0) := h.1.rch.2.1
  rcases isM_c (μ := μ) (ν := μ) p with ⟨n, n1, n2, rfl, n4, n5⟩ | ⟨n4, n5⟩
  · refine Or.inl ⟨n4, ?_⟩
    by_cases e0 : ct s 0 = 0
    · refine Or.inr ⟨?_, 1, n5, by decide, ?_⟩
      · unfold F_X3_needReaches
        rw [e20, e0]
        rfl
      · refine (mg (k := 0) rfl (by decide)).trans ?_
        rw [h.2.1, h0.1, e0]
        rfl
    · refine Or.inl ⟨?_, ?_⟩
      · unfold F_X3_needReaches
        rw [e20, if_neg (nI_ne0 (by omega) (by omega))]
      · obtain ⟨μ1, x1, x2, x3⟩ := x3_tryMonths h hk (n := 1) (by decide) hT (μ.1 307) (μ.1 308)
        have x2 : NV μ1 23 (ev (-1) (s, g, μ.1 307, μ.1 308)).1 (ev (-1) (s, g, μ.1 307, μ.1 308)).2.1 := x2
        have x1 : F_X3_tryMonths 1 μ = some μ1 := x1
        have ho : Ok T (s, g, μ.1 307, μ.1 308).1 := h.2.2.2.1
        have ho1 : Ok (T + (2 - 1)) (ev (-1) (s, g, μ.1 307, μ.1 308)).1 := ho.ev (p := -1) (by omega)
        obtain ⟨oc, y1, y2, y3, y4⟩ := dr_c (T := T) (n := n) n2 (by omega) (n - 1) qFuel 2 1 (ouN (ev (-1) (s, g, μ.1 307, μ.1 308))) _ μ1 (by decide) (by omega) (by unfold qFuel; omega) x2 ho1
        have xF := x3.tr y4
        have hb1 := h.fs xF
        have fl1 : (uI oc.2 295 0 0).1 307 = μ.1 307 := (uI_ne (by decide)).trans (blk1 xF 307 (by omega)).1
        have fl2 : (uI oc.2 295 0 0).1 308 = μ.1 308 := (uI_ne (by decide)).trans (blk1 xF 308 (by omega)).1
        have e295 : ∀ j, j ≠ 0 → (uI oc.2 295 0 0).1 295 j = μ.1 295 j := fun j hj => by
          rw [uI_eq]
          exact (if_neg hj).trans (congrFun (blk1 xF 295 (by omega)).1 j)
        obtain ⟨m1, p1, p2, p3, p4⟩ := m_putsAside (uI oc.2 295 0 0)
        have q295 : m1.1 295 = (uI oc.2 295 0 0).1 295 := (p4.1 295 (by decide)).1
        have hf1 : Fl m1 := by
          unfold Fl
          rw [q295]
          exact ⟨(e295 22 (by decide)).trans hf.1, (e295 24 (by decide)).trans hf.2.1, (e295 26 (by decide)).trans hf.2.2⟩
        have mv1 : MV m1 (s, g, μ.1 307, μ.1 308) := ⟨(p4.1 296 (by decide)).1.trans (th296.trans hb1.2.1), (p4.1 300 (by decide)).2.trans hb1.2.2.1, (p4.1 307 (by decide)).1.trans fl1, (p4.1 308 (by decide)).1.trans fl2⟩
        obtain ⟨m2, k1, k2, k3⟩ := m_months (n := 1) (T := T) (by omega) (by decide) 1 qFuel 0 m1 _ (by decide) (by decide) mv1 ho hf1.2.1 hf1.1 hf1.2.2
        have k2 : MV m2 (ev (-1) (s, g, μ.1 307, μ.1 308)) := k2
        have r295 : m2.1 295 = m1.1 295 := (k3.1 295 (by unfold Fm; decide)).1
        obtain ⟨om, z1, z2, z3⟩ := dr_m (T := T) (n := n) n2 (by omega) (n - 1) 9999 2 1 (ouN (ev (-1) (s, g, μ.1 307, μ.1 308))) _ m2 (by decide) (by omega) (by omega) (by decide) (by decide) k2 ho1 (by unfold Fl; rw [r295]; exact hf1)
        have kk := k3.tr z3
        obtain ⟨m4, t1, t2, t3, t4⟩ := m_takesBack om.2
        have oc1 := x1_ouN (st := ev (-1) (s, g, μ.1 307, μ.1 308)) x2 kd23 ev_57
        have om1 := m_ouN k2 ho1.1.1.1
        have fr : Fs (fun a => Fm a ∨ (a = 298 ∨ a = 301)) (uI oc.2 295 0 0) m4 := ((p4.mo (fun a e => Or.inr e)).tr (kk.mo (fun a e => Or.inl e))).tr (t4.mo (fun a e => Or.inl (by unfold Fm; omega)))
        refine ⟨nI (drF (n - 1) 2 1 (ouN (ev (-1) (s, g, μ.1 307, μ.1 308))) (ev (-1) (s, g, μ.1 307, μ.1 308))), oc.2, m4, 1, nI (ct s 0), ?_, isM_y n1 n2, by decide, ?_, nI_ne0 (by omega) (by omega), ?_, ?_, ?_⟩
        · refine be_ x1 (be_ oc1 (be_ y1 ?_))
          rw [← y2]
        · refine (mg (k := 0) rfl (by decide)).trans ?_
          rw [hb1.2.1, h0.1]
        · refine be_ p1 (be_ (a := om) ?_ (be_ t1 ?_))
          · show F_X4_driestMonth_50 (nI n) (9999 + 1) 0 0 1 m1 = some om
            rw [F_X4_driestMonth_50, if_neg (show ¬ nI n < (1 : Int32) from nI_nlt (a := n) (b := 1) (by omega) (by omega))]
            refine be_ (show F_X4_months 1 m1 = some m2 from be_ k1 rfl) ?_
            exact be_ ((if_pos rfl).trans (be_ om1 rfl)) z1
          · rw [z2]
        · rw [(fr.1 295 (by unfold Fm; omega)).1, uI_eq]
          rfl
        · refine KQ.of h.2.1 h.2.2.1 (xF.mo (fun a e => Or.inl e)) y3 (fun j hj => ?_) (fun k hk => ?_) (fun j a b c => by rw [(fr.1 295 (by unfold Fm; omega)).1, uI_eq]; exact if_neg a) ((Fs.uI (Or.inr (Or.inl rfl))).tr (fr.mo (fun a e => Or.inl e)))
          · rw [t2, al5_e j hj, (kk.1 298 (by unfold Fm; decide)).1, p2, al5_e j hj, th296, hb1.2.1]
          · rw [t3, al15_e hk, (kk.1 301 (by unfold Fm; decide)).2, p3, al15_e hk, th300, hb1.2.2.1]
  · exact Or.inr ⟨n4, n5⟩
end FC
