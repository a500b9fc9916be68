/-! ===== in thought ===== -/
def QS (a : Nat) : Prop := Blk 23 a ∨ (a = 69 ∨ (a = 295 ∨ (a = 296 ∨ (a = 298 ∨ (a = 300 ∨ (a = 301 ∨ (a = 307 ∨ (a = 308 ∨ a = 309))))))))
/-- what a question keeps -/
def KQ (μ μ' : Mm) : Prop := Fs QS μ μ' ∧ (E5 (μ.1 296) (μ'.1 296) ∧ ((∀ k, k < 15 → μ'.2.1 300 k = μ.2.1 300 k) ∧ ((∀ j, j ≠ 0 → (j ≠ 23 → (j ≠ 25 → μ'.1 295 j = μ.1 295 j))) ∧ KB μ' 23)))
def FI {α : Type} (M : List (Nat × Nat)) (a : Option (Nat × α × Mm)) (b : Mm → Option (α × Mm)) (μ : Mm) : Prop := ∃ e t v w μ1 μ2, a = some (e, v, μ1) ∧ (b μ1 = some (w, μ2) ∧ ((e, t) ∈ M ∧ (μ2.1 295 0 = nI t ∧ ((e = 0 → v = w) ∧ KQ μ μ2))))
theorem KQ.th {μ : Mm} {x : Int32} (h : KB μ 23) : KQ μ (uI μ 295 0 x) := ⟨Fs.uI (by unfold QS; omega), fun j _ => by rw [th296], fun k _ => rfl, fun j h0 _ _ => by rw [uI_eq]; exact if_neg h0, h.fs (Fs.uI (S := fun a => a = 295) rfl) (fun a h1 h2 => by omega)⟩
def Fl (μ : Mm) : Prop := μ.1 295 22 = -1 ∧ (μ.1 295 24 = -1 ∧ μ.1 295 26 = -1)
theorem kd23 : kd 23 = 1 := by decide +kernel
theorem ev_ks {T : Nat} {st : Sg} {p : Int32} (h : Ok T st.1) (hT : T ≤ 20000) {j : Nat} (hj : KS j) : (ev p st).1 j = st.1 j := by
  have hm := h.mon hT
  have h0 := hm.1.1.1.2
  have h1 := hm.1.1.2.1.2
  have h2 := hm.1.1.2.2.1.2
  obtain ⟨I, hsta⟩ := mst_facts (sil := silP p) (g := st.2.1) (fl := st.2.2.1) (cut := st.2.2.2) hm.1
  have n0 := ct_eq (hsta 0 Sta0)
  have n1 := ct_eq (hsta 1 Sta1)
  have n2 := ct_eq (hsta 2 Sta2)
  have hD : (decL (LSo st.1)).length ≤ 8 := by
    have := decL_len (LSo st.1)
    rw [show (LSo st.1).length = ct st.1 3 from rwT_len _ _] at this
    have := hm.2.1.2
    omega
  unfold KS at hj
  show fiS (mst (LSo st.1) (OSo st.1) (silP p) st.1 st.2.1 st.2.2.1 st.2.2.2) (decL (LSo st.1)) j = st.1 j
  rw [fiS_vis hD (by omega) (by omega) (by omega) (by omega) (by omega) (by omega) (by omega) (by omega) (by omega), finC_lo (by omega) (by omega) (by omega), if_neg (by omega), if_neg (by omega), if_neg (by omega), if_neg (by omega)]
  exact hsta j (by unfold Sta; omega)
theorem evn_ks {j : Nat} (hj : KS j) : ∀ (n T : Nat) (st : Sg), Ok T st.1 → T + n ≤ 20000 → (evn n st).1 j = st.1 j ∧ Ok (T + n) (evn n st).1 := by
  intro n
  induction n with
  | zero => intro T st h _; exact ⟨rfl, h⟩
  | succ n ih =>
    intro T st h hT
    obtain ⟨i1, i2⟩ := ih (T + 1) (ev (-1) st) (h.ev (by omega)) (by omega)
    exact ⟨i1.trans (ev_ks h (by omega) hj), by rw [show T + (n + 1) = T + 1 + n by omega]; exact i2⟩
theorem tb3 {α β γ δ : Type} {x : Option α} {f : α → Option β} {t : α → Option γ} {h : β × γ → δ} : (x.bind fun a => (f a).bind fun b => (t a).bind fun c => some (h (b, c))) = (x.bind fun a => (f a).bind fun b => (t a).bind fun c => some (b, c)).bind fun q => some (h q) := by
  cases x with
  | none => rfl
  | some a =>
    show ((f a).bind fun b => (t a).bind fun c => some (h (b, c))) = ((f a).bind fun b => (t a).bind fun c => some (b, c)).bind fun q => some (h q)
    cases f a with
    | none => rfl
    | some b =>
      show ((t a).bind fun c => some (h (b, c))) = ((t a).bind fun c => some (b, c)).bind fun q => some (h q)
      cases t a <;> rfl
section THOUGHT
variable {μ : Mm} {s : Nat → Int32} {g : Nat → Int64} {T : Nat}
theorem x3_tryMonths (h : Bo T μ s g) (hk : KB μ 23) {n : Nat} (hn : n ≤ 36) (hT : T ≤ 19900) (fl cut : Nat → Int32) : Op (F_X3_tryMonths (nI n) μ) (fun μ' => NV μ' 23 (evn n (s, g, fl, cut)).1 (evn n (s, g, fl, cut)).2.1 ∧ Fs (Blk 23) μ μ') := by
  unfold F_X3_tryMonths
  refine op_mb (x1_copy h.1 kd23 kd1 (by decide) hk) (fun m1 w1 => ?_)
  exact op_b (op_m (x3_try (T := T) (by omega) hn n qFuel 0 m1 (s, g, fl, cut) (by omega) (by unfold qFuel; omega) w1.1 h.2.2.2.1) (fun m2 w2 => op_r ⟨w2.1, w1.2.tr w2.2.2⟩))
theorem blk1 {μ μ' : Mm} (hF : Fs (Blk 23) μ μ') : ∀ a, (a < 23 ∨ 45 ≤ a) → μ'.1 a = μ.1 a ∧ μ'.2.1 a = μ.2.1 a := fun a ha => hF.1 a (by unfold Blk; omega)
theorem Bo.fs {μ' : Mm} (h : Bo T μ s g) (hF : Fs (Blk 23) μ μ') : Bo T μ' s g := ⟨SV.fs h.1 hF (fun a h1 h2 => by unfold Blk; omega), (blk1 hF 296 (by omega)).1.trans h.2.1, (blk1 hF 300 (by omega)).2.trans h.2.2.1, h.2.2.2⟩
/-- the reference's months in thought, put back then -/
theorem m_back {α : Type} {ν : Mm} {n : Nat} {f : Mm → Option α} {v : α} (h1 : ν.1 296 = s) (h2 : ν.2.1 300 = g) (ho : Ok T s) (hT : T ≤ 19900) (hn : n ≤ 36) (hf : Fl ν) (hv : ∀ m, MV m (evn n (s, g, ν.1 307, ν.1 308)) → f m = some v) :
    Op ((F_X4_putsAside ν).bind fun o5 => (F_X4_months (nI n) o5).bind fun o8 => (f o8).bind fun o11 => (F_X4_takesBack o8).bind fun o14 => some (o11, o14)) (fun o => o.1 = v ∧ (E5 s (o.2.1 296) ∧ ((∀ k, k < 15 → o.2.2.1 300 k = g k) ∧ Fs (fun a => Fm a ∨ (a = 298 ∨ a = 301)) ν o.2))) := by
  refine op_mb (m_putsAside ν) (fun m1 w1 => ?_)
  have mv : MV m1 (s, g, ν.1 307, ν.1 308) := ⟨(w1.2.2.1 296 (by decide)).1.trans h1, (w1.2.2.1 300 (by decide)).2.trans h2, (w1.2.2.1 307 (by decide)).1, (w1.2.2.1 308 (by decide)).1⟩
  have e295 : m1.1 295 = ν.1 295 := (w1.2.2.1 295 (by decide)).1
  refine op_mb (show Op (F_X4_months (nI n) m1) (fun μ' => MV μ' (evn n (s, g, ν.1 307, ν.1 308)) ∧ Fs Fm m1 μ') from op_b (op_m (m_months (T := T) (by omega) hn n qFuel 0 m1 _ (by omega) (by unfold qFuel; omega) mv ho (by rw [e295]; exact hf.2.1) (by rw [e295]; exact hf.1) (by rw [e295]; exact hf.2.2)) (fun m z => op_r z))) (fun m2 w2 => ?_)
  refine op_eb (hv m2 w2.1) (op_mb (m_takesBack m2) (fun m3 w3 => op_r ⟨rfl, ?_, ?_, ?_⟩))
  · intro j hj
    show m3.1 296 j = s j
    rw [w3.1, al5_e j hj, (w2.2.1 298 (by unfold Fm; decide)).1, w1.1, al5_e j hj, h1]
  · intro k hk
    show m3.2.1 300 k = g k
    rw [w3.2.1, al15_e hk, (w2.2.1 301 (by unfold Fm; decide)).2, w1.2.1, al15_e hk, h2]
  · exact ((w1.2.2.mo (fun a e => Or.inr e)).tr (w2.2.mo (fun a e => Or.inl e))).tr (w3.2.2.mo (fun a e => Or.inl (by unfold Fm; omega)))
theorem isM_c (p : Int32) {ν : Mm} : (∃ k, 1 ≤ k ∧ (k ≤ 36 ∧ (p = nI k ∧ (F_X3_needRange p 1 36 μ = some 0 ∧ F_X4_isMonths p ν = some 1)))) ∨ (F_X3_needRange p 1 36 μ = some 3 ∧ F_X4_isMonths p ν = some 0) := by
  rcases range_c (μ := μ) (ν := ν) p (lo := 1) (hi := 36) (by decide) (by decide) with ⟨k, h1, h2, h3, h4, h5⟩ | ⟨h4, h5⟩
  · exact Or.inl ⟨k, h1, h2, h3, h4, be_ h5 (be_ zb_1 rfl)⟩
  · exact Or.inr ⟨h4, be_ h5 (be_ zb_0 rfl)⟩
def M13 : List (Nat × Nat) := [(0, 0), (1, 1), (3, 2)]
/-- two checks, then in thought -/
theorem FQ {α : Type} {r1 : Option Nat} {w : Option Nat} {i1 : Mm → Option Int32} {i2 : Mm → Option Int32} {X : Option (Nat × α × Mm)} {F : Mm → Option (α × Mm)} {z z1 z2 : α} (hk : KB μ 23)
    (h : (r1 = some 0 ∧ ((w = some 0 ∧ ∃ v μ1 μ2, X = some (0, v, μ1) ∧ (i1 μ1 = some 1 ∧ (i2 μ1 = some 1 ∧ (F (uI μ1 295 0 0) = some (v, μ2) ∧ (μ2.1 295 0 = 0 ∧ KQ μ μ2))))) ∨ (w = some 3 ∧ (i1 μ = some 1 ∧ i2 μ = some 0)))) ∨ (r1 = some 1 ∧ i1 μ = some 0)) :
    FI M13 (r1.bind fun o2 => if o2 = 0 then (w.bind fun o7 => if o7 = 0 then X else some (o7, z1, μ)) else some (o2, z2, μ)) (fun ν => (i1 ν).bind fun o2 => (if o2 = 0 then some (1 : Int32) else ((i2 ν).bind fun o10 => if o10 = 0 then some (2 : Int32) else some (0 : Int32))).bind fun o14 => (some (uI ν 295 0 o14)).bind fun m => if (m.1 295 0) ≤ 0 then F m else some (z, m)) μ := by
  rcases h with ⟨rfl, ⟨rfl, v, μ1, μ2, e1, e2, e3, e4, e5, e6⟩ | ⟨rfl, e1, e2⟩⟩ | ⟨rfl, e1⟩
  · refine ⟨0, 0, v, v, μ1, μ2, e1, ?_, by decide, e5, fun _ => rfl, e6⟩
    simp only [e2, e3]
    exact (m_tail (o := some 0) (t := 0) (z := z) rfl (by decide)).trans e4
  · refine ⟨3, 2, z1, z, μ, uI μ 295 0 (nI 2), rfl, ?_, by decide, by rw [uI_eq]; rfl, fun e => absurd e (by decide), KQ.th hk⟩
    simp only [e1, e2]
    exact (m_tail (f := F) (o := some 2) (t := 2) rfl (by decide))
  · refine ⟨1, 1, z2, z, μ, uI μ 295 0 (nI 1), rfl, ?_, by decide, by rw [uI_eq]; rfl, fun e => absurd e (by decide), KQ.th hk⟩
    simp only [e1]
    exact (m_tail (f := F) (o := some 1) (t := 1) rfl (by decide))
/-- the class thinks at block 23, the reference puts back -/
theorem KQ.of {μ1 μ2 : Mm} (h1 : μ.1 296 = s) (h2 : μ.2.1 300 = g) (hF : Fs (fun a => Blk 23 a ∨ a = 69) μ μ1) (hk : KB μ1 23) (e1 : E5 s (μ2.1 296)) (e2 : ∀ k, k < 15 → μ2.2.1 300 k = g k) (e3 : ∀ j, j ≠ 0 → (j ≠ 23 → (j ≠ 25 → μ2.1 295 j = μ1.1 295 j))) (hG : Fs (fun a => (Fm a ∨ (a = 298 ∨ a = 301)) ∨ (a = 295 ∨ a = 309)) μ1 μ2) : KQ μ μ2 := by
  refine ⟨(hF.mo (fun a e => by unfold Blk at e; unfold QS Blk; omega)).tr (hG.mo (fun a e => by unfold QS Blk; unfold Fm at e; omega)), by rw [h1]; exact e1, by rw [h2]; exact e2, fun j a b c => ?_, hk.fs hG (fun a h1 h2 => by unfold Fm; omega)⟩
  rw [e3 j a b c, (hF.1 295 (by unfold Blk; omega)).1]
theorem f_grows (h : Bo T μ s g) (hk : KB μ 23) (hf : Fl μ) (hT : T ≤ 19900) {k c n : Nat} (hk2 : k < ct s 2) (hc : c < 10) (hn : n ≤ 36) : ∃ v μ1 μ2, ((F_X3_tryMonths (nI n) μ).bind fun o12 => (F_X2_get 31 (nI k) (nI c) o12).bind fun o15 => (F_X2_get 9 (nI k) (nI c) o12).bind fun o18 => some (0, (o15 - o18), o12)) = some (0, v, μ1) ∧ (Bo T μ1 s g ∧ (((F_X4_grows (nI k) (nI c) (nI n) (uI μ1 295 0 0)).bind fun o20 => some (o20.1, o20.2)) = some (v, μ2) ∧ (μ2.1 295 0 = 0 ∧ KQ μ μ2))) := by
  have h210 := h.2.2.2.1.1.1.2.2.1.2
  obtain ⟨μ1, x1, x2, x3⟩ := x3_tryMonths h hk hn hT (μ.1 307) (μ.1 308)
  have hb1 := h.fs x3
  have hks := (evn_ks (j := 2) (Or.inl (by decide)) n T (s, g, μ.1 307, μ.1 308) h.2.2.2.1 (by omega)).1
  have fl1 : (uI μ1 295 0 0).1 307 = μ.1 307 := (uI_ne (by decide)).trans (blk1 x3 307 (by omega)).1
  have fl2 : (uI μ1 295 0 0).1 308 = μ.1 308 := (uI_ne (by decide)).trans (blk1 x3 308 (by omega)).1
  have e295 : ∀ j, j ≠ 0 → (uI μ1 295 0 0).1 295 j = μ.1 295 j := fun j hj => by
    rw [uI_eq]
    exact (if_neg hj).trans (congrFun (blk1 x3 295 (by omega)).1 j)
  have back := m_back (T := T) (n := n) (ν := uI μ1 295 0 0) (f := fun m => F_X4_rightOf (nI k) (nI c) m) (v := (evn n (s, g, μ.1 307, μ.1 308)).1 (58 + 10 * k + c)) (th296.trans hb1.2.1) hb1.2.2.1 h.2.2.2.1 hT hn ⟨(e295 22 (by decide)).trans hf.1, (e295 24 (by decide)).trans hf.2.1, (e295 26 (by decide)).trans hf.2.2⟩ (fun m hm => by
    rw [fl1, fl2] at hm
    exact (m_rO (by omega) hc).trans (congrArg some (by rw [hm.1])))
  obtain ⟨o, y1, y2, y3, y4, y5⟩ := back
  refine ⟨(evn n (s, g, μ.1 307, μ.1 308)).1 (58 + 10 * k + c) - s (58 + 10 * k + c), μ1, o.2, ?_, hb1, ?_, ?_, ?_⟩
  · have rg : ∀ {b : Nat} {s' : Nat → Int32} {g' : Nat → Int64}, NV μ1 b s' g' → k < ct s' 2 → F_X2_get (b + 8) (nI k) (nI c) μ1 = some (s' (58 + 10 * k + c)) := fun {b s' g'} hN hk' => (x2_get hN.rgt hk' hc).trans (congrArg some (by
      by_cases e : c = 9
      · rw [if_pos e, e]
      · rw [if_neg e]))
    exact be_ x1 (be_ (rg (b := 23) x2 (by rw [ct_eq hks]; exact hk2)) (be_ (rg (b := 1) hb1.1 hk2) rfl))
  · unfold F_X4_grows
    have e : F_X4_rightOf (nI k) (nI c) (uI μ1 295 0 0) = some (s (58 + 10 * k + c)) := (m_rO (by omega) hc).trans (congrArg some (by rw [th296, hb1.2.1]))
    obtain ⟨m1, a1, b1⟩ : ∃ m1, F_X4_putsAside (uI μ1 295 0 0) = some m1 ∧ ((F_X4_months (nI n) m1).bind fun o8 => (F_X4_rightOf (nI k) (nI c) o8).bind fun o11 => (F_X4_takesBack o8).bind fun o14 => some (o11, o14)) = some o := by
      cases hq : F_X4_putsAside (uI μ1 295 0 0) with
      | none => rw [hq] at y1; cases y1
      | some m1 => rw [hq] at y1; exact ⟨m1, rfl, y1⟩
    rw [e, a1]
    show ((((F_X4_months (nI n) m1).bind fun o8 => (F_X4_rightOf (nI k) (nI c) o8).bind fun o11 => (F_X4_takesBack o8).bind fun o14 => some (o11 - s (58 + 10 * k + c), o14))).bind fun o20 => some (o20.1, o20.2)) = _
    have := tb3 (x := F_X4_months (nI n) m1) (f := fun o8 => F_X4_rightOf (nI k) (nI c) o8) (t := fun o8 => F_X4_takesBack o8) (h := fun q => (q.1 - s (58 + 10 * k + c), q.2))
    rw [this, b1]
    show some (o.1 - s (58 + 10 * k + c), o.2) = _
    rw [y2]
  · rw [(y5.1 295 (by unfold Fm; omega)).1, uI_eq]
    rfl
  · exact KQ.of h.2.1 h.2.2.1 (x3.mo (fun a e => Or.inl e)) x2.kb y3 y4 (fun j a b c => by rw [(y5.1 295 (by unfold Fm; omega)).1, uI_eq]; exact if_neg a) ((Fs.uI (Or.inr (Or.inl rfl))).tr (y5.mo (fun a e => Or.inl e)))
end THOUGHT
