/-! ===== the reference: a month, in one ===== -/
theorem bind_tail {α β γ : Type} {x : Option α} {f : α → Option β} {h : β → Option γ} : (x.bind fun a => (f a).bind h) = (x.bind f).bind h := by
  cases x <;> rfl
theorem shS_n {s : Nat → Int32} {v j : Nat} (h : j ≤ v) : shS s v j = s j := by unfold shS; rw [if_neg (by omega)]
theorem m_rems {μ : Mm} {a : Int32} (h0 : Bn (μ.1 296) 0 6) (h56 : Bn (μ.1 296) 56 19) (hR : CRt (μ.1 296)) (h424 : Bn (μ.1 296) 424 24) : Op (F_X4_remembers a μ) (fun μ' => μ'.1 296 = reS (μ.1 296) a (if ct (μ.1 296) 0 = 0 then 0 else μ.1 296 (394 + 5 * (ct (μ.1 296) 0 - 1) + 2)) (calN (μ.1 296) (ct (μ.1 296) 56)) ∧ Fs F296 μ μ') := by
  have h06 := h0.2
  have h24 := h424.2
  unfold F_X4_remembers
  refine op_mb (m_rem4 (s := μ.1 296) (u := a) 92 qFuel μ (by decide) (by unfold qFuel; omega) ?_) (fun m1 w1 => ?_)
  · funext j
    unfold shS
    rw [if_neg (by omega)]
  have lo1 : ∀ j, j ≤ 428 → m1.1 296 j = μ.1 296 j := fun j hj => by rw [w1.1]; exact shS_n hj
  refine op_eb (mg (k := 5) rfl (by decide)) ?_
  rw [lo1 5 (by decide)]
  refine op_mb (ms (k := 425) rfl (by decide)) (fun m2 w2 => ?_)
  refine op_mb (ms (k := 426) rfl (by decide)) (fun m3 w3 => ?_)
  have lo3 : ∀ j, j ≤ 424 → m3.1 296 j = μ.1 296 j := fun j hj => by rw [w3.1, pk_un (by omega), w2.1, pk_un (by omega)]; exact lo1 j (by omega)
  have e30 : ct (m3.1 296) 0 = ct (μ.1 296) 0 := ct_eq (lo3 0 (by decide))
  refine op_eb (m_outN (h0.eq (lo3 0 (by decide)))) ?_
  rw [e30, lo3 (394 + 5 * (ct (μ.1 296) 0 - 1) + 2) (by omega)]
  refine op_mb (ms (k := 427) rfl (by decide)) (fun m4 w4 => ?_)
  have lo4 : ∀ j, j ≤ 424 → m4.1 296 j = μ.1 296 j := fun j hj => by rw [w4.1, pk_un (by omega)]; exact lo3 j hj
  have e4 : ct (m4.1 296) 56 = ct (μ.1 296) 56 := ct_eq (lo4 56 (by decide))
  have h19 := h56.2
  have hR4 : CRt (m4.1 296) := by
    intro c hc
    rw [e4] at hc
    have e := lo4 (242 + 8 * c + 1) (by omega)
    rw [ct_eq e, e]
    exact hR c hc
  refine op_eb (m_called (h56.eq (lo4 56 (by decide))) hR4) ?_
  rw [e4, calN_eq (s := μ.1 296) (s' := m4.1 296) (fun r hr => lo4 _ (by omega)) (fun c hc => ⟨fun k hk => lo4 _ (by omega), (hR c hc).2⟩)]
  refine op_mb (ms (k := 428) rfl (by decide)) (fun m5 w5 => ?_)
  have lo5 : m5.1 296 424 = nI (ct (μ.1 296) 424) := by
    rw [w5.1, pk_un (by decide), lo4 424 (by decide)]
    exact h424.1
  refine op_eb (mg (k := 424) rfl (by decide)) ?_
  rw [lo5, nI_1]
  refine op_eb (show F_X4_lesser (nI 24) (nI (ct (μ.1 296) 424 + 1)) m5 = _ from m_les (by omega) (by omega)) ?_
  refine op_mb (ms (k := 424) rfl (by decide)) (fun m6 w6 => op_r ⟨?_, ((((w1.2.tr w2.2).tr w3.2).tr w4.2).tr w5.2).tr w6.2⟩)
  rw [w6.1, w5.1, w4.1, w3.1, w2.1, w1.1]
  unfold reS
  have e24 : (if ct (μ.1 296) 424 + 1 < 24 then ct (μ.1 296) 424 + 1 else 24) = if ct (μ.1 296) 424 < 24 then ct (μ.1 296) 424 + 1 else 24 := by
    by_cases e : ct (μ.1 296) 424 < 24
    · rw [if_pos e]
      split <;> omega
    · rw [if_neg e, if_neg (by omega)]
  rw [e24]
def fiS (M : Sg) (D : List (Nat → Int32)) : Nat → Int32 := reS (enS M D) (sumM M) (outM (ct M.1 0) M) (calN M.1 (ct M.1 56))
theorem enS_n {M : Sg} {D : List (Nat → Int32)} {j : Nat} (hD : D.length ≤ 8) (hn : ct M.1 2 ≤ 10) (h0 : ct M.1 0 ≤ 6) (h1 : ct M.1 1 ≤ 5) (a : j ≠ 3) (b : ¬ (158 ≤ j ∧ j < 206)) (c : ¬ (58 ≤ j ∧ j < 158 ∧ (j - 58) % 10 = 9)) (d : j ≠ 5 ∧ j ≠ 57) (e : ¬ (20 ≤ j ∧ j < 31) ∧ j ≠ 54) (f : ¬ (394 ≤ j ∧ j < 424 ∧ (j - 394) % 5 = 2)) : enS M D j = M.1 j := by
  unfold enS
  rw [pk_un d.2, pk_un d.1]
  unfold flS
  rw [if_neg (by omega), if_neg (by omega)]
  unfold bkS
  rw [if_neg (by omega), if_neg e.2]
  exact en3_n hD hn a b c
theorem sumF_congr {f g : Nat → Int32} : ∀ n, (∀ i, i < n → f i = g i) → sumF f n = sumF g n := by
  intro n
  induction n with
  | zero => intro _; rfl
  | succ n ih => intro h; rw [sumF, sumF, ih (fun i hi => h i (by omega)), h n (by omega)]
theorem m_month {s κ : Nat → Int32} {g : Nat → Int64} {X : List (Nat → Int32)} {μ : Mm} (hs : μ.1 296 = s) (hg : μ.2.1 300 = g) (hκ : μ.1 295 = κ) (h : Mon s) (hX : Xtr κ s X) (ht : Try κ s) :
    Op (F_X4_month μ) (fun o => o.1 = sumM (mstM κ X s g (μ.1 307) (μ.1 308)) ∧ (o.2.1 296 = fiS (mstM κ X s g (μ.1 307) (μ.1 308)) (decL (LSo s)) ∧ (o.2.2.1 300 = (mstM κ X s g (μ.1 307) (μ.1 308)).2.1 ∧ ((o.2.1 307 = (mstM κ X s g (μ.1 307) (μ.1 308)).2.2.1 ∧ o.2.1 308 = (mstM κ X s g (μ.1 307) (μ.1 308)).2.2.2) ∧ Fs Fm μ o.2)))) := by
  obtain ⟨hb, h0⟩ := h.bg (g := g) (fl := μ.1 307) (cut := μ.1 308)
  obtain ⟨i1, i2, i3, i4⟩ := mstM_facts (fl := μ.1 307) (cut := μ.1 308) (g := g) h hX ht
  obtain ⟨hmok, h3, h4, h424, hgt⟩ := id h
  obtain ⟨h1, h2, h3', h4', h5, h6, h7, h8⟩ := id hmok
  have e2 : ct (bgn (OSo s) s g (μ.1 307) (μ.1 308)).1 2 = ct s 2 := ct_eq (h0 2 Sta2)
  unfold F_X4_month
  have lay := m_lay (μ := μ) (by rw [hs]; exact h1.1) (by rw [hs]; exact h1.vt)
  rw [hs] at lay
  have cont : ∀ (m4 : Mm), m4.1 296 = layS s → m4.1 307 = layF s (μ.1 307) → Fs (fun a => a = 296 ∨ a = 307) μ m4 → Op ((F_X4_month_14 qFuel (0 : Int32) m4).bind fun o30 =>
      (F_X4_month_72 qFuel (0 : Int32) o30).bind fun o43 =>
      (F_X4_month_99 qFuel (0 : Int32) o43).bind fun o65 =>
      (F_X4_endsMonth  o65).bind fun o68 =>
      (F_X4_month_151 o68 qFuel (0 : Int32) (0 : Int32)).bind fun o78 =>
      (F_X4_remembers o78 o68).bind fun o81 =>
      some (o78, o81)) (fun o => o.1 = sumM (mstM κ X s g (μ.1 307) (μ.1 308)) ∧ (o.2.1 296 = fiS (mstM κ X s g (μ.1 307) (μ.1 308)) (decL (LSo s)) ∧ (o.2.2.1 300 = (mstM κ X s g (μ.1 307) (μ.1 308)).2.1 ∧ ((o.2.1 307 = (mstM κ X s g (μ.1 307) (μ.1 308)).2.2.1 ∧ o.2.1 308 = (mstM κ X s g (μ.1 307) (μ.1 308)).2.2.2) ∧ Fs Fm μ o.2)))) := by
    intro m4 q1 q2 q3
    have h06 := h1.1.2
    have s4 : ∀ j, Sta j → m4.1 296 j = s j := fun j hj => by rw [q1]; exact layS_sta h06 j hj
    have h46 := h4.2
    refine op_mb (m_14 (s := s) h4 h1 h5 (ct s 4) qFuel 0 g m4 (by omega) (by unfold qFuel; omega) (fun row hr => h5 row hr) (s4 5 Sta5) s4 ((q3.1 300 (by decide)).2.trans hg)) (fun m5 w5 => ?_)
    have f5 : Fs Fm μ m5 := (q3.mo (fun a e => e.elim Or.inl (fun z => Or.inr (Or.inr (Or.inl z))))).tr (w5.2.mo (fun a e => Or.inr (Or.inl e)))
    have mv5 : MV m5 (clG (mC κ (LSo s ++ X) (OSo s)) 0 (bgn (OSo s) s g (μ.1 307) (μ.1 308))) := by
      refine ⟨((w5.2.1 296 (by decide)).1.trans q1), ?_, ((w5.2.1 307 (by decide)).1.trans q2), ?_⟩
      · exact w5.1
      · exact (w5.2.1 308 (by decide)).1.trans (q3.1 308 (by decide)).1
    have h2n := h1.2.2.1.2
    refine op_mb (m_72 (κ := κ) (s := s) (X := X) hb h0 h3 h4 h3' h5 hX ht (ct s 2) qFuel 0 m5 (by omega) (by unfold qFuel; omega) ((f5.1 295 (by unfold Fm; decide)).1.trans hκ) mv5) (fun m6 w6 => ?_)
    rw [e2] at w6
    have w61 : MV m6 (mstM κ X s g (μ.1 307) (μ.1 308)) := w6.1
    generalize hM : mstM κ X s g (μ.1 307) (μ.1 308) = M at *
    have f6 := f5.tr w6.2
    have n2 : ct M.1 2 = ct s 2 := ct_eq (i2 2 Sta2)
    have n0 : ct M.1 0 = ct s 0 := ct_eq (i2 0 Sta0)
    have n1 : ct M.1 1 = ct s 1 := ct_eq (i2 1 Sta1)
    have hn1 := h1.2.1.2
    refine op_mb (m_99 (s := M.1) (cut := M.2.2.2) (h1.2.2.1.eq (i2 2 Sta2)) (ct M.1 2) qFuel 0 m6 (by omega) (by unfold qFuel; omega) ?_ w61.2.2.2) (fun m7 w7 => ?_)
    · rw [w61.1]
      funext j
      unfold cutS
      rw [if_neg (by omega)]
    have f7 := f6.tr (w7.2.mo (fun a e => Or.inl e))
    have hcl := i1.2.2.2
    refine op_mb (m_ends (M := M) (s := s) w7.1 ((w7.2.1 307 (by decide)).1.trans w61.2.2.1) (by omega) i2 h3 h1.1 h1.2.1 h7.1 (fun a ha => ?_)) (fun m8 w8 => ?_)
    · obtain ⟨z1, z2⟩ := i4.1 a (by omega)
      obtain ⟨y1, y2, y3⟩ := h7.2 a (by omega)
      have h50 := h7.1.2
      have hm1 : ct M.1 (26 + a) * ct s 6 ≤ (ct s (26 + a) + 18981) * ct s 6 := Nat.mul_le_mul_right _ (by omega)
      rw [Nat.add_mul] at hm1
      have hm2 : 18981 * ct s 6 ≤ 18981 * 50 := Nat.mul_le_mul_left _ h50
      exact ⟨z1, by omega⟩
    have f8 := f7.tr (w8.2.mo (fun a e => Or.inl e))
    have hD : (decL (LSo s)).length ≤ 8 := by
      have := decL_len (LSo s)
      rw [show (LSo s).length = ct s 3 from rwT_len _ _] at this
      have := h3.2
      omega
    have en : ∀ {j : Nat}, (j ≠ 3 ∧ (¬ (158 ≤ j ∧ j < 206) ∧ (¬ (58 ≤ j ∧ j < 158 ∧ (j - 58) % 10 = 9) ∧ ((j ≠ 5 ∧ j ≠ 57) ∧ ((¬ (20 ≤ j ∧ j < 31) ∧ j ≠ 54) ∧ ¬ (394 ≤ j ∧ j < 424 ∧ (j - 394) % 5 = 2)))))) → m8.1 296 j = M.1 j := fun {j} hj => by
      rw [w8.1]
      exact enS_n hD (by omega) (by omega) (by omega) hj.1 hj.2.1 hj.2.2.1 hj.2.2.2.1 hj.2.2.2.2.1 hj.2.2.2.2.2
    have e56 : m8.1 296 56 = M.1 56 := en (by omega)
    have e0 : m8.1 296 0 = M.1 0 := en (by omega)
    have b56 : Bn (m8.1 296) 56 19 := Bn.eq (s := M.1) ⟨i1.2.2.1, by omega⟩ e56
    have c56 : ct (m8.1 296) 56 = ct M.1 56 := ct_eq e56
    have c0 : ct (m8.1 296) 0 = ct M.1 0 := ct_eq e0
    refine op_eb ((show F_X4_month_151 m8 qFuel 0 0 = _ from m_151 b56 (ct (m8.1 296) 56) qFuel 0 (by omega) (by have := b56.2; unfold qFuel; omega)).trans (congrArg some (show _ = sumM M from ?_))) ?_
    · unfold sumM
      rw [c56]
      exact sumF_congr _ (fun c hc => en (by omega))
    have hR8 : CRt (m8.1 296) := by
      intro c hc
      rw [c56] at hc
      have e := en (j := 242 + 8 * c + 1) (by omega)
      rw [ct_eq e, e]
      exact i3 c hc
    refine op_mb (m_rems (μ := m8) (a := sumM M) ((h1.1.eq (i2 0 Sta0)).eq e0) b56 hR8 ((h424.eq (i2 424 (by unfold Sta; omega))).eq (en (by omega)))) (fun m9 w9 => op_r ⟨rfl, ?_, ?_, ⟨((w9.2.1 307 (by decide)).1.trans ((w8.2.1 307 (by decide)).1.trans ((w7.2.1 307 (by decide)).1.trans w61.2.2.1))), ((w9.2.1 308 (by decide)).1.trans ((w8.2.1 308 (by decide)).1.trans ((w7.2.1 308 (by decide)).1.trans w61.2.2.2)))⟩, f8.tr (w9.2.mo (fun a e => Or.inl e))⟩)
    · show m9.1 296 = fiS M (decL (LSo s))
      rw [w9.1, c56, c0]
      unfold fiS
      have ecal : calN (m8.1 296) (ct M.1 56) = calN M.1 (ct M.1 56) := calN_eq (fun r hr => en (by omega)) (fun c hc => ⟨fun k hk => en (by omega), (i3 c hc).2⟩)
      rw [ecal]
      have eout : (if ct M.1 0 = 0 then 0 else m8.1 296 (394 + 5 * (ct M.1 0 - 1) + 2)) = outM (ct M.1 0) M := by
        unfold outM
        by_cases e : ct M.1 0 = 0
        · rw [if_pos e, if_pos e]
        · rw [if_neg e, if_neg e, w8.1]
          unfold enS
          rw [pk_un (by omega), pk_un (by omega)]
          unfold flS
          rw [if_neg (by omega), if_pos (by omega), show (394 + 5 * (ct M.1 0 - 1) + 2 - 394) / 5 = ct M.1 0 - 1 by omega]
      rw [eout, w8.1]
    · exact ((w9.2.1 300 (by decide)).2.trans ((w8.2.1 300 (by decide)).2.trans ((w7.2.1 300 (by decide)).2.trans w61.2.1)))
  obtain ⟨m4, e4, q1, q2, q3⟩ := lay
  rw [bind_tail, e4]
  exact cont m4 q1 q2 q3
