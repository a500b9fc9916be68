/-! ===== only 521 numbers count ===== -/
def E5 (s s' : Nat → Int32) : Prop := ∀ j, j < 521 → s' j = s j
theorem E5.ls {s s' : Nat → Int32} (h : E5 s s') (h3 : ct s 3 ≤ 8) : LSo s' = LSo s := by
  show rwT s' 158 0 (ct s' 3) = rwT s 158 0 (ct s 3)
  rw [ct_eq (h 3 (by decide))]
  exact rwT_eq _ _ (fun r k _ hr hk => h _ (by omega))
theorem E5.os {s s' : Nat → Int32} (h : E5 s s') (h4 : ct s 4 ≤ 6) : OSo s' = OSo s := by
  show rwT s' 206 0 (ct s' 4) = rwT s 206 0 (ct s 4)
  rw [ct_eq (h 4 (by decide))]
  exact rwT_eq _ _ (fun r k _ hr hk => h _ (by omega))
theorem Ok.e5 {T : Nat} {s s' : Nat → Int32} (h : Ok T s) (he : E5 s s') : Ok T s' := by
  obtain ⟨h1, h2, h3⟩ := h
  obtain ⟨d1, d2, d3, d4, d5, d6, d7, d8, d9, d10, d11⟩ := h2
  have c3 := h1.2.2.2.2.1
  have h06 := h1.1.1.2
  have hv := h1.1.vt
  have e5 : ct s' 5 = ct s 5 := ct_eq (he 5 (by decide))
  have e0 : ct s' 0 = ct s 0 := ct_eq (he 0 (by decide))
  have e56 : ct s' 56 = ct s 56 := ct_eq (he 56 (by decide))
  have e6 : ct s' 6 = ct s 6 := ct_eq (he 6 (by decide))
  refine ⟨h1.of (fun j hj => he j (by unfold KS at hj; omega)) ⟨by rw [e5, he 5 (by decide)]; exact hv.1, by rw [e5]; exact hv.2.1⟩ (c3.eq (he 3 (by decide))) (by rw [he.ls c3.2]; exact h1.2.2.1), ⟨d1.eq (he _ (by decide)), ?_, ?_, ?_, ?_, ?_, ?_, ?_, ?_, ?_, ?_⟩, by rw [e5]; exact h3⟩
  · rw [e56, he 56 (by decide)]; exact d2
  · intro a ha
    rw [e6, ct_eq (he (26 + a) (by omega)), he (26 + a) (by omega)]
    exact d3 a ha
  · intro q hq
    rw [ct_eq (he (20 + q) (by omega)), he (20 + q) (by omega)]
    exact d4 q hq
  · have hb : bsum s' = bsum s := by
      unfold bsum
      rw [ct_eq (he 26 (by decide)), ct_eq (he 27 (by decide)), ct_eq (he 28 (by decide)), ct_eq (he 29 (by decide)), ct_eq (he 30 (by decide))]
    have hr : rsum s' ≤ rsum s := sumN_le _ (fun q hq => by rw [ct_eq (he (20 + q) (by omega))]; exact Nat.le_refl _)
    rw [hb, e5]
    omega
  · intro r hr
    rw [e5, ct_eq (he (58 + 10 * r + 7) (by omega)), he (58 + 10 * r + 7) (by omega)]
    exact d6 r hr
  · rw [he 57 (by decide)]; exact d7
  · rw [he 57 (by decide), e0]
    intro z q k hq hk
    rw [he _ (by omega)]
    exact d8 z q k hq hk
  · rw [he 57 (by decide), he 56 (by decide)]; exact d9
  · rw [e0]
    intro q hq
    rw [ct_eq (he (394 + 5 * q + 2) (by omega)), he (394 + 5 * q + 2) (by omega)]
    exact d10 q hq
  · rw [e56]
    intro c hc
    have h19 := d2.2
    obtain ⟨k0, k1, k4, k5⟩ := d11 c hc
    exact ⟨k0.eq (he _ (by omega)), k1.eq (he _ (by omega)), k4.eq (he _ (by omega)), k5.eq (he _ (by omega))⟩
theorem NV.e5 {μ : Mm} {b T : Nat} {s s' : Nat → Int32} {g g' : Nat → Int64} (h : NV μ b s g) (hb : kd b = 1) (ho : Ok T s) (he : E5 s s') (hg : ∀ k, k < 15 → g' k = g k) : NV μ b s' g' := by
  have c3 := ho.1.2.2.2.2.1.2
  have c4 := ho.1.2.2.2.2.2.1.2
  have h06 := ho.1.1.1.2
  have h210 := ho.1.1.2.2.1.2
  unfold NV
  rw [he.ls c3, he.os c4, he 57 (by decide), ct_eq (he 0 (by decide))]
  have h1 := (SV.congr9 h (h.cnt hb) (s' := s') (fun j hj _ => he j hj.1)).gc (G' := fun q k => s' (394 + 5 * q + k)) (fun q k hq hk => by
    have hq' : q < ct s 0 := by
      by_cases e : s 57 = 0
      · rw [if_pos e] at hq; omega
      · rw [if_neg e] at hq; exact hq
    exact (he _ (by omega)).symm)
  have h2 := h1.cuc (cu' := fun r => s' (58 + 10 * r + 9)) (fun r hr => by
    rw [ct_eq (he 2 (by decide))] at hr
    exact he _ (by omega))
  obtain ⟨t1, t2, t3, t4, t5, t6, t7, t8, t9, t10, t11, t12, t13⟩ := h2
  exact ⟨t1, t2, t3, t4, t5, t6, t7, t8, t9, t10, fun k hk => (t11 k hk).trans (hg k (by omega)).symm, fun k hk => (t12 k hk).trans (hg _ (by omega)).symm, t13⟩
theorem al5_e {f0 f : Nat → Int32} : E5 f (al5 f0 f) := fun j hj => by
  unfold al5 cpT
  rw [if_pos (by omega), Nat.sub_zero]
theorem al15_e {f0 f : Nat → Int64} {k : Nat} (hk : k < 15) : al15 f0 f k = f k := by
  unfold al15 cpTL
  rw [if_pos (by omega), Nat.sub_zero]
/-! ===== months on both sides ===== -/
def ev (p : Int32) (st : Sg) : Sg := (fiS (mst (LSo st.1) (OSo st.1) (silP p) st.1 st.2.1 st.2.2.1 st.2.2.2) (decL (LSo st.1)), (mst (LSo st.1) (OSo st.1) (silP p) st.1 st.2.1 st.2.2.1 st.2.2.2).2)
def evS (p : Int32) (st : Sg) : Int32 := sumM (mst (LSo st.1) (OSo st.1) (silP p) st.1 st.2.1 st.2.2.1 st.2.2.2)
def evn : Nat → Sg → Sg
  | 0, st => st
  | n + 1, st => evn n (ev (-1) st)
theorem noX {s κ : Nat → Int32} (h : κ 24 = -1) (h2 : ct s 2 ≤ 10) : Xtr κ s [] := Or.inl ⟨rfl, fun r hr z => by
  rw [h] at z
  have := nI_pos' (n := r) (by omega)
  rw [z] at this
  exact absurd this (by decide)⟩
theorem noT {s κ : Nat → Int32} (h : κ 22 = -1) (h2 : ct s 2 ≤ 10) : ∀ r, r < ct s 2 → nI r ≠ κ 22 := fun r hr z => by
  rw [h] at z
  have := nI_pos' (n := r) (by omega)
  rw [z] at this
  exact absurd this (by decide)
theorem mst_mstM {κ s : Nat → Int32} {g : Nat → Int64} {fl cut : Nat → Int32} (h : Mon s) (h24 : κ 24 = -1) (h22 : κ 22 = -1) : mstM κ [] s g fl cut = mst (LSo s) (OSo s) (silP (κ 26)) s g fl cut := by
  have h2 := h.1.1.2.2.1.2
  rw [mstM_mst h (noX h24 h2) (noT h22 h2), List.append_nil]
theorem Ok.ev {T : Nat} {st : Sg} {p : Int32} (h : Ok T st.1) (hT : T ≤ 20000) : Ok (T + 1) (ev p st).1 := by
  have h2 := h.1.1.2.2.1.2
  have := Ok.month (κ := fun j => if j = 26 then p else -1) (g := st.2.1) (fl := st.2.2.1) (cut := st.2.2.2) h hT (noX rfl h2) (Or.inl (noT (κ := fun j => if j = 26 then p else -1) rfl h2))
  rw [mst_mstM (h.mon hT) rfl rfl] at this
  exact this
theorem x1_ev {μ : Mm} {b T : Nat} {st : Sg} {p : Int32} (h : NV μ b st.1 st.2.1) (hb : kd b = 1) (ho : Ok T st.1) (hT : T ≤ 20000) : Op (F_X1_runMonth b p μ) (fun o => o.1 = evS p st ∧ (NV o.2 b (ev p st).1 (ev p st).2.1 ∧ Fs (Blk b) μ o.2)) := by
  have hm := ho.mon hT
  refine op_m (x1_month h hb hm.1 hm.2.2.2.2 p st.2.2.1 st.2.2.2) (fun o w => ⟨w.1, ?_, w.2.2⟩)
  exact NV.fin (cu := st.1) hb hm rfl w.2.1
