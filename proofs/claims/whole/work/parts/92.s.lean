/-! ===== bestReach ===== -/
theorem mC_congr {κ κ' : Nat → Int32} {LX OS : List (Nat → Int32)} (h22 : κ 22 = κ' 22) (h23 : κ 23 = κ' 23) (h26 : κ 26 = κ' 26) : mC κ LX OS = mC κ' LX OS := by
  funext r st
  unfold mC
  rw [h22, h26, show ct κ 23 = ct κ' 23 from congrArg Int32.toNatClampNeg h23]
section BEST
variable {μ ν : Mm} {s : Nat → Int32} {g : Nat → Int64} {T r j : Nat}
theorem x3_gotBy (h : Bo T μ s g) (hk : KB μ 23) (hT : T ≤ 19900) (hr : r < ct s 2) (hj : j < ct s 0) : Op (F_X3_gotByOneLease (nI r) (nI j) μ) (fun o => (∀ st2, C5 s g st2 → o.1 = (mstM (trK r j) [] st2.1 st2.2.1 st2.2.2.1 st2.2.2.2).1 (58 + 10 * r + 7) - s (58 + 10 * r + 7)) ∧ (KB o.2 23 ∧ Fs (Blk 23) μ o.2)) := by
  have ho := h.2.2.2.1
  refine op_m (op_all (P := fun st2 o => o.1 = (mstM (trK r j) [] st2.1 st2.2.1 st2.2.2.1 st2.2.2.2).1 (58 + 10 * r + 7) - s (58 + 10 * r + 7) ∧ (KB o.2 23 ∧ Fs (Blk 23) μ o.2)) (C := C5 s g) (s, g, μ.1 307, μ.1 308) ⟨fun _ _ => rfl, fun _ _ => rfl⟩ (fun st2 hc => ?_)) (fun o w => ⟨fun st2 hc => (w st2 hc).1, (w (s, g, μ.1 307, μ.1 308) ⟨fun _ _ => rfl, fun _ _ => rfl⟩).2⟩)
  have ho2 : Ok T st2.1 := ho.e5 hc.1
  have hN : NV μ 1 st2.1 st2.2.1 := h.1.e5 kd1 ho hc.1 hc.2
  have hm := ho2.mon (by omega)
  have e2 : ct st2.1 2 = ct s 2 := ct_eq (hc.1 2 (by decide))
  have e0 : ct st2.1 0 = ct s 0 := ct_eq (hc.1 0 (by decide))
  have hr2 : r < ct st2.1 2 := by rw [e2]; exact hr
  have hj2 : j < ct st2.1 0 := by rw [e0]; exact hj
  have h210 := hm.1.1.2.2.1.2
  have hmok := tr_mok hm.1 hm.2.1 hr2 hj2
  unfold F_X3_gotByOneLease
  refine op_mb (x1_copy hN kd23 kd1 (by decide) hk) (fun m1 w1 => ?_)
  refine op_mb (x2_remW (t := 35) (v := nI r) w1.1.lea) (fun m2 w2 => ?_)
  have S2 := SV.wLea w1.1 w2.2 w2.1
  refine op_mb (x2_remW (t := 37) (v := nI r) S2.opt) (fun m3 w3 => ?_)
  have S3 := SV.wOpt S2 w3.2 w3.1
  have F3 : Fs (Blk 23) μ m3 := (w1.2.tr (w2.2.mo (fun a e => by unfold Blk; omega))).tr (w3.2.mo (fun a e => by unfold Blk; omega))
  have N3 : NV m3 1 st2.1 st2.2.1 := SV.fs hN F3 (fun a a1 a2 => by unfold Blk; omega)
  refine op_eb ((x2_get (t := 9) (k := 3) N3.rgt hr2 (by decide)).trans (congrArg some (if_neg (by decide)))) ?_
  have hlen : (LSo st2.1).length = ct st2.1 3 := rwT_len _ _
  have h38 := hm.2.1.2
  refine op_mb (x1_addLease S3 kd23 (by have := kpL_len (v := nI r) (LSo st2.1); omega)) (fun o4 w4 => ?_)
  have S4 : SV o4.2 23 (trL st2.1 r j) (trO st2.1 r) _ _ _ st2.1 st2.2.1 := w4.2.1
  refine op_mb (x1_month S4 kd23 hmok hm.2.2.2.2 (-1) st2.2.2.1 st2.2.2.2) (fun o5 w5 => ?_)
  have F5 : Fs (Blk 23) μ o5.2 := (F3.tr (w4.2.2.mo (fun a e => by unfold Blk; omega))).tr w5.2.2
  have N5 : NV o5.2 1 st2.1 st2.2.1 := SV.fs hN F5 (fun a a1 a2 => by unfold Blk; omega)
  obtain ⟨I, hsta⟩ := mst_facts (sil := silP (-1)) (g := st2.2.1) (fl := st2.2.2.1) (cut := st2.2.2.2) hmok
  have n0 := ct_eq (hsta 0 Sta0)
  have n1 := ct_eq (hsta 1 Sta1)
  have h06 := hmok.1.1.2
  have h15 := hmok.1.2.1.2
  have f : ∀ i, (i < 424 ∧ (i ≠ 5 ∧ (¬ (20 ≤ i ∧ i < 31) ∧ i ≠ 54))) → finC (mst (trL st2.1 r j) (trO st2.1 r) (silP (-1)) st2.1 st2.2.1 st2.2.2.1 st2.2.2.2) i = (mst (trL st2.1 r j) (trO st2.1 r) (silP (-1)) st2.1 st2.2.1 st2.2.2.1 st2.2.2.2).1 i := fun i hi => by
    rw [finC_lo hi.1 (by omega) (by omega), if_neg hi.2.1, if_neg (by omega), if_neg (by omega), if_neg hi.2.2.2]
  have e2' : ct (finC (mst (trL st2.1 r j) (trO st2.1 r) (silP (-1)) st2.1 st2.2.1 st2.2.2.1 st2.2.2.2)) 2 = ct st2.1 2 := (ct_eq (f 2 (by omega))).trans (ct_eq (hsta 2 Sta2))
  refine op_eb ((x2_get (t := 31) (k := 7) w5.2.1.rgt (by rw [e2']; exact hr2) (by decide)).trans (congrArg some ((if_neg (by decide)).trans ((f _ (by omega)).trans (tr_sim hm hr2 hj2))))) ?_
  refine op_eb ((x2_get (t := 9) (k := 7) N5.rgt hr2 (by decide)).trans (congrArg some ((if_neg (by decide)).trans (hc.1 _ (by omega))))) (op_r ⟨rfl, w5.2.1.kb, F5⟩)
def trG (μ : Mm) (s : Nat → Int32) (g : Nat → Int64) (r j : Nat) : Int32 := (mstM (trK r j) [] s g (μ.1 307) (μ.1 308)).1 (58 + 10 * r + 7) - s (58 + 10 * r + 7)
theorem tr_all (h : Bo T μ s g) (hk : KB μ 23) (hT : T ≤ 19900) (hr : r < ct s 2) (hj : j < ct s 0) {st2 : Sg} (hc : C5 s g st2) : (mstM (trK r j) [] st2.1 st2.2.1 st2.2.2.1 st2.2.2.2).1 (58 + 10 * r + 7) - s (58 + 10 * r + 7) = trG μ s g r j := by
  obtain ⟨o, -, w, -⟩ := x3_gotBy h hk hT hr hj
  exact (w st2 hc).symm.trans (w (s, g, μ.1 307, μ.1 308) ⟨fun _ _ => rfl, fun _ _ => rfl⟩)
def brF (G : Nat → Int32) : Nat → Nat → Nat → Int32 → Nat
  | 0, _, b, _ => b
  | d + 1, j, b, m => if G j ≤ m then brF G d (j + 1) b m else brF G d (j + 1) j (G j)
theorem x3_best (h0 : Bo T μ s g) (hT : T ≤ 19900) (hr : r < ct s 2) : ∀ (d m j b : Nat) (most : Int32) (μc : Mm), j + d = ct s 0 → d < m → Fs (Blk 23) μ μc → KB μc 23 → Op (F_X3_bestReach_18 (nI r) m (nI b) most (nI j) μc) (fun o => o.1 = nI (brF (trG μ s g r) d j b most) ∧ (KB o.2 23 ∧ Fs (Blk 23) μ o.2)) := by
  have h06 := h0.2.2.2.1.1.1.1.2
  intro d
  induction d with
  | zero =>
    intro m j b most μc hj hm hF hk
    obtain ⟨m, rfl⟩ : ∃ z, m = z + 1 := ⟨m - 1, by omega⟩
    have hb := h0.fs hF
    rw [F_X3_bestReach_18, show μc.1 2 2 = nI (ct s 0) from hb.1.rch.2.1]
    exact op_t (nI_le (by omega) (by omega)) (op_r ⟨rfl, hk, hF⟩)
  | succ d ih =>
    intro m j b most μc hj hm hF hk
    obtain ⟨m, rfl⟩ : ∃ z, m = z + 1 := ⟨m - 1, by omega⟩
    have hb := h0.fs hF
    rw [F_X3_bestReach_18, show μc.1 2 2 = nI (ct s 0) from hb.1.rch.2.1, brF]
    refine op_f (nI_ge (by omega) (by omega)) (op_mb (x3_gotBy hb hk hT hr (show j < ct s 0 by omega)) (fun o w => ?_))
    obtain ⟨w1, w2, w3⟩ := w
    have e : o.1 = trG μ s g r j := w1 (s, g, μ.1 307, μ.1 308) ⟨fun _ _ => rfl, fun _ _ => rfl⟩
    rw [e, nI_1]
    by_cases e1 : trG μ s g r j ≤ most
    · rw [if_pos e1, if_pos e1]
      exact op_br (ih m (j + 1) b most o.2 (by omega) (by omega) (hF.tr w3) w2)
    · rw [if_neg e1, if_neg e1]
      exact op_br (ih m (j + 1) j (trG μ s g r j) o.2 (by omega) (by omega) (hF.tr w3) w2)
theorem m_gotT {κ : Nat → Int32} {st : Sg} (h : MV ν st) (hκ : ν.1 295 = κ) (ho : Ok T st.1) (hT : T ≤ 19900) (k22 : κ 22 = nI r) (k23 : κ 23 = nI j) (k24 : κ 24 = -1) (k26 : κ 26 = -1) (hr : r < ct st.1 2) (hj : j < ct st.1 0) : Op (F_X4_months 1 ν) (fun o => F_X4_rightOf (nI r) 7 o = some ((mstM (trK r j) [] st.1 st.2.1 st.2.2.1 st.2.2.2).1 (58 + 10 * r + 7)) ∧ Fs Fm ν o) := by
  have hm := ho.mon (by omega)
  have h210 := hm.1.1.2.2.1.2
  have h06 := hm.1.1.1.2
  have cj : ct κ 23 = j := ct_nI k23 (by omega)
  have ht : Try κ st.1 := Or.inr ⟨by rw [cj]; exact k23, by rw [cj]; exact hj⟩
  have hX : Xtr κ st.1 [] := noX k24 h210
  have q := m_month (μ := ν) h.1 h.2.1 hκ hm hX ht
  rw [h.2.2.1, h.2.2.2] at q
  obtain ⟨o, e, w⟩ := q
  obtain ⟨i1, i2, i3, i4⟩ := mstM_facts (g := st.2.1) (fl := st.2.2.1) (cut := st.2.2.2) hm hX ht
  have eM : mstM κ [] st.1 st.2.1 st.2.2.1 st.2.2.2 = mstM (trK r j) [] st.1 st.2.1 st.2.2.1 st.2.2.2 := by
    unfold mstM
    rw [mC_congr (κ := κ) (κ' := trK r j) k22 k23 k26]
  rw [eM] at w i1 i2 i3 i4
  have n0 := ct_eq (i2 0 Sta0)
  have n1 := ct_eq (i2 1 Sta1)
  have n2 := ct_eq (i2 2 Sta2)
  have h15 := hm.1.1.2.1.2
  have hD : (decL (LSo st.1)).length ≤ 8 := by
    have := decL_len (LSo st.1)
    rw [show (LSo st.1).length = ct st.1 3 from rwT_len _ _] at this
    have := hm.2.1.2
    omega
  refine ⟨o.2, ?_, ?_, w.2.2.2.2⟩
  · unfold F_X4_months
    show (F_X4_months_2 1 (9999 + 1) 0 ν).bind _ = _
    rw [F_X4_months_2, if_neg (by decide), e]
    show (F_X4_months_2 1 (9998 + 1) 1 o.2).bind _ = _
    rw [F_X4_months_2, if_pos (by decide)]
    rfl
  · refine (m_rO (k := 7) (by omega) (by decide)).trans (congrArg some ?_)
    rw [w.2.1, fiS_vis hD (by omega) (by omega) (by omega) (by omega) (by omega) (by omega) (by omega) (by omega) (by omega), finC_lo (by omega) (by omega) (by omega), if_neg (by omega), if_neg (by omega), if_neg (by omega), if_neg (by omega)]
def RB (s : Nat → Int32) (g : Nat → Int64) (r j : Nat) (ν : Mm) : Prop := E5 s (ν.1 296) ∧ ((∀ k, k < 15 → ν.2.1 300 k = g k) ∧ (E5 s (ν.1 298) ∧ ((∀ k, k < 15 → ν.2.1 301 k = g k) ∧ (ν.1 295 22 = nI r ∧ (ν.1 295 23 = nI j ∧ (ν.1 295 24 = -1 ∧ ν.1 295 26 = -1))))))
def BRs (a : Nat) : Prop := Fm a ∨ a = 295
theorem m_best (h0 : Bo T μ s g) (hk : KB μ 23) (hT : T ≤ 19900) (hr : r < ct s 2) : ∀ (d m j b : Nat) (most : Int32) (ν : Mm), j + d = ct s 0 → d < m → RB s g r j ν → Op (F_X4_bestReach_44 (nI r) m (nI b) most ν) (fun o => o.1 = nI (brF (trG μ s g r) d j b most) ∧ (E5 s (o.2.1 296) ∧ ((∀ k, k < 15 → o.2.2.1 300 k = g k) ∧ ((∀ q, q ≠ 23 → o.2.1 295 q = ν.1 295 q) ∧ Fs BRs ν o.2)))) := by
  have ho := h0.2.2.2.1
  have b0 := ho.1.1.1
  have h06 := b0.2
  have h210 := ho.1.1.2.2.1.2
  intro d
  induction d with
  | zero =>
    intro m j b most ν hj hm hI
    obtain ⟨m, rfl⟩ : ∃ z, m = z + 1 := ⟨m - 1, by omega⟩
    obtain ⟨a1, a2, a3, a4, a5, a6, a7, a8⟩ := hI
    rw [F_X4_bestReach_44]
    refine op_eb (mg (k := 0) rfl (by decide)) ?_
    rw [a1 0 (by decide), b0.1, a6]
    exact op_t (nI_le (by omega) (by omega)) (op_r ⟨rfl, a1, a2, fun _ _ => rfl, Fs.rf⟩)
  | succ d ih =>
    intro m j b most ν hj hm hI
    obtain ⟨m, rfl⟩ : ∃ z, m = z + 1 := ⟨m - 1, by omega⟩
    obtain ⟨a1, a2, a3, a4, a5, a6, a7, a8⟩ := hI
    rw [F_X4_bestReach_44, brF]
    refine op_eb (mg (k := 0) rfl (by decide)) ?_
    rw [a1 0 (by decide), b0.1, a6]
    refine op_f (nI_ge (by omega) (by omega)) ?_
    refine op_eb ((m_rO (k := 7) (by omega) (by decide)).trans (congrArg some (a1 (58 + 10 * r + 7) (by omega)))) ?_
    have hc : C5 s g (ν.1 296, ν.2.1 300, ν.1 307, ν.1 308) := ⟨a1, a2⟩
    refine op_mb (m_gotT (T := T) (st := (ν.1 296, ν.2.1 300, ν.1 307, ν.1 308)) ⟨rfl, rfl, rfl, rfl⟩ rfl (ho.e5 a1) hT a5 a6 a7 a8 (show r < ct (ν.1 296) 2 by rw [ct_eq (a1 2 (by decide))]; exact hr) (show j < ct (ν.1 296) 0 by rw [ct_eq (a1 0 (by decide))]; omega)) (fun m1 w1 => ?_)
    refine op_eb w1.1 ?_
    refine op_mb (m_takesBack m1) (fun m2 w2 => ?_)
    have eG := tr_all h0 hk hT hr (show j < ct s 0 by omega) hc
    rw [eG]
    have e1 : m2.1 295 = ν.1 295 := ((w2.2.2.1 295 (by decide)).1).trans (w1.2.1 295 (by unfold Fm; decide)).1
    have F2 : Fs BRs ν (uI m2 295 23 (nI (j + 1))) := ((w1.2.mo (fun a e => Or.inl e)).tr (w2.2.2.mo (fun a e => Or.inl (by unfold Fm; omega)))).tr (Fs.uI (Or.inr rfl))
    have I2 : RB s g r (j + 1) (uI m2 295 23 (nI (j + 1))) := by
      refine ⟨fun q hq => ?_, fun k hk => ?_, fun q hq => ?_, fun k hk => ?_, ?_, ?_, ?_, ?_⟩
      · rw [uI_ne (by decide), w2.1, al5_e q hq, (w1.2.1 298 (by unfold Fm; decide)).1]
        exact a3 q hq
      · show m2.2.1 300 k = g k
        rw [w2.2.1, al15_e hk, (w1.2.1 301 (by unfold Fm; decide)).2]
        exact a4 k hk
      · rw [uI_ne (by decide), (w2.2.2.1 298 (by decide)).1, (w1.2.1 298 (by unfold Fm; decide)).1]
        exact a3 q hq
      · show m2.2.1 301 k = g k
        rw [(w2.2.2.1 301 (by decide)).2, (w1.2.1 301 (by unfold Fm; decide)).2]
        exact a4 k hk
      · rw [uI_eq]
        exact (if_neg (by decide)).trans ((congrFun e1 22).trans a5)
      · rw [uI_eq]
        rfl
      · rw [uI_eq]
        exact (if_neg (by decide)).trans ((congrFun e1 24).trans a7)
      · rw [uI_eq]
        exact (if_neg (by decide)).trans ((congrFun e1 26).trans a8)
    have e23 : m2.1 295 23 = nI j := (congrFun e1 23).trans a6
    have keep : ∀ q, q ≠ 23 → (uI m2 295 23 (nI (j + 1))).1 295 q = ν.1 295 q := fun q hq => by
      rw [uI_eq]
      exact (if_neg hq).trans (congrFun e1 q)
    by_cases e2 : trG μ s g r j ≤ most
    · rw [if_pos e2, if_pos e2, if_pos e2, e23]
      refine op_br (op_br (op_br ?_))
      rw [nI_1]
      exact op_m (ih m (j + 1) b most _ (by omega) (by omega) I2) (fun o z => ⟨z.1, z.2.1, z.2.2.1, fun q hq => (z.2.2.2.1 q hq).trans (keep q hq), F2.tr z.2.2.2.2⟩)
    · rw [if_neg e2, if_neg e2, if_neg e2, e23]
      refine op_br (op_br (op_br ?_))
      rw [nI_1]
      exact op_m (ih m (j + 1) j (trG μ s g r j) _ (by omega) (by omega) I2) (fun o z => ⟨z.1, z.2.1, z.2.2.1, fun q hq => (z.2.2.2.1 q hq).trans (keep q hq), F2.tr z.2.2.2.2⟩)
theorem f_bestReach (h : Bo T μ s g) (hk : KB μ 23) (hf : Fl μ) (hT : T ≤ 19900) (p : Int32) : FI M1 (F_X3_bestReach p μ) (F_X4_bestReach p) μ := by
  have h06 := h.2.2.2.1.1.1.1.2
  rcases isI_c h p with ⟨r, h1, rfl, h3, h4⟩ | ⟨h3, h4⟩
  · obtain ⟨oc, c1, c2, c3, c4⟩ := x3_best h hT h1 (ct s 0) qFuel 0 0 (-1) μ (by omega) (by unfold qFuel; omega) Fs.rf hk
    have hb := h.fs c4
    have e295 : ∀ j, j ≠ 0 → (uI oc.2 295 0 0).1 295 j = μ.1 295 j := fun j hj => by
      rw [uI_eq]
      exact (if_neg hj).trans (congrFun (blk1 c4 295 (by omega)).1 j)
    obtain ⟨m1, p1, p2, p3, p4⟩ := m_putsAside (uI oc.2 295 0 0)
    have q295 : m1.1 295 = (uI oc.2 295 0 0).1 295 := (p4.1 295 (by decide)).1
    have a296 : m1.1 296 = s := (p4.1 296 (by decide)).1.trans (th296.trans hb.2.1)
    have a300 : m1.2.1 300 = g := (p4.1 300 (by decide)).2.trans hb.2.2.1
    have v : ∀ q, q ≠ 22 → (q ≠ 23 → (uI (uI m1 295 22 (nI r)) 295 23 0).1 295 q = m1.1 295 q) := fun q h22 h23 => by
      rw [uI_eq]
      refine (if_neg h23).trans ?_
      rw [uI_eq]
      exact if_neg h22
    have I : RB s g r 0 (uI (uI m1 295 22 (nI r)) 295 23 0) := by
      refine ⟨fun q hq => ?_, fun k hk => ?_, fun q hq => ?_, fun k hk => ?_, ?_, ?_, ?_, ?_⟩
      · rw [uI_ne (by decide), uI_ne (by decide), a296]
      · show m1.2.1 300 k = g k
        rw [a300]
      · rw [uI_ne (by decide), uI_ne (by decide), p2, al5_e q hq, th296, hb.2.1]
      · show m1.2.1 301 k = g k
        rw [p3, al15_e hk]
        exact congrFun hb.2.2.1 k
      · rw [uI_eq]
        refine (if_neg (by decide)).trans ?_
        rw [uI_eq]
        rfl
      · rw [uI_eq]
        rfl
      · rw [v 24 (by decide) (by decide), q295, e295 24 (by decide)]
        exact hf.2.1
      · rw [v 26 (by decide) (by decide), q295, e295 26 (by decide)]
        exact hf.2.2
    obtain ⟨om, d1, d2, d3, d4, d5, d6⟩ := m_best h hk hT h1 (ct s 0) qFuel 0 0 (-1) _ (by omega) (by unfold qFuel; omega) I
    have fu : ∀ (m : Mm) (j : Nat) (v : Int32), Fs (fun a => (Fm a ∨ (a = 298 ∨ a = 301)) ∨ (a = 295 ∨ a = 309)) m (uI m 295 j v) := fun m j v => Fs.uI (Or.inr (Or.inl rfl))
    have FR : Fs (fun a => (Fm a ∨ (a = 298 ∨ a = 301)) ∨ (a = 295 ∨ a = 309)) oc.2 (uI om.2 295 22 (-1)) := (((((fu _ 0 0).tr (p4.mo (fun a e => Or.inl (Or.inr e)))).tr (fu _ 22 (nI r))).tr (fu _ 23 0)).tr (d6.mo (fun a e => e.elim (fun z => Or.inl (Or.inl z)) (fun z => Or.inr (Or.inl z))))).tr (fu _ 22 (-1))
    have k5 : ∀ q, q ≠ 0 → (q ≠ 23 → (uI om.2 295 22 (-1)).1 295 q = oc.2.1 295 q) := fun q h0 h23 => by
      rw [uI_eq]
      by_cases e : q = 22
      · refine (if_pos e).trans ?_
        rw [e]
        have := e295 22 (by decide)
        rw [uI_eq] at this
        exact (this.trans hf.1).symm
      · refine (if_neg e).trans ?_
        rw [d5 q h23, v q e h23, q295, uI_eq]
        exact if_neg h0
    refine ⟨0, 0, nI (brF (trG μ s g r) (ct s 0) 0 0 (-1)), _, oc.2, uI om.2 295 22 (-1), ?_, ?_, by decide, ?_, fun _ => rfl, ?_⟩
    · refine be_ h3 ((if_pos rfl).trans (be_ c1 ?_))
      rw [c2]
    · refine be_ (isI_y hb h1) ?_
      rw [if_neg (show ¬ (1 : Int32) = 0 by decide)]
      refine (m_tail (o := some 0) (t := 0) (z := 0) rfl (by decide)).trans ((if_pos rfl).trans (be_ p1 (be_ rfl (be_ rfl (be_ d1 (be_ rfl ?_))))))
      rw [d2]
    · rw [uI_eq]
      refine (if_neg (by decide)).trans ?_
      rw [d5 0 (by decide), v 0 (by decide) (by decide), q295, uI_eq]
      rfl
    · exact KQ.of h.2.1 h.2.2.1 (c4.mo (fun a e => Or.inl e)) c3 (fun j hj => by rw [uI_ne (by decide)]; exact d3 j hj) (fun k hk => d4 k hk) (fun q a b c => k5 q a b) FR
  · refine ⟨1, 1, 0, 0, μ, uI μ 295 0 (nI 1), be_ h3 rfl, ?_, by decide, by rw [uI_eq]; rfl, fun e => absurd e (by decide), KQ.th hk⟩
    refine be_ h4 ?_
    exact m_tail (f := _) (o := some 1) (t := 1) (z := 0) rfl (by decide)
end BEST
