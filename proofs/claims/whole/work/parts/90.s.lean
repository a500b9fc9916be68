/-! ===== two months side by side: the same flows, the same rights ===== -/
def Sim (st st' : Sg) : Prop := (∀ j, Sta j → st.1 j = st'.1 j) ∧ (st.2.2.1 = st'.2.2.1 ∧ ∀ q, q < 10 → st.1 (58 + 10 * q + 7) = st'.1 (58 + 10 * q + 7))
theorem okN_congr {n0 : Nat} {mn mn' fl : Nat → Nat} {reach kp rt to : Nat} (h : ∀ q, q < n0 → mn q = mn' q) : okN n0 mn fl reach kp rt to = okN n0 mn' fl reach kp rt to := by
  funext x
  unfold okN
  congr 1
  apply propext
  exact ⟨fun z q hq hq2 => by rw [← h q hq]; exact z q hq hq2, fun z q hq hq2 => by rw [h q hq]; exact z q hq hq2⟩
section SIM
variable {its r acc acc' reach w price price' c c' : Nat} {st st' : Sg}
theorem sim_got (h : Cst st c) (hr : r < ct st.1 2) (S : Sim st st') : gotO its r reach w st = gotO its r reach w st' ∧ (kpO its r st.1 = kpO its r st'.1 ∧ (rtO its r st.1 = rtO its r st'.1 ∧ (ct st.1 0 = ct st'.1 0 ∧ ct st.1 (58 + 10 * r + 5) = ct st'.1 (58 + 10 * r + 5)))) := by
  obtain ⟨s1, s2, s3⟩ := S
  have h06 := h.1.1.2
  have h210 := h.1.2.2.1.2
  have v : ∀ j, (j < 26 ∨ (58 ≤ j ∧ (j < 242 ∧ ((j - 58) % 10 ≠ 7 ∧ (j - 58) % 10 ≠ 8)))) → ct st.1 j = ct st'.1 j := fun j hj => congrArg Int32.toNatClampNeg (s1 j (by unfold Sta; omega))
  have e0 := v 0 (by omega)
  have e4 := v (58 + 10 * r + 4) (by omega)
  have e5 := v (58 + 10 * r + 5) (by omega)
  have e6 := v (58 + 10 * r + 6) (by omega)
  have k : kpO its r st.1 = kpO its r st'.1 := by unfold kpO; rw [e6]
  have t : rtO its r st.1 = rtO its r st'.1 := by unfold rtO; rw [e4]
  refine ⟨?_, k, t, e0, e5⟩
  unfold gotO
  rw [k, t, e0, e5, s2, okN_congr (mn' := fun q => ct st'.1 (14 + q)) (fun q hq => v (14 + q) (by omega))]
theorem sim_srv (h : Cst st (c + 1)) (h' : Cst st' (c' + 1)) (ha : Ars st r acc reach w) (ha' : Ars st' r acc' reach w) (S : Sim st st') : Sim (srv its r acc reach w price st) (srv its r acc' reach w price' st') := by
  obtain ⟨g1, g2, g3, g4, g5⟩ := sim_got (its := its) (reach := reach) (w := w) h ha.1 S
  obtain ⟨s1, s2, s3⟩ := S
  have h210 := h.1.2.2.1.2
  have h15 := h.1.2.1.2
  have h15' := h'.1.2.1.2
  have hf := (h.1.2.2.2.2.2 r ha.1).1.2
  have hf' := (h'.1.2.2.2.2.2 r ha'.1).1.2
  have b1 := h.b56.2
  have b2 := h'.b56.2
  have hr := ha.1
  have a1 := ha.2.1
  have a2 := ha'.2.1
  refine ⟨fun j hj => ?_, ?_, fun q hq => ?_⟩
  · rw [(Cst.srv (its := its) (price := price) h ha).2 j hj, (Cst.srv (its := its) (price := price') h' ha').2 j hj]
    exact s1 j hj
  · show srvF its r reach w st = srvF its r reach w st'
    funext q
    unfold srvF
    rw [g1, g2, g3, g4, g5, s2]
  · show srvS its r acc reach w st (58 + 10 * q + 7) = srvS its r acc' reach w st' (58 + 10 * q + 7)
    have hn : ¬ (q = r ∧ 7 = 8) := fun z => absurd z.2 (by decide)
    rw [srvS_rgt (by omega) (by omega) (by omega) (by omega) hq (by decide), srvS_rgt (by omega) (by omega) (by omega) (by omega) hq (by decide), if_neg hn, if_neg hn, g1, s3 q hq]
theorem sim_zero (h : Cst st (c + 1)) (ha : Ars st r acc reach 0) (S : Sim st st') : Sim (srv its r acc reach 0 price st) st' := by
  obtain ⟨s1, s2, s3⟩ := S
  have h210 := h.1.2.2.1.2
  have h15 := h.1.2.1.2
  have hf := (h.1.2.2.2.2.2 r ha.1).1.2
  have b1 := h.b56.2
  have hr := ha.1
  have a1 := ha.2.1
  have g0 : gotO its r reach 0 st = 0 := rfl
  refine ⟨fun j hj => ?_, ?_, fun q hq => ?_⟩
  · rw [(Cst.srv (its := its) (price := price) h ha).2 j hj]
    exact s1 j hj
  · show srvF its r reach 0 st = st'.2.2.1
    rw [← s2]
    funext q
    unfold srvF
    rw [g0, byN_0]
    by_cases e : reach ≤ q ∧ q < ct st.1 0
    · rw [if_pos e]
      exact Int32.sub_zero _
    · rw [if_neg e]
  · show srvS its r acc reach 0 st (58 + 10 * q + 7) = _
    have hn : ¬ (q = r ∧ 7 = 8) := fun z => absurd z.2 (by decide)
    rw [srvS_rgt (by omega) (by omega) (by omega) (by omega) hq (by decide), if_neg hn, g0, ← s3 q hq]
    by_cases e : q = r ∧ 7 = 7
    · rw [if_pos e]
      exact Int32.add_zero _
    · rw [if_neg e]
theorem sim_cut (S : Sim st st') : Sim (cut0 st r) (cut0 st' r) := S
theorem sim_rf : Sim st st := ⟨fun _ _ => rfl, rfl, fun _ _ => rfl⟩
theorem sim_wout (hr : r < 10) (S : Sim st st') (v : Nat) : wout st.1 r v = wout st'.1 r v := by
  unfold wout
  rw [show ct st.1 (58 + 10 * r + 4) = ct st'.1 (58 + 10 * r + 4) from congrArg Int32.toNatClampNeg (S.1 _ (StaR hr (by decide)))]
theorem sim_clL (hr : r < ct st.1 2) : ∀ (L : List (Nat → Int32)) (st st' : Sg) (left c c' : Nat), r < ct st.1 2 → Cst st (c + cntR r L) → Cst st' (c' + cntR r L) → LRows st.1 L → LRows st'.1 L → left ≤ 999 → Sim st st' → Sim (clL r L (st, left)).1 (clL r L (st', left)).1 ∧ (clL r L (st, left)).2 = (clL r L (st', left)).2 := by
  intro L
  induction L with
  | nil => intro st st' left c c' _ _ _ _ _ _ S; exact ⟨S, rfl⟩
  | cons row L ih =>
    intro st st' left c c' hr h h' hL hL' hl S
    have hrow := hL row List.mem_cons_self
    have hrow' := hL' row List.mem_cons_self
    have h210 := h.1.2.2.1.2
    have e2 : ct st.1 2 = ct st'.1 2 := congrArg Int32.toNatClampNeg (S.1 2 Sta2)
    rw [clL, clL]
    by_cases e : ct row 0 = r
    · rw [if_pos e, if_pos e]
      rw [cntR, if_pos e] at h h'
      have k : Cst st ((c + cntR r L) + 1) := h.less (by omega)
      have k' : Cst st' ((c' + cntR r L) + 1) := h'.less (by omega)
      have hv : (if left < ct row 3 then left else ct row 3) ≤ left := by split <;> omega
      show Sim (clL r L (srv 1 r (ct row 1) (ct row 2) (wout st.1 r (if left < ct row 3 then left else ct row 3)) (ct row 4) st, left - (if left < ct row 3 then left else ct row 3))).1 (clL r L (srv 1 r (ct row 1) (ct row 2) (wout st'.1 r (if left < ct row 3 then left else ct row 3)) (ct row 4) st', left - (if left < ct row 3 then left else ct row 3))).1 ∧ (clL r L (srv 1 r (ct row 1) (ct row 2) (wout st.1 r (if left < ct row 3 then left else ct row 3)) (ct row 4) st, left - (if left < ct row 3 then left else ct row 3))).2 = (clL r L (srv 1 r (ct row 1) (ct row 2) (wout st'.1 r (if left < ct row 3 then left else ct row 3)) (ct row 4) st', left - (if left < ct row 3 then left else ct row 3))).2
      generalize (if left < ct row 3 then left else ct row 3) = v at hv
      rw [← sim_wout (by omega) S v]
      have ha : Ars st r (ct row 1) (ct row 2) (wout st.1 r v) := ⟨hr, hrow.1.2.1.2, hrow.1.2.2.2, wout_le (by omega)⟩
      have ha' : Ars st' r (ct row 1) (ct row 2) (wout st.1 r v) := ⟨by omega, hrow'.1.2.1.2, hrow'.1.2.2.2, wout_le (by omega)⟩
      obtain ⟨z1, z2⟩ := Cst.srv (its := 1) (price := ct row 4) k ha
      obtain ⟨z1', z2'⟩ := Cst.srv (its := 1) (price := ct row 4) k' ha'
      exact ih _ _ (left - v) c c' (by rw [ct_eq (z2 2 Sta2)]; exact hr) z1 z1' (LRows.sta (fun x hx => hL x (List.mem_cons_of_mem _ hx)) z2) (LRows.sta (fun x hx => hL' x (List.mem_cons_of_mem _ hx)) z2') (by omega) (sim_srv k k' ha ha' S)
    · rw [if_neg e, if_neg e]
      rw [cntR, if_neg e, Nat.zero_add] at h h'
      exact ih st st' left c c' hr h h' (fun x hx => hL x (List.mem_cons_of_mem _ hx)) (fun x hx => hL' x (List.mem_cons_of_mem _ hx)) hl S
theorem sim_yr (hv : Vt st.1) (S : Sim st st') : yrP st.1 (ct st.1 5 / 12) = yrP st'.1 (ct st'.1 5 / 12) := by
  have e7 : ct st.1 7 = ct st'.1 7 := congrArg Int32.toNatClampNeg (S.1 7 (Or.inl (by decide)))
  have e5 : ct st.1 5 = ct st'.1 5 := congrArg Int32.toNatClampNeg (S.1 5 Sta5)
  have hm := Nat.mod_lt (ct st.1 5 / 12) (show 0 < ct st.1 7 by have := hv.2.2.2.1; omega)
  have h75 := hv.2.2.2.2
  unfold yrP
  rw [← e7, ← e5]
  exact S.1 _ (by unfold Sta; omega)
theorem sim_oby (hv : Vt st.1) (S : Sim st st') : ∀ O : List (Nat → Int32), oby st.1 r O = oby st'.1 r O := by
  intro O
  induction O with
  | nil => rfl
  | cons a O ih => rw [oby, oby, ih, sim_yr hv S]
theorem sim_clR {L O : List (Nat → Int32)} (h : Cst st (c + 1 + cntR r L)) (h' : Cst st' (c' + 1 + cntR r L)) (hr : r < ct st.1 2) (hL : LRows st.1 L) (hL' : LRows st'.1 L) (hO : ORows st.1 O) (hO' : ORows st'.1 O) (S : Sim st st') : Sim (clR L O r st) (clR L O r st') := by
  have h210 := h.1.2.2.1.2
  have e2 : ct st.1 2 = ct st'.1 2 := congrArg Int32.toNatClampNeg (S.1 2 Sta2)
  have hf := h.1.2.2.2.2.2 r hr
  have hf' := h'.1.2.2.2.2.2 r (by omega)
  have e3 : ct st.1 (58 + 10 * r + 3) = ct st'.1 (58 + 10 * r + 3) := congrArg Int32.toNatClampNeg (S.1 _ (StaR (by omega) (by decide)))
  obtain ⟨k1, k2, k3⟩ := clL_keep L (cut0 st r) (ct st.1 (58 + 10 * r + 3)) (c + 1) h hr hL hf.2.2.2.1.2
  obtain ⟨k1', k2', k3'⟩ := clL_keep L (cut0 st' r) (ct st.1 (58 + 10 * r + 3)) (c' + 1) h' (show r < ct st'.1 2 by omega) hL' hf.2.2.2.1.2
  obtain ⟨q1, q2⟩ := sim_clL hr L (cut0 st r) (cut0 st' r) (ct st.1 (58 + 10 * r + 3)) (c + 1) (c' + 1) hr h h' hL hL' hf.2.2.2.1.2 (sim_cut S)
  unfold clR
  rw [← e3]
  generalize clL r L (cut0 st r, ct st.1 (58 + 10 * r + 3)) = p at *
  generalize clL r L (cut0 st' r, ct st.1 (58 + 10 * r + 3)) = p' at *
  obtain ⟨a, left⟩ := p
  obtain ⟨a', left'⟩ := p'
  have q2 : left = left' := q2
  subst q2
  have q1 : Sim a a' := q1
  have k1 : Cst a (c + 1) := k1
  have k1' : Cst a' (c' + 1) := k1'
  have k2 : ∀ j, Sta j → a.1 j = st.1 j := k2
  have k2' : ∀ j, Sta j → a'.1 j = st'.1 j := k2'
  have hl : left ≤ 999 := Nat.le_trans k3 hf.2.2.2.1.2
  have ra : r < ct a.1 2 := by rw [ct_eq (k2 2 Sta2)]; exact hr
  have ra' : r < ct a'.1 2 := by rw [ct_eq (k2' 2 Sta2)]; omega
  have fa := k1.1.2.2.2.2.2 r ra
  have fa' := k1'.1.2.2.2.2.2 r ra'
  have e0 : ct a.1 (58 + 10 * r + 0) = ct a'.1 (58 + 10 * r + 0) := congrArg Int32.toNatClampNeg (q1.1 _ (StaR (by omega) (by decide)))
  have e1 : ct a.1 (58 + 10 * r + 1) = ct a'.1 (58 + 10 * r + 1) := congrArg Int32.toNatClampNeg (q1.1 _ (StaR (by omega) (by decide)))
  unfold clE
  show Sim ((oby a.1 r O).elim (srv 0 r (ct a.1 (58 + 10 * r + 0)) (ct a.1 (58 + 10 * r + 1)) left 0 a) (fun row => srv 2 r (ct row 1) (ct row 2) (wout a.1 r left) (ct row 5) a)) ((oby a'.1 r O).elim (srv 0 r (ct a'.1 (58 + 10 * r + 0)) (ct a'.1 (58 + 10 * r + 1)) left 0 a') (fun row => srv 2 r (ct row 1) (ct row 2) (wout a'.1 r left) (ct row 5) a'))
  rw [← sim_oby k1.1.vt q1 O]
  cases e : oby a.1 r O with
  | none =>
    show Sim (srv 0 r (ct a.1 (58 + 10 * r + 0)) (ct a.1 (58 + 10 * r + 1)) left 0 a) (srv 0 r (ct a'.1 (58 + 10 * r + 0)) (ct a'.1 (58 + 10 * r + 1)) left 0 a')
    rw [← e1]
    exact sim_srv k1 k1' ⟨ra, fa.1.2, Nat.lt_of_le_of_lt fa.2.1.2 fa.2.2.1.2, hl⟩ ⟨ra', fa'.1.2, by rw [e1]; exact Nat.lt_of_le_of_lt fa'.2.1.2 fa'.2.2.1.2, hl⟩ q1
  | some row =>
    have hrow := (hO.sta k2) row (oby_mem e).1
    have hrow' := (hO'.sta k2') row (oby_mem e).1
    show Sim (srv 2 r (ct row 1) (ct row 2) (wout a.1 r left) (ct row 5) a) (srv 2 r (ct row 1) (ct row 2) (wout a'.1 r left) (ct row 5) a')
    rw [← sim_wout (by omega) q1 left]
    exact sim_srv k1 k1' ⟨ra, hrow.1.2.1.2, hrow.1.2.2.2, wout_le hl⟩ ⟨ra', hrow'.1.2.1.2, hrow'.1.2.2.2, wout_le hl⟩ q1
end SIM
/-- by ranks -/
theorem clG_sim {C C' : Nat → Sg → Sg} {LX LX' : List (Nat → Int32)} {st0 st0' : Sg} (h : Bg st0) (h' : Bg st0') (hl : LX.length ≤ 9) (hl' : LX'.length ≤ 9) (hK : Kp C LX st0.1) (hK' : Kp C' LX' st0'.1) (S : Sim st0 st0')
  (hP : ∀ r st st' c c', r < ct st0.1 2 → Cst st (c + 1 + cntR r LX) → Cst st' (c' + 1 + cntR r LX') → (∀ j, Sta j → st.1 j = st0.1 j) → (∀ j, Sta j → st'.1 j = st0'.1 j) → Sim st st' → Sim (C r st) (C' r st')) : ∀ k, k ≤ ct st0.1 2 → Sim (clG C k st0) (clG C' k st0') := by
  intro k
  induction k with
  | zero => intro _; exact S
  | succ k ih =>
    intro hk
    have e2 : ct st0.1 2 = ct st0'.1 2 := congrArg Int32.toNatClampNeg (S.1 2 Sta2)
    obtain ⟨i1, i2⟩ := clG_inv h hl hK k (by omega)
    obtain ⟨j1, j2⟩ := clG_inv h' hl' hK' k (by omega)
    have q := ih (by omega)
    obtain ⟨hd, h0, hf, h56⟩ := h
    obtain ⟨hd', h0', hf', h56'⟩ := h'
    have h2 := h0.2.2.1.2
    have h2' := h0'.2.2.1.2
    obtain ⟨r, hr1, hr2, hr3⟩ := sen_ex hd (show k < ct st0.1 2 by omega)
    have es := (Sta_sen i2 h2 k).trans hr1
    have es' : sen (clG C' k st0').1 k = some r := by
      rw [Sta_sen j2 h2' k, ← Sta_sen (s := st0'.1) (s' := st0.1) S.1 h2' k]
      exact hr1
    have hr3' : rk st0'.1 r = k := (sen_rk ((Sta_sen j2 h2' k).symm.trans es')).2
    have hst := cntK_step hr3 LX
    have hst' := cntK_step hr3' LX'
    rw [clG_s es, clG_s es']
    exact hP r _ _ ((ct st0.1 2 - (k + 1)) + cntK st0.1 (k + 1) LX) ((ct st0'.1 2 - (k + 1)) + cntK st0'.1 (k + 1) LX') hr2 (i1.less (by omega)) (j1.less (by omega)) i2 j2 q
