/-! ===== the reference: all claims of a right ===== -/
def Xtr (k : Nat → Int32) (s : Nat → Int32) (X : List (Nat → Int32)) : Prop := (X = [] ∧ ∀ r, r < ct s 2 → nI r ≠ k 24) ∨ ∃ x, X = [x] ∧ (LRow s x ∧ (k 24 = x 0 ∧ (x 1 = s (58 + 10 * ct x 0 + 0) ∧ (k 23 = x 2 ∧ (k 25 = x 3 ∧ ct x 4 = 0)))))
def Try (k : Nat → Int32) (s : Nat → Int32) : Prop := (∀ r, r < ct s 2 → nI r ≠ k 22) ∨ (k 23 = nI (ct k 23) ∧ ct k 23 < ct s 0)
def mC (k : Nat → Int32) (LX OS : List (Nat → Int32)) (r : Nat) (st : Sg) : Sg := if nI r = k 26 then cut0 st r else if nI r = k 22 then srv 1 r (ct st.1 (58 + 10 * r + 0)) (ct k 23) (wout st.1 r (ct st.1 (58 + 10 * r + 3))) 0 (cut0 st r) else clR LX OS r st
theorem Xtr.rows {k s : Nat → Int32} {X : List (Nat → Int32)} (h : Xtr k s X) : LRows s X := by
  intro row hr
  rcases h with ⟨rfl, -⟩ | ⟨x, rfl, h1, -⟩
  · cases hr
  · rw [List.mem_singleton] at hr
    rw [hr]
    exact h1
theorem Xtr.len {k s : Nat → Int32} {X : List (Nat → Int32)} (h : Xtr k s X) : X.length ≤ 1 := by
  rcases h with ⟨rfl, -⟩ | ⟨x, rfl, -⟩
  · decide
  · exact Nat.le_refl 1
set_option maxHeartbeats 4000000 in
theorem m_claimsOf {s : Nat → Int32} {X : List (Nat → Int32)} {r c : Nat} {st : Sg} {μ : Mm} (h : MV μ st) (hs : ∀ j, Sta j → st.1 j = s j) (h3 : Bn s 3 8) (h4 : Bn s 4 6) (hL : LRows s (LSo s)) (hO : ORows s (OSo s)) (hX : Xtr (μ.1 295) s X) (ht : Try (μ.1 295) s) (hr : r < ct s 2) (hc : Cst st (c + 1 + cntR r (LSo s ++ X))) :
    Op (F_X4_claimsOf (nI r) μ) (fun μ' => MV μ' (mC (μ.1 295) (LSo s ++ X) (OSo s) r st) ∧ Fs Fm μ μ') := by
  have hn2 := hc.1.2.2.1.2
  have hn0 := hc.1.1.2
  have e0 : ct st.1 0 = ct s 0 := ct_eq (hs 0 Sta0)
  have e1 : ct st.1 1 = ct s 1 := ct_eq (hs 1 Sta1)
  have e2 : ct st.1 2 = ct s 2 := ct_eq (hs 2 Sta2)
  have hr2 : r < ct st.1 2 := by omega
  have hf := hc.1.2.2.2.2.2 r hr2
  have ham := hf.2.2.2.1.2
  rw [cntR_app] at hc
  unfold F_X4_claimsOf
  refine op_eb (a := nI (ct st.1 (58 + 10 * r + 3))) ((m_rO (k := 3) (by omega) (by decide)).trans (congrArg some (by rw [h.1]; exact hf.2.2.2.1.1))) ?_
  refine op_eb (sZ_ok (k := r) rfl (by rw [ln308]; omega)) ?_
  generalize hm4 : uI μ 308 r (vp_nar .boolean 0) = m4
  have q4 : MV m4 (cut0 st r) := by
    rw [← hm4]
    refine ⟨(uI_ne (by decide)).trans h.1, h.2.1, (uI_ne (by decide)).trans h.2.2.1, ?_⟩
    rw [uI_eq, h.2.2.2]
    rfl
  have f4 : Fs Fm μ m4 := by rw [← hm4]; exact Fs.uI (Or.inr (Or.inr (Or.inr rfl)))
  have e295 : m4.1 295 = μ.1 295 := (f4.1 295 (by unfold Fm; decide)).1
  rw [e295]
  have hc4 : Cst (cut0 st r) (c + 1 + cntR r X + cntR r (LSo s)) := Cst.less (st := st) hc (by omega)
  have hw4 : ∀ {m : Mm} {p : Sg} {v : Nat}, MV m p → Rv p.1 → (∀ j, Sta j → p.1 j = s j) → v ≤ 999 → F_X4_without (nI v) (nI r) m = some (nI (wout p.1 r v)) := fun {m p v} hm hR hS hv => (m_wout (by omega) hv (by rw [hm.1]; exact (hR.2.2.2.2.2 r (by rw [ct_eq (hS 2 Sta2)]; exact hr)).2.2.2.2.1)).trans (congrArg some (by rw [hm.1]))
  have hown : ∀ {m : Mm} {p : Sg}, MV m p → Rv p.1 → (∀ j, Sta j → p.1 j = s j) → F_X4_rightOf (nI r) 0 m = some (nI (ct p.1 (58 + 10 * r + 0))) := fun {m p} hm hR hS => (m_rO (k := 0) (by omega) (by decide)).trans (congrArg some (by rw [hm.1]; exact (hR.2.2.2.2.2 r (by rw [ct_eq (hS 2 Sta2)]; exact hr)).1.1))
  by_cases e26 : nI r = μ.1 295 26
  · rw [show mC (μ.1 295) (LSo s ++ X) (OSo s) r st = cut0 st r from if_pos e26]
    exact op_t e26 (op_r ⟨q4, f4⟩)
  refine op_f e26 ?_
  by_cases e22 : nI r = μ.1 295 22
  · rw [show mC (μ.1 295) (LSo s ++ X) (OSo s) r st = srv 1 r (ct st.1 (58 + 10 * r + 0)) (ct (μ.1 295) 23) (wout st.1 r (ct st.1 (58 + 10 * r + 3))) 0 (cut0 st r) from (if_neg e26).trans (if_pos e22)]
    refine op_t e22 ?_
    obtain ⟨t1, t2⟩ := ht.resolve_left (fun z => z r hr e22)
    refine op_eb (hown q4 hc4.1 hs) (op_eb (hw4 q4 hc4.1 hs ham) ?_)
    rw [t1]
    refine op_mb (m_serves q4 hc4.1 hc4.2.1 (its := 1) (price := 0) (by decide) ⟨hr2, hf.1.2, by show ct (μ.1 295) 23 < ct st.1 0; omega, wout_le ham⟩ (by decide) (hc4.less (c' := 0 + 1) (by omega)).b56) (fun μ2 w2 => op_r ⟨w2.1, f4.tr w2.2⟩)
  rw [show mC (μ.1 295) (LSo s ++ X) (OSo s) r st = clR (LSo s ++ X) (OSo s) r st from (if_neg e26).trans (if_neg e22)]
  refine op_f e22 ?_
  refine op_mb (m_cl57 (r := r) h3 (ct s 3) qFuel 0 (ct st.1 (58 + 10 * r + 3)) (c + 1 + cntR r X) (cut0 st r) m4 (by omega) (by have := h3.2; unfold qFuel; omega) q4 hc4 hs hL ham hr) (fun o w => ?_)
  obtain ⟨k1, k2, k3⟩ := clL_keep (LSo s) (cut0 st r) (ct st.1 (58 + 10 * r + 3)) (c + 1 + cntR r X) hc4 hr2 (LRows.sta hL hs) ham
  rw [show rwT s 158 0 (ct s 3) = LSo s from rfl] at w
  unfold clR
  rw [clL_app]
  generalize clL r (LSo s) (cut0 st r, ct st.1 (58 + 10 * r + 3)) = p at *
  obtain ⟨st1, left⟩ := p
  have w1 : o.1 = nI left := w.1
  have w2 : MV o.2 st1 := w.2.1
  have w3 := w.2.2
  have k2 : ∀ j, Sta j → st1.1 j = st.1 j := k2
  have s2 : ∀ j, Sta j → st1.1 j = s j := fun j hj => (k2 j hj).trans (hs j hj)
  have k1 : Cst st1 (c + 1 + cntR r X) := k1
  have hle : left ≤ 999 := Nat.le_trans k3 ham
  have e5 : o.2.1 295 = μ.1 295 := ((w3.1 295 (by unfold Fm; decide)).1).trans e295
  have hr1 : r < ct st1.1 2 := by rw [ct_eq (s2 2 Sta2)]; exact hr
  rw [w1, e5]
  have mid : Op (if nI r = μ.1 295 24 then
      ((F_X4_lesser (μ.1 295 25) (nI left) o.2).bind fun o65 =>
      (F_X4_rightOf (nI r) (0 : Int32) o.2).bind fun o68 =>
      (F_X4_without o65 (nI r) o.2).bind fun o71 =>
      (F_X4_serves (1 : Int32) (nI r) o68 (μ.1 295 23) o71 (0 : Int32) o.2).bind fun o74 =>
      some ((nI left - o65), o74))
      else (some (nI left, o.2))) (fun z => z.1 = nI (clL r X (st1, left)).2 ∧ (MV z.2 (clL r X (st1, left)).1 ∧ Fs Fm o.2 z.2)) := by
    rcases hX with ⟨rfl, hn⟩ | ⟨x, rfl, x1, x2, x3, x4, x5, x6⟩
    · exact op_f (hn r hr) (op_r ⟨rfl, w2, Fs.rf⟩)
    · rw [clL, clL]
      by_cases e : ct x 0 = r
      · rw [if_pos e]
        refine op_t (by rw [x2, x1.1.1.1, e]) ?_
        rw [x5, x1.2.1.1, x4, x1.1.2.2.1]
        have hb3 := x1.2.1.2
        refine op_eb (m_les (by omega) (by omega)) ?_
        have hv : (if left < ct x 3 then left else ct x 3) ≤ left := by split <;> omega
        generalize hvv : (if left < ct x 3 then left else ct x 3) = v at hv
        refine op_eb (hown w2 k1.1 s2) (op_eb (hw4 w2 k1.1 s2 (by omega)) ?_)
        have hacc : ct x 1 = ct st1.1 (58 + 10 * r + 0) := by
          have := s2 (58 + 10 * r + 0) (StaR (by omega) (by decide))
          rw [ct_eq this, ← e]
          exact congrArg Int32.toNatClampNeg x3
        have h1c : cntR r [x] = 1 := by rw [cntR, if_pos e, cntR]
        rw [h1c] at k1
        refine op_mb (m_serves w2 k1.1 k1.2.1 (its := 1) (price := 0) (by decide) (acc := ct st1.1 (58 + 10 * r + 0)) (reach := ct x 2) ⟨hr1, (k1.1.2.2.2.2.2 r hr1).1.2, by rw [ct_eq (s2 0 Sta0)]; exact x1.1.2.2.2, wout_le (show v ≤ 999 by omega)⟩ (by decide) k1.b56) (fun μ2 w4 => op_r ?_)
        rw [pk_sub hv, hacc, x6]
        exact ⟨rfl, w4.1, w4.2⟩
      · rw [if_neg e]
        refine op_f (fun z => e ?_) (op_r ⟨rfl, w2, Fs.rf⟩)
        rw [x2, x1.1.1.1] at z
        exact (nI_inj (by omega) (by have := x1.1.1.2; omega) z).symm
  refine op_mb mid (fun z wz => ?_)
  obtain ⟨y1, y2, y3⟩ := clL_keep X st1 left (c + 1) k1 hr1 (LRows.sta hX.rows s2) hle
  generalize clL r X (st1, left) = p at *
  obtain ⟨st2, left2⟩ := p
  obtain ⟨z1, z2, z3⟩ := wz
  have z1 : z.1 = nI left2 := z1
  have z2 : MV z.2 st2 := z2
  have y1 : Cst st2 (c + 1) := y1
  have y2 : ∀ j, Sta j → st2.1 j = s j := fun j hj => (y2 j hj).trans (s2 j hj)
  have hle2 : left2 ≤ 999 := Nat.le_trans y3 hle
  have hr3 : r < ct st2.1 2 := by rw [ct_eq (y2 2 Sta2)]; exact hr
  have hO2 : ORows st2.1 (OSo s) := hO.sta y2
  have hf2 := y1.1.2.2.2.2.2 r hr3
  rw [z1]
  have h46 := h4.2
  have oby1 := m_obyL (s := s) (r := r) z2 h4 y1.1.vt y2 (by omega) (ct s 4) qFuel 0 (by omega) (by unfold qFuel; omega) (fun row hrow => ⟨(hO row hrow).1.1.1, by have := (hO row hrow).1.1.2; omega⟩)
  unfold F_X4_optionBy
  refine op_mb oby1 (fun o4 w5 => ?_)
  rw [show rwT s 206 0 (ct s 4) = OSo s from rfl] at w5
  unfold clE
  show Op _ (fun μ' => MV μ' ((oby st2.1 r (OSo s)).elim (srv 0 r (ct st2.1 (58 + 10 * r + 0)) (ct st2.1 (58 + 10 * r + 1)) left2 0 st2) (fun row => srv 2 r (ct row 1) (ct row 2) (wout st2.1 r left2) (ct row 5) st2)) ∧ Fs Fm μ μ')
  have fr := (f4.tr w3).tr z3
  rcases w5 with ⟨rfl, e⟩ | ⟨o', ho, rfl, e⟩
  · rw [e]
    refine op_t rfl ?_
    refine op_eb (hown z2 y1.1 y2) ?_
    refine op_eb (a := nI (ct st2.1 (58 + 10 * r + 1))) ((m_rO (k := 1) (by omega) (by decide)).trans (congrArg some (by rw [z2.1]; exact hf2.2.1.1))) ?_
    exact op_mb (m_serves z2 y1.1 y1.2.1 (its := 0) (price := 0) (by decide) ⟨hr3, hf2.1.2, Nat.lt_of_le_of_lt hf2.2.1.2 hf2.2.2.1.2, hle2⟩ (by decide) y1.b56) (fun μ2 w => op_r ⟨w.1, fr.tr w.2⟩)
  · rw [e]
    have hrow := hO2 _ (oby_mem e).1
    have er := (oby_mem e).2
    have g : ∀ k, k < 6 → F_X4_optionOf (nI o') (nI k) z.2 = some (rwR s 206 o' k) := fun k hk => (m_oO (by omega) hk).trans (congrArg some (by rw [z2.1, y2 _ (StaL (by omega)), rwR_k hk]))
    refine op_f (fun y => ?_) ?_
    · have := nI_pos' (n := o') (by omega)
      rw [y] at this
      exact absurd this (by decide)
    refine op_eb ((g 1 (by decide)).trans (congrArg some hrow.1.2.1.1)) ?_
    refine op_eb ((g 2 (by decide)).trans (congrArg some hrow.1.2.2.1)) ?_
    refine op_eb (hw4 z2 y1.1 y2 hle2) ?_
    refine op_eb ((g 5 (by decide)).trans (congrArg some hrow.2.2.1)) ?_
    exact op_mb (m_serves z2 y1.1 y1.2.1 (its := 2) (by decide) ⟨hr3, hrow.1.2.1.2, hrow.1.2.2.2, wout_le hle2⟩ hrow.2.2.2 y1.b56) (fun μ2 w => op_r ⟨w.1, fr.tr w.2⟩)
