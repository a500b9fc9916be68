/-! ===== a right tried at one reach: both ways ===== -/
theorem cntR_kp {r q : Nat} (hr : r < 10) (hq : q ≠ r) : ∀ (L : List (Nat → Int32)), cntR q (kpL (nI r) L) = cntR q L := by
  intro L
  induction L with
  | nil => rfl
  | cons a L ih =>
    rw [kpL]
    by_cases e : a 0 = nI r
    · rw [if_pos e, ih, cntR, if_neg (by rw [ct_j e hr]; exact fun z => hq z.symm), Nat.zero_add]
    · rw [if_neg e, cntR, cntR, ih]
theorem clS_Kp {LS OS : List (Nat → Int32)} {sil : Nat → Bool} {s0 : Nat → Int32} (hL : LRows s0 LS) (hO : ORows s0 OS) : Kp (clS LS OS sil) LS s0 := by
  intro r st c hr hc hs
  have e2 : ct st.1 2 = ct s0 2 := ct_eq (hs 2 Sta2)
  unfold clS
  by_cases e : sil r = true
  · rw [if_pos e]
    exact ⟨Cst.less (st := st) hc (by omega), hs⟩
  · rw [if_neg e]
    obtain ⟨-, y2, y3⟩ := clR_ind (P := fun _ => True) (fun _ _ _ _ _ _ _ _ _ _ => trivial) hc (show r < ct st.1 2 by omega) (hL.sta hs) (hO.sta hs) trivial
    exact ⟨y2, fun j hj => (y3 j hj).trans (hs j hj)⟩
def trX (s : Nat → Int32) (r j : Nat) : Nat → Int32 := rw6 (nI r) 0 (nI j) (s (58 + 10 * r + 3)) 0 1
def trL (s : Nat → Int32) (r j : Nat) : List (Nat → Int32) := kpL (nI r) (LSo s) ++ [trX s r j]
def trO (s : Nat → Int32) (r : Nat) : List (Nat → Int32) := kpL (nI r) (OSo s)
def trK (r j : Nat) : Nat → Int32 := fun q => if q = 22 then nI r else if q = 23 then nI j else -1
section TRY
variable {s fl cut : Nat → Int32} {g : Nat → Int64} {r j T : Nat}
theorem trX_row (h : Mok s (LSo s) (OSo s)) (hr : r < ct s 2) (hj : j < ct s 0) : LRow s (trX s r j) ∧ (ct (trX s r j) 0 = r ∧ (ct (trX s r j) 2 = j ∧ ct (trX s r j) 3 = ct s (58 + 10 * r + 3))) := by
  have h2 := h.1.2.2.1.2
  have h0 := h.1.1.2
  have hf := h.1.2.2.2.2.2 r hr
  have x0 : trX s r j 0 = nI r := rfl
  have x1 : trX s r j 1 = nI 0 := rfl
  have x2 : trX s r j 2 = nI j := rfl
  have x3 : trX s r j 3 = s (58 + 10 * r + 3) := rfl
  have x4 : trX s r j 4 = nI 0 := rfl
  generalize trX s r j = x at *
  have c0 := ct_nI x0 (by omega)
  have c1 := ct_nI x1 (by decide)
  have c2 := ct_nI x2 (by omega)
  have c4 := ct_nI x4 (by decide)
  have c3 : ct x 3 = ct s (58 + 10 * r + 3) := congrArg Int32.toNatClampNeg x3
  refine ⟨⟨⟨⟨by rw [c0]; exact x0, by rw [c0]; exact hr⟩, ⟨by rw [c1]; exact x1, by rw [c1]; have := hf.1.2; omega⟩, ⟨by rw [c2]; exact x2, by rw [c2]; exact hj⟩⟩, ⟨by rw [c3, x3]; exact hf.2.2.2.1.1, by rw [c3]; exact hf.2.2.2.1.2⟩, ⟨by rw [c4]; exact x4, by rw [c4]; decide⟩⟩, c0, c2, c3⟩
theorem tr_mok (h : Mok s (LSo s) (OSo s)) (h3 : Bn s 3 8) (hr : r < ct s 2) (hj : j < ct s 0) : Mok s (trL s r j) (trO s r) := by
  obtain ⟨h1, h2, hL, hl, hO, h6, h7, h8⟩ := id h
  have hlen : (LSo s).length = ct s 3 := rwT_len _ _
  have h38 := h3.2
  refine ⟨h1, h2, fun x hx => ?_, ?_, fun x hx => hO x (kpL_mem hx).1, h6, h7, h8⟩
  · rcases List.mem_append.mp hx with z | z
    · exact hL x (kpL_mem z).1
    · rw [List.mem_singleton] at z
      rw [z]
      exact (trX_row h hr hj).1
  · unfold trL
    rw [List.length_append, List.length_singleton]
    have := kpL_len (v := nI r) (LSo s)
    omega
theorem n1_ne {q : Nat} (hq : q < 10) : ¬ nI q = -1 := fun z => by
  have h1 := nI_pos' (n := q) (by omega)
  rw [z] at h1
  exact absurd h1 (by decide)
theorem tr_sim (h : Mon s) (hr : r < ct s 2) (hj : j < ct s 0) : (mst (trL s r j) (trO s r) (silP (-1)) s g fl cut).1 (58 + 10 * r + 7) = (mstM (trK r j) [] s g fl cut).1 (58 + 10 * r + 7) := by
  have hm := h.1
  have h210 := hm.1.2.2.1.2
  have hm' := tr_mok hm h.2.1 hr hj
  have ht : Try (trK r j) s := Or.inr ⟨by
    have : trK r j 23 = nI j := rfl
    exact nI_ct this (by have := hm.1.1.2; omega), by
    rw [ct_nI (show trK r j 23 = nI j from rfl) (by have := hm.1.1.2; omega)]
    exact hj⟩
  have cj : ct (trK r j) 23 = j := ct_nI (show trK r j 23 = nI j from rfl) (by have := hm.1.1.2; omega)
  have hX : Xtr (trK r j) s [] := noX rfl h210
  obtain ⟨b1, b2, b3, b4, b5, b6, b7, b8⟩ := bgn_ok (g := g) (fl := fl) (cut := cut) hm'
  obtain ⟨hbg, h0⟩ := h.bg (g := g) (fl := fl) (cut := cut)
  obtain ⟨hLX, hlen⟩ := h.lx hX
  have hO := hm.2.2.2.2.1
  have hK' := mC_keep (s0 := (bgn (OSo s) s g fl cut).1) ht hLX hO h0
  have hK := clS_Kp (sil := silP (-1)) b3 b4
  obtain ⟨xr, x0, x2, x3⟩ := trX_row hm hr hj
  have e2 : ct (bgn (trO s r) s g fl cut).1 2 = ct s 2 := b7
  have key := clG_sim (k := ct s 2) ⟨b2, b1, b5, b6⟩ hbg hm'.2.2.2.1 hlen hK hK' (show Sim (bgn (trO s r) s g fl cut) (bgn (OSo s) s g fl cut) from ⟨fun _ _ => rfl, rfl, fun _ _ => rfl⟩) (fun q st st' c c' hq hc hc' hs hs' S => by
    rw [e2] at hq
    have hs2 : ∀ i, Sta i → st.1 i = s i := fun i hi => (hs i hi).trans (h0 i hi)
    have hs2' : ∀ i, Sta i → st'.1 i = s i := fun i hi => (hs' i hi).trans (h0 i hi)
    have f2 : ct st.1 2 = ct s 2 := ct_eq (hs2 2 Sta2)
    have f2' : ct st'.1 2 = ct s 2 := ct_eq (hs2' 2 Sta2)
    have es : ¬ silP (-1) q = true := fun z => n1_ne (show q < 10 by omega) (of_decide_eq_true z)
    unfold clS mC
    rw [if_neg es, if_neg (show ¬ nI q = trK r j 26 from n1_ne (by omega))]
    by_cases e : q = r
    · subst e
      rw [if_pos (show nI q = trK q j 22 from rfl), cj]
      have hf := hc.1.2.2.2.2.2 q (by omega)
      have hf' := hc'.1.2.2.2.2.2 q (by omega)
      have a3 : ct st.1 (58 + 10 * q + 3) = ct s (58 + 10 * q + 3) := ct_eq (hs2 _ (StaR (by omega) (by decide)))
      have a3' : ct st'.1 (58 + 10 * q + 3) = ct s (58 + 10 * q + 3) := ct_eq (hs2' _ (StaR (by omega) (by decide)))
      have hcan : ∀ x, x ∈ LSo s → x 0 = nI (ct x 0) := fun x hx => (hm.2.2.1 x hx).1.1.1
      have hcanO : ∀ x, x ∈ OSo s → x 0 = nI (ct x 0) := fun x hx => (hO x hx).1.1.1
      have c1 : cntR q (trL s q j) = cntR q (kpL (nI q) (LSo s)) + 1 := by
        unfold trL
        rw [cntR_app, cntR, if_pos x0, cntR]
      rw [c1] at hc
      have am := hf.2.2.2.1.2
      rw [a3] at am
      have ha : Ars (cut0 st q) q (ct (trX s q j) 1) j (wout st.1 q (ct s (58 + 10 * q + 3))) := ⟨by show q < ct st.1 2; omega, by show ct (trX s q j) 1 < ct st.1 1; rw [ct_eq (hs2 1 Sta1)]; exact xr.1.2.1.2, by show j < ct st.1 0; rw [ct_eq (hs2 0 Sta0)]; exact hj, wout_le am⟩
      have ha' : Ars (cut0 st' q) q (ct st'.1 (58 + 10 * q + 0)) j (wout st.1 q (ct s (58 + 10 * q + 3))) := ⟨by show q < ct st'.1 2; omega, hf'.1.2, by show j < ct st'.1 0; rw [ct_eq (hs2' 0 Sta0)]; exact hj, wout_le am⟩
      have k : Cst (cut0 st q) (c + 1 + 1) := Cst.less (st := st) hc (by omega)
      have k' : Cst (cut0 st' q) (c' + 1) := Cst.less (st := st') hc' (by omega)
      have q1 := sim_srv (its := 1) (price := ct (trX s q j) 4) (price' := 0) k k' ha ha' (sim_cut S)
      obtain ⟨z1, z2⟩ := Cst.srv (its := 1) (price := ct (trX s q j) 4) k ha
      have cl : clL q (trL s q j) (cut0 st q, ct st.1 (58 + 10 * q + 3)) = (srv 1 q (ct (trX s q j) 1) j (wout st.1 q (ct s (58 + 10 * q + 3))) (ct (trX s q j) 4) (cut0 st q), 0) := by
        unfold trL
        rw [clL_app, clL_no _ _ (kpL_ct hcan), clL, if_pos x0, clL, x2, x3, a3]
        show (srv 1 q (ct (trX s q j) 1) j (wout st.1 q (if ct s (58 + 10 * q + 3) < ct s (58 + 10 * q + 3) then ct s (58 + 10 * q + 3) else ct s (58 + 10 * q + 3))) (ct (trX s q j) 4) (cut0 st q), ct s (58 + 10 * q + 3) - (if ct s (58 + 10 * q + 3) < ct s (58 + 10 * q + 3) then ct s (58 + 10 * q + 3) else ct s (58 + 10 * q + 3))) = _
        rw [if_neg (Nat.lt_irrefl _), Nat.sub_self]
      unfold clR
      rw [cl]
      unfold clE
      generalize srv 1 q (ct (trX s q j) 1) j (wout st.1 q (ct s (58 + 10 * q + 3))) (ct (trX s q j) 4) (cut0 st q) = S1 at *
      show Sim ((oby S1.1 q (trO s q)).elim (srv 0 q (ct S1.1 (58 + 10 * q + 0)) (ct S1.1 (58 + 10 * q + 1)) 0 0 S1) (fun row => srv 2 q (ct row 1) (ct row 2) (wout S1.1 q 0) (ct row 5) S1)) _
      rw [show oby S1.1 q (trO s q) = none from oby_no _ (kpL_ct hcanO)]
      have fz := z1.1.2.2.2.2.2 q (by rw [ct_eq (z2 2 Sta2)]; show q < ct st.1 2; omega)
      have q2 := sim_zero (its := 0) (price := 0) z1 (show Ars S1 q (ct S1.1 (58 + 10 * q + 0)) (ct S1.1 (58 + 10 * q + 1)) 0 from ⟨by rw [ct_eq (z2 2 Sta2)]; show q < ct st.1 2; omega, fz.1.2, Nat.lt_of_le_of_lt fz.2.1.2 fz.2.2.1.2, Nat.zero_le _⟩) q1
      rw [a3', ← sim_wout (by omega) S (ct s (58 + 10 * q + 3))]
      exact q2
    · rw [if_neg (show ¬ nI q = trK r j 22 from fun z => e (nI_inj (by omega) (by omega) z)), List.append_nil]
      have r10 : r < 10 := by omega
      have eL : clR (trL s r j) (trO s r) q st = clR (LSo s) (OSo s) q st := by
        have c0 : ∀ p : Sg × Nat, clL q (trL s r j) p = clL q (LSo s) p := fun p => by
          unfold trL
          rw [clL_app, clL, if_neg (by rw [x0]; exact fun z => e z.symm), clL, clL_kp r10 e]
        unfold clR
        rw [c0]
        unfold clE trO
        rw [oby_kp r10 e]
      have ec : cntR q (trL s r j) = cntR q (LSo s) := by
        unfold trL
        rw [cntR_app, cntR_kp r10 e, cntR, if_neg (by rw [x0]; exact fun z => e z.symm), cntR, Nat.add_zero]
      rw [eL]
      rw [ec] at hc
      rw [List.append_nil] at hc'
      exact sim_clR hc hc' (by omega) (hm.2.2.1.sta hs2) (hm.2.2.1.sta hs2') (hO.sta hs2) (hO.sta hs2') S) (by omega)
  have q := key.2.2 r (by omega)
  unfold mst mstM
  rw [← clG_clA]
  exact q
end TRY
