/-! ===== the class serves a claim ===== -/
def Bn (s : Nat → Int32) (k n : Nat) : Prop := s k = nI (ct s k) ∧ ct s k ≤ n
/-- a right's own numbers -/
def Rf (s : Nat → Int32) (r : Nat) : Prop := (s (58 + 10 * r + 0) = nI (ct s (58 + 10 * r + 0)) ∧ ct s (58 + 10 * r + 0) < ct s 1) ∧ ((s (58 + 10 * r + 1) = nI (ct s (58 + 10 * r + 1)) ∧ ct s (58 + 10 * r + 1) ≤ ct s (58 + 10 * r + 5)) ∧ ((s (58 + 10 * r + 5) = nI (ct s (58 + 10 * r + 5)) ∧ ct s (58 + 10 * r + 5) < ct s 0) ∧ (Bn s (58 + 10 * r + 3) 999 ∧ (Bn s (58 + 10 * r + 4) 90 ∧ (Bn s (58 + 10 * r + 6) 100 ∧ Bn s (58 + 10 * r + 2) 99)))))
def Rv (s : Nat → Int32) : Prop := Bn s 0 6 ∧ (Bn s 1 5 ∧ (Bn s 2 10 ∧ (Vt s ∧ ((∀ q, q < ct s 0 → Bn s (14 + q) 999) ∧ ∀ r, r < ct s 2 → Rf s r))))
def Flo (n : Nat) (fl : Nat → Int32) : Prop := ∀ q, q < n → fl q = nI (ct fl q) ∧ ct fl q < 2 ^ 30
def GF (st : Sg) : Nat → Nat → Int32 := fun q k => if k = 2 then st.2.2.1 q else st.1 (394 + 5 * q + k)
/-- the numbers that no claim changes -/
def Sta (j : Nat) : Prop := j < 26 ∨ ((36 ≤ j ∧ j < 53) ∨ (j = 54 ∨ (j = 55 ∨ (j = 57 ∨ ((58 ≤ j ∧ (j < 242 ∧ ((j - 58) % 10 ≠ 7 ∧ (j - 58) % 10 ≠ 8))) ∨ ((158 ≤ j ∧ j < 242) ∨ 424 ≤ j))))))
theorem Bn.eq {s s' : Nat → Int32} {k n : Nat} (h : Bn s k n) (e : s' k = s k) : Bn s' k n := by unfold Bn at h ⊢; rw [ct_eq e, e]; exact h
theorem Rv.sta {s s' : Nat → Int32} (h : Rv s) (hs : ∀ j, Sta j → s' j = s j) : Rv s' := by
  obtain ⟨a0, a1, a2, a3, a4, a5⟩ := h
  have v : ∀ j, (j < 26 ∨ ((36 ≤ j ∧ j < 53) ∨ (j = 54 ∨ (j = 55 ∨ (j = 57 ∨ ((58 ≤ j ∧ (j < 242 ∧ ((j - 58) % 10 ≠ 7 ∧ (j - 58) % 10 ≠ 8))) ∨ ((158 ≤ j ∧ j < 242) ∨ 424 ≤ j))))))) → s' j = s j := hs
  have c0 : ct s' 0 = ct s 0 := ct_eq (v 0 (by omega))
  have c1 : ct s' 1 = ct s 1 := ct_eq (v 1 (by omega))
  have c2 : ct s' 2 = ct s 2 := ct_eq (v 2 (by omega))
  refine ⟨a0.eq (v 0 (by omega)), a1.eq (v 1 (by omega)), a2.eq (v 2 (by omega)), ?_, ?_, ?_⟩
  · unfold Vt at a3 ⊢
    rw [ct_eq (v 5 (by omega)), ct_eq (v 7 (by omega)), v 5 (by omega), v 7 (by omega)]
    exact a3
  · rw [c0]
    exact fun q hq => (a4 q hq).eq (v _ (by have := a0.2; omega))
  · rw [c2]
    intro r hr
    have h10 := a2.2
    have q := a5 r hr
    unfold Rf at q ⊢
    have e0 := v (58 + 10 * r + 0) (by omega)
    have e1 := v (58 + 10 * r + 1) (by omega)
    have e5 := v (58 + 10 * r + 5) (by omega)
    rw [ct_eq e0, ct_eq e1, ct_eq e5, e0, e1, e5, c0, c1]
    exact ⟨q.1, q.2.1, q.2.2.1, q.2.2.2.1.eq (v _ (by omega)), q.2.2.2.2.1.eq (v _ (by omega)), q.2.2.2.2.2.1.eq (v _ (by omega)), q.2.2.2.2.2.2.eq (v _ (by omega))⟩
theorem nI_neg_sub {a b : Nat} (h : b ≤ a) : nI a + (-nI b) = nI (a - b) := by
  rw [← Int32.sub_eq_add_neg, pk_sub h]
/-- a state of the class after a claim: its four tables and the sum of what was banked tell it -/
theorem SV.claim {μ μ' : Mm} {b : Nat} {LS OS : List (Nat → Int32)} {n0 : Nat} {cu : Nat → Int32} {st : Sg} {its r acc reach w price : Nat} {fC fG fR fA : Nat → Nat → Int32}
    (h : SV μ b LS OS n0 (GF st) cu st.1 st.2.1) (hn0 : n0 = ct st.1 0) (hv : Rv st.1) (hr : r < ct st.1 2) (ha : acc < 5) (hg : reach < 6) (hc : Bn st.1 56 18)
    (hT : T4 μ' b (ct st.1 56 + 1) fC n0 fG (ct st.1 2) fR (ct st.1 1) fA) (hF : Fs (fun a => S4 b a ∨ (a = b ∨ (a = b + 7 ∨ a = b + 11))) μ μ') (e16 : μ'.1 b = fun j => if j = 16 then μ.1 b 16 + nI (bkO its r reach w st) else μ.1 b j)
    (hC : ∀ q k, q ≤ ct st.1 56 → k < 8 → fC q k = if q = ct st.1 56 then rowF (nI its) (nI r) (nI acc) (nI reach) (nI w) (nI (gotO its r reach w st)) (nI (bkO its r reach w st)) (nI (backO its r reach w st)) k else st.1 (242 + 8 * q + k))
    (hG : ∀ q k, q < n0 → k < 5 → fG q k = if k = 2 then srvF its r reach w st q else if q = ct st.1 (58 + 10 * r + 5) ∧ k = 4 then st.1 (394 + 5 * q + k) + nI (backO its r reach w st) else if q = reach ∧ k = 3 then st.1 (394 + 5 * q + k) + nI (gotO its r reach w st) else st.1 (394 + 5 * q + k))
    (hR : ∀ q k, q < ct st.1 2 → k < 10 → fR q k = if k = 9 then cu q else if q = r ∧ k = 8 then st.1 (58 + 10 * q + k) + nI (backO its r reach w st) else if q = r ∧ k = 7 then st.1 (58 + 10 * q + k) + nI (gotO its r reach w st) else st.1 (58 + 10 * q + k))
    (hA : ∀ q k, q < ct st.1 1 → k < 2 → fA q k = if q = ct st.1 (58 + 10 * r + 0) ∧ k = 0 then st.1 (26 + 5 * k + q) + nI (bkO its r reach w st) else if q = acc ∧ k = 1 then st.1 (26 + 5 * k + q) + nI (gotO its r reach w st) else st.1 (26 + 5 * k + q))
    (hB : ∀ k, k < 5 → μ'.2.1 (b + 7) k = srvG its r acc reach w price st k) (hE : ∀ k, k < 10 → μ'.2.1 (b + 11) k = srvG its r acc reach w price st (5 + k)) :
    SV μ' b LS OS n0 (GF (srv its r acc reach w price st)) cu (srv its r acc reach w price st).1 (srv its r acc reach w price st).2.1 := by
  obtain ⟨a0, a1, a2, a3, a4, a5⟩ := id hv
  have h0 := a0.2
  have h1 := a1.2
  have h2 := a2.2
  have hf := a5 r hr
  have ho : ct st.1 (58 + 10 * r + 0) < 5 := by have := hf.1.2; omega
  have ht : ct st.1 (58 + 10 * r + 5) < 6 := by have := hf.2.2.1.2; omega
  have hc2 : ct st.1 56 < 19 := by have := hc.2; omega
  have hr10 : r < 10 := by omega
  have v : ∀ j, (j < 26 ∨ ((36 ≤ j ∧ j < 53) ∨ (j = 54 ∨ (j = 55 ∨ (j = 57 ∨ ((58 ≤ j ∧ (j < 242 ∧ ((j - 58) % 10 ≠ 7 ∧ (j - 58) % 10 ≠ 8))) ∨ ((158 ≤ j ∧ j < 242) ∨ 424 ≤ j))))))) → srvS its r acc reach w st j = st.1 j := fun j hj => srvS_sta hr10 ha ho hj hg ht hc2
  have c0 : ct (srvS its r acc reach w st) 0 = ct st.1 0 := ct_eq (v 0 (by omega))
  have c1 : ct (srvS its r acc reach w st) 1 = ct st.1 1 := ct_eq (v 1 (by omega))
  have c2 : ct (srvS its r acc reach w st) 2 = ct st.1 2 := ct_eq (v 2 (by omega))
  have c4 : ct (srvS its r acc reach w st) 424 = ct st.1 424 := ct_eq (v 424 (by omega))
  have c3 : ct (srvS its r acc reach w st) 56 = ct st.1 56 + 1 := by
    show (srvS its r acc reach w st 56).toNatClampNeg = _
    rw [srvS_56 hr10 ha ho, hc.1, nI_1, nI_clamp (by omega)]
  have k : ∀ j, (j = 1 ∨ (j = 2 ∨ (j = 3 ∨ (j = 4 ∨ (j = 10 ∨ (j = 12 ∨ (j = 13 ∨ (j = 14 ∨ (j = 15 ∨ (j = 20 ∨ j = 21)))))))))) → μ'.1 (b + j) = μ.1 (b + j) := fun j hj => (hF.1 _ (by unfold S4; omega)).1
  show SV μ' b LS OS n0 (GF (srv its r acc reach w price st)) cu (srvS its r acc reach w st) (srvG its r acc reach w price st)
  unfold SV
  rw [c0, c1, c2, c3, c4]
  refine ⟨?_, ?_, ?_, ?_, ?_, ?_, ?_, ?_, ?_, ?_, hB, hE, ?_, ?_⟩
  · exact (h.rch.keep (k 1 (by omega)) (k 2 (by omega))).congr (fun q j hq hj => (v _ (by omega)).symm)
  · exact hT.2.2.2.congr (fun q j hq hj => (hA q j hq hj).trans (srvS_acc hr10 ha ho (by omega) hj).symm)
  · refine hT.2.2.1.congr (fun q j hq hj => (hR q j hq hj).trans ?_)
    by_cases e9 : j = 9
    · rw [if_pos e9, if_pos e9]
    · rw [if_neg e9, if_neg e9, srvS_rgt hr10 ha ho hc2 (by omega) hj]
  · exact h.lea.keep (k 12 (by omega)) (k 13 (by omega))
  · exact h.opt.keep (k 14 (by omega)) (k 15 (by omega))
  · exact hT.1.congr (fun q j hq hj => (hC q j (by omega) hj).trans (srvS_clm hr10 ha ho (by omega) hc2 hj).symm)
  · refine hT.2.1.congr (fun q j hq hj => (hG q j hq hj).trans ?_)
    show _ = if j = 2 then srvF its r reach w st q else srvS its r acc reach w st (394 + 5 * q + j)
    by_cases e2 : j = 2
    · rw [if_pos e2, if_pos e2]
    · rw [if_neg e2, if_neg e2, srvS_gau hr10 ha ho hc2 (by omega) hj]
  · exact (h.mon.keep (k 20 (by omega)) (k 21 (by omega))).congr (fun q j hq hj => (v _ (by omega)).symm)
  · rw [k 3 (by omega)]; exact fun j hj => (h.sea j hj).trans (v _ (by omega)).symm
  · rw [k 4 (by omega)]; exact fun j hj h7 => (h.yea j hj (by have e7 := ct_eq (v 7 (by omega)); omega)).trans (v _ (by omega)).symm
  · rw [k 10 (by omega)]; exact fun j hj => (h.rnk j hj).trans (senI_eq (v 2 (by omega)) (fun o ho => v _ (by omega)) j).symm
  · rw [e16, srvS_53 hr10 ha ho, v 7 (by omega), v 5 (by omega), v 6 (by omega), v 54 (by omega), v 55 (by omega)]
    obtain ⟨z1, z2, z3, z4, z5, z6⟩ := h.sca
    exact ⟨z1, z2, z3, congrArg (· + nI (bkO its r reach w st)) z4, z5, z6⟩
section OWN
variable {μ : Mm} {b : Nat} {LS OS : List (Nat → Int32)} {n0 : Nat} {cu : Nat → Int32} {st : Sg}
theorem SV.t4 (h : SV μ b LS OS n0 (GF st) cu st.1 st.2.1) : T4 μ b (ct st.1 56) (fun c k => st.1 (242 + 8 * c + k)) n0 (GF st) (ct st.1 2) (fun r k => if k = 9 then cu r else st.1 (58 + 10 * r + k)) (ct st.1 1) (fun a k => st.1 (26 + 5 * k + a)) := ⟨h.clm, h.gau, h.rgt, h.acc⟩
theorem SV.rgk (h : SV μ b LS OS n0 (GF st) cu st.1 st.2.1) {r k : Nat} (hr : r < ct st.1 2) (hk : k < 9) : F_X2_get (b + 8) (nI r) (nI k) μ = some (st.1 (58 + 10 * r + k)) := by
  rw [x2_get h.rgt hr (by omega), if_neg (by omega)]
theorem sub_neg_nI {a x : Nat} (h : x ≤ a) : nI a + (-nI x) = nI a - nI x := (Int32.sub_eq_add_neg _ _).symm
set_option maxHeartbeats 4000000 in
theorem x1_own (h : SV μ b LS OS n0 (GF st) cu st.1 st.2.1) (hb : kd b = 1) (hn0 : n0 = ct st.1 0) (hv : Rv st.1) (hfl : Flo n0 st.2.2.1) {r w : Nat} (hr : r < ct st.1 2) (hw : w ≤ 999) (hc : Bn st.1 56 18) :
    Op (F_X1_claimOfOwner b (nI r) (nI w) μ) (fun μ' => SV μ' b LS OS n0 (GF (srv 0 r (ct st.1 (58 + 10 * r + 0)) (ct st.1 (58 + 10 * r + 1)) w 0 st)) cu (srv 0 r (ct st.1 (58 + 10 * r + 0)) (ct st.1 (58 + 10 * r + 1)) w 0 st).1 (srv 0 r (ct st.1 (58 + 10 * r + 0)) (ct st.1 (58 + 10 * r + 1)) w 0 st).2.1 ∧ Fs (Blk b) μ μ') := by
  obtain ⟨a0, a1, a2, a3, a4, a5⟩ := id hv
  obtain ⟨f0, f1, f5, f3, f4, f6, f2⟩ := a5 r hr
  have h0 := a0.2
  have h1 := a1.2
  have hcc := hc.2
  unfold F_X1_claimOfOwner
  refine op_eb ((h.rgk (k := 0) hr (by decide)).trans (congrArg some f0.1)) ?_
  refine op_eb ((h.rgk (k := 1) hr (by decide)).trans (congrArg some f1.1)) ?_
  refine op_eb ((h.rgk (k := 6) hr (by decide)).trans (congrArg some f6.1)) ?_
  refine op_eb ((h.rgk (k := 4) hr (by decide)).trans (congrArg some f4.1)) ?_
  refine op_eb ((h.rgk (k := 5) hr (by decide)).trans (congrArg some f5.1)) ?_
  generalize hkp : ct st.1 (58 + 10 * r + 6) = kp at *
  generalize hrt : ct st.1 (58 + 10 * r + 4) = rt at *
  generalize hto : ct st.1 (58 + 10 * r + 5) = to at *
  generalize hre : ct st.1 (58 + 10 * r + 1) = reach at *
  generalize how : ct st.1 (58 + 10 * r + 0) = own at *
  have hmn : ∀ q, q < ct st.1 0 → st.1 (14 + q) = nI (ct st.1 (14 + q)) ∧ ct st.1 (14 + q) < 2 ^ 30 := fun q hq => ⟨(a4 q hq).1, by have := (a4 q hq).2; omega⟩
  have hkp2 := f6.2
  have hrt2 := f4.2
  rw [hkp] at hkp2
  rw [hrt] at hrt2
  refine op_eb (x1_lsp (F := ct st.2.2.1) h.gau h.rch f1.2 (by omega) (by omega) hfl hmn (by omega)) ?_
  generalize hmo : lspN (fun q => ct st.2.2.1 q - ct st.1 (14 + q)) reach (to - reach) w = most
  have hmw : most ≤ w := by rw [← hmo]; exact lspN_lel _ _ _
  rw [show μ.1 (b + 18) 2 = nI n0 from h.gau.2.1]
  refine op_eb (x1_lsp (F := ct st.2.2.1) h.gau h.rch (by omega) (Nat.le_refl n0) (by omega) hfl hmn (by omega)) ?_
  generalize hsp : lspN (fun q => ct st.2.2.1 q - ct st.1 (14 + q)) to (n0 - to) most = sp
  have hsm : sp ≤ most := by rw [← hsp]; exact lspN_lel _ _ _
  obtain ⟨got, t1, t2, t3, t4⟩ := x1_bin (μ := μ) (sp := sp) (kp := kp) (rt := rt) (w := most) (by omega) hkp2 (by omega) (by omega)
  refine op_eb t1 ?_
  have hgot : gotO 0 r reach w st = got := by
    unfold gotO kpO rtO
    rw [if_pos rfl, if_pos rfl, hkp, hrt, hto]
    refine got_eq hkp2 (by omega) f1.2 (by omega) ?_ ?_ ?_
    · rw [hmo]; exact t2
    · rw [hmo, ← hn0, hsp]; exact t3
    · rw [hmo, ← hn0, hsp]; exact t4
  have k1 : got * kp ≤ got * 100 := Nat.mul_le_mul_left _ hkp2
  have k2 : (got - got * kp / 100) * rt ≤ (got - got * kp / 100) * 100 := Nat.mul_le_mul_left _ (by omega)
  have hbk : bkO 0 r reach w st = got * kp / 100 := by unfold bkO kpO; rw [hgot, if_pos rfl, hkp]
  have hba : backO 0 r reach w st = backN kp rt got := by unfold backO rtO; rw [hgot, hbk, if_pos rfl, hrt]; rfl
  have hbl := backN_le (kp := kp) (x := got) (show rt ≤ 100 by omega)
  refine op_mb (h.t4.addC hb (its := 0) (r := nI r) (acc := nI own) (reach := nI reach) (by omega)) (fun o q => ?_)
  obtain ⟨q1, q2, q3⟩ := q
  rw [q1]
  refine op_mb (q2.div (c := ct st.1 56) (reach := reach) (r := r) (acc := own) (w := nI w) (got := nI got) (by omega) (by rw [if_pos rfl]; rfl) (by rw [if_pos rfl]; rfl) (by rw [if_pos rfl]; rfl) (by omega) hr (by omega)) (fun μ3 q4 => ?_)
  refine op_eb (show F_X1_percentOf (nI got) (nI kp) μ3 = some (nI (got * kp / 100)) from by unfold F_X1_percentOf; rw [pct (by omega)]) ?_
  refine op_mb (q4.1.bank (c := ct st.1 56) (acc := own) (bk := nI (got * kp / 100)) (by omega) (by omega)) (fun μ4 q5 => ?_)
  refine op_eb (show F_X1_percentOf (nI got - nI (got * kp / 100)) (nI rt) μ4 = some (nI (backN kp rt got)) from by unfold F_X1_percentOf; rw [pk_sub (by omega), pct (by omega)]; rfl) ?_
  refine op_mb (q5.1.give (c := ct st.1 56) (to := to) (r := r) (back := nI (backN kp rt got)) (by omega) (by simp [up2, rowA]) (by omega) hr) (fun μ5 q6 => ?_)
  have hF5 : Fs (fun a => S4 b a ∨ a = b) μ μ5 := (((q3.mo (fun a e => Or.inl e)).tr (q4.2.mo (fun a e => Or.inl e))).tr q5.2.1).tr (q6.2.mo (fun a e => Or.inl e))
  refine op_r ⟨?_, hF5.mo (fun a e => by unfold S4 at e; unfold Blk; omega)⟩
  refine SV.claim (μ := μ) h hn0 hv hr (by omega) (by omega) hc q6.1 (hF5.mo (fun a e => e.elim Or.inl (fun e => Or.inr (Or.inl e)))) ?_ ?_ ?_ ?_ ?_ ?_ ?_
  · have e1 : μ5.1 b = μ4.1 b := (q6.2.1 b (by unfold S4; omega)).1
    have e2 : μ3.1 b = μ.1 b := ((q3.tr q4.2).1 b (by unfold S4; omega)).1
    rw [e1, hbk]
    funext j
    rw [q5.2.2 j, e2]
  · intro q k hq hk
    rw [hgot, hbk, hba]
    unfold up2
    by_cases e : q = ct st.1 56
    · subst e
      rw [if_pos rfl]
      rcases (show k = 0 ∨ k = 1 ∨ k = 2 ∨ k = 3 ∨ k = 4 ∨ k = 5 ∨ k = 6 ∨ k = 7 by omega) with rfl | rfl | rfl | rfl | rfl | rfl | rfl | rfl <;> simp [rowA, rowF] <;> rfl
    · rw [if_neg e, if_neg (by omega), if_neg (by omega), if_neg (by omega), if_neg (by omega)]
      exact if_neg e
  · intro q k hq hk
    unfold srvF GF kpO rtO
    rw [hgot, hba, hto, if_pos rfl, if_pos rfl, hkp, hrt, ← hn0]
    unfold up2
    by_cases e2 : k = 2
    · subst e2
      obtain ⟨g1, g2⟩ := hfl q hq
      simp only [if_true, true_and, Nat.reduceEqDiff, and_false, if_false]
      by_cases er : reach ≤ q
      · rw [if_pos er, if_pos (show reach ≤ q ∧ q < n0 from ⟨er, hq⟩)]
        unfold byN
        by_cases et : to ≤ q
        · rw [if_pos et, if_pos et, show nI (got - backN kp rt got) = nI got - nI (backN kp rt got) from (pk_sub hbl).symm, Int32.sub_eq_add_neg, Int32.sub_eq_add_neg, Int32.neg_add, Int32.sub_neg, Int32.add_assoc]
        · rw [if_neg et, if_neg et, Int32.sub_eq_add_neg]
      · rw [if_neg er, if_neg (show ¬ to ≤ q by omega), if_neg (show ¬ (reach ≤ q ∧ q < n0) from fun z => er z.1)]
    · simp only [if_neg e2, e2, false_and, if_false]
      by_cases e4 : q = to ∧ k = 4
      · obtain ⟨rfl, rfl⟩ := e4
        simp
      · rw [if_neg e4, if_neg e4]
        by_cases e3 : q = reach ∧ k = 3
        · obtain ⟨rfl, rfl⟩ := e3
          simp
        · rw [if_neg e3, if_neg e3]
  · intro q k hq hk
    rw [hgot, hba]
    unfold up2
    by_cases e8 : q = r ∧ k = 8
    · obtain ⟨rfl, rfl⟩ := e8
      simp
    · by_cases e7 : q = r ∧ k = 7
      · obtain ⟨rfl, rfl⟩ := e7
        simp
      · rw [if_neg e8, if_neg e7, if_neg e8, if_neg e7]
  · intro q k hq hk
    rw [hgot, hbk, how]
    unfold up2
    by_cases e0 : q = own ∧ k = 0
    · obtain ⟨rfl, rfl⟩ := e0
      simp
    · by_cases e7 : q = own ∧ k = 1
      · obtain ⟨rfl, rfl⟩ := e7
        simp
      · rw [if_neg e0, if_neg e7, if_neg e0, if_neg e7]
  · intro k hk
    rw [(hF5.1 (b + 7) (by unfold S4; omega)).2]
    exact h.bal k hk
  · intro k hk
    rw [(hF5.1 (b + 11) (by unfold S4; omega)).2]
    exact h.ear k hk
end OWN

