/-! ===== runMonth ===== -/
theorem hisM_n {n0 j : Nat} {M : Sg} (hj : j < 424) : hisM n0 M j = M.1 j := by
  unfold hisM hiS
  rw [if_neg (by omega), if_neg (by omega), if_neg (by omega), if_neg (by omega), if_neg (by omega), if_neg (by omega)]
theorem mst_facts {LS OS : List (Nat → Int32)} {sil : Nat → Bool} {s fl cut : Nat → Int32} {g : Nat → Int64} (h : Mok s LS OS) :
    Inv LS OS (bgn OS s g fl cut) (ct s 2) (mst LS OS sil s g fl cut) ∧ (∀ j, Sta j → (mst LS OS sil s g fl cut).1 j = s j) := by
  obtain ⟨b1, b2, b3, b4, b5, b6, b7, b8⟩ := bgn_ok (g := g) (fl := fl) (cut := cut) h
  have I := clA_inv (sil := sil) b2 b1 b5 b6 b3 h.2.2.2.1 b4 (ct s 2) (by omega)
  exact ⟨I, fun j hj => (I.2.1 j hj).trans (layS_sta h.1.1.2 j hj)⟩
theorem mst_gro {LS OS : List (Nat → Int32)} {sil : Nat → Bool} {s fl cut : Nat → Int32} {g : Nat → Int64} (h : Mok s LS OS) (hg : ∀ r, r < 10 → s (58 + 10 * r + 7) = nI (ct s (58 + 10 * r + 7)) ∧ ct s (58 + 10 * r + 7) < 2 ^ 30) : Gro s (mst LS OS sil s g fl cut) := by
  obtain ⟨b1, b2, b3, b4, b5, b6, b7, b8⟩ := bgn_ok (g := g) (fl := fl) (cut := cut) h
  obtain ⟨h1, h2, h3, h4, h5, h6, h7, h8⟩ := id h
  have h0 := h1.1.2
  have hs : (∀ a, a < 5 → ct s (26 + a) < 2 ^ 29) ∧ ∀ r, r < 10 → ct s (58 + 10 * r + 7) < 2 ^ 30 := ⟨fun a ha => (h7.2 a ha).2.2, fun r hr => (hg r hr).2⟩
  have e : ∀ j, (j < 53 ∨ (58 ≤ j ∧ j < 158)) → (bgn OS s g fl cut).1 j = s j := fun j hj => layS_n h0 (by omega) (by omega)
  have e56 : ct (bgn OS s g fl cut).1 56 = 0 := ct_nI (b6.trans nI_0.symm) (by decide)
  refine clA_ind (P := Gro s) (fun its r acc reach w price c st hc ha hp => srv_gro hs hc ha hp) (fun st r hp => hp) b2 b1 b5 b6 b3 h4 b4 ⟨fun a ha => ?_, ?_, fun r hr => ?_⟩ (ct s 2) (by omega)
  · have := e (26 + a) (by omega)
    rw [ct_eq this, this]
    exact ⟨(h7.2 a ha).1, by omega⟩
  · unfold bsum
    rw [ct_eq (e 26 (by omega)), ct_eq (e 27 (by omega)), ct_eq (e 28 (by omega)), ct_eq (e 29 (by omega)), ct_eq (e 30 (by omega))]
    omega
  · have := e (58 + 10 * r + 7) (by omega)
    rw [ct_eq this, this]
    exact ⟨(hg r hr).1, by omega⟩
section MONTH
variable {μ : Mm} {b : Nat} {LS OS : List (Nat → Int32)} {ng : Nat} {G : Nat → Nat → Int32} {cu : Nat → Int32} {s : Nat → Int32} {g : Nat → Int64}
set_option maxHeartbeats 2000000 in
theorem x1_month (h : SV μ b LS OS ng G cu s g) (hb : kd b = 1) (hm : Mok s LS OS) (hgt : ∀ r, r < 10 → s (58 + 10 * r + 7) = nI (ct s (58 + 10 * r + 7)) ∧ ct s (58 + 10 * r + 7) < 2 ^ 30) (p : Int32) (fl cut : Nat → Int32) :
    Op (F_X1_runMonth b p μ) (fun o => o.1 = sumM (mst LS OS (silP p) s g fl cut) ∧ (SV o.2 b (decL LS) OS (ct s 0) (GF (mst LS OS (silP p) s g fl cut)) (cuK (bgn OS s g fl cut) cu (ct s 2) (mst LS OS (silP p) s g fl cut)) (finC (mst LS OS (silP p) s g fl cut)) (mst LS OS (silP p) s g fl cut).2.1 ∧ Fs (Blk b) μ o.2)) := by
  obtain ⟨h1, h2, h3, h4, h5, h6, h7, h8⟩ := id hm
  have h0 := h1.1.2
  obtain ⟨b1, b2, b3, b4, b5, b6, b7, b8⟩ := bgn_ok (g := g) (fl := fl) (cut := cut) hm
  obtain ⟨I, hsta⟩ := mst_facts (sil := silP p) (g := g) (fl := fl) (cut := cut) hm
  have gro := mst_gro (sil := silP p) (g := g) (fl := fl) (cut := cut) hm hgt
  unfold F_X1_runMonth
  refine op_mb (x1_open h hb h1.vt) (fun μ2 w2 => ?_)
  refine op_mb (x1_prm w2.1 hb h1 h5) (fun μ3 w3 => ?_)
  refine op_mb (x2_remAll w3.1.clm (fun _ _ => 0)) (fun μ4 w4 => ?_)
  -- the claims begin
  have hS4 : SV μ4 b LS OS (ct s 0) (GF (bgn OS s g fl cut)) (cuK (bgn OS s g fl cut) cu 0 (bgn OS s g fl cut)) (bgn OS s g fl cut).1 (bgn OS s g fl cut).2.1 := by
    have q1 : SV μ4 b LS OS (ct s 0) (fun r k => if k = 0 then comN s r else if k = 1 then sumF (comN s) (r + 1) else if k = 2 then sumF (comN s) (r + 1) else 0) cu (layS s) (prmG s OS g) := by
      refine w3.1.wClm (w3.1.cnt hb) (w4.2.mo (fun a e => Or.inl e)) ?_ (fun j hj hj2 => ?_)
      · rw [show ct (layS s) 56 = 0 from ct_nI (b6.trans nI_0.symm) (by decide)]
        exact w4.1.congr (fun r k hr _ => absurd hr (Nat.not_lt_zero r))
      · obtain ⟨v1, v2, v3, v4, v5, v6⟩ := hj
        exact layS_n h0 hj2.1 (by omega)
    have q2 := q1.gc (G' := GF (bgn OS s g fl cut)) (fun r k hr hk => by
      show _ = if k = 2 then layF s fl r else layS s (394 + 5 * r + k)
      by_cases e2 : k = 2
      · rw [if_pos e2]
        unfold layF
        rw [if_pos hr, if_neg (by omega), if_neg (by omega), if_pos e2]
      · refine Eq.trans ?_ (if_neg e2).symm
        rw [layS_g hr hk, if_neg e2, if_neg e2])
    exact q2.cuc (fun r hr => by unfold cuK; rw [if_neg (fun z => Nat.not_lt_zero _ z.1)])
  have e56 : ct (bgn OS s g fl cut).1 56 = 0 := ct_nI (b6.trans nI_0.symm) (by decide)
  have hc2 := h1.2.2.1.2
  have run := x1_runL (b := b) (LS := LS) (OS := OS) (n0 := ct s 0) (st0 := bgn OS s g fl cut) (cu0 := cu) (p := p) hb b2 b1 b5 b6 b3 h4 b4 b8.symm (ct s 2) qFuel 0 μ4 (by omega) (by unfold qFuel; omega) hS4
  have ecal : calN (clA LS OS (silP p) 0 (bgn OS s g fl cut)).1 (ct (clA LS OS (silP p) 0 (bgn OS s g fl cut)).1 56) = -1 := by
    show calN (bgn OS s g fl cut).1 (ct (bgn OS s g fl cut).1 56) = -1
    rw [e56]
    rfl
  rw [ecal] at run
  refine op_mb run (fun o5 w5 => ?_)
  unfold RunQ at w5
  rw [b7] at w5
  obtain ⟨u1, u2, u3⟩ := w5
  have u2 : SV o5.2 b LS OS (ct s 0) (GF (mst LS OS (silP p) s g fl cut)) (cuK (bgn OS s g fl cut) cu (ct s 2) (mst LS OS (silP p) s g fl cut)) (mst LS OS (silP p) s g fl cut).1 (mst LS OS (silP p) s g fl cut).2.1 := u2
  have u1 : o5.1 = calN (mst LS OS (silP p) s g fl cut).1 (ct (mst LS OS (silP p) s g fl cut).1 56) := u1
  generalize hM : mst LS OS (silP p) s g fl cut = M at *
  refine op_eb (show F_X2_sumOf (b + 16) 5 o5.2 = _ from x2_sum (k := 5) u2.clm (by decide)) ?_
  rw [u1]
  have n0e : ct M.1 0 = ct s 0 := ct_eq (hsta 0 Sta0)
  have n1e : ct M.1 1 = ct s 1 := ct_eq (hsta 1 Sta1)
  have h424 : M.1 424 = nI (ct M.1 424) := by
    have e := hsta 424 (Or.inr (Or.inr (Or.inr (Or.inr (Or.inr (Or.inr (Or.inr (Nat.le_refl _))))))))
    rw [ct_eq e, e]
    exact h8
  refine op_mb (x1_rem (sum := sumM M) (least := calN M.1 (ct M.1 56)) u2 hb h424) (fun μ6 w6 => ?_)
  have w6s : SV μ6 b LS OS (ct s 0) (GF M) (cuK (bgn OS s g fl cut) cu (ct s 2) M) (hisM (ct M.1 0) M) M.2.1 := by
    rw [n0e]
    exact w6.1
  have e6 : hisM (ct M.1 0) M 6 = s 6 := (hisM_n (by decide)).trans (hsta 6 (Or.inl (by decide)))
  have hcl := I.1.2.2.2
  have hc5 := h1.2.1.2
  have e1h : ct (hisM (ct M.1 0) M) 1 = ct M.1 1 := ct_eq (hisM_n (by decide))
  refine op_mb (x1_end w6s hb (h7.1.eq e6) (fun a ha => ?_)) (fun μ7 w7 => op_r ⟨rfl, ?_, ?_⟩)
  · rw [e1h, n1e] at ha
    have hj : hisM (ct M.1 0) M (26 + a) = M.1 (26 + a) := hisM_n (by omega)
    obtain ⟨z1, z2⟩ := gro.1 a (by omega)
    obtain ⟨y1, y2, y3⟩ := h7.2 a (by omega)
    rw [ct_eq hj, ct_eq e6, hj]
    have h50 := h7.1.2
    have hm1 : ct M.1 (26 + a) * ct s 6 ≤ (ct s (26 + a) + 18981) * ct s 6 := Nat.mul_le_mul_right _ (by omega)
    rw [Nat.add_mul] at hm1
    have hm2 : 18981 * ct s 6 ≤ 18981 * 50 := Nat.mul_le_mul_left _ h50
    exact ⟨z1, by omega, by omega⟩
  · rw [e1h] at w7
    rw [show ct (hisM (ct M.1 0) M) 0 = ct M.1 0 from ct_eq (hisM_n (by decide))] at w7
    exact w7.1
  · exact ((((w2.2.tr w3.2).tr (w4.2.mo (fun a e => by unfold Blk; omega))).tr u3).tr w6.2).tr w7.2
end MONTH

