/-! ===== a claim of a lease or an option ===== -/
theorem backN_00 (x : Nat) : backN 0 0 x = 0 := by unfold backN; simp
theorem byN_00 (to x q : Nat) : byN 0 0 to x q = x := by unfold byN; rw [backN_00]; split <;> rfl
theorem okN_00 {n0 : Nat} {mn fl : Nat → Nat} {reach to to' : Nat} : okN n0 mn fl reach 0 0 to = okN n0 mn fl reach 0 0 to' := by
  funext x
  unfold okN
  simp only [byN_00]
theorem got_eq0 {n0 : Nat} {mn fl : Nat → Nat} {reach to w : Nat} (h1 : reach ≤ n0) : dn (okN n0 mn fl reach 0 0 to) w = lspN (fun q => fl q - mn q) reach (n0 - reach) w := by
  rw [okN_00 (to' := n0)]
  refine got_eq (by decide) (by decide) h1 (Nat.le_refl n0) (Nat.le_refl _) ?_ (fun x hx hx2 => by omega)
  rw [Nat.sub_self, lspN]
  exact Nat.sub_le _ _
theorem pay_congr {g g' : Nat → Int64} {a o : Nat} {x : Int64} (hg : ∀ k, k < 5 → g k = g' k) (ha : a < 5) (ho : o < 5) {k : Nat} (hk : k < 5) : pay g a o x k = pay g' a o x k := by
  unfold pay vp_updL
  rw [hg a ha, hg o ho, hg k hk]
theorem pay_hi {g : Nat → Int64} {a o : Nat} {x : Int64} (ha : a < 5) (ho : o < 5) {k : Nat} (hk : ¬ k < 5) : pay g a o x k = g k := by
  unfold pay vp_updL
  rw [if_neg (by omega), if_neg (by omega)]
theorem x1_pay {μ : Mm} {b : Nat} (hb : kd b = 1) {a o : Nat} {x : Int32} (ha : a < 5) (ho : o < 5) : Op (F_X1_pay b (nI a) (nI o) x μ) (fun μ' => (∀ k, μ'.2.1 (b + 7) k = pay (μ.2.1 (b + 7)) a o x.toInt64 k) ∧ Fs (fun a => a = b + 7) μ μ') := by
  have l := st_ln hb 7 (by decide)
  have e : (qStL.getD 7 (0, 0)).2 = 5 := rfl
  unfold F_X1_pay
  rw [if_neg (nI_pos (by omega)), if_neg (show ¬ (5 : Int32) ≤ nI a from nI_ge (b := 5) ha (by omega)), if_neg (nI_pos (by omega)), if_neg (show ¬ (5 : Int32) ≤ nI o from nI_ge (b := 5) ho (by omega))]
  refine op_eb (aL_ok rfl (by omega)) (op_eb (sL_ok rfl (by omega)) (op_eb (aL_ok rfl (by omega)) (op_eb (sL_ok rfl (by omega)) (op_r ⟨fun k => ?_, Fs.tr (Fs.uL rfl) (Fs.uL rfl)⟩))))
  rw [uL_eq, uL_eq]
  rfl
theorem toI64_nI {n : Nat} (h : n < 2 ^ 31) : (nI n).toInt64 = lN n := nI_l h
section OTH
variable {μ : Mm} {b : Nat} {LS OS : List (Nat → Int32)} {n0 : Nat} {cu : Nat → Int32} {st : Sg}
set_option maxHeartbeats 4000000 in
theorem x1_oth (h : SV μ b LS OS n0 (GF st) cu st.1 st.2.1) (hb : kd b = 1) (hn0 : n0 = ct st.1 0) (hv : Rv st.1) (hfl : Flo n0 st.2.2.1) {its q2 l r acc reach v price : Nat} (hi : its = 1 ∨ its = 2) (g0 : F_X2_get q2 (nI l) 0 μ = some (nI r)) (g1 : F_X2_get q2 (nI l) 1 μ = some (nI acc)) (g2 : F_X2_get q2 (nI l) 2 μ = some (nI reach)) (hr : r < ct st.1 2) (ha : acc < ct st.1 1) (hre : reach < n0) (hvv : v ≤ 999) (hp : price ≤ 99) (hc : Bn st.1 56 18) :
    Op (F_X1_claimOfOther b (nI its) q2 (nI l) (nI v) (nI price) μ) (fun μ' => SV μ' b LS OS n0 (GF (srv its r acc reach (wout st.1 r v) price st)) cu (srv its r acc reach (wout st.1 r v) price st).1 (srv its r acc reach (wout st.1 r v) price st).2.1 ∧ Fs (Blk b) μ μ') := by
  obtain ⟨a0, a1, a2, a3, a4, a5⟩ := id hv
  obtain ⟨f0, f1, f5, f3, f4, f6, f2⟩ := a5 r hr
  have h0 := a0.2
  have h1 := a1.2
  have h2 := a2.2
  have hcc := hc.2
  have hi0 : its ≠ 0 := by omega
  have hmn : ∀ q, q < ct st.1 0 → st.1 (14 + q) = nI (ct st.1 (14 + q)) ∧ ct st.1 (14 + q) < 2 ^ 30 := fun q hq => ⟨(a4 q hq).1, by have := (a4 q hq).2; omega⟩
  unfold F_X1_claimOfOther
  refine op_eb g0 (op_eb g1 (op_eb g2 ?_))
  refine op_eb ((h.rgk (k := 4) hr (by decide)).trans (congrArg some f4.1)) ?_
  have hrt2 := f4.2
  generalize hw : wout st.1 r v = w
  have hw2 : w ≤ 999 := by
    rw [← hw]
    unfold wout
    have : v * (100 - ct st.1 (58 + 10 * r + 4)) ≤ v * 100 := Nat.mul_le_mul_left _ (by omega)
    omega
  refine op_eb (show F_X1_percentOf (nI v) (100 - nI (ct st.1 (58 + 10 * r + 4))) μ = some (nI w) from by
    unfold F_X1_percentOf
    have : v * (100 - ct st.1 (58 + 10 * r + 4)) ≤ v * 100 := Nat.mul_le_mul_left _ (by omega)
    rw [show (100 : Int32) - nI (ct st.1 (58 + 10 * r + 4)) = nI (100 - ct st.1 (58 + 10 * r + 4)) from pk_sub (a := 100) (by omega), pct (by omega), ← hw]
    rfl) ?_
  generalize how : ct st.1 (58 + 10 * r + 0) = own at *
  generalize hto : ct st.1 (58 + 10 * r + 5) = to at *
  have hown : own < 5 := by omega
  rw [show μ.1 (b + 18) 2 = nI n0 from h.gau.2.1]
  refine op_eb (x1_lsp (F := ct st.2.2.1) h.gau h.rch (by omega) (Nat.le_refl n0) (by omega) hfl hmn (by omega)) ?_
  generalize hgt : lspN (fun q => ct st.2.2.1 q - ct st.1 (14 + q)) reach (n0 - reach) w = got
  have hgw : got ≤ w := by rw [← hgt]; exact lspN_lel _ _ _
  have hgot : gotO its r reach w st = got := by
    unfold gotO kpO rtO
    rw [if_neg hi0, if_neg hi0, ← hn0, got_eq0 (by omega)]
    exact hgt
  have hbk : bkO its r reach w st = 0 := by unfold bkO kpO; rw [if_neg hi0]; simp
  have hba : backO its r reach w st = 0 := by unfold backO rtO; rw [if_neg hi0]; simp
  refine op_mb (h.t4.addC hb (its := nI its) (r := nI r) (acc := nI acc) (reach := nI reach) (by omega)) (fun o q => ?_)
  obtain ⟨q1, q2', q3⟩ := q
  rw [q1]
  refine op_mb (q2'.div (c := ct st.1 56) (reach := reach) (r := r) (acc := acc) (w := nI w) (got := nI got) (by omega) (by rw [if_pos rfl]; rfl) (by rw [if_pos rfl]; rfl) (by rw [if_pos rfl]; rfl) (by omega) hr (by omega)) (fun μ3 q4 => ?_)
  refine op_eb (show F_X2_get (b + 8) (nI r) 0 μ3 = some (nI own) from (x2_get (k := 0) q4.1.2.2.1 hr (by decide)).trans (by unfold up2; simp only [Nat.reduceEqDiff, and_false, if_false]; exact congrArg some f0.1)) ?_
  have kgp : got * price ≤ got * 99 := Nat.mul_le_mul_left _ hp
  rw [pk_mul]
  refine op_mb (x1_pay hb (a := acc) (o := own) (x := nI (got * price)) (by omega) hown) (fun μ4 q5 => ?_)
  have l11 := st_ln hb 11 (by decide)
  have e11 : (qStL.getD 11 (0, 0)).2 = 10 := rfl
  refine op_f (nI_pos (by omega)) (op_f (show ¬ (10 : Int32) ≤ nI r from nI_ge (b := 10) (by omega) (by omega)) ?_)
  refine op_eb (aL_ok rfl (by omega)) (op_eb (sL_ok rfl (by omega)) (op_r ?_))
  rw [toI64_nI (by omega)] at *
  have hF3 : Fs (fun a => S4 b a) μ μ3 := q3.tr q4.2
  have b3 : ∀ k, k < 5 → μ3.2.1 (b + 7) k = st.2.1 k := fun k hk => by rw [(hF3.1 (b + 7) (by unfold S4; omega)).2]; exact h.bal k hk
  have b4 : ∀ k, k < 5 → μ4.2.1 (b + 7) k = pay st.2.1 acc own (lN (got * price)) k := fun k hk => (q5.1 k).trans (pay_congr b3 (by omega) hown hk)
  have c4 : ∀ k, k < 10 → μ4.2.1 (b + 11) k = st.2.1 (5 + k) := fun k hk => by rw [(q5.2.1 (b + 11) (by omega)).2, (hF3.1 (b + 11) (by unfold S4; omega)).2]; exact h.ear k hk
  have hF5 : Fs (fun a => S4 b a ∨ (a = b ∨ (a = b + 7 ∨ a = b + 11))) μ (uL μ4 (b + 11) r (μ4.2.1 (b + 11) r + lN (got * price))) := ((hF3.mo (fun a e => Or.inl e)).tr (q5.2.mo (fun a e => Or.inr (Or.inr (Or.inl e))))).tr (Fs.uL (Or.inr (Or.inr (Or.inr rfl))))
  have hT : T4 (uL μ4 (b + 11) r (μ4.2.1 (b + 11) r + lN (got * price))) b (ct st.1 56 + 1) _ n0 _ (ct st.1 2) _ (ct st.1 1) _ := ⟨q4.1.1.keep (q5.2.1 _ (by omega)).1 (q5.2.1 _ (by omega)).1, q4.1.2.1.keep (q5.2.1 _ (by omega)).1 (q5.2.1 _ (by omega)).1, q4.1.2.2.1.keep (q5.2.1 _ (by omega)).1 (q5.2.1 _ (by omega)).1, q4.1.2.2.2.keep (q5.2.1 _ (by omega)).1 (q5.2.1 _ (by omega)).1⟩
  refine ⟨?_, hF5.mo (fun a e => by unfold S4 at e; unfold Blk; omega)⟩
  refine SV.claim (μ := μ) h hn0 hv hr (by omega) (by omega) hc hT hF5 ?_ ?_ ?_ ?_ ?_ ?_ ?_
  · have e1 : (uL μ4 (b + 11) r (μ4.2.1 (b + 11) r + lN (got * price))).1 b = μ.1 b := by
      show μ4.1 b = μ.1 b
      rw [(q5.2.1 b (by omega)).1, (hF3.1 b (by unfold S4; omega)).1]
    rw [e1, hbk]
    funext j
    by_cases e : j = 16
    · rw [if_pos e, e, nI_0, Int32.add_zero]
    · rw [if_neg e]
  · intro q k hq hk
    rw [hgot, hbk, hba]
    unfold up2
    by_cases e : q = ct st.1 56
    · subst e
      rw [if_pos rfl]
      rcases (show k = 0 ∨ k = 1 ∨ k = 2 ∨ k = 3 ∨ k = 4 ∨ k = 5 ∨ k = 6 ∨ k = 7 by omega) with rfl | rfl | rfl | rfl | rfl | rfl | rfl | rfl <;> simp [rowA, rowF] <;> rfl
    · rw [if_neg e, if_neg (by omega), if_neg (by omega)]
      exact if_neg e
  · intro q k hq hk
    unfold srvF GF kpO rtO
    rw [hgot, hba, hto, if_neg hi0, if_neg hi0, byN_00, ← hn0, nI_0]
    unfold up2
    by_cases e2 : k = 2
    · subst e2
      simp only [if_true, true_and, Nat.reduceEqDiff, and_false, if_false]
      by_cases er : reach ≤ q
      · rw [if_pos er, if_pos (show reach ≤ q ∧ q < n0 from ⟨er, hq⟩), Int32.sub_eq_add_neg]
      · rw [if_neg er, if_neg (show ¬ (reach ≤ q ∧ q < n0) from fun z => er z.1)]
    · simp only [if_neg e2, e2, false_and, if_false, Int32.add_zero]
      by_cases e3 : q = reach ∧ k = 3
      · obtain ⟨rfl, rfl⟩ := e3
        simp
      · rw [if_neg e3, if_neg e3]
        split <;> rfl
  · intro q k hq hk
    rw [hgot, hba, nI_0]
    unfold up2
    by_cases e7 : q = r ∧ k = 7
    · obtain ⟨rfl, rfl⟩ := e7
      simp
    · rw [if_neg e7, if_neg e7]
      by_cases e8 : q = r ∧ k = 8
      · rw [if_pos e8, Int32.add_zero]
      · rw [if_neg e8]
  · intro q k hq hk
    rw [hgot, hbk, how, nI_0]
    unfold up2
    by_cases e7 : q = acc ∧ k = 1
    · obtain ⟨rfl, rfl⟩ := e7
      simp
    · rw [if_neg e7, if_neg e7]
      by_cases e8 : q = own ∧ k = 0
      · rw [if_pos e8, Int32.add_zero]
      · rw [if_neg e8]
  · intro k hk
    rw [uL_ne (by omega)]
    unfold srvG
    rw [if_neg hi0, hgot, how, b4 k hk]
    unfold vp_updL
    rw [if_neg (by omega)]
  · intro k hk
    rw [uL_eq]
    unfold srvG
    rw [if_neg hi0, hgot, how]
    unfold vp_updL
    show (if k = r then μ4.2.1 (b + 11) r + lN (got * price) else μ4.2.1 (b + 11) k) = _
    by_cases e : k = r
    · subst e
      rw [if_pos rfl, if_pos rfl, c4 k hk, pay_hi (by omega) hown (by omega)]
    · rw [if_neg e, if_neg (by omega), c4 k hk, pay_hi (by omega) hown (by omega)]
end OTH

