/-! ===== the month's end ===== -/
def lossN (s : Nat → Int32) (j : Nat) : Nat := (ct s j * ct s 6 + 99) / 100
def bkS (s : Nat → Int32) (n : Nat) : Nat → Int32 := fun j => if 26 ≤ j ∧ j < 26 + n then s j - nI (lossN s j) else if j = 54 then s 54 + sumF (fun a => nI (lossN s (26 + a))) n else s j
def rlS (s : Nat → Int32) (n : Nat) : Nat → Int32 := fun j => if 20 ≤ j ∧ j < 20 + n then 0 else s j
def tmS (s : Nat → Int32) : Nat → Int32 := fun j => if j = 5 then s 5 + 1 else s j
/-- the history: a month is laid ahead of the others -/
def hiS (s : Nat → Int32) (a0 a1 a2 a3 : Int32) : Nat → Int32 := fun j => if j = 424 then nI (if ct s 424 < 24 then ct s 424 + 1 else 24) else if 429 ≤ j ∧ j < 521 then s (j - 4) else if j = 425 then a0 else if j = 426 then a1 else if j = 427 then a2 else if j = 428 then a3 else s j
theorem loss64 {b L : Nat} (h : b * L + 99 < 2 ^ 31) : (((nI b).toInt64 * (nI L).toInt64 + 99) / 100).toInt32 = nI ((b * L + 99) / 100) ∨ ¬ (b < 2 ^ 31 ∧ L < 2 ^ 31) := by
  by_cases e : b < 2 ^ 31 ∧ L < 2 ^ 31
  · refine Or.inl ?_
    rw [nI_l e.1, nI_l e.2, lN_mul, show lN (b * L) + 99 = lN (b * L + 99) from lN_add (b * L) 99, show lN (b * L + 99) / 100 = lN ((b * L + 99) / 100) from pk_lDiv (b := 100) (by omega) (by decide) (by decide), lN_i]
  · exact Or.inr e
theorem sumF_s (g : Nat → Int32) (n : Nat) : sumF g (n + 1) = sumF g n + g n := rfl
section END
variable {b : Nat} {LS OS : List (Nat → Int32)} {ng : Nat} {G : Nat → Nat → Int32} {cu : Nat → Int32} {s : Nat → Int32} {g : Nat → Int64}
theorem x1_bkL (hb : kd b = 1) (hc : Cnt s) (h6 : Bn s 6 50) (hB : ∀ a, a < ct s 1 → s (26 + a) = nI (ct s (26 + a)) ∧ ct s (26 + a) * ct s 6 + 99 < 2 ^ 31 ∧ ct s (26 + a) < 2 ^ 31) : ∀ (d m q : Nat) (μ : Mm), q + d = ct s 1 → d < m → SV μ b LS OS ng G cu (bkS s q) g → Op (F_X1_endMonth_52 b m (nI q) μ) (fun μ' => SV μ' b LS OS ng G cu (bkS s (ct s 1)) g ∧ Fs (Blk b) μ μ') := by
  have c5 := hc.2.1
  have e1 : ∀ q, bkS s q 1 = s 1 := fun q => by unfold bkS; rw [if_neg (by omega), if_neg (by omega)]
  have ec1 : ∀ q, ct (bkS s q) 1 = ct s 1 := fun q => ct_eq (s := s) (s' := bkS s q) (k := 1) (e1 q)
  have e6 : ∀ q, bkS s q 6 = s 6 := fun q => by unfold bkS; rw [if_neg (by omega), if_neg (by omega)]
  intro d
  induction d with
  | zero =>
    intro m q μ hq hm h
    obtain ⟨m, rfl⟩ : ∃ z, m = z + 1 := ⟨m - 1, by omega⟩
    obtain rfl : q = ct s 1 := by omega
    rw [F_X1_endMonth_52, h.acc.2.1, ec1 _, if_pos (Int32.le_refl _)]
    exact op_r ⟨h, Fs.rf⟩
  | succ d ih =>
    intro m q μ hq hm h
    obtain ⟨m, rfl⟩ : ∃ z, m = z + 1 := ⟨m - 1, by omega⟩
    obtain ⟨b1, b2, b3⟩ := hB q (by omega)
    have hq1 : q < ct (bkS s q) 1 := by rw [ec1 q]; omega
    have eb : bkS s q (26 + 5 * 0 + q) = s (26 + q) := by
      show bkS s q (26 + q) = _
      unfold bkS
      rw [if_neg (by omega), if_neg (by omega)]
    have el : ((((nI (ct s (26 + q))).toInt64 * (nI (ct s 6)).toInt64 + 99) / 100).toInt32) = nI (lossN s (26 + q)) := (loss64 b2).resolve_right (fun z => z ⟨b3, by have := h6.2; omega⟩)
    rw [F_X1_endMonth_52, h.acc.2.1, ec1 q, if_neg (nI_ge (by omega) (by omega))]
    refine op_eb ((x2_get (k := 0) h.acc hq1 (by decide)).trans (congrArg some (eb.trans b1))) ?_
    have hsca := h.sca
    rw [hsca.2.2.1, e6 q, h6.1, el]
    refine op_eb (show F_X2_increase (b + 5) (nI q) 0 _ μ = _ from x2_inc (k := 0) h.acc hq1 (by decide)) ?_
    refine op_br ?_
    have hc' : Cnt (bkS s q) := h.cnt hb
    -- the bank, then the sum
    have h2 : SV (uI μ (b + 5 + 1) (q * 2 + 0) (bkS s q (26 + 5 * 0 + q) + -nI (lossN s (26 + q)))) b LS OS ng G cu (fun j => if j = 54 then bkS s q 54 else bkS s (q + 1) j) g := by
      refine h.wAcc hc' (Fs.uI (Or.inr rfl)) ?_ (fun j hj hj2 => ?_)
      · have e1' : ct (fun j => if j = 54 then bkS s q 54 else bkS s (q + 1) j) 1 = ct (bkS s q) 1 := ct_eq (show (if (1 : Nat) = 54 then bkS s q 54 else bkS s (q + 1) 1) = _ by rw [if_neg (by decide), e1, e1])
        rw [e1']
        refine (h.acc.set hq1 (by decide)).congr (fun a k ha hk => ?_)
        simp only [up2]
        rw [ec1 q] at ha
        rw [if_neg (show ¬ 26 + 5 * k + a = 54 by omega)]
        by_cases ea : a = q ∧ k = 0
        · obtain ⟨rfl, rfl⟩ := ea
          rw [if_pos ⟨rfl, rfl⟩, eb]
          show _ = bkS s (a + 1) (26 + a)
          unfold bkS
          rw [if_pos (by omega), Int32.sub_eq_add_neg]
        · rw [if_neg ea]
          unfold bkS
          by_cases e2 : 26 ≤ 26 + 5 * k + a ∧ 26 + 5 * k + a < 26 + q
          · rw [if_pos e2, if_pos (by omega)]
          · rw [if_neg e2, if_neg (by omega), if_neg (by omega), if_neg (by omega)]
      · by_cases e54 : j = 54
        · rw [e54]; rfl
        · show (if j = 54 then bkS s q 54 else bkS s (q + 1) j) = _
          rw [if_neg e54]
          unfold bkS
          rw [if_neg (by omega), if_neg e54, if_neg (by omega), if_neg e54]
    have e17 : (uI μ (b + 5 + 1) (q * 2 + 0) (bkS s q (26 + 5 * 0 + q) + -nI (lossN s (26 + q)))).1 b = μ.1 b := uI_ne (by omega)
    have h3 : SV (uI (uI μ (b + 5 + 1) (q * 2 + 0) (bkS s q (26 + 5 * 0 + q) + -nI (lossN s (26 + q)))) b 17 ((uI μ (b + 5 + 1) (q * 2 + 0) (bkS s q (26 + 5 * 0 + q) + -nI (lossN s (26 + q)))).1 b 17 + nI (lossN s (26 + q)))) b LS OS ng G cu (bkS s (q + 1)) g := by
      refine h2.wSca (h2.cnt hb) (Fs.uI rfl) ?_ (fun j hj hj2 => ?_)
      · rw [uI_eq, e17]
        obtain ⟨z1, z2, z3, z4, z5, z6⟩ := hsca
        have ee : ∀ j, j = 5 ∨ j = 6 ∨ j = 7 ∨ j = 53 ∨ j = 55 → bkS s (q + 1) j = bkS s q j := fun j hj => by unfold bkS; rw [if_neg (by omega), if_neg (by omega), if_neg (by omega), if_neg (by omega)]
        refine ⟨z1.trans (ee 7 (by omega)).symm, z2.trans (ee 5 (by omega)).symm, z3.trans (ee 6 (by omega)).symm, z4.trans (ee 53 (by omega)).symm, ?_, z6.trans (ee 55 (by omega)).symm⟩
        show μ.1 b 17 + nI (lossN s (26 + q)) = bkS s (q + 1) 54
        rw [z5]
        unfold bkS
        rw [if_neg (by omega), if_pos rfl, if_neg (by omega), if_pos rfl, sumF_s, Int32.add_assoc]
      · show _ = if j = 54 then bkS s q 54 else bkS s (q + 1) j
        rw [if_neg (by omega)]
    rw [nI_1]
    exact op_m (ih m (q + 1) _ (by omega) (by omega) h3) (fun μ' z => ⟨z.1, ((Fs.uI (by unfold Blk; omega)).tr (Fs.uI (by unfold Blk; omega))).tr z.2⟩)
theorem x1_rlL (hb : kd b = 1) (hc : Cnt s) : ∀ (d m q : Nat) (μ : Mm), q + d = ct s 0 → d < m → SV μ b LS OS ng G cu (rlS s q) g → Op (F_X1_endMonth_123 b m (nI q) μ) (fun μ' => SV μ' b LS OS ng G cu (rlS s (ct s 0)) g ∧ Fs (Blk b) μ μ') := by
  have c6 := hc.1
  have e0 : ∀ q, q ≤ 6 → rlS s q 0 = s 0 := fun q hq => by unfold rlS; rw [if_neg (by omega)]
  intro d
  induction d with
  | zero =>
    intro m q μ hq hm h
    obtain ⟨m, rfl⟩ : ∃ z, m = z + 1 := ⟨m - 1, by omega⟩
    obtain rfl : q = ct s 0 := by omega
    rw [F_X1_endMonth_123, h.rch.2.1, ct_eq (e0 _ c6), if_pos (Int32.le_refl _)]
    exact op_r ⟨h, Fs.rf⟩
  | succ d ih =>
    intro m q μ hq hm h
    obtain ⟨m, rfl⟩ : ∃ z, m = z + 1 := ⟨m - 1, by omega⟩
    have hq1 : q < ct (rlS s q) 0 := by rw [ct_eq (e0 q (by omega))]; omega
    rw [F_X1_endMonth_123, h.rch.2.1, ct_eq (e0 q (by omega)), if_neg (nI_ge (by omega) (by omega))]
    refine op_eb (show F_X2_put (b + 1) (nI q) 2 0 μ = _ from x2_put (k := 2) h.rch hq1 (by decide)) ?_
    have h2 : SV (uI μ (b + 1 + 1) (q * 3 + 2) 0) b LS OS ng G cu (rlS s (q + 1)) g := by
      refine h.wRch (h.cnt hb) (Fs.uI (Or.inr rfl)) ?_ (fun j hj hj2 => ?_)
      · rw [show ct (rlS s (q + 1)) 0 = ct (rlS s q) 0 from ct_eq ((e0 (q + 1) (by omega)).trans (e0 q (by omega)).symm)]
        refine (h.rch.set hq1 (by decide)).congr (fun r k hr hk => ?_)
        rw [ct_eq (e0 q (by omega))] at hr
        simp only [up2, rlS]
        by_cases ea : r = q ∧ k = 2
        · rw [if_pos ea, if_pos (by omega)]
        · rw [if_neg ea]
          by_cases e2 : 20 ≤ 8 + 6 * k + r ∧ 8 + 6 * k + r < 20 + q
          · rw [if_pos e2, if_pos (by omega)]
          · rw [if_neg e2, if_neg (by omega)]
      · unfold rlS
        rw [if_neg (by omega), if_neg (by omega)]
    rw [nI_1]
    exact op_m (ih m (q + 1) _ (by omega) (by omega) h2) (fun μ' z => ⟨z.1, (Fs.uI (by unfold Blk; omega)).tr z.2⟩)
theorem rlS0 : rlS s 0 = s := by
  funext j
  unfold rlS
  rw [if_neg (by omega)]
theorem bkS0 : bkS s 0 = s := by
  funext j
  unfold bkS
  rw [if_neg (by omega)]
  by_cases e : j = 54
  · rw [if_pos e, e]
    exact Int32.add_zero _
  · rw [if_neg e]
/-- the end of a month, in the class -/
theorem x1_end {μ : Mm} (h : SV μ b LS OS ng G cu s g) (hb : kd b = 1) (h6 : Bn s 6 50) (hB : ∀ a, a < ct s 1 → s (26 + a) = nI (ct s (26 + a)) ∧ ct s (26 + a) * ct s 6 + 99 < 2 ^ 31 ∧ ct s (26 + a) < 2 ^ 31) :
    Op (F_X1_endMonth b μ) (fun μ' => SV μ' b (decL LS) OS ng G cu (tmS (rlS (bkS s (ct s 1)) (ct s 0))) g ∧ Fs (Blk b) μ μ') := by
  have hl := (h.lea_le hb).1
  have hc := h.cnt hb
  have l := st_ln hb 13 (by decide)
  have e13 : (qStL.getD 13 (0, 0)).2 = 54 := rfl
  unfold F_X1_endMonth
  rw [h.lea.2.1]
  refine op_mb (x1_decL hl (l.trans e13) LS.length qFuel μ (Nat.le_refl _) (by unfold qFuel; omega) (by rw [List.take_length, List.drop_length]; show Tb μ (b + 12) 6 (LS ++ []).length (lf (LS ++ [])); rw [List.append_nil]; exact h.lea)) (fun μ2 w2 => ?_)
  have h2 := h.wLea w2.2 w2.1
  refine op_mb (x1_bkL hb hc h6 hB (ct s 1) qFuel 0 μ2 (by omega) (by have := hc.2.1; unfold qFuel; omega) (by rw [bkS0]; exact h2)) (fun μ3 w3 => ?_)
  have hc3 : Cnt (bkS s (ct s 1)) := w3.1.cnt hb
  have e0 : ct (bkS s (ct s 1)) 0 = ct s 0 := ct_eq (by unfold bkS; rw [if_neg (by omega), if_neg (by omega)])
  refine op_mb (x1_rlL hb hc3 (ct s 0) qFuel 0 μ3 (by rw [e0]; omega) (by have := hc.1; unfold qFuel; omega) (by rw [rlS0]; exact w3.1)) (fun μ4 w4 => ?_)
  rw [e0] at w4
  refine op_br (op_r ⟨?_, (((w2.2.mo (fun a e => by unfold Blk; omega)).tr w3.2).tr w4.2).tr (Fs.uI (by unfold Blk; omega))⟩)
  refine w4.1.wSca (w4.1.cnt hb) (Fs.uI rfl) ?_ (fun j hj hj2 => ?_)
  · rw [uI_eq]
    obtain ⟨z1, z2, z3, z4, z5, z6⟩ := w4.1.sca
    exact ⟨z1, congrArg (· + 1) z2, z3, z4, z5, z6⟩
  · unfold tmS
    rw [if_neg (by omega)]
/-- a month is remembered, in the class -/
theorem x1_rem {μ : Mm} {sum least : Int32} (h : SV μ b LS OS ng G cu s g) (hb : kd b = 1) (h424 : s 424 = nI (ct s 424)) :
    Op (F_X1_remember b sum least μ) (fun μ' => SV μ' b LS OS ng G cu (hiS s (s 5) sum (if ng = 0 then 0 else G (ng - 1) 2) least) g ∧ Fs (Blk b) μ μ') := by
  have hc := h.cnt hb
  have c24 := hc.2.2.2.2
  have l := st_ln hb 21 (by decide)
  have e21 : (qStL.getD 21 (0, 0)).2 = 96 := rfl
  unfold F_X1_remember
  rw [h.mon.2.1]
  -- room is made
  have room : Op ((if nI (ct s 424) < 24 then some μ else (F_X2_removeRow (b + 20) 0 μ).bind fun o7 => some o7) : Option Mm) (fun μ2 => Tb μ2 (b + 20) 4 (if ct s 424 < 24 then ct s 424 else 23) (fun r k => s (425 + 4 * ((if ct s 424 < 24 then ct s 424 else 23) - 1 - r) + k)) ∧ Fs (fun a => a = b + 20 ∨ a = b + 20 + 1) μ μ2) := by
    by_cases e : ct s 424 < 24
    · rw [if_pos e]
      exact op_t (nI_lt (b := 24) e (by decide)) (op_r ⟨h.mon, Fs.rf⟩)
    · rw [if_neg e]
      refine op_f (nI_nlt (a := ct s 424) (b := 24) (by omega) (by omega)) (op_b (op_m (x2_rem (r := 0) h.mon (by omega)) (fun μ2 w => op_r ⟨?_, w.2⟩)))
      have w1 := w.1
      rw [show ct s 424 - 1 = 23 by omega] at w1
      refine w1.congr (fun r k hr hk => ?_)
      rw [if_neg (Nat.not_lt_zero r), show 23 - (r + 1) = 23 - 1 - r by omega]
  refine op_mb room (fun μ2 w2 => ?_)
  generalize hm : (if ct s 424 < 24 then ct s 424 else 23) = m at *
  have hm24 : m < 24 := by rw [← hm]; split <;> omega
  have hm2 : (if ct s 424 < 24 then ct s 424 + 1 else 24) = m + 1 := by rw [← hm]; split <;> rfl
  refine op_mb (x2_add w2.1 (by show (m + 1) * 4 ≤ ln (b + 21); omega)) (fun o q => ?_)
  obtain ⟨q1, q2, q3⟩ := q
  rw [q1]
  have eb : o.2.1 b = μ.1 b := ((w2.2.tr q3).1 b (by omega)).1
  have e18 : o.2.1 (b + 18) = μ.1 (b + 18) ∧ o.2.1 (b + 19) = μ.1 (b + 19) := ⟨((w2.2.tr q3).1 _ (by omega)).1, ((w2.2.tr q3).1 _ (by omega)).1⟩
  rw [eb, h.sca.2.1]
  refine op_eb (show F_X2_put (b + 20) (nI m) 0 (s 5) o.2 = _ from x2_put (k := 0) q2 (by omega) (by decide)) ?_
  have u1 := q2.set (r := m) (k := 0) (v := s 5) (by omega) (by decide)
  refine op_eb (show F_X2_put (b + 20) (nI m) 1 sum _ = _ from x2_put (k := 1) u1 (by omega) (by decide)) ?_
  have u2 := u1.set (r := m) (k := 1) (v := sum) (by omega) (by decide)
  have f2 : Fs (fun a => a = b + 20 ∨ a = b + 20 + 1) μ (uI (uI o.2 (b + 20 + 1) (m * 4 + 0) (s 5)) (b + 20 + 1) (m * 4 + 1) sum) := (w2.2.tr q3).tr ((Fs.uI (Or.inr rfl)).tr (Fs.uI (Or.inr rfl)))
  have hout : F_X1_outflowOfMonth b (uI (uI o.2 (b + 20 + 1) (m * 4 + 0) (s 5)) (b + 20 + 1) (m * 4 + 1) sum) = some (if ng = 0 then 0 else G (ng - 1) 2) := by
    have hgg : Tb (uI (uI o.2 (b + 20 + 1) (m * 4 + 0) (s 5)) (b + 20 + 1) (m * 4 + 1) sum) (b + 18) 5 ng G := h.gau.fs f2 (by omega) (by omega)
    have hn6 := (h.lea_le hb).2.2
    unfold F_X1_outflowOfMonth
    rw [hgg.2.1]
    by_cases e : ng = 0
    · rw [if_pos e, e, x2_getO hgg (Or.inl (by decide))]
      rfl
    · rw [if_neg e, nI_sub1 (by omega)]
      exact be_ (x2_get (k := 2) hgg (by omega) (by decide)) rfl
  refine op_eb hout ?_
  generalize (if ng = 0 then (0 : Int32) else G (ng - 1) 2) = ofl
  refine op_eb (show F_X2_put (b + 20) (nI m) 2 ofl _ = _ from x2_put (k := 2) u2 (by omega) (by decide)) ?_
  have u3 := u2.set (r := m) (k := 2) (v := ofl) (by omega) (by decide)
  refine op_eb (show F_X2_put (b + 20) (nI m) 3 least _ = _ from x2_put (k := 3) u3 (by omega) (by decide)) ?_
  have u4 := u3.set (r := m) (k := 3) (v := least) (by omega) (by decide)
  have f4 := f2.tr ((Fs.uI (k := m * 4 + 2) (v := ofl) (Or.inr rfl)).tr (Fs.uI (k := m * 4 + 3) (v := least) (Or.inr rfl)))
  refine op_r ⟨h.wMon hc f4 ?_ (fun j hj hj2 => ?_), f4.mo (fun a e => by unfold Blk; omega)⟩
  · have ec : ct (hiS s (s 5) sum ofl least) 424 = m + 1 := by
      show (hiS s (s 5) sum ofl least 424).toNatClampNeg = _
      unfold hiS
      rw [if_pos rfl, hm2, nI_clamp (by omega)]
    rw [ec]
    refine u4.congr (fun r k hr hk => ?_)
    simp only [up2, hiS]
    rw [if_neg (show ¬ 425 + 4 * (m + 1 - 1 - r) + k = 424 by omega)]
    by_cases e : r = m
    · subst e
      rw [show 425 + 4 * (r + 1 - 1 - r) + k = 425 + k by omega]
      rcases (show k = 0 ∨ k = 1 ∨ k = 2 ∨ k = 3 by omega) with rfl | rfl | rfl | rfl <;> simp
    · simp only [e, false_and, if_false]
      rw [if_pos (show 429 ≤ 425 + 4 * (m + 1 - 1 - r) + k ∧ 425 + 4 * (m + 1 - 1 - r) + k < 521 by omega)]
      rw [show 425 + 4 * (m + 1 - 1 - r) + k - 4 = 425 + 4 * (m - 1 - r) + k by omega]
  · have : j < 521 := hj.1
    unfold hiS
    rw [if_neg (by omega), if_neg (by omega), if_neg (by omega), if_neg (by omega), if_neg (by omega), if_neg (by omega)]
end END

