/-! ===== claims in a state of the class: four tables at once ===== -/
def T4 (μ : Mm) (b nC : Nat) (fC : Nat → Nat → Int32) (nG : Nat) (fG : Nat → Nat → Int32) (nR : Nat) (fR : Nat → Nat → Int32) (nA : Nat) (fA : Nat → Nat → Int32) : Prop :=
  Tb μ (b + 16) 8 nC fC ∧ (Tb μ (b + 18) 5 nG fG ∧ (Tb μ (b + 8) 10 nR fR ∧ Tb μ (b + 5) 2 nA fA))
def S4 (b : Nat) : Nat → Prop := fun a => (a = b + 16 ∨ a = b + 17) ∨ ((a = b + 18 ∨ a = b + 19) ∨ ((a = b + 8 ∨ a = b + 9) ∨ (a = b + 5 ∨ a = b + 6)))
section T4S
variable {μ : Mm} {b nC nG nR nA : Nat} {fC fG fR fA : Nat → Nat → Int32}
theorem T4.putC (h : T4 μ b nC fC nG fG nR fR nA fA) {r k : Nat} {v : Int32} (hr : r < nC) (hk : k < 8) : Op (F_X2_put (b + 16) (nI r) (nI k) v μ) (fun μ' => T4 μ' b nC (up2 fC r k v) nG fG nR fR nA fA ∧ Fs (S4 b) μ μ') := by
  refine op_e (x2_put h.1 hr hk) ⟨⟨h.1.set hr hk, ?_, ?_, ?_⟩, Fs.uI (by unfold S4; omega)⟩
  · exact h.2.1.keep (uI_ne (by omega)) (uI_ne (by omega))
  · exact h.2.2.1.keep (uI_ne (by omega)) (uI_ne (by omega))
  · exact h.2.2.2.keep (uI_ne (by omega)) (uI_ne (by omega))
theorem T4.incG (h : T4 μ b nC fC nG fG nR fR nA fA) {r k : Nat} {v : Int32} (hr : r < nG) (hk : k < 5) : Op (F_X2_increase (b + 18) (nI r) (nI k) v μ) (fun μ' => T4 μ' b nC fC nG (up2 fG r k (fG r k + v)) nR fR nA fA ∧ Fs (S4 b) μ μ') := by
  refine op_e (x2_inc h.2.1 hr hk) ⟨⟨?_, h.2.1.set hr hk, ?_, ?_⟩, Fs.uI (by unfold S4; omega)⟩
  · exact h.1.keep (uI_ne (by omega)) (uI_ne (by omega))
  · exact h.2.2.1.keep (uI_ne (by omega)) (uI_ne (by omega))
  · exact h.2.2.2.keep (uI_ne (by omega)) (uI_ne (by omega))
theorem T4.incR (h : T4 μ b nC fC nG fG nR fR nA fA) {r k : Nat} {v : Int32} (hr : r < nR) (hk : k < 10) : Op (F_X2_increase (b + 8) (nI r) (nI k) v μ) (fun μ' => T4 μ' b nC fC nG fG nR (up2 fR r k (fR r k + v)) nA fA ∧ Fs (S4 b) μ μ') := by
  refine op_e (x2_inc h.2.2.1 hr hk) ⟨⟨?_, ?_, h.2.2.1.set hr hk, ?_⟩, Fs.uI (by unfold S4; omega)⟩
  · exact h.1.keep (uI_ne (by omega)) (uI_ne (by omega))
  · exact h.2.1.keep (uI_ne (by omega)) (uI_ne (by omega))
  · exact h.2.2.2.keep (uI_ne (by omega)) (uI_ne (by omega))
theorem T4.incA (h : T4 μ b nC fC nG fG nR fR nA fA) {r k : Nat} {v : Int32} (hr : r < nA) (hk : k < 2) : Op (F_X2_increase (b + 5) (nI r) (nI k) v μ) (fun μ' => T4 μ' b nC fC nG fG nR fR nA (up2 fA r k (fA r k + v)) ∧ Fs (S4 b) μ μ') := by
  refine op_e (x2_inc h.2.2.2 hr hk) ⟨⟨?_, ?_, ?_, h.2.2.2.set hr hk⟩, Fs.uI (by unfold S4; omega)⟩
  · exact h.1.keep (uI_ne (by omega)) (uI_ne (by omega))
  · exact h.2.1.keep (uI_ne (by omega)) (uI_ne (by omega))
  · exact h.2.2.1.keep (uI_ne (by omega)) (uI_ne (by omega))
theorem T4.incF (h : T4 μ b nC fC nG fG nR fR nA fA) {r k : Nat} {v : Int32} (hr : r ≤ nG) (hk : k < 5) : Op (F_X2_increaseFrom (b + 18) (nI r) (nI k) v μ) (fun μ' => T4 μ' b nC fC nG (fun q k' => if k' = k ∧ r ≤ q then fG q k' + v else fG q k') nR fR nA fA ∧ Fs (S4 b) μ μ') := by
  refine op_m (x2_incF h.2.1 hr hk) (fun μ' q => ⟨⟨h.1.fs q.2 (by omega) (by omega), q.1, h.2.2.1.fs q.2 (by omega) (by omega), h.2.2.2.fs q.2 (by omega) (by omega)⟩, q.2.mo (fun a e => by unfold S4; omega)⟩)
def rowA (its r acc reach : Int32) (k : Nat) : Int32 := if k = 0 then its else if k = 1 then r else if k = 2 then acc else if k = 3 then reach else 0
theorem T4.addC (h : T4 μ b nC fC nG fG nR fR nA fA) (hb : kd b = 1) {its r acc reach : Int32} (hc : nC < 19) : Op (F_X1_addClaim b its r acc reach μ) (fun o => o.1 = nI nC ∧ (T4 o.2 b (nC + 1) (fun q k => if q = nC then rowA its r acc reach k else fC q k) nG fG nR fR nA fA ∧ Fs (S4 b) μ o.2)) := by
  have l := st_ln hb 17 (by decide)
  have e : (qStL.getD 17 (0, 0)).2 = 152 := rfl
  unfold F_X1_addClaim
  refine op_mb (x2_add h.1 (by show _ ≤ ln (b + 17); omega)) (fun o q => ?_)
  obtain ⟨q1, q2, q3⟩ := q
  have h1 : T4 o.2 b (nC + 1) (fun r k => if r = nC then 0 else fC r k) nG fG nR fR nA fA := ⟨q2, h.2.1.fs q3 (by omega) (by omega), h.2.2.1.fs q3 (by omega) (by omega), h.2.2.2.fs q3 (by omega) (by omega)⟩
  have f1 : Fs (S4 b) μ o.2 := q3.mo (fun a e => by unfold S4; omega)
  rw [q1]
  refine op_mb (h1.putC (r := nC) (k := 0) (v := its) (by omega) (by decide)) (fun μ2 w2 => ?_)
  refine op_mb (w2.1.putC (r := nC) (k := 1) (v := r) (by omega) (by decide)) (fun μ3 w3 => ?_)
  refine op_mb (w3.1.putC (r := nC) (k := 2) (v := acc) (by omega) (by decide)) (fun μ4 w4 => ?_)
  refine op_mb (w4.1.putC (r := nC) (k := 3) (v := reach) (by omega) (by decide)) (fun μ5 w5 => ?_)
  refine op_r ⟨rfl, ⟨w5.1.1.congr (fun q k hq hk => ?_), w5.1.2⟩, (((f1.tr w2.2).tr w3.2).tr w4.2).tr w5.2⟩
  unfold up2 rowA
  by_cases e1 : q = nC
  · subst e1
    rcases (show k = 0 ∨ k = 1 ∨ k = 2 ∨ k = 3 ∨ k = 4 ∨ k = 5 ∨ k = 6 ∨ k = 7 by omega) with rfl | rfl | rfl | rfl | rfl | rfl | rfl | rfl <;> simp
  · simp only [e1, false_and, if_false]
/-- what divert does -/
theorem T4.div (h : T4 μ b nC fC nG fG nR fR nA fA) {c reach r acc : Nat} {w got : Int32} (hc : c < nC) (e3 : fC c 3 = nI reach) (e1 : fC c 1 = nI r) (e2 : fC c 2 = nI acc) (hg : reach < nG) (hr : r < nR) (ha : acc < nA) :
    Op (F_X1_divert b (nI c) w got μ) (fun μ' => T4 μ' b nC (up2 (up2 fC c 4 w) c 5 got) nG (fun q k => if k = 2 ∧ reach ≤ q then up2 fG reach 3 (fG reach 3 + got) q k + (-got) else up2 fG reach 3 (fG reach 3 + got) q k) nR (up2 fR r 7 (fR r 7 + got)) nA (up2 fA acc 1 (fA acc 1 + got)) ∧ Fs (S4 b) μ μ') := by
  unfold F_X1_divert
  refine op_eb (show F_X2_get (b + 16) (nI c) 3 μ = _ from x2_get (k := 3) h.1 hc (by decide)) ?_
  rw [e3]
  refine op_mb (h.putC (r := c) (k := 4) (v := w) hc (by decide)) (fun μ2 w2 => ?_)
  refine op_mb (w2.1.putC (r := c) (k := 5) (v := got) hc (by decide)) (fun μ3 w3 => ?_)
  refine op_mb (w3.1.incG (r := reach) (k := 3) (v := got) hg (by decide)) (fun μ4 w4 => ?_)
  refine op_mb (w4.1.incF (r := reach) (k := 2) (v := -got) (by omega) (by decide)) (fun μ5 w5 => ?_)
  refine op_eb (show F_X2_get (b + 16) (nI c) 1 μ5 = some (nI r) from (x2_get (k := 1) w5.1.1 hc (by decide)).trans (by unfold up2; rw [if_neg (by omega), if_neg (by omega), e1])) ?_
  refine op_mb (w5.1.incR (r := r) (k := 7) (v := got) hr (by decide)) (fun μ6 w6 => ?_)
  refine op_eb (show F_X2_get (b + 16) (nI c) 2 μ6 = some (nI acc) from (x2_get (k := 2) w6.1.1 hc (by decide)).trans (by unfold up2; rw [if_neg (by omega), if_neg (by omega), e2])) ?_
  refine op_mb (w6.1.incA (r := acc) (k := 1) (v := got) ha (by decide)) (fun μ7 w7 => ?_)
  exact op_r ⟨w7.1, ((((w2.2.tr w3.2).tr w4.2).tr w5.2).tr w6.2).tr w7.2⟩
theorem T4.give (h : T4 μ b nC fC nG fG nR fR nA fA) {c to r : Nat} {back : Int32} (hc : c < nC) (e1 : fC c 1 = nI r) (hg : to < nG) (hr : r < nR) :
    Op (F_X1_giveBack b (nI c) (nI to) back μ) (fun μ' => T4 μ' b nC (up2 fC c 7 back) nG (fun q k => if k = 2 ∧ to ≤ q then up2 fG to 4 (fG to 4 + back) q k + back else up2 fG to 4 (fG to 4 + back) q k) nR (up2 fR r 8 (fR r 8 + back)) nA fA ∧ Fs (S4 b) μ μ') := by
  unfold F_X1_giveBack
  refine op_mb (h.putC (r := c) (k := 7) (v := back) hc (by decide)) (fun μ2 w2 => ?_)
  refine op_mb (w2.1.incG (r := to) (k := 4) (v := back) hg (by decide)) (fun μ3 w3 => ?_)
  refine op_mb (w3.1.incF (r := to) (k := 2) (v := back) (by omega) (by decide)) (fun μ4 w4 => ?_)
  refine op_eb (show F_X2_get (b + 16) (nI c) 1 μ4 = some (nI r) from (x2_get (k := 1) w4.1.1 hc (by decide)).trans (by unfold up2; rw [if_neg (by omega), e1])) ?_
  refine op_mb (w4.1.incR (r := r) (k := 8) (v := back) hr (by decide)) (fun μ5 w5 => ?_)
  exact op_r ⟨w5.1, ((w2.2.tr w3.2).tr w4.2).tr w5.2⟩
theorem T4.bank (h : T4 μ b nC fC nG fG nR fR nA fA) {c acc : Nat} {bk : Int32} (hc : c < nC) (ha : acc < nA) :
    Op (F_X1_putInBank b (nI c) (nI acc) bk μ) (fun μ' => T4 μ' b nC (up2 fC c 6 bk) nG fG nR fR nA (up2 fA acc 0 (fA acc 0 + bk)) ∧ (Fs (fun a => S4 b a ∨ a = b) μ μ' ∧ ∀ j, μ'.1 b j = if j = 16 then μ.1 b 16 + bk else μ.1 b j)) := by
  unfold F_X1_putInBank
  refine op_mb (h.putC (r := c) (k := 6) (v := bk) hc (by decide)) (fun μ2 w2 => ?_)
  refine op_mb (w2.1.incA (r := acc) (k := 0) (v := bk) ha (by decide)) (fun μ3 w3 => ?_)
  have e0 : μ3.1 b = μ.1 b := ((w2.2.tr w3.2).1 b (by unfold S4; omega)).1
  refine op_br (op_r ⟨⟨?_, ?_, ?_, ?_⟩, Fs.tr ((w2.2.tr w3.2).mo (fun a e => Or.inl e)) (Fs.uI (Or.inr rfl)), fun j => ?_⟩)
  · exact w3.1.1.keep (uI_ne (by omega)) (uI_ne (by omega))
  · exact w3.1.2.1.keep (uI_ne (by omega)) (uI_ne (by omega))
  · exact w3.1.2.2.1.keep (uI_ne (by omega)) (uI_ne (by omega))
  · exact w3.1.2.2.2.keep (uI_ne (by omega)) (uI_ne (by omega))
  · rw [uI_eq, e0]
end T4S
/-! the search -/
theorem pct {x k : Nat} (h : x * k < 2 ^ 31) : nI x * nI k / 100 = nI (x * k / 100) := by
  rw [pk_mul]
  exact pk_div (d := 100) h (by decide) (by decide)
theorem mx0 {f m : Nat} (hf : f < 2 ^ 30) (hm : m < 2 ^ 30) : (if nI f - nI m < (0 : Int32) then (0 : Int32) else nI f - nI m) = nI (f - m) := by
  by_cases e : f < m
  · rw [if_pos (pk_sneg hm e), show f - m = 0 by omega]
    rfl
  · rw [pk_sub (by omega), if_neg (nI_pos (by omega))]
theorem mn0 {a l : Nat} (ha : a < 2 ^ 31) (hl : l < 2 ^ 31) : (if nI a < nI l then nI a else nI l) = nI (if a < l then a else l) := by
  by_cases e : a < l
  · rw [if_pos (nI_lt e hl), if_pos e]
  · rw [if_neg (nI_nlt (by omega) ha), if_neg e]
theorem lspN_lel {sp : Nat → Nat} (d q l : Nat) : lspN sp q d l ≤ l := ((lspN_le d q l _).mp (Nat.le_refl _)).1
section SR
variable {μ : Mm} {b : Nat} {LS OS : List (Nat → Int32)} {ng : Nat} {G : Nat → Nat → Int32} {cu : Nat → Int32} {s : Nat → Int32} {g : Nat → Int64}
theorem x1_lspL (hg : Tb μ (b + 18) 5 ng G) (hr : Tb μ (b + 1) 3 (ct s 0) (fun r k => s (8 + 6 * k + r))) {F : Nat → Nat} {to : Nat} (ht : to ≤ ng) (h0 : ng ≤ ct s 0) (hF : ∀ q, q < ng → G q 2 = nI (F q) ∧ F q < 2 ^ 30) (hm : ∀ q, q < ct s 0 → s (14 + q) = nI (ct s (14 + q)) ∧ ct s (14 + q) < 2 ^ 30) :
    ∀ (d m q l : Nat), q + d = to → d < m → l < 2 ^ 30 → F_X1_leastSpare_6 b (nI to) μ m (nI l) (nI q) = some (nI (lspN (fun q => F q - ct s (14 + q)) q d l)) := by
  have n1 := hg.n_le
  intro d
  induction d with
  | zero =>
    intro m q l hq hm2 hl
    obtain ⟨m, rfl⟩ : ∃ z, m = z + 1 := ⟨m - 1, by omega⟩
    rw [F_X1_leastSpare_6, if_pos (nI_le (by omega) (by omega))]
    rfl
  | succ d ih =>
    intro m q l hq hm2 hl
    obtain ⟨m, rfl⟩ : ∃ z, m = z + 1 := ⟨m - 1, by omega⟩
    obtain ⟨f1, f2⟩ := hF q (by omega)
    obtain ⟨m1, m2⟩ := hm q (by omega)
    rw [F_X1_leastSpare_6, if_neg (nI_ge (by omega) (by omega)), hg.2.1, if_neg (nI_ge (by omega) (by omega))]
    refine be_ (x2_get (k := 2) hg (by omega) (by decide)) (be_ (x2_get (k := 1) hr (by omega) (by decide)) ?_)
    show F_X1_leastSpare_6 b (nI to) μ m (if (if G q 2 - s (14 + q) < (0 : Int32) then (0 : Int32) else G q 2 - s (14 + q)) < nI l then (if G q 2 - s (14 + q) < (0 : Int32) then (0 : Int32) else G q 2 - s (14 + q)) else nI l) (nI q + 1) = _
    rw [f1, m1, mx0 f2 m2, mn0 (by omega) (by omega), nI_1]
    have hl2 : (if F q - ct s (14 + q) < l then F q - ct s (14 + q) else l) < 2 ^ 30 := by split <;> omega
    exact ih m (q + 1) _ (by omega) (by omega) hl2
theorem x1_lsp (hg : Tb μ (b + 18) 5 ng G) (hr : Tb μ (b + 1) 3 (ct s 0) (fun r k => s (8 + 6 * k + r))) {F : Nat → Nat} {q to l : Nat} (hq : q ≤ to) (ht : to ≤ ng) (h0 : ng ≤ ct s 0) (hF : ∀ q, q < ng → G q 2 = nI (F q) ∧ F q < 2 ^ 30) (hm : ∀ q, q < ct s 0 → s (14 + q) = nI (ct s (14 + q)) ∧ ct s (14 + q) < 2 ^ 30) (hl : l < 2 ^ 30) :
    F_X1_leastSpare b (nI q) (nI to) (nI l) μ = some (nI (lspN (fun q => F q - ct s (14 + q)) q (to - q) l)) := by
  have n1 := hg.n_le
  unfold F_X1_leastSpare
  rw [x1_lspL hg hr ht h0 hF hm (to - q) qFuel q l (by omega) (by unfold qFuel; omega) hl]
  rfl
end SR
theorem x1_binL {μ : Mm} {sp kp rt w : Nat} (hs : sp < 2 ^ 30) (hk : kp ≤ 100) (hr : rt ≤ 100) (hw : w < 2 ^ 20) : ∀ (j m lo hi st : Nat), lo ≤ hi → hi ≤ w → hi - lo < 2 ^ j → j + st ≤ 32 → j < m → lo - backN kp rt lo ≤ sp → (∀ x, hi < x → x ≤ w → ¬ x - backN kp rt x ≤ sp) →
    ∃ t, F_X1_mostThatLowersBy_9 (nI sp) (nI kp) (nI rt) μ m (nI lo) (nI hi) (nI st) = some (nI t) ∧ (t ≤ w ∧ (t - backN kp rt t ≤ sp ∧ ∀ x, t < x → x ≤ w → ¬ x - backN kp rt x ≤ sp)) := by
  intro j
  induction j with
  | zero =>
    intro m lo hi st h1 h2 h3 h4 h5 h6 h7
    obtain ⟨m, rfl⟩ : ∃ z, m = z + 1 := ⟨m - 1, by omega⟩
    obtain rfl : lo = hi := by omega
    refine ⟨lo, ?_, h2, h6, h7⟩
    rw [F_X1_mostThatLowersBy_9]
    by_cases e : (32 : Int32) ≤ nI st
    · rw [if_pos e]
    · rw [if_neg e, if_pos (Int32.le_refl _)]
  | succ j ih =>
    intro m lo hi st h1 h2 h3 h4 h5 h6 h7
    obtain ⟨m, rfl⟩ : ∃ z, m = z + 1 := ⟨m - 1, by omega⟩
    by_cases e : hi ≤ lo
    · refine ⟨lo, ?_, by omega, h6, ?_⟩
      · rw [F_X1_mostThatLowersBy_9, if_neg (show ¬ (32 : Int32) ≤ nI st from nI_ge (b := 32) (by omega) (by omega)), if_pos (nI_le e (by omega))]
      · rw [show lo = hi by omega]; exact h7
    · have em : (nI lo + nI hi + 1) / 2 = nI ((lo + hi + 1) / 2) := by
        rw [nI_add, nI_1]
        exact pk_div (d := 2) (by omega) (by decide) (by decide)
      generalize hmid : (lo + hi + 1) / 2 = mid at em
      have hm1 : lo < mid ∧ mid ≤ hi := by omega
      have hp : 2 ^ (j + 1) = 2 * 2 ^ j := by rw [Nat.pow_succ]; omega
      have k1 : mid * kp ≤ mid * 100 := Nat.mul_le_mul_left _ hk
      have k2 : (mid - mid * kp / 100) * rt ≤ (mid - mid * kp / 100) * 100 := Nat.mul_le_mul_left _ hr
      have kb := backN_le (kp := kp) (x := mid) hr
      have e1 : F_X1_percentOf (nI mid) (nI kp) μ = some (nI (mid * kp / 100)) := by
        unfold F_X1_percentOf
        rw [pct (by omega)]
      have e2 : F_X1_percentOf (nI mid - nI (mid * kp / 100)) (nI rt) μ = some (nI (backN kp rt mid)) := by
        unfold F_X1_percentOf
        rw [pk_sub (by omega), pct (by omega)]
        rfl
      have step : F_X1_mostThatLowersBy_9 (nI sp) (nI kp) (nI rt) μ (m + 1) (nI lo) (nI hi) (nI st) = if mid - backN kp rt mid ≤ sp then F_X1_mostThatLowersBy_9 (nI sp) (nI kp) (nI rt) μ m (nI mid) (nI hi) (nI (st + 1)) else F_X1_mostThatLowersBy_9 (nI sp) (nI kp) (nI rt) μ m (nI lo) (nI (mid - 1)) (nI (st + 1)) := by
        rw [F_X1_mostThatLowersBy_9, if_neg (show ¬ (32 : Int32) ≤ nI st from nI_ge (b := 32) (by omega) (by omega)), if_neg (nI_ge (by omega) (by omega)), em]
        refine be_ e1 (be_ e2 ?_)
        rw [pk_sub kb, nI_1, nI_sub1 (by omega)]
        by_cases e3 : mid - backN kp rt mid ≤ sp
        · rw [if_neg (nI_nlt e3 (by omega)), if_pos e3]
          rfl
        · rw [if_pos (nI_lt (by omega) (by omega)), if_neg e3]
          rfl
      rw [step]
      by_cases e3 : mid - backN kp rt mid ≤ sp
      · rw [if_pos e3]
        exact ih m mid hi (st + 1) hm1.2 h2 (by omega) (by omega) (by omega) e3 h7
      · rw [if_neg e3]
        refine ih m lo (mid - 1) (st + 1) (by omega) (by omega) (by omega) (by omega) (by omega) h6 (fun x hx hxw hq => ?_)
        have hmo := lowN_mono hk hr (x - mid) mid
        rw [show mid + (x - mid) = x by omega] at hmo
        omega
theorem x1_bin {μ : Mm} {sp kp rt w : Nat} (hs : sp < 2 ^ 30) (hk : kp ≤ 100) (hr : rt ≤ 100) (hw : w < 2 ^ 20) : ∃ t, F_X1_mostThatLowersBy (nI sp) (nI w) (nI kp) (nI rt) μ = some (nI t) ∧ (t ≤ w ∧ (t - backN kp rt t ≤ sp ∧ ∀ x, t < x → x ≤ w → ¬ x - backN kp rt x ≤ sp)) := by
  obtain ⟨t, h1, h2⟩ := x1_binL (μ := μ) hs hk hr hw 20 qFuel 0 w 0 (Nat.zero_le w) (Nat.le_refl w) (by omega) (by decide) (by decide) (by rw [backN_0]; omega) (fun x a b => by omega)
  refine ⟨t, ?_, h2⟩
  unfold F_X1_mostThatLowersBy
  rw [show (0 : Int32) = nI 0 from rfl, h1]
  rfl

