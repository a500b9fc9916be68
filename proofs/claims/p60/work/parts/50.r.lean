/-! ===== what is sure of the reference's numbers ===== -/
def sumN (f : Nat → Nat) : Nat → Nat
  | 0 => 0
  | n + 1 => sumN f n + f n
theorem sumN_le {f g : Nat → Nat} : ∀ n, (∀ i, i < n → f i ≤ g i) → sumN f n ≤ sumN g n := by
  intro n
  induction n with
  | zero => intro _; exact Nat.le_refl 0
  | succ n ih =>
    intro h
    have := ih (fun i hi => h i (by omega))
    have := h n (by omega)
    rw [sumN, sumN]
    omega
theorem sumN_mono {f : Nat → Nat} {m : Nat} : ∀ n, m ≤ n → sumN f m ≤ sumN f n := by
  intro n
  induction n with
  | zero => intro h; rw [show m = 0 by omega]; exact Nat.le_refl _
  | succ n ih =>
    intro h
    rw [sumN]
    rcases Nat.lt_or_ge m (n + 1) with e | e
    · have := ih (by omega); omega
    · rw [show m = n + 1 by omega, sumN]; omega
theorem sumN_add {f : Nat → Nat} {c : Nat} : ∀ n, sumN (fun i => c + f i) n = c * n + sumN f n := by
  intro n
  induction n with
  | zero => rw [sumN, sumN, Nat.mul_zero]
  | succ n ih => rw [sumN, sumN, ih, Nat.mul_succ]; omega
theorem sumF_sumN {f : Nat → Nat} : ∀ n, sumF (fun i => nI (f i)) n = nI (sumN f n) := by
  intro n
  induction n with
  | zero => rfl
  | succ n ih => rw [sumF, sumN, ih, nI_add]
def rsum (s : Nat → Int32) : Nat := sumN (fun q => ct s (20 + q)) 6
def ClRow (s : Nat → Int32) (c : Nat) : Prop := Bn s (242 + 8 * c + 0) 2 ∧ (Bn s (242 + 8 * c + 1) 9 ∧ (Bn s (242 + 8 * c + 4) 999 ∧ Bn s (242 + 8 * c + 5) 999))
/-- what stays within a river -/
def Stc (s : Nat → Int32) : Prop := Rv s ∧ (Dst s ∧ (LRows s (LSo s) ∧ (ORows s (OSo s) ∧ (Bn s 3 8 ∧ (Bn s 4 6 ∧ (Bn s 6 50 ∧ ((∀ q, q < 6 → Bn s (8 + q) 999) ∧ ((∀ k, k < 12 → Bn s (36 + k) 200) ∧ (∀ k, k < 5 → Bn s (48 + k) 200)))))))))
/-- what moves -/
def Dyn (s : Nat → Int32) : Prop := Bn s 424 24 ∧ ((s 56 = nI (ct s 56) ∧ ct s 56 ≤ 19) ∧ ((∀ a, a < 5 → s (26 + a) = nI (ct s (26 + a)) ∧ ct s (26 + a) * ct s 6 ≤ 1898100) ∧ ((∀ q, q < 6 → s (20 + q) = nI (ct s (20 + q))) ∧ (bsum s + rsum s ≤ 18981 * ct s 5 ∧ ((∀ r, r < 10 → s (58 + 10 * r + 7) = nI (ct s (58 + 10 * r + 7)) ∧ ct s (58 + 10 * r + 7) ≤ 18981 * ct s 5) ∧ ((s 57 = 0 ∨ s 57 = 1) ∧ ((s 57 = 0 → ∀ q k, q < ct s 0 → k < 5 → s (394 + 5 * q + k) = 0) ∧ ((s 57 = 0 → s 56 = 0) ∧ ((∀ q, q < ct s 0 → s (394 + 5 * q + 2) = nI (ct s (394 + 5 * q + 2)) ∧ ct s (394 + 5 * q + 2) < 2 ^ 30) ∧ ∀ c, c < ct s 56 → ClRow s c)))))))))
def Ok (T : Nat) (s : Nat → Int32) : Prop := Stc s ∧ (Dyn s ∧ ct s 5 ≤ T)
theorem com_le {a b c : Nat} (ha : a ≤ 999) (hb : b ≤ 200) (hc : c ≤ 200) : a * b / 100 * c / 100 ≤ 3996 ∧ a * b < 2 ^ 31 ∧ a * b / 100 * c < 2 ^ 31 := by
  have h1 : a * b ≤ 999 * 200 := Nat.mul_le_mul ha hb
  have h2 : a * b / 100 ≤ 1998 := by omega
  have h3 : a * b / 100 * c ≤ 1998 * 200 := Nat.mul_le_mul h2 hc
  omega
def comNN (s : Nat → Int32) (r : Nat) : Nat := ct s (8 + r) * ct s (36 + ct s 5 % 12) / 100 * ct s (48 + ct s 5 / 12 % ct s 7) / 100
theorem comN_nI {s : Nat → Int32} (h : Stc s) {r : Nat} (hr : r < 6) (hq : s (20 + r) = nI (ct s (20 + r))) : comN s r = nI (comNN s r + ct s (20 + r)) ∧ comNN s r ≤ 3996 := by
  obtain ⟨h1, -, -, -, -, -, -, h8, h9, h10⟩ := h
  have hm := Nat.mod_lt (ct s 5) (show 0 < 12 by decide)
  have hv := h1.vt
  have hy := Nat.mod_lt (ct s 5 / 12) (show 0 < ct s 7 by have := hv.2.2.2.1; omega)
  have h75 := hv.2.2.2.2
  obtain ⟨a1, a2⟩ := h8 r hr
  obtain ⟨b1, b2⟩ := h9 (ct s 5 % 12) hm
  obtain ⟨c1, c2⟩ := h10 (ct s 5 / 12 % ct s 7) (by omega)
  obtain ⟨k1, k2, k3⟩ := com_le a2 b2 c2
  refine ⟨?_, k1⟩
  unfold comN yrP comNN
  rw [a1, b1, c1, hq, pct k2, pct k3, nI_add]
theorem Ok.flw {T : Nat} {s : Nat → Int32} (h : Ok T s) (hT : T ≤ 20000) : Flw s := by
  obtain ⟨h1, h2, h3⟩ := h
  obtain ⟨d1, d2, d3, d4, d5, d6, d7, d8, d9, d10, d11⟩ := h2
  have h06 := h1.1.1.2
  intro q hq
  have e : sumF (comN s) (q + 1) = nI (sumN (fun i => comNN s i + ct s (20 + i)) (q + 1)) := by
    rw [← sumF_sumN]
    exact sumF_congr _ (fun i hi => (comN_nI h1 (by omega) (d4 i (by omega))).1)
  have hb : sumN (fun i => comNN s i + ct s (20 + i)) (q + 1) ≤ 3996 * 6 + rsum s := by
    refine Nat.le_trans (sumN_le (g := fun i => 3996 + ct s (20 + i)) _ (fun i hi => ?_)) (Nat.le_trans (sumN_mono 6 (by omega)) (Nat.le_of_eq (sumN_add 6)))
    have := (comN_nI h1 (show i < 6 by omega) (d4 i (by omega))).2
    omega
  have e2 : ct (fun _ => sumF (comN s) (q + 1)) 0 = sumN (fun i => comNN s i + ct s (20 + i)) (q + 1) := ct_nI (s := fun _ => sumF (comN s) (q + 1)) (j := 0) e (by omega)
  rw [e2]
  exact ⟨e, by omega⟩
theorem Ok.mon {T : Nat} {s : Nat → Int32} (h : Ok T s) (hT : T ≤ 20000) : Mon s := by
  have hf := h.flw hT
  obtain ⟨h1, h2, h3⟩ := h
  obtain ⟨d1, d2, d3, d4, d5, d6, d7, d8, d9, d10, d11⟩ := h2
  obtain ⟨s1, s2, s3, s4, s5, s6, s7, s8⟩ := h1
  have hb : ∀ a, a < 5 → ct s (26 + a) ≤ bsum s := by
    intro a ha
    unfold bsum
    rcases (show a = 0 ∨ a = 1 ∨ a = 2 ∨ a = 3 ∨ a = 4 by omega) with rfl | rfl | rfl | rfl | rfl <;> (simp only [Nat.reduceAdd]; omega)
  refine ⟨⟨s1, s2, s3, ?_, s4, hf, ⟨s7, fun a ha => ⟨(d3 a ha).1, (d3 a ha).2, by have := hb a ha; omega⟩⟩, d1.1⟩, s5, s6, d1, fun r hr => ⟨(d6 r hr).1, by have := (d6 r hr).2; omega⟩⟩
  rw [show (LSo s).length = ct s 3 from rwT_len _ _]
  have := s5.2
  omega
/-- claims' rows -/
def ClAll (st : Sg) : Prop := ∀ c, c < ct st.1 56 → ClRow st.1 c
theorem srv_ClAll {its r acc reach w price c : Nat} {st : Sg} (hi : its ≤ 2) (h : Cst st (c + 1)) (ha : Ars st r acc reach w) (hC : ClAll st) : ClAll (srv its r acc reach w price st) := by
  intro q hq
  rw [srv_56 h ha] at hq
  have h2 := h.1.2.2.1.2
  have hr := ha.1
  have hw := ha.2.2.2
  have e := fun k (hk : k < 8) => srv_row (its := its) (price := price) h ha (q := q) (k := k) (by omega) hk
  have hg := got_le (its := its) (r := r) (reach := reach) (w := w) (st := st)
  by_cases e2 : q = ct st.1 56
  · have mk : ∀ {k n m : Nat}, (srv its r acc reach w price st).1 (242 + 8 * q + k) = nI n → n ≤ m → m < 2 ^ 31 → Bn (srv its r acc reach w price st).1 (242 + 8 * q + k) m := fun {k n m} a b d => by
      refine ⟨?_, ?_⟩
      · rw [ct_nI a (by omega)]; exact a
      · rw [ct_nI a (by omega)]; exact b
    have r0 := e 0 (by decide)
    have r1 := e 1 (by decide)
    have r4 := e 4 (by decide)
    have r5 := e 5 (by decide)
    rw [if_pos e2] at r0 r1 r4 r5
    exact ⟨mk r0 hi (by decide), mk r1 (by omega) (by decide), mk r4 hw (by decide), mk r5 (by omega) (by decide)⟩
  · have r0 := e 0 (by decide)
    have r1 := e 1 (by decide)
    have r4 := e 4 (by decide)
    have r5 := e 5 (by decide)
    rw [if_neg e2] at r0 r1 r4 r5
    obtain ⟨c0, c1, c4, c5⟩ := hC q (by omega)
    exact ⟨c0.eq r0, c1.eq r1, c4.eq r4, c5.eq r5⟩
theorem srv_bkN {its r acc reach w price c : Nat} {st : Sg} (h : Cst st (c + 1)) (ha : Ars st r acc reach w) {a : Nat} (h1 : ct st.1 1 ≤ a) (h5 : a < 5) : (srv its r acc reach w price st).1 (26 + a) = st.1 (26 + a) := by
  obtain ⟨a0, a1, a2, a3, a4, a5⟩ := id h.1
  have hf := (a5 r ha.1).1.2
  have := ha.1
  have := a2.2
  have := h.b56.2
  show srvS its r acc reach w st (26 + a) = _
  unfold srvS
  rw [sAcc_n (by omega) (by omega) (by omega), sRgt_n (by omega) (by omega), sGau_n (by omega) (by omega), sClm_n (by omega) (by omega)]

