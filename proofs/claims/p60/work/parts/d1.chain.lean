/-! ===== a month's claims, one behind the other ===== -/
/-- a claim was served from a state -/
def StepC (s : Nat → Int32) (R fl fl' : Nat → Int32) : Prop := ∃ (st : Sg) (its r acc reach w c : Nat), its ≤ 2 ∧ ((∀ j, Sta j → st.1 j = s j) ∧ (Cst st (c + 1) ∧ (Ars st r acc reach w ∧ (st.2.2.1 = fl ∧ (fl' = srvF its r reach w st ∧ ∀ k, k < 8 → R k = rowF (nI its) (nI r) (nI acc) (nI reach) (nI w) (nI (gotO its r reach w st)) (nI (bkO its r reach w st)) (nI (backO its r reach w st)) k)))))
theorem StepC.congr {s R R' fl fl' : Nat → Int32} (h : StepC s R fl fl') (hR : ∀ k, k < 8 → R' k = R k) : StepC s R' fl fl' := by
  obtain ⟨st, its, r, acc, reach, w, c, h1, h2, h3, h4, h5, h6, h7⟩ := h
  exact ⟨st, its, r, acc, reach, w, c, h1, h2, h3, h4, h5, h6, fun k hk => (hR k hk).trans (h7 k hk)⟩
def cRow (s : Nat → Int32) (c : Nat) : Nat → Int32 := fun k => s (242 + 8 * c + k)
/-- claims, the flows between them; their rights stand in order, below a rank -/
def Chn (s fl0 : Nat → Int32) (k : Nat) (st : Sg) : Prop := (∀ j, Sta j → st.1 j = s j) ∧ ∃ (Fw : Nat → Nat → Int32) (ri : Nat → Nat), Fw 0 = fl0 ∧ (Fw (ct st.1 56) = st.2.2.1 ∧ ∀ c, c < ct st.1 56 → StepC s (cRow st.1 c) (Fw c) (Fw (c + 1)) ∧ (st.1 (242 + 8 * c + 1) = nI (ri c) ∧ (ri c < ct s 2 ∧ (rk s (ri c) < k ∧ (0 < c → rk s (ri (c - 1)) ≤ rk s (ri c))))))
theorem Chn.mono {s fl0 : Nat → Int32} {k k' : Nat} {st : Sg} (h : Chn s fl0 k st) (hk : k ≤ k') : Chn s fl0 k' st := by
  obtain ⟨h1, Fw, ri, h2, h3, h4⟩ := h
  exact ⟨h1, Fw, ri, h2, h3, fun c hc => ⟨(h4 c hc).1, (h4 c hc).2.1, (h4 c hc).2.2.1, Nat.lt_of_lt_of_le (h4 c hc).2.2.2.1 hk, (h4 c hc).2.2.2.2⟩⟩
theorem Chn.cut {s fl0 : Nat → Int32} {k r : Nat} {st : Sg} (h : Chn s fl0 k st) : Chn s fl0 k (cut0 st r) := h
theorem srv_chn {s fl0 : Nat → Int32} {k its r acc reach w price c : Nat} {st : Sg} (hi : its ≤ 2) (hk : rk s r = k) (h : Cst st (c + 1)) (ha : Ars st r acc reach w) (hp : Chn s fl0 (k + 1) st) : Chn s fl0 (k + 1) (srv its r acc reach w price st) := by
  obtain ⟨h1, Fw, ri, f0, f1, f2⟩ := hp
  have e56 := srv_56 (its := its) (price := price) h ha
  have hk2 := h.srv (its := its) (price := price) ha
  have h2 : ct st.1 2 = ct s 2 := ct_eq (h1 2 Sta2)
  obtain ⟨G, g1, g2⟩ : ∃ G : Nat → Nat → Int32, G (ct st.1 56 + 1) = srvF its r reach w st ∧ ∀ q, q ≠ ct st.1 56 + 1 → G q = Fw q := ⟨fun q => if q = ct st.1 56 + 1 then srvF its r reach w st else Fw q, if_pos rfl, fun q hq => if_neg hq⟩
  obtain ⟨rr, r1, r2⟩ : ∃ rr : Nat → Nat, rr (ct st.1 56) = r ∧ ∀ q, q ≠ ct st.1 56 → rr q = ri q := ⟨fun q => if q = ct st.1 56 then r else ri q, if_pos rfl, fun q hq => if_neg hq⟩
  refine ⟨fun j hj => (hk2.2 j hj).trans (h1 j hj), G, rr, (g2 0 (by omega)).trans f0, by rw [e56]; exact g1, fun q hq => ?_⟩
  rw [e56] at hq
  by_cases e : q = ct st.1 56
  · subst e
    rw [g1, g2 (ct st.1 56) (by omega), r1]
    refine ⟨⟨st, its, r, acc, reach, w, c, hi, h1, h, ha, f1.symm, rfl, fun j hj => (srv_row h ha (Nat.le_refl _) hj).trans (if_pos rfl)⟩, (srv_row (k := 1) h ha (Nat.le_refl _) (by decide)).trans (if_pos rfl), by rw [← h2]; exact ha.1, by omega, fun hq0 => ?_⟩
    rw [r2 _ (by omega)]
    have := (f2 (ct st.1 56 - 1) (by omega)).2.2.2.1
    omega
  · obtain ⟨a1, a2, a3, a4, a5⟩ := f2 q (by omega)
    rw [g2 q (by omega), g2 (q + 1) (by omega), r2 q e]
    refine ⟨a1.congr (fun j hj => (srv_row h ha (by omega) hj).trans (if_neg e)), ((srv_row (k := 1) h ha (by omega) (by decide)).trans (if_neg e)).trans a2, a3, a4, fun hq0 => ?_⟩
    rw [r2 _ (by omega)]
    exact a5 hq0
theorem clA_chn {LS OS : List (Nat → Int32)} {sil : Nat → Bool} {st0 : Sg} (hd : Dst st0.1) (h0 : Rv st0.1) (hf : Flo (ct st0.1 0) st0.2.2.1) (h56 : st0.1 56 = 0) (hL : LRows st0.1 LS) (hl : LS.length ≤ 9) (hO : ORows st0.1 OS) : ∀ k, k ≤ ct st0.1 2 → Chn st0.1 st0.2.2.1 k (clA LS OS sil k st0) := by
  have h2 := h0.2.2.1.2
  intro k
  induction k with
  | zero =>
    intro _
    have e56 : ct st0.1 56 = 0 := ct_nI (h56.trans nI_0.symm) (by decide)
    refine ⟨fun _ _ => rfl, fun _ => st0.2.2.1, fun _ => 0, rfl, rfl, fun c hc => ?_⟩
    have hc : c < ct st0.1 56 := hc
    omega
  | succ k ih =>
    intro hk
    have I := clA_inv (sil := sil) hd h0 hf h56 hL hl hO k (by omega)
    have hss := Sta_sen I.2.1 h2 k
    obtain ⟨r, hr1, hr2, hr3⟩ := sen_ex hd (show k < ct st0.1 2 by omega)
    have estep := clA_step (LS := LS) (OS := OS) (sil := sil) (hss.trans hr1)
    have hp := ih (by omega)
    rw [estep]
    unfold clS
    by_cases es : sil r = true
    · rw [if_pos es]
      exact (hp.mono (Nat.le_succ k)).cut
    · rw [if_neg es]
      have hst2 := cntK_step hr3 LS
      have hc : Cst (clA LS OS sil k st0) (((ct st0.1 2 - (k + 1)) + cntK st0.1 (k + 1) LS) + 1 + cntR r LS) := I.1.less (by omega)
      exact clR_ind2 (r := r) (P := Chn st0.1 st0.2.2.1 (k + 1)) (fun its acc reach w price c st hi hc ha hp => srv_chn hi hr3 hc ha hp) hc (by rw [ct_eq (I.2.1 2 Sta2)]; exact hr2) (hL.sta I.2.1) (hO.sta I.2.1) ((hp.mono (Nat.le_succ k)).cut)
/-! the numbers of a claim that the law looks at -/
def kpC (s : Nat → Int32) (its r : Nat) : Nat := if its = 0 then ct s (58 + 10 * r + 6) else 0
def rtC (s : Nat → Int32) (its r : Nat) : Nat := if its = 0 then ct s (58 + 10 * r + 4) else 0
def okC (s : Nat → Int32) (its r reach x : Nat) (fl : Nat → Int32) : Bool := okN (ct s 0) (fun q => ct s (14 + q)) (fun q => ct fl q) reach (kpC s its r) (rtC s its r) (ct s (58 + 10 * r + 5)) x
def byC (s : Nat → Int32) (its r x q : Nat) : Nat := byN (kpC s its r) (rtC s its r) (ct s (58 + 10 * r + 5)) x q
def bkC (s : Nat → Int32) (its r x : Nat) : Nat := x * kpC s its r / 100
def flC (s fl : Nat → Int32) (its r reach x : Nat) : Nat → Int32 := fun q => if reach ≤ q ∧ q < ct s 0 then fl q - nI (byC s its r x q) else fl q
/-- a claim gets what the law says -/
def FitC (s : Nat → Int32) (R fl fl' : Nat → Int32) : Prop := ∃ its r reach w got : Nat, its ≤ 2 ∧ ((R 0 = nI its ∧ (R 1 = nI r ∧ (R 3 = nI reach ∧ (R 4 = nI w ∧ (R 5 = nI got ∧ (R 6 = nI (bkC s its r got) ∧ R 7 = nI (backN (kpC s its r) (rtC s its r) got))))))) ∧ (r < ct s 2 ∧ (reach < ct s 0 ∧ (w ≤ 999 ∧ (got ≤ w ∧ (okC s its r reach got fl = true ∧ ((got < w → ¬ okC s its r reach (got + 1) fl = true) ∧ (Flo (ct s 0) fl ∧ fl' = flC s fl its r reach got))))))))
theorem okN_cg {n0 : Nat} {mn mn' fl : Nat → Nat} {reach kp rt to x : Nat} (h : ∀ q, q < n0 → mn' q = mn q) : okN n0 mn' fl reach kp rt to x = okN n0 mn fl reach kp rt to x := by
  unfold okN
  have e : (∀ q, q < n0 → (reach ≤ q → (byN kp rt to x q = 0 ∨ byN kp rt to x q + mn' q ≤ fl q))) ↔ (∀ q, q < n0 → (reach ≤ q → (byN kp rt to x q = 0 ∨ byN kp rt to x q + mn q ≤ fl q))) := by
    constructor
    · intro z q hq hr
      have := z q hq hr
      rw [h q hq] at this
      exact this
    · intro z q hq hr
      rw [h q hq]
      exact z q hq hr
  exact decide_eq_decide.mpr e
theorem StepC.fit {s s' R fl fl' : Nat → Int32} (h : StepC s R fl fl') (h0 : ct s' 0 = ct s 0) (h2 : ct s' 2 = ct s 2) (hm : ∀ q, q < 6 → ct s' (14 + q) = ct s (14 + q)) (hr : ∀ r k, r < 10 → k < 7 → ct s' (58 + 10 * r + k) = ct s (58 + 10 * r + k)) (h06 : ct s 0 ≤ 6) (h210 : ct s 2 ≤ 10) : FitC s' R fl fl' := by
  obtain ⟨st, its, r, acc, reach, w, c, hi, hs, hc, ⟨a1, a2, a3, a4⟩, rfl, rfl, hR⟩ := h
  have e0 : ct st.1 0 = ct s' 0 := (ct_eq (hs 0 Sta0)).trans h0.symm
  have e2 : ct st.1 2 = ct s' 2 := (ct_eq (hs 2 Sta2)).trans h2.symm
  have hr10 : r < 10 := by omega
  have er : ∀ k, k < 7 → ct st.1 (58 + 10 * r + k) = ct s' (58 + 10 * r + k) := fun k hk => (ct_eq (hs _ (StaR hr10 hk))).trans (hr r k hr10 hk).symm
  have em : ∀ q, q < ct s' 0 → ct st.1 (14 + q) = ct s' (14 + q) := fun q hq => (ct_eq (hs _ (Or.inl (by omega)))).trans (hm q (by omega)).symm
  have ek : kpO its r st.1 = kpC s' its r := by
    unfold kpO kpC
    rw [er 6 (by decide)]
  have et : rtO its r st.1 = rtC s' its r := by
    unfold rtO rtC
    rw [er 4 (by decide)]
  have eok : ∀ x, okN (ct st.1 0) (fun q => ct st.1 (14 + q)) (fun q => ct st.2.2.1 q) reach (kpO its r st.1) (rtO its r st.1) (ct st.1 (58 + 10 * r + 5)) x = okC s' its r reach x st.2.2.1 := fun x => by
    unfold okC
    rw [ek, et, er 5 (by decide), e0]
    exact okN_cg em
  have eg : gotO its r reach w st = dn (fun x => okC s' its r reach x st.2.2.1) w := by
    unfold gotO
    exact congrArg (fun P => dn P w) (funext eok)
  have ebk : bkO its r reach w st = bkC s' its r (gotO its r reach w st) := by
    unfold bkO bkC
    rw [ek]
  have eba : backO its r reach w st = backN (kpC s' its r) (rtC s' its r) (gotO its r reach w st) := by
    unfold backO
    rw [ebk, et]
    rfl
  have r0 := hR 0 (by decide)
  have r1 := hR 1 (by decide)
  have r3 := hR 3 (by decide)
  have r4 := hR 4 (by decide)
  have r5 := hR 5 (by decide)
  have r6 := hR 6 (by decide)
  have r7 := hR 7 (by decide)
  rw [ebk] at r6
  rw [eba] at r7
  have ok0 : okC s' its r reach 0 st.2.2.1 = true := okN_0
  refine ⟨its, r, reach, w, gotO its r reach w st, hi, ⟨r0, r1, r3, r4, r5, r6, r7⟩, by omega, by omega, a4, got_le, ?_, fun hlt => ?_, ?_, ?_⟩
  · rw [eg]
    exact dn_ok (P := fun x => okC s' its r reach x st.2.2.1) ok0 w
  · rw [eg] at hlt ⊢
    exact dn_no (P := fun x => okC s' its r reach x st.2.2.1) w _ (Nat.lt_succ_self _) hlt
  · have := hc.2.1
    rw [e0] at this
    exact this
  · unfold srvF flC byC
    rw [ek, et, er 5 (by decide), e0]
