/-! ===== a month of the class ===== -/
def layS (s : Nat → Int32) : Nat → Int32 := fun j => if 394 ≤ j ∧ j < 394 + 5 * ct s 0 then (if (j - 394) % 5 = 0 then comN s ((j - 394) / 5) else if (j - 394) % 5 = 1 then sumF (comN s) ((j - 394) / 5 + 1) else if (j - 394) % 5 = 2 then s j else 0) else if j = 56 then 0 else s j
def layF (s fl : Nat → Int32) : Nat → Int32 := fun q => if q < ct s 0 then sumF (comN s) (q + 1) else fl q
def bgn (OS : List (Nat → Int32)) (s : Nat → Int32) (g : Nat → Int64) (fl cut : Nat → Int32) : Sg := (layS s, prmG s OS g, layF s fl, cut)
def mst (LS OS : List (Nat → Int32)) (sil : Nat → Bool) (s : Nat → Int32) (g : Nat → Int64) (fl cut : Nat → Int32) : Sg := clA LS OS sil (ct s 2) (bgn OS s g fl cut)
def sumM (M : Sg) : Int32 := sumF (fun c => M.1 (242 + 8 * c + 5)) (ct M.1 56)
def outM (n0 : Nat) (M : Sg) : Int32 := if n0 = 0 then 0 else M.2.2.1 (n0 - 1)
def hisM (n0 : Nat) (M : Sg) : Nat → Int32 := hiS M.1 (M.1 5) (sumM M) (outM n0 M) (calN M.1 (ct M.1 56))
def finC (M : Sg) : Nat → Int32 := tmS (rlS (bkS (hisM (ct M.1 0) M) (ct M.1 1)) (ct M.1 0))
theorem layS_n {s : Nat → Int32} {j : Nat} (h0 : ct s 0 ≤ 6) (h : j ≠ 56) (h2 : j < 394 ∨ 424 ≤ j) : layS s j = s j := by
  unfold layS
  rw [if_neg (by omega), if_neg h]
theorem layS_sta {s : Nat → Int32} (h0 : ct s 0 ≤ 6) : ∀ j, Sta j → layS s j = s j := by
  intro j hj
  have hj : j < 26 ∨ ((36 ≤ j ∧ j < 53) ∨ (j = 54 ∨ (j = 55 ∨ (j = 57 ∨ ((58 ≤ j ∧ (j < 242 ∧ ((j - 58) % 10 ≠ 7 ∧ (j - 58) % 10 ≠ 8))) ∨ ((158 ≤ j ∧ j < 242) ∨ 424 ≤ j)))))) := hj
  exact layS_n h0 (by omega) (by omega)
theorem layS_g {s : Nat → Int32} {q k : Nat} (hq : q < ct s 0) (hk : k < 5) : layS s (394 + 5 * q + k) = if k = 0 then comN s q else if k = 1 then sumF (comN s) (q + 1) else if k = 2 then s (394 + 5 * q + k) else 0 := by
  unfold layS
  rw [if_pos (by omega), show (394 + 5 * q + k - 394) % 5 = k by omega, show (394 + 5 * q + k - 394) / 5 = q by omega]
theorem SV.gc {μ : Mm} {b : Nat} {LS OS : List (Nat → Int32)} {ng : Nat} {G G' : Nat → Nat → Int32} {cu : Nat → Int32} {s : Nat → Int32} {g : Nat → Int64} (h : SV μ b LS OS ng G cu s g) (hG : ∀ r k, r < ng → k < 5 → G r k = G' r k) : SV μ b LS OS ng G' cu s g := by
  obtain ⟨t1, t2, t3, t4, t5, t6, t7, t8⟩ := h
  exact ⟨t1, t2, t3, t4, t5, t6, t7.congr hG, t8⟩
/-- what must hold of the numbers ahead of a month -/
def Flw (s : Nat → Int32) : Prop := ∀ q, q < ct s 0 → sumF (comN s) (q + 1) = nI (ct (fun _ => sumF (comN s) (q + 1)) 0) ∧ ct (fun _ => sumF (comN s) (q + 1)) 0 < 2 ^ 30
def Bks (s : Nat → Int32) : Prop := Bn s 6 50 ∧ ∀ a, a < 5 → s (26 + a) = nI (ct s (26 + a)) ∧ (ct s (26 + a) * ct s 6 ≤ 1898100 ∧ ct s (26 + a) < 2 ^ 29)
def Mok (s : Nat → Int32) (LS OS : List (Nat → Int32)) : Prop := Rv s ∧ (Dst s ∧ (LRows s LS ∧ (LS.length ≤ 9 ∧ (ORows s OS ∧ (Flw s ∧ (Bks s ∧ s 424 = nI (ct s 424)))))))
theorem Dst.sta {s s' : Nat → Int32} (h : Dst s) (h2 : ct s 2 ≤ 10) (hs : ∀ j, Sta j → s' j = s j) : Dst s' := by
  intro a b ha hb e
  rw [ct_eq (hs 2 Sta2)] at ha hb
  rw [hs _ (StaR (by omega) (by decide)), hs _ (StaR (by omega) (by decide))] at e
  exact h a b ha hb e
theorem layF_flo {s fl : Nat → Int32} (h : Flw s) (h0 : ct s 0 ≤ 6) : Flo (ct s 0) (layF s fl) := by
  intro q hq
  obtain ⟨a, b⟩ := h q hq
  have e : layF s fl q = sumF (comN s) (q + 1) := by unfold layF; rw [if_pos hq]
  have e2 : ct (layF s fl) q = ct (fun _ => sumF (comN s) (q + 1)) 0 := by unfold ct; rw [e]
  rw [e2, e]
  exact ⟨a, b⟩
/-- rows of st0 -/
theorem bgn_ok {LS OS : List (Nat → Int32)} {s fl cut : Nat → Int32} {g : Nat → Int64} (h : Mok s LS OS) : Rv (bgn OS s g fl cut).1 ∧ (Dst (bgn OS s g fl cut).1 ∧ (LRows (bgn OS s g fl cut).1 LS ∧ (ORows (bgn OS s g fl cut).1 OS ∧ (Flo (ct (bgn OS s g fl cut).1 0) (bgn OS s g fl cut).2.2.1 ∧ ((bgn OS s g fl cut).1 56 = 0 ∧ (ct (bgn OS s g fl cut).1 2 = ct s 2 ∧ ct (bgn OS s g fl cut).1 0 = ct s 0)))))) := by
  obtain ⟨h1, h2, h3, h4, h5, h6, h7, h8⟩ := h
  have h0 := h1.1.2
  have hs := layS_sta (s := s) h0
  have e0 : ct (layS s) 0 = ct s 0 := ct_eq (hs 0 Sta0)
  refine ⟨h1.sta hs, h2.sta h1.2.2.1.2 hs, h3.sta hs, h5.sta hs, ?_, ?_, ct_eq (hs 2 Sta2), e0⟩
  · show Flo (ct (layS s) 0) (layF s fl)
    rw [e0]
    exact layF_flo h6 h0
  · show layS s 56 = 0
    unfold layS
    rw [if_neg (by omega), if_pos rfl]
theorem clA_ind {P : Sg → Prop} {LS OS : List (Nat → Int32)} {sil : Nat → Bool} {st0 : Sg} (hP : ∀ its r acc reach w price c st, Cst st (c + 1) → Ars st r acc reach w → P st → P (srv its r acc reach w price st)) (hcut : ∀ st r, P st → P (cut0 st r)) (hd : Dst st0.1) (h0 : Rv st0.1) (hf : Flo (ct st0.1 0) st0.2.2.1) (h56 : st0.1 56 = 0) (hL : LRows st0.1 LS) (hl : LS.length ≤ 9) (hO : ORows st0.1 OS) (hp : P st0) : ∀ k, k ≤ ct st0.1 2 → P (clA LS OS sil k st0) := by
  have h2 := h0.2.2.1.2
  intro k
  induction k with
  | zero => intro _; exact hp
  | succ k ih =>
    intro hk
    have I := clA_inv (sil := sil) hd h0 hf h56 hL hl hO k (by omega)
    have p1 := ih (by omega)
    obtain ⟨r, hr1, hr2, hr3⟩ := sen_ex hd (show k < ct st0.1 2 by omega)
    rw [clA_step ((Sta_sen I.2.1 h2 k).trans hr1)]
    have hst2 := cntK_step hr3 LS
    have ec : ct (clA LS OS sil k st0).1 2 = ct st0.1 2 := ct_eq (I.2.1 2 Sta2)
    have hc : Cst (clA LS OS sil k st0) (((ct st0.1 2 - (k + 1)) + cntK st0.1 (k + 1) LS) + 1 + cntR r LS) := I.1.less (by omega)
    unfold clS
    by_cases es : sil r = true
    · rw [if_pos es]
      exact hcut _ r p1
    · rw [if_neg es]
      exact (clR_ind (r := r) (P := P) (fun its acc reach w price c st => hP its r acc reach w price c st) hc (by omega) (hL.sta I.2.1) (hO.sta I.2.1) (hcut _ r p1)).1
def bsum (s : Nat → Int32) : Nat := ct s 26 + ct s 27 + ct s 28 + ct s 29 + ct s 30
/-- banks and gots grow by 999 a claim at most -/
def Gro (s : Nat → Int32) (st : Sg) : Prop := (∀ a, a < 5 → st.1 (26 + a) = nI (ct st.1 (26 + a)) ∧ ct st.1 (26 + a) ≤ ct s (26 + a) + 999 * ct st.1 56) ∧ (bsum st.1 ≤ bsum s + 999 * ct st.1 56 ∧ ∀ r, r < 10 → st.1 (58 + 10 * r + 7) = nI (ct st.1 (58 + 10 * r + 7)) ∧ ct st.1 (58 + 10 * r + 7) ≤ ct s (58 + 10 * r + 7) + 999 * ct st.1 56)
theorem ct_nI {s : Nat → Int32} {j n : Nat} (h : s j = nI n) (hn : n < 2 ^ 31) : ct s j = n := by unfold ct; rw [h, nI_clamp hn]
theorem srv_gro {its r acc reach w price c : Nat} {s : Nat → Int32} {st : Sg} (hs : (∀ a, a < 5 → ct s (26 + a) < 2 ^ 29) ∧ ∀ r, r < 10 → ct s (58 + 10 * r + 7) < 2 ^ 30) (h : Cst st (c + 1)) (ha : Ars st r acc reach w) (hp : Gro s st) : Gro s (srv its r acc reach w price st) := by
  obtain ⟨p1, p2, p3⟩ := hp
  obtain ⟨a0, a1, a2, a3, a4, a5⟩ := id h.1
  have hf := a5 r ha.1
  have h10 := a2.2
  have h5 := a1.2
  have h6 := a0.2
  have hr := ha.1
  have hac := ha.2.1
  have hre := ha.2.2.1
  have hw := ha.2.2.2
  have hcc := h.b56.2
  have ho : ct st.1 (58 + 10 * r + 0) < 5 := by have := hf.1.2; omega
  have e56 := srv_56 (its := its) (price := price) h ha
  have hg := got_le (its := its) (r := r) (reach := reach) (w := w) (st := st)
  have hkp : kpO its r st.1 ≤ 100 := by
    unfold kpO
    have := hf.2.2.2.2.2.1.2
    split <;> omega
  have hbk : bkO its r reach w st ≤ gotO its r reach w st := by
    unfold bkO
    have : gotO its r reach w st * kpO its r st.1 ≤ gotO its r reach w st * 100 := Nat.mul_le_mul_left _ hkp
    omega
  have bank : ∀ a, a < 5 → (srv its r acc reach w price st).1 (26 + a) = nI (ct st.1 (26 + a) + if a = ct st.1 (58 + 10 * r + 0) then bkO its r reach w st else 0) := by
    intro a h5a
    have e := srvS_acc (its := its) (reach := reach) (w := w) (st := st) (r := r) (acc := acc) (by omega) (by omega) ho (q := a) (k := 0) h5a (by decide)
    have e : srvS its r acc reach w st (26 + a) = if a = ct st.1 (58 + 10 * r + 0) ∧ 0 = 0 then st.1 (26 + a) + nI (bkO its r reach w st) else if a = acc ∧ 0 = 1 then st.1 (26 + a) + nI (gotO its r reach w st) else st.1 (26 + a) := e
    show srvS its r acc reach w st (26 + a) = _
    rw [e]
    by_cases z : a = ct st.1 (58 + 10 * r + 0)
    · rw [if_pos ⟨z, rfl⟩, if_pos z, (p1 a h5a).1, nI_add]
    · rw [if_neg (fun y => z y.1), if_neg (fun y => absurd y.2 (by decide)), if_neg z]
      exact (p1 a h5a).1
  have bct : ∀ a, a < 5 → ct (srv its r acc reach w price st).1 (26 + a) = ct st.1 (26 + a) + if a = ct st.1 (58 + 10 * r + 0) then bkO its r reach w st else 0 := by
    intro a h5a
    refine ct_nI (bank a h5a) ?_
    have := (p1 a h5a).2
    have := hs.1 a h5a
    split <;> omega
  refine ⟨fun a h5a => ⟨by rw [bct a h5a]; exact bank a h5a, ?_⟩, ?_, fun q hq => ?_⟩
  · rw [bct a h5a, e56]
    have := (p1 a h5a).2
    split <;> omega
  · have b0 := bct 0 (by decide)
    have b1 := bct 1 (by decide)
    have b2 := bct 2 (by decide)
    have b3 := bct 3 (by decide)
    have b4 := bct 4 (by decide)
    unfold bsum at p2 ⊢
    rw [e56]
    have b0 : ct (srv its r acc reach w price st).1 26 = ct st.1 26 + if 0 = ct st.1 (58 + 10 * r + 0) then bkO its r reach w st else 0 := b0
    have b1 : ct (srv its r acc reach w price st).1 27 = ct st.1 27 + if 1 = ct st.1 (58 + 10 * r + 0) then bkO its r reach w st else 0 := b1
    have b2 : ct (srv its r acc reach w price st).1 28 = ct st.1 28 + if 2 = ct st.1 (58 + 10 * r + 0) then bkO its r reach w st else 0 := b2
    have b3 : ct (srv its r acc reach w price st).1 29 = ct st.1 29 + if 3 = ct st.1 (58 + 10 * r + 0) then bkO its r reach w st else 0 := b3
    have b4 : ct (srv its r acc reach w price st).1 30 = ct st.1 30 + if 4 = ct st.1 (58 + 10 * r + 0) then bkO its r reach w st else 0 := b4
    rw [b0, b1, b2, b3, b4]
    rcases (show ct st.1 (58 + 10 * r + 0) = 0 ∨ ct st.1 (58 + 10 * r + 0) = 1 ∨ ct st.1 (58 + 10 * r + 0) = 2 ∨ ct st.1 (58 + 10 * r + 0) = 3 ∨ ct st.1 (58 + 10 * r + 0) = 4 by omega) with z | z | z | z | z <;> rw [z] <;> simp <;> omega
  · have e := srvS_rgt (its := its) (reach := reach) (w := w) (st := st) (r := r) (acc := acc) (by omega) (by omega) ho (by omega) (q := q) (k := 7) hq (by decide)
    have e2 : (srv its r acc reach w price st).1 (58 + 10 * q + 7) = nI (ct st.1 (58 + 10 * q + 7) + if q = r then gotO its r reach w st else 0) := by
      show srvS its r acc reach w st (58 + 10 * q + 7) = _
      rw [e, if_neg (fun y => absurd y.2 (by decide))]
      by_cases z : q = r
      · rw [if_pos ⟨z, rfl⟩, if_pos z, (p3 q hq).1, nI_add]
      · rw [if_neg (fun y => z y.1), if_neg z]
        exact (p3 q hq).1
    have h2 := (p3 q hq).2
    have h3 := hs.2 q hq
    have e3 : ct (srv its r acc reach w price st).1 (58 + 10 * q + 7) = ct st.1 (58 + 10 * q + 7) + if q = r then gotO its r reach w st else 0 := ct_nI e2 (by split <;> omega)
    rw [e3, e56]
    refine ⟨e2, ?_⟩
    split <;> omega

