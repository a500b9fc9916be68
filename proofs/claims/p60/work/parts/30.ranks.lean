/-! ===== a month's claims, by ranks ===== -/
def cntK (s : Nat → Int32) (k : Nat) : List (Nat → Int32) → Nat
  | [] => 0
  | row :: L => (if k ≤ rk s (ct row 0) then 1 else 0) + cntK s k L
theorem cntK_le (s : Nat → Int32) (k : Nat) : ∀ L : List (Nat → Int32), cntK s k L ≤ L.length := by
  intro L
  induction L with
  | nil => exact Nat.le_refl 0
  | cons row L ih => rw [cntK, List.length_cons]; split <;> omega
theorem cntK_step {s : Nat → Int32} {k r : Nat} (hk : rk s r = k) : ∀ L : List (Nat → Int32), cntK s (k + 1) L + cntR r L ≤ cntK s k L := by
  intro L
  induction L with
  | nil => exact Nat.le_refl 0
  | cons row L ih =>
    rw [cntK, cntK, cntR]
    by_cases e : ct row 0 = r
    · rw [if_pos e, e, hk, if_neg (by omega), if_pos (Nat.le_refl k)]
      omega
    · rw [if_neg e]
      by_cases e2 : k + 1 ≤ rk s (ct row 0)
      · rw [if_pos e2, if_pos (by omega)]
        omega
      · rw [if_neg e2]
        split <;> omega
theorem cntK_eq {s s' : Nat → Int32} (h : ∀ r, r < ct s 2 → rk s' r = rk s r) {k : Nat} : ∀ L : List (Nat → Int32), (∀ row, row ∈ L → ct row 0 < ct s 2) → cntK s' k L = cntK s k L := by
  intro L
  induction L with
  | nil => intro _; rfl
  | cons row L ih =>
    intro hL
    rw [cntK, cntK, h _ (hL row List.mem_cons_self), ih (fun r hr => hL r (List.mem_cons_of_mem _ hr))]
/-- what is sure behind k ranks -/
def Inv (LS OS : List (Nat → Int32)) (st0 : Sg) (k : Nat) (st : Sg) : Prop :=
  Cst st ((ct st0.1 2 - k) + cntK st0.1 k LS) ∧ ((∀ j, Sta j → st.1 j = st0.1 j) ∧ ((∀ r, r < ct st0.1 2 → rk st0.1 r < k → cutI st r) ∧ ((∀ r, r < ct st0.1 2 → k ≤ rk st0.1 r → noC st r) ∧ (ClR st ∧ (calN st.1 (ct st.1 56) = -1 ∨ ∃ q, q < ct st0.1 2 ∧ (rk st0.1 q < k ∧ calN st.1 (ct st.1 56) = st0.1 (58 + 10 * q + 2)))))))
theorem Sta_sen {s s' : Nat → Int32} (hs : ∀ j, Sta j → s' j = s j) (h2 : ct s 2 ≤ 10) (k : Nat) : sen s' k = sen s k := sen_eq (hs 2 Sta2) (fun o ho => hs _ (StaR (by omega) (by decide))) k
theorem Sta_rk {s s' : Nat → Int32} (hs : ∀ j, Sta j → s' j = s j) (h2 : ct s 2 ≤ 10) {r : Nat} (hr : r < ct s 2) : rk s' r = rk s r := rk_eq (hs 2 Sta2) (fun o ho => hs _ (StaR (by omega) (by decide))) hr
/-- one rank more -/
def clS (LS OS : List (Nat → Int32)) (sil : Nat → Bool) (r : Nat) (st : Sg) : Sg := if sil r = true then cut0 st r else clR LS OS r st
theorem cut0_calN {st : Sg} {r : Nat} : calN (cut0 st r).1 (ct (cut0 st r).1 56) = calN st.1 (ct st.1 56) := rfl
theorem clS_keep {LS OS : List (Nat → Int32)} {sil : Nat → Bool} {st0 st : Sg} {k r : Nat} (hd : Dst st0.1) (h0 : Rv st0.1) (hL : LRows st0.1 LS) (hO : ORows st0.1 OS) (hr : r < ct st0.1 2) (hk : rk st0.1 r = k) (I : Inv LS OS st0 k st) :
    Inv LS OS st0 (k + 1) (clS LS OS sil r st) ∧ ((∀ q, q ≠ r → (clS LS OS sil r st).2.2.2 q = st.2.2.2 q) ∧ calN (clS LS OS sil r st).1 (ct (clS LS OS sil r st).1 56) = if calN st.1 (ct st.1 56) = -1 ∧ ¬ (clS LS OS sil r st).2.2.2 r = 0 then st0.1 (58 + 10 * r + 2) else calN st.1 (ct st.1 56)) := by
  obtain ⟨i1, i2, i3, i4, i5, i6⟩ := I
  have h2 := h0.2.2.1.2
  have hkn : k < ct st0.1 2 := by rw [← hk]; exact rk_lt hr
  have ec : ct st.1 2 = ct st0.1 2 := ct_eq (i2 2 Sta2)
  have hst := cntK_step hk LS
  have noR : noC st r := i4 r hr (by omega)
  have rkne : ∀ q, q < ct st0.1 2 → rk st0.1 q < k + 1 → q ≠ r → rk st0.1 q < k := by
    intro q hq h1 hne
    have : rk st0.1 q ≠ k := fun z => hne (rk_inj hd hq hr (z.trans hk.symm))
    omega
  have cutR0 : cutI (cut0 st r) r := by
    unfold cutI
    have e1 : (cut0 st r).2.2.2 r = 0 := pk_us
    rw [e1]
    refine ⟨fun z => absurd rfl z, ?_⟩
    rintro ⟨c, hc, e, -⟩
    exact absurd e (noR c hc)
  have cutQ : ∀ q, q ≠ r → (cut0 st r).2.2.2 q = st.2.2.2 q := fun q hq => pk_un hq
  have cutO : ∀ q, q ≠ r → cutI st q → cutI (cut0 st r) q := by
    intro q hq h
    unfold cutI at h ⊢
    rw [cutQ q hq]
    exact h
  have pv : calN st.1 (ct st.1 56) = -1 ∨ ¬ st0.1 (58 + 10 * r + 2) < calN st.1 (ct st.1 56) := by
    rcases i6 with z | ⟨q, hq, hq2, z⟩
    · exact Or.inl z
    · refine Or.inr (fun y => ?_)
      rw [z] at y
      have := rk_of_lt hr y
      omega
  unfold clS
  by_cases es : sil r = true
  · rw [if_pos es]
    have ecn : calN (cut0 st r).1 (ct (cut0 st r).1 56) = calN st.1 (ct st.1 56) := rfl
    refine ⟨⟨?_, i2, fun q hq h1 => ?_, fun q hq h1 => i4 q hq (by omega), i5, ?_⟩, cutQ, ?_⟩
    · exact (cut0_Cst i1).less (by omega)
    · by_cases e : q = r
      · rw [e]; exact cutR0
      · exact cutO q e (i3 q hq (rkne q hq h1 e))
    · rcases i6 with z | ⟨q, hq, hq2, z⟩
      · exact Or.inl z
      · exact Or.inr ⟨q, hq, by omega, z⟩
    · have e1 : (cut0 st r).2.2.2 r = 0 := pk_us
      rw [e1, if_neg (fun z => z.2 rfl)]
      rfl
  · rw [if_neg es]
    have hc : Cst st (((ct st0.1 2 - (k + 1)) + cntK st0.1 (k + 1) LS) + 1 + cntR r LS) := i1.less (by omega)
    have hL' : LRows st.1 LS := hL.sta i2
    have hO' : ORows st.1 OS := hO.sta i2
    have hr' : r < ct st.1 2 := by rw [ec]; exact hr
    -- what a claim of r keeps
    have key := clR_ind (r := r) (P := fun s => (∀ j, Sta j → s.1 j = st0.1 j) ∧ ((∀ q, q < ct st0.1 2 → rk st0.1 q < k + 1 → cutI s q) ∧ ((∀ q, q < ct st0.1 2 → k + 1 ≤ rk st0.1 q → noC s q) ∧ (ClR s ∧ ((∀ q, q ≠ r → s.2.2.2 q = st.2.2.2 q) ∧ calI s r (calN st.1 (ct st.1 56)))))))
      (fun its acc reach w price c s hs ha hp => by
        obtain ⟨p1, p2, p3, p4, p5, p6⟩ := hp
        have hs2 : ct s.1 2 = ct st0.1 2 := ct_eq (p1 2 Sta2)
        obtain ⟨z1, z2⟩ := hs.srv (its := its) (price := price) ha
        refine ⟨fun j hj => (z2 j hj).trans (p1 j hj), fun q hq h1 => srv_cutI hs ha (by omega) (p2 q hq h1), fun q hq h1 => srv_noC hs ha (fun z => by subst z; omega) (by omega) (p3 q hq h1), srv_ClR hs ha p4, fun q hq => ?_, ?_⟩
        · rw [← p5 q hq]
          exact pk_un hq
        · refine srv_calI hs ha p4 ?_ p6
          rw [p1 _ (StaR (by omega) (by decide))]
          exact pv)
      (LS := LS) (OS := OS) (st := st) hc hr' hL' hO'
      ⟨i2, fun q hq h1 => by
        by_cases e : q = r
        · rw [e]; exact cutR0
        · exact cutO q e (i3 q hq (rkne q hq h1 e)), fun q hq h1 => i4 q hq (by omega), i5, cutQ, by
        unfold calI
        have e1 : (cut0 st r).2.2.2 r = 0 := pk_us
        rw [e1, if_neg (fun z => z.2 rfl)]
        rfl⟩
    obtain ⟨⟨p1, p2, p3, p4, p5, p6⟩, c1, c2⟩ := key
    unfold calI at p6
    rw [p1 _ (StaR (by omega) (by decide))] at p6
    refine ⟨⟨c1, p1, p2, p3, p4, ?_⟩, p5, p6⟩
    rw [p6]
    by_cases e : calN st.1 (ct st.1 56) = -1 ∧ ¬ (clR LS OS r st).2.2.2 r = 0
    · rw [if_pos e]
      exact Or.inr ⟨r, hr, by omega, rfl⟩
    · rw [if_neg e]
      rcases i6 with z | ⟨q, hq, hq2, z⟩
      · exact Or.inl z
      · exact Or.inr ⟨q, hq, by omega, z⟩
theorem clA_step {LS OS : List (Nat → Int32)} {sil : Nat → Bool} {st0 : Sg} {k r : Nat} (h : sen (clA LS OS sil k st0).1 k = some r) : clA LS OS sil (k + 1) st0 = clS LS OS sil r (clA LS OS sil k st0) := by
  rw [clA, h]
  rfl
/-- behind k ranks -/
theorem clA_inv {LS OS : List (Nat → Int32)} {sil : Nat → Bool} {st0 : Sg} (hd : Dst st0.1) (h0 : Rv st0.1) (hf : Flo (ct st0.1 0) st0.2.2.1) (h56 : st0.1 56 = 0) (hL : LRows st0.1 LS) (hl : LS.length ≤ 9) (hO : ORows st0.1 OS) : ∀ k, k ≤ ct st0.1 2 → Inv LS OS st0 k (clA LS OS sil k st0) := by
  have h2 := h0.2.2.1.2
  have e56 : ct st0.1 56 = 0 := by
    show (st0.1 56).toNatClampNeg = 0
    rw [h56]
    rfl
  intro k
  induction k with
  | zero =>
    intro _
    have := cntK_le st0.1 0 LS
    refine ⟨⟨h0, hf, ?_, by show ct st0.1 56 + _ ≤ 19; omega⟩, fun j _ => rfl, fun r _ h => by omega, fun r _ _ c hc => ?_, fun c hc => ?_, Or.inl ?_⟩
    · show st0.1 56 = nI (ct st0.1 56)
      rw [e56, h56]
      rfl
    · have hc : c < ct st0.1 56 := hc
      omega
    · have hc : c < ct st0.1 56 := hc
      omega
    · show calN st0.1 (ct st0.1 56) = -1
      rw [e56]
      rfl
  | succ k ih =>
    intro hk
    have I := ih (by omega)
    have hss := Sta_sen I.2.1 h2 k
    obtain ⟨r, hr1, hr2, hr3⟩ := sen_ex hd (show k < ct st0.1 2 by omega)
    rw [clA_step (hss.trans hr1)]
    exact (clS_keep hd h0 hL hO hr2 hr3 I).1

