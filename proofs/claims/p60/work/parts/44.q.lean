/-! ===== the reference: the claims of a month ===== -/
def clG (C : Nat → Sg → Sg) : Nat → Sg → Sg
  | 0, st => st
  | k + 1, st => (sen (clG C k st).1 k).elim (clG C k st) (fun r => C r (clG C k st))
theorem clG_s {C : Nat → Sg → Sg} {k r : Nat} {st : Sg} (h : sen (clG C k st).1 k = some r) : clG C (k + 1) st = C r (clG C k st) := by
  rw [clG, h]
  rfl
theorem clG_clA {LS OS : List (Nat → Int32)} {sil : Nat → Bool} {st : Sg} : ∀ k, clG (clS LS OS sil) k st = clA LS OS sil k st := by
  intro k
  induction k with
  | zero => rfl
  | succ k ih =>
    rw [clG, clA, ih]
    rfl
section CLG
variable {C : Nat → Sg → Sg} {LX OS : List (Nat → Int32)} {st0 : Sg}
def Kp (C : Nat → Sg → Sg) (LX : List (Nat → Int32)) (s0 : Nat → Int32) : Prop := ∀ r st c, r < ct s0 2 → Cst st (c + 1 + cntR r LX) → (∀ j, Sta j → st.1 j = s0 j) → Cst (C r st) c ∧ ∀ j, Sta j → (C r st).1 j = s0 j
/-- where a month's claims begin -/
def Bg (st0 : Sg) : Prop := Dst st0.1 ∧ (Rv st0.1 ∧ (Flo (ct st0.1 0) st0.2.2.1 ∧ st0.1 56 = 0))
theorem clG_inv (h : Bg st0) (hl : LX.length ≤ 9) (hK : Kp C LX st0.1) : ∀ k, k ≤ ct st0.1 2 → Cst (clG C k st0) ((ct st0.1 2 - k) + cntK st0.1 k LX) ∧ ∀ j, Sta j → (clG C k st0).1 j = st0.1 j := by
  obtain ⟨hd, h0, hf, h56⟩ := h
  have h2 := h0.2.2.1.2
  intro k
  induction k with
  | zero =>
    intro _
    have := cntK_le st0.1 0 LX
    have e56 : ct st0.1 56 = 0 := ct_nI (h56.trans nI_0.symm) (by decide)
    refine ⟨⟨h0, hf, ?_, by show ct st0.1 56 + _ ≤ 19; omega⟩, fun j _ => rfl⟩
    show st0.1 56 = nI (ct st0.1 56)
    rw [e56, h56]
    rfl
  | succ k ih =>
    intro hk
    obtain ⟨i1, i2⟩ := ih (by omega)
    obtain ⟨r, hr1, hr2, hr3⟩ := sen_ex hd (show k < ct st0.1 2 by omega)
    have hst := cntK_step hr3 LX
    rw [clG_s ((Sta_sen i2 h2 k).trans hr1)]
    exact hK r _ _ hr2 (i1.less (by omega)) i2
theorem clG_ind {P : Sg → Prop} (h : Bg st0) (hl : LX.length ≤ 9) (hK : Kp C LX st0.1) (hP : ∀ r st c, r < ct st0.1 2 → Cst st (c + 1 + cntR r LX) → (∀ j, Sta j → st.1 j = st0.1 j) → P st → P (C r st)) (hp : P st0) : ∀ k, k ≤ ct st0.1 2 → P (clG C k st0) := by
  intro k
  induction k with
  | zero => intro _; exact hp
  | succ k ih =>
    intro hk
    obtain ⟨i1, i2⟩ := clG_inv h hl hK k (by omega)
    obtain ⟨hd, h0, hf, h56⟩ := h
    have h2 := h0.2.2.1.2
    obtain ⟨r, hr1, hr2, hr3⟩ := sen_ex hd (show k < ct st0.1 2 by omega)
    have hst := cntK_step hr3 LX
    rw [clG_s ((Sta_sen i2 h2 k).trans hr1)]
    exact hP r _ (((ct st0.1 2 - (k + 1)) + cntK st0.1 (k + 1) LX)) hr2 (i1.less (by omega)) i2 (ih (by omega))
theorem clG_congr {C' : Nat → Sg → Sg} (h : Bg st0) (hl : LX.length ≤ 9) (hK : Kp C LX st0.1) (hC : ∀ r st, r < ct st0.1 2 → C r st = C' r st) : ∀ k, k ≤ ct st0.1 2 → clG C k st0 = clG C' k st0 := by
  intro k
  induction k with
  | zero => intro _; rfl
  | succ k ih =>
    intro hk
    obtain ⟨i1, i2⟩ := clG_inv h hl hK k (by omega)
    obtain ⟨hd, h0, hf, h56⟩ := h
    obtain ⟨r, hr1, hr2, hr3⟩ := sen_ex hd (show k < ct st0.1 2 by omega)
    have e := (Sta_sen i2 h0.2.2.1.2 k).trans hr1
    rw [clG_s e, clG_s (C := C') (r := r) (by rw [← ih (by omega)]; exact e), ih (by omega), hC r _ hr2]
end CLG
section MCI
variable {κ s : Nat → Int32} {LX : List (Nat → Int32)}
theorem mC_ind {P : Sg → Prop} (hP : ∀ its r acc reach w price c st, Cst st (c + 1) → Ars st r acc reach w → P st → P (srv its r acc reach w price st)) (hcut : ∀ st r, P st → P (cut0 st r)) {st : Sg} {r c : Nat} (ht : Try κ s) (hL : LRows s LX) (hO : ORows s (OSo s)) (hr : r < ct s 2) (hs : ∀ j, Sta j → st.1 j = s j) (hc : Cst st (c + 1 + cntR r LX)) (hp : P st) : P (mC κ LX (OSo s) r st) := by
  have e2 : ct st.1 2 = ct s 2 := ct_eq (hs 2 Sta2)
  have hf := hc.1.2.2.2.2.2 r (by omega)
  unfold mC
  by_cases e26 : nI r = κ 26
  · rw [if_pos e26]
    exact hcut st r hp
  rw [if_neg e26]
  by_cases e22 : nI r = κ 22
  · rw [if_pos e22]
    obtain ⟨t1, t2⟩ := ht.resolve_left (fun z => z r hr e22)
    exact hP 1 r _ _ _ 0 (c + cntR r LX) (cut0 st r) (hc.less (by omega)) ⟨by show r < ct st.1 2; omega, hf.1.2, by show ct κ 23 < ct st.1 0; rw [ct_eq (hs 0 Sta0)]; exact t2, wout_le hf.2.2.2.1.2⟩ (hcut st r hp)
  rw [if_neg e22]
  exact (clR_ind (r := r) (P := P) (fun its acc reach w price c st => hP its r acc reach w price c st) hc (by omega) (hL.sta hs) (hO.sta hs) (hcut st r hp)).1
theorem mC_keep {s0 : Nat → Int32} (ht : Try κ s) (hL : LRows s LX) (hO : ORows s (OSo s)) (h0 : ∀ j, Sta j → s0 j = s j) : Kp (mC κ LX (OSo s)) LX s0 := by
  intro r st c hr hc hs
  have hs' : ∀ j, Sta j → st.1 j = s j := fun j hj => (hs j hj).trans (h0 j hj)
  have e2 : ct st.1 2 = ct s0 2 := ct_eq (hs 2 Sta2)
  have hf := hc.1.2.2.2.2.2 r (by omega)
  have hr' : r < ct s 2 := by rw [← ct_eq (h0 2 Sta2)]; exact hr
  unfold mC
  by_cases e26 : nI r = κ 26
  · rw [if_pos e26]
    exact ⟨Cst.less (st := st) hc (by omega), hs⟩
  rw [if_neg e26]
  by_cases e22 : nI r = κ 22
  · rw [if_pos e22]
    obtain ⟨t1, t2⟩ := ht.resolve_left (fun z => z r hr' e22)
    obtain ⟨z1, z2⟩ := Cst.srv (its := 1) (price := 0) (acc := ct st.1 (58 + 10 * r + 0)) (reach := ct κ 23) (w := wout st.1 r (ct st.1 (58 + 10 * r + 3))) (show Cst (cut0 st r) (c + cntR r LX + 1) from Cst.less (st := st) hc (by omega)) ⟨by show r < ct st.1 2; omega, hf.1.2, by show ct κ 23 < ct st.1 0; rw [ct_eq (hs' 0 Sta0)]; exact t2, wout_le hf.2.2.2.1.2⟩
    exact ⟨z1.less (by omega), fun j hj => (z2 j hj).trans (hs j hj)⟩
  rw [if_neg e22]
  obtain ⟨-, y2, y3⟩ := clR_ind (P := fun _ => True) (fun _ _ _ _ _ _ _ _ _ _ => trivial) hc (show r < ct st.1 2 by omega) (hL.sta hs') (hO.sta hs') trivial
  exact ⟨y2, fun j hj => (y3 j hj).trans (hs j hj)⟩
end MCI

