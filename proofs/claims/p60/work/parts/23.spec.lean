/-! ===== a claim, as plain numbers ===== -/
abbrev Sg : Type := (Nat → Int32) × ((Nat → Int64) × ((Nat → Int32) × (Nat → Int32)))
def upa (f : Nat → Int32) (k : Nat) (x : Int32) : Nat → Int32 := fun j => if j = k then f j + x else f j
def pay (g : Nat → Int64) (a b : Nat) (x : Int64) : Nat → Int64 := vp_updL (vp_updL g a (g a - x)) b (vp_updL g a (g a - x) b + x)
def backN (kp rt x : Nat) : Nat := (x - x * kp / 100) * rt / 100
def byN (kp rt to x q : Nat) : Nat := if to ≤ q then x - backN kp rt x else x
def okN (n0 : Nat) (mn fl : Nat → Nat) (reach kp rt to x : Nat) : Bool := decide (∀ q, q < n0 → (reach ≤ q → (byN kp rt to x q = 0 ∨ byN kp rt to x q + mn q ≤ fl q)))
def dn (P : Nat → Bool) : Nat → Nat
  | 0 => 0
  | x + 1 => if P (x + 1) = true then x + 1 else dn P x
theorem dn_le (P : Nat → Bool) : ∀ w, dn P w ≤ w := by
  intro w
  induction w with
  | zero => exact Nat.le_refl 0
  | succ w ih =>
    rw [dn]
    split
    · exact Nat.le_refl _
    · omega
theorem dn_ok {P : Nat → Bool} (h0 : P 0 = true) : ∀ w, P (dn P w) = true := by
  intro w
  induction w with
  | zero => exact h0
  | succ w ih =>
    rw [dn]
    split
    · assumption
    · exact ih
theorem dn_no {P : Nat → Bool} : ∀ w x, dn P w < x → x ≤ w → ¬ P x = true := by
  intro w
  induction w with
  | zero => intro x h1 h2; omega
  | succ w ih =>
    intro x h1 h2
    rw [dn] at h1
    by_cases e : P (w + 1) = true
    · rw [if_pos e] at h1
      omega
    · rw [if_neg e] at h1
      by_cases e2 : x = w + 1
      · subst e2; exact e
      · exact ih x h1 (by omega)
theorem dn_uniq {P : Nat → Bool} {m w : Nat} (h0 : P 0 = true) (h1 : P m = true) (h2 : m ≤ w) (h3 : ∀ x, m < x → x ≤ w → ¬ P x = true) : dn P w = m := by
  rcases Nat.lt_trichotomy (dn P w) m with h | h | h
  · exact absurd h1 (dn_no w m h h2)
  · exact h
  · exact absurd (dn_ok h0 w) (h3 _ h (dn_le P w))
theorem backN_0 (kp rt : Nat) : backN kp rt 0 = 0 := by unfold backN; simp
theorem byN_0 (kp rt to q : Nat) : byN kp rt to 0 q = 0 := by unfold byN; split <;> simp
theorem okN_0 {n0 : Nat} {mn fl : Nat → Nat} {reach kp rt to : Nat} : okN n0 mn fl reach kp rt to 0 = true := by
  unfold okN
  rw [decide_eq_true_eq]
  exact fun q _ _ => Or.inl (byN_0 kp rt to q)
theorem backN_le {kp rt x : Nat} (hr : rt ≤ 100) : backN kp rt x ≤ x := by
  unfold backN
  have h1 : (x - x * kp / 100) * rt ≤ (x - x * kp / 100) * 100 := Nat.mul_le_mul_left _ hr
  omega
theorem backN_st {kp rt x : Nat} (hk : kp ≤ 100) (hr : rt ≤ 100) : backN kp rt (x + 1) ≤ backN kp rt x + 1 ∧ backN kp rt x ≤ backN kp rt (x + 1) := by
  unfold backN
  rw [show (x + 1) * kp = x * kp + kp from Nat.succ_mul x kp]
  have h1 : x * kp ≤ x * 100 := Nat.mul_le_mul_left _ hk
  generalize x * kp = a at h1 ⊢
  rcases (show x + 1 - (a + kp) / 100 = x - a / 100 ∨ x + 1 - (a + kp) / 100 = x - a / 100 + 1 by omega) with e | e
  · rw [e]; omega
  · rw [e, show (x - a / 100 + 1) * rt = (x - a / 100) * rt + rt from Nat.succ_mul _ _]
    generalize (x - a / 100) * rt = z
    omega
theorem lowN_mono {kp rt : Nat} (hk : kp ≤ 100) (hr : rt ≤ 100) : ∀ (d x : Nat), x - backN kp rt x ≤ x + d - backN kp rt (x + d) := by
  intro d
  induction d with
  | zero => intro x; exact Nat.le_refl _
  | succ d ih =>
    intro x
    have h1 := ih x
    have h2 := backN_st (x := x + d) hk hr
    have h3 := backN_le (kp := kp) (x := x + d) hr
    have h4 := backN_le (kp := kp) (x := x + d + 1) hr
    rw [show x + (d + 1) = x + d + 1 from rfl]
    omega
/-- the least spare of some gauges, and a limit -/
def lspN (sp : Nat → Nat) : Nat → Nat → Nat → Nat
  | _, 0, l => l
  | q, d + 1, l => lspN sp (q + 1) d (if sp q < l then sp q else l)
theorem lspN_le {sp : Nat → Nat} : ∀ (d q l x : Nat), x ≤ lspN sp q d l ↔ x ≤ l ∧ ∀ j, q ≤ j → j < q + d → x ≤ sp j := by
  intro d
  induction d with
  | zero =>
    intro q l x
    rw [lspN]
    exact ⟨fun h => ⟨h, fun j h1 h2 => by omega⟩, fun h => h.1⟩
  | succ d ih =>
    intro q l x
    rw [lspN, ih]
    constructor
    · rintro ⟨h1, h2⟩
      have h3 : x ≤ sp q ∧ x ≤ l := by
        split at h1 <;> omega
      refine ⟨h3.2, fun j h4 h5 => ?_⟩
      by_cases e : j = q
      · rw [e]; exact h3.1
      · exact h2 j (by omega) (by omega)
    · rintro ⟨h1, h2⟩
      refine ⟨?_, fun j h4 h5 => h2 j (by omega) (by omega)⟩
      have := h2 q (Nat.le_refl q) (by omega)
      split <;> omega
theorem byN_ok {kp rt to x q m f : Nat} : (byN kp rt to x q = 0 ∨ byN kp rt to x q + m ≤ f) ↔ byN kp rt to x q ≤ f - m := by omega
/-- what a claim gets, by the class's way -/
theorem got_eq {n0 : Nat} {mn fl : Nat → Nat} {reach kp rt to w t : Nat} (hk : kp ≤ 100) (hr : rt ≤ 100) (h1 : reach ≤ to) (h2 : to ≤ n0)
  (ht : t ≤ lspN (fun q => fl q - mn q) reach (to - reach) w) (hq : t - backN kp rt t ≤ lspN (fun q => fl q - mn q) to (n0 - to) (lspN (fun q => fl q - mn q) reach (to - reach) w))
  (hm : ∀ x, t < x → x ≤ lspN (fun q => fl q - mn q) reach (to - reach) w → ¬ x - backN kp rt x ≤ lspN (fun q => fl q - mn q) to (n0 - to) (lspN (fun q => fl q - mn q) reach (to - reach) w)) : dn (okN n0 mn fl reach kp rt to) w = t := by
  have key : ∀ x, okN n0 mn fl reach kp rt to x = true ↔ (∀ j, reach ≤ j → j < to → x ≤ fl j - mn j) ∧ ∀ j, to ≤ j → j < n0 → x - backN kp rt x ≤ fl j - mn j := by
    intro x
    unfold okN
    rw [decide_eq_true_eq]
    constructor
    · intro h
      refine ⟨fun j a b => ?_, fun j a b => ?_⟩
      · have q := byN_ok.mp (h j (by omega) a)
        unfold byN at q
        rw [if_neg (by omega)] at q
        exact q
      · have q := byN_ok.mp (h j b (by omega))
        unfold byN at q
        rw [if_pos a] at q
        exact q
    · rintro ⟨a, b⟩ q hq hq2
      refine byN_ok.mpr ?_
      unfold byN
      by_cases e : to ≤ q
      · rw [if_pos e]; exact b q e hq
      · rw [if_neg e]; exact a q hq2 (by omega)
  have hmost := (lspN_le (sp := fun q => fl q - mn q) (to - reach) reach w (lspN (fun q => fl q - mn q) reach (to - reach) w)).mp (Nat.le_refl _)
  have ht' := (lspN_le _ _ _ _).mp ht
  have hq' := (lspN_le _ _ _ _).mp hq
  refine dn_uniq okN_0 ((key t).mpr ⟨fun j a b => ht'.2 j a (by omega), fun j a b => hq'.2 j a (by omega)⟩) ht'.1 (fun x hx hw hP => ?_)
  obtain ⟨a, b⟩ := (key x).mp hP
  have hxl : x ≤ lspN (fun q => fl q - mn q) reach (to - reach) w := (lspN_le _ _ _ _).mpr ⟨hw, fun j p q => a j p (by omega)⟩
  refine hm x hx hxl ((lspN_le _ _ _ _).mpr ⟨Nat.le_trans (Nat.sub_le _ _) hxl, fun j p q => b j p (by omega)⟩)
/-! claims of a month -/
def wout (s : Nat → Int32) (r v : Nat) : Nat := v * (100 - ct s (58 + 10 * r + 4)) / 100
def rowF (a0 a1 a2 a3 a4 a5 a6 a7 : Int32) (k : Nat) : Int32 := if k = 0 then a0 else if k = 1 then a1 else if k = 2 then a2 else if k = 3 then a3 else if k = 4 then a4 else if k = 5 then a5 else if k = 6 then a6 else a7
def sClm (s : Nat → Int32) (c : Nat) (R : Nat → Int32) : Nat → Int32 := fun j => if j = 56 then s 56 + 1 else if 242 + 8 * c ≤ j ∧ j < 242 + 8 * c + 8 then R (j - (242 + 8 * c)) else s j
def sGau (s : Nat → Int32) (reach to : Nat) (got back : Int32) : Nat → Int32 := upa (upa s (394 + 5 * reach + 3) got) (394 + 5 * to + 4) back
def sRgt (s : Nat → Int32) (r : Nat) (got back : Int32) : Nat → Int32 := upa (upa s (58 + 10 * r + 7) got) (58 + 10 * r + 8) back
def sAcc (s : Nat → Int32) (acc own : Nat) (got bk : Int32) : Nat → Int32 := upa (upa (upa s (31 + acc) got) (26 + own) bk) 53 bk
def kpO (its r : Nat) (s : Nat → Int32) : Nat := if its = 0 then ct s (58 + 10 * r + 6) else 0
def rtO (its r : Nat) (s : Nat → Int32) : Nat := if its = 0 then ct s (58 + 10 * r + 4) else 0
def gotO (its r reach w : Nat) (st : Sg) : Nat := dn (okN (ct st.1 0) (fun q => ct st.1 (14 + q)) (fun q => ct st.2.2.1 q) reach (kpO its r st.1) (rtO its r st.1) (ct st.1 (58 + 10 * r + 5))) w
def bkO (its r reach w : Nat) (st : Sg) : Nat := gotO its r reach w st * kpO its r st.1 / 100
def backO (its r reach w : Nat) (st : Sg) : Nat := (gotO its r reach w st - bkO its r reach w st) * rtO its r st.1 / 100
/-- a claim is served: kind, right, account, reach, what it wants, the price -/
def srvS (its r acc reach w : Nat) (st : Sg) : Nat → Int32 :=
  sAcc (sRgt (sGau (sClm st.1 (ct st.1 56) (rowF (nI its) (nI r) (nI acc) (nI reach) (nI w) (nI (gotO its r reach w st)) (nI (bkO its r reach w st)) (nI (backO its r reach w st)))) reach (ct st.1 (58 + 10 * r + 5)) (nI (gotO its r reach w st)) (nI (backO its r reach w st))) r (nI (gotO its r reach w st)) (nI (backO its r reach w st))) acc (ct st.1 (58 + 10 * r + 0)) (nI (gotO its r reach w st)) (nI (bkO its r reach w st))
def srvG (its r acc reach w price : Nat) (st : Sg) : Nat → Int64 := if its = 0 then st.2.1 else vp_updL (pay st.2.1 acc (ct st.1 (58 + 10 * r + 0)) (lN (gotO its r reach w st * price))) (5 + r) (pay st.2.1 acc (ct st.1 (58 + 10 * r + 0)) (lN (gotO its r reach w st * price)) (5 + r) + lN (gotO its r reach w st * price))
def srvF (its r reach w : Nat) (st : Sg) : Nat → Int32 := fun q => if reach ≤ q ∧ q < ct st.1 0 then st.2.2.1 q - nI (byN (kpO its r st.1) (rtO its r st.1) (ct st.1 (58 + 10 * r + 5)) (gotO its r reach w st) q) else st.2.2.1 q
def srvC (its r reach w : Nat) (st : Sg) : Nat → Int32 := upd st.2.2.2 r (if ¬ st.2.2.2 r = 0 ∨ gotO its r reach w st < w then 1 else 0)
def srv (its r acc reach w price : Nat) (st : Sg) : Sg := (srvS its r acc reach w st, srvG its r acc reach w price st, srvF its r reach w st, srvC its r reach w st)
def clL (r : Nat) : List (Nat → Int32) → Sg × Nat → Sg × Nat
  | [], p => p
  | row :: L, p => clL r L (if ct row 0 = r then (srv 1 r (ct row 1) (ct row 2) (wout p.1.1 r (if p.2 < ct row 3 then p.2 else ct row 3)) (ct row 4) p.1, p.2 - (if p.2 < ct row 3 then p.2 else ct row 3)) else p)
def oby (s : Nat → Int32) (r : Nat) : List (Nat → Int32) → Option (Nat → Int32)
  | [] => none
  | row :: L => if ct row 0 = r ∧ yrP s (ct s 5 / 12) < row 3 then some row else oby s r L
def cut0 (st : Sg) (r : Nat) : Sg := (st.1, st.2.1, st.2.2.1, upd st.2.2.2 r 0)
def clE (OS : List (Nat → Int32)) (r : Nat) (p : Sg × Nat) : Sg := (oby p.1.1 r OS).elim (srv 0 r (ct p.1.1 (58 + 10 * r + 0)) (ct p.1.1 (58 + 10 * r + 1)) p.2 0 p.1) (fun row => srv 2 r (ct row 1) (ct row 2) (wout p.1.1 r p.2) (ct row 5) p.1)
def clR (LS OS : List (Nat → Int32)) (r : Nat) (st : Sg) : Sg := clE OS r (clL r LS (cut0 st r, ct st.1 (58 + 10 * r + 3)))
def clA (LS OS : List (Nat → Int32)) (sil : Nat → Bool) : Nat → Sg → Sg
  | 0, st => st
  | k + 1, st => (sen (clA LS OS sil k st).1 k).elim (clA LS OS sil k st) (fun r => if sil r = true then cut0 (clA LS OS sil k st) r else clR LS OS r (clA LS OS sil k st))
theorem upa_s {f : Nat → Int32} {k : Nat} {x : Int32} : upa f k x k = f k + x := if_pos rfl
theorem upa_n {f : Nat → Int32} {k j : Nat} {x : Int32} (h : j ≠ k) : upa f k x j = f j := if_neg h
theorem sClm_n {s : Nat → Int32} {c : Nat} {R : Nat → Int32} {j : Nat} (h1 : j ≠ 56) (h2 : ¬ (242 + 8 * c ≤ j ∧ j < 242 + 8 * c + 8)) : sClm s c R j = s j := by unfold sClm; rw [if_neg h1, if_neg h2]
theorem sClm_at {s : Nat → Int32} {c : Nat} {R : Nat → Int32} {k : Nat} (hk : k < 8) : sClm s c R (242 + 8 * c + k) = R k := by unfold sClm; rw [if_neg (by omega), if_pos (by omega), show 242 + 8 * c + k - (242 + 8 * c) = k by omega]
theorem sGau_n {s : Nat → Int32} {reach to : Nat} {x y : Int32} {j : Nat} (h1 : j ≠ 394 + 5 * reach + 3) (h2 : j ≠ 394 + 5 * to + 4) : sGau s reach to x y j = s j := by unfold sGau; rw [upa_n h2, upa_n h1]
theorem sRgt_n {s : Nat → Int32} {r : Nat} {x y : Int32} {j : Nat} (h1 : j ≠ 58 + 10 * r + 7) (h2 : j ≠ 58 + 10 * r + 8) : sRgt s r x y j = s j := by unfold sRgt; rw [upa_n h2, upa_n h1]
theorem sAcc_n {s : Nat → Int32} {a o : Nat} {x y : Int32} {j : Nat} (h1 : j ≠ 31 + a) (h2 : j ≠ 26 + o) (h3 : j ≠ 53) : sAcc s a o x y j = s j := by unfold sAcc; rw [upa_n h3, upa_n h2, upa_n h1]
section SRV
variable {its r acc reach w : Nat} {st : Sg}
theorem srvS_sta (hr : r < 10) (ha : acc < 5) (ho : ct st.1 (58 + 10 * r + 0) < 5) {j : Nat} (hj : j < 26 ∨ ((36 ≤ j ∧ j < 53) ∨ (j = 54 ∨ (j = 55 ∨ (j = 57 ∨ ((58 ≤ j ∧ (j < 242 ∧ ((j - 58) % 10 ≠ 7 ∧ (j - 58) % 10 ≠ 8))) ∨ ((158 ≤ j ∧ j < 242) ∨ 424 ≤ j))))))) (hg : reach < 6) (ht : ct st.1 (58 + 10 * r + 5) < 6) (hc : ct st.1 56 < 19) : srvS its r acc reach w st j = st.1 j := by
  unfold srvS
  rw [sAcc_n (by omega) (by omega) (by omega), sRgt_n (by omega) (by omega), sGau_n (by omega) (by omega), sClm_n (by omega) (by omega)]
theorem srvS_56 (hr : r < 10) (ha : acc < 5) (ho : ct st.1 (58 + 10 * r + 0) < 5) : srvS its r acc reach w st 56 = st.1 56 + 1 := by
  unfold srvS
  rw [sAcc_n (by omega) (by omega) (by omega), sRgt_n (by omega) (by omega), sGau_n (by omega) (by omega)]
  rfl
theorem srvS_clm (hr : r < 10) (ha : acc < 5) (ho : ct st.1 (58 + 10 * r + 0) < 5) {q k : Nat} (hq : q ≤ ct st.1 56) (hc : ct st.1 56 < 19) (hk : k < 8) : srvS its r acc reach w st (242 + 8 * q + k) = if q = ct st.1 56 then rowF (nI its) (nI r) (nI acc) (nI reach) (nI w) (nI (gotO its r reach w st)) (nI (bkO its r reach w st)) (nI (backO its r reach w st)) k else st.1 (242 + 8 * q + k) := by
  unfold srvS
  rw [sAcc_n (by omega) (by omega) (by omega), sRgt_n (by omega) (by omega), sGau_n (by omega) (by omega)]
  by_cases e : q = ct st.1 56
  · rw [if_pos e, e, sClm_at hk]
  · rw [if_neg e, sClm_n (by omega) (by omega)]
theorem srvS_gau (hr : r < 10) (ha : acc < 5) (ho : ct st.1 (58 + 10 * r + 0) < 5) (hc : ct st.1 56 < 19) {q k : Nat} (hq : q < 6) (hk : k < 5) : srvS its r acc reach w st (394 + 5 * q + k) = if q = ct st.1 (58 + 10 * r + 5) ∧ k = 4 then st.1 (394 + 5 * q + k) + nI (backO its r reach w st) else if q = reach ∧ k = 3 then st.1 (394 + 5 * q + k) + nI (gotO its r reach w st) else st.1 (394 + 5 * q + k) := by
  unfold srvS
  rw [sAcc_n (by omega) (by omega) (by omega), sRgt_n (by omega) (by omega)]
  unfold sGau
  by_cases e : q = ct st.1 (58 + 10 * r + 5) ∧ k = 4
  · rw [if_pos e, ← e.1, e.2, upa_s, upa_n (by omega), sClm_n (by omega) (by omega)]
  · rw [if_neg e, upa_n (by omega)]
    by_cases e2 : q = reach ∧ k = 3
    · rw [if_pos e2, ← e2.1, e2.2, upa_s, sClm_n (by omega) (by omega)]
    · rw [if_neg e2, upa_n (by omega), sClm_n (by omega) (by omega)]
theorem srvS_rgt (hr : r < 10) (ha : acc < 5) (ho : ct st.1 (58 + 10 * r + 0) < 5) (hc : ct st.1 56 < 19) {q k : Nat} (hq : q < 10) (hk : k < 10) : srvS its r acc reach w st (58 + 10 * q + k) = if q = r ∧ k = 8 then st.1 (58 + 10 * q + k) + nI (backO its r reach w st) else if q = r ∧ k = 7 then st.1 (58 + 10 * q + k) + nI (gotO its r reach w st) else st.1 (58 + 10 * q + k) := by
  unfold srvS
  rw [sAcc_n (by omega) (by omega) (by omega)]
  unfold sRgt
  by_cases e : q = r ∧ k = 8
  · rw [if_pos e, e.1, e.2, upa_s, upa_n (by omega), sGau_n (by omega) (by omega), sClm_n (by omega) (by omega)]
  · rw [if_neg e, upa_n (by omega)]
    by_cases e2 : q = r ∧ k = 7
    · rw [if_pos e2, e2.1, e2.2, upa_s, sGau_n (by omega) (by omega), sClm_n (by omega) (by omega)]
    · rw [if_neg e2, upa_n (by omega), sGau_n (by omega) (by omega), sClm_n (by omega) (by omega)]
theorem srvS_acc (hr : r < 10) (ha : acc < 5) (ho : ct st.1 (58 + 10 * r + 0) < 5) {q k : Nat} (hq : q < 5) (hk : k < 2) : srvS its r acc reach w st (26 + 5 * k + q) = if q = ct st.1 (58 + 10 * r + 0) ∧ k = 0 then st.1 (26 + 5 * k + q) + nI (bkO its r reach w st) else if q = acc ∧ k = 1 then st.1 (26 + 5 * k + q) + nI (gotO its r reach w st) else st.1 (26 + 5 * k + q) := by
  unfold srvS sAcc
  rw [upa_n (by omega)]
  by_cases e : q = ct st.1 (58 + 10 * r + 0) ∧ k = 0
  · rw [if_pos e, ← e.1, e.2, show 26 + 5 * 0 + q = 26 + q by omega, upa_s, upa_n (by omega), sRgt_n (by omega) (by omega), sGau_n (by omega) (by omega), sClm_n (by omega) (by omega)]
  · rw [if_neg e, upa_n (by omega)]
    by_cases e2 : q = acc ∧ k = 1
    · rw [if_pos e2, ← e2.1, e2.2, show 26 + 5 * 1 + q = 31 + q by omega, upa_s, sRgt_n (by omega) (by omega), sGau_n (by omega) (by omega), sClm_n (by omega) (by omega)]
    · rw [if_neg e2, upa_n (by omega), sRgt_n (by omega) (by omega), sGau_n (by omega) (by omega), sClm_n (by omega) (by omega)]
theorem srvS_53 (hr : r < 10) (ha : acc < 5) (ho : ct st.1 (58 + 10 * r + 0) < 5) : srvS its r acc reach w st 53 = st.1 53 + nI (bkO its r reach w st) := by
  unfold srvS sAcc
  rw [upa_s, upa_n (by omega), upa_n (by omega), sRgt_n (by omega) (by omega), sGau_n (by omega) (by omega), sClm_n (by omega) (by omega)]
end SRV

