/-! ===== tables as lists of rows; the month's start ===== -/
theorem lf_app {A T : List (Nat → Int32)} {row : Nat → Int32} {r k : Nat} : lf (A ++ row :: T) r k = if r < A.length then lf A r k else if r = A.length then row k else lf T (r - A.length - 1) k := by
  unfold lf
  rw [List.getD_eq_getElem?_getD, List.getD_eq_getElem?_getD, List.getD_eq_getElem?_getD]
  by_cases h1 : r < A.length
  · rw [if_pos h1, List.getElem?_append_left h1]
  · rw [if_neg h1, List.getElem?_append_right (by omega)]
    by_cases h2 : r = A.length
    · rw [if_pos h2, h2, Nat.sub_self]
      rfl
    · rw [if_neg h2]
      obtain ⟨m, hm⟩ : ∃ m, r - A.length = m + 1 := ⟨r - A.length - 1, by omega⟩
      rw [hm]
      rfl
theorem lf_app2 {A T : List (Nat → Int32)} {r k : Nat} : lf (A ++ T) r k = if r < A.length then lf A r k else lf T (r - A.length) k := by
  unfold lf
  rw [List.getD_eq_getElem?_getD, List.getD_eq_getElem?_getD, List.getD_eq_getElem?_getD]
  by_cases h1 : r < A.length
  · rw [if_pos h1, List.getElem?_append_left h1]
  · rw [if_neg h1, List.getElem?_append_right (by omega)]
theorem tl_set {A T : List (Nat → Int32)} {row : Nat → Int32} {k : Nat} {x : Int32} {r j : Nat} : up2 (lf (A ++ row :: T)) A.length k x r j = lf (A ++ (fun q => if q = k then x else row q) :: T) r j := by
  unfold up2
  rw [lf_app, lf_app]
  by_cases h1 : r < A.length
  · rw [if_pos h1, if_pos h1, if_neg (by omega)]
  · rw [if_neg h1, if_neg h1]
    by_cases h2 : r = A.length
    · rw [if_pos h2, if_pos h2]
      by_cases h3 : j = k
      · rw [if_pos ⟨h2, h3⟩, if_pos h3]
      · rw [if_neg (fun z => h3 z.2), if_neg h3]
    · rw [if_neg h2, if_neg h2, if_neg (fun z => h2 z.1)]
theorem tl_rem {A T : List (Nat → Int32)} {row : Nat → Int32} {r j : Nat} : (if r < A.length then lf (A ++ row :: T) r j else lf (A ++ row :: T) (r + 1) j) = lf (A ++ T) r j := by
  rw [lf_app, lf_app, lf_app2]
  by_cases h1 : r < A.length
  · rw [if_pos h1, if_pos h1, if_pos h1]
  · rw [if_neg h1, if_neg (by omega), if_neg (by omega), if_neg h1, show r + 1 - A.length - 1 = r - A.length by omega]
def decR (row : Nat → Int32) : Nat → Int32 := fun k => if k = 5 then row 5 + (-1) else row k
def decL : List (Nat → Int32) → List (Nat → Int32)
  | [] => []
  | row :: L => if 0 < row 5 + (-1) then decR row :: decL L else decL L
theorem take_row {L : List (Nat → Int32)} {v : Nat} (h : v < L.length) : L.take (v + 1) = L.take v ++ [rowAt L v] := by
  unfold rowAt
  rw [List.getD_eq_getElem?_getD, List.getElem?_eq_getElem h, ← List.take_append_getElem h]
  rfl
/-- from row v on down -/
theorem x1_decL {t : Nat} {L : List (Nat → Int32)} (hL : L.length ≤ 9) (hln : ln (t + 12 + 1) = 54) : ∀ (v m : Nat) (μ : Mm), v ≤ L.length → v < m → Tb μ (t + 12) 6 (L.take v ++ decL (L.drop v)).length (lf (L.take v ++ decL (L.drop v))) → Op (F_X1_endMonth_10 t m (nI v - 1) μ) (fun μ' => Tb μ' (t + 12) 6 (decL L).length (lf (decL L)) ∧ Fs (fun a => a = t + 12 ∨ a = t + 12 + 1) μ μ') := by
  intro v
  induction v with
  | zero =>
    intro m μ hv hm h
    obtain ⟨m, rfl⟩ : ∃ q, m = q + 1 := ⟨m - 1, by omega⟩
    rw [F_X1_endMonth_10, if_pos (by decide)]
    rw [List.take_zero, List.drop_zero, List.nil_append] at h
    exact op_r ⟨h, Fs.rf⟩
  | succ v ih =>
    intro m μ hv hm h
    obtain ⟨m, rfl⟩ : ∃ q, m = q + 1 := ⟨m - 1, by omega⟩
    have hlt : v < L.length := hv
    have ha : (L.take v).length = v := by rw [List.length_take]; omega
    rw [take_row hlt, List.append_assoc, List.singleton_append] at h
    have hlen : (L.take v ++ rowAt L v :: decL (L.drop (v + 1))).length ≤ 9 := by
      have := h.2.2.1.1
      rw [hln] at this
      omega
    have hvl : v < (L.take v ++ rowAt L v :: decL (L.drop (v + 1))).length := by rw [List.length_append, List.length_cons, ha]; omega
    rw [F_X1_endMonth_10, show nI (v + 1) - 1 = nI v from nI_pred v, if_neg (nI_pos (by omega))]
    have e5 : lf (L.take v ++ rowAt L v :: decL (L.drop (v + 1))) v 5 = rowAt L v 5 := by rw [lf_app, ha, if_neg (by omega), if_pos rfl]
    refine op_eb (show F_X2_increase (t + 12) (nI v) 5 (-1) μ = _ from x2_inc (k := 5) h hvl (by decide)) ?_
    have h2 : Tb (uI μ (t + 12 + 1) (v * 6 + 5) (lf (L.take v ++ rowAt L v :: decL (L.drop (v + 1))) v 5 + -1)) (t + 12) 6 (L.take v ++ decR (rowAt L v) :: decL (L.drop (v + 1))).length (lf (L.take v ++ decR (rowAt L v) :: decL (L.drop (v + 1)))) := by
      have := (h.set (v := lf (L.take v ++ rowAt L v :: decL (L.drop (v + 1))) v 5 + -1) hvl (show 5 < 6 by decide))
      rw [List.length_append, List.length_cons] at this ⊢
      refine this.congr (fun r k hr hk => ?_)
      have e := tl_set (A := L.take v) (T := decL (L.drop (v + 1))) (row := rowAt L v) (k := 5) (x := rowAt L v 5 + -1) (r := r) (j := k)
      rw [ha] at e
      rw [e5]
      exact e
    have f1 : Fs (fun a => a = t + 12 ∨ a = t + 12 + 1) μ (uI μ (t + 12 + 1) (v * 6 + 5) (lf (L.take v ++ rowAt L v :: decL (L.drop (v + 1))) v 5 + -1)) := Fs.uI (Or.inr rfl)
    generalize hμ : uI μ (t + 12 + 1) (v * 6 + 5) (lf (L.take v ++ rowAt L v :: decL (L.drop (v + 1))) v 5 + -1) = μ2 at h2 f1
    have hvl2 : v < (L.take v ++ decR (rowAt L v) :: decL (L.drop (v + 1))).length := by rw [List.length_append, List.length_cons, ha]; omega
    refine op_eb ((x2_get (k := 5) h2 hvl2 (by decide)).trans (congrArg some (show _ = rowAt L v 5 + -1 by rw [lf_app, ha, if_neg (by omega), if_pos rfl]; rfl))) ?_
    have edrop : decL (L.drop v) = if 0 < rowAt L v 5 + (-1) then decR (rowAt L v) :: decL (L.drop (v + 1)) else decL (L.drop (v + 1)) := by rw [drop_row hlt, decL]
    rw [show nI v + -1 = nI v - 1 from (Int32.sub_eq_add_neg _ _).symm]
    by_cases e : 0 < rowAt L v 5 + (-1)
    · rw [if_pos e] at edrop
      refine op_b (op_t e (op_r ?_))
      refine op_m (ih m μ2 (by omega) (by omega) (by rw [edrop]; exact h2)) (fun μ' q => ⟨q.1, f1.tr q.2⟩)
    · rw [if_neg e] at edrop
      refine op_b (op_f e (op_mb (x2_rem h2 hvl2) (fun μ3 w3 => op_r ?_)))
      refine op_m (ih m μ3 (by omega) (by omega) ?_) (fun μ' q => ⟨q.1, (f1.tr w3.2).tr q.2⟩)
      rw [edrop]
      have hl3 : (L.take v ++ decR (rowAt L v) :: decL (L.drop (v + 1))).length - 1 = (L.take v ++ decL (L.drop (v + 1))).length := by rw [List.length_append, List.length_append, List.length_cons]; omega
      have := w3.1
      rw [hl3] at this
      refine this.congr (fun r k hr hk => ?_)
      have e := tl_rem (A := L.take v) (T := decL (L.drop (v + 1))) (row := decR (rowAt L v)) (r := r) (j := k)
      rw [ha] at e
      exact e
/-! gauges opened -/
theorem x1_gauL {μ0 : Mm} {b : Nat} {LS OS : List (Nat → Int32)} {ng : Nat} {G : Nat → Nat → Int32} {cu : Nat → Int32} {s : Nat → Int32} {g : Nat → Int64} (hb : kd b = 1) (hv : Vt s) (hln : ln (b + 18 + 1) = 30) (h6 : ct s 0 ≤ 6) : ∀ (d m q : Nat) (μ : Mm), q + d = ct s 0 → d < m → SV μ b LS OS q (fun r k => if k = 0 then comN s r else if k = 1 then sumF (comN s) (r + 1) else if k = 2 then sumF (comN s) (r + 1) else 0) cu s g →
    Op (F_X1_openGauges_11 b m (sumF (comN s) q) (nI q) μ) (fun μ' => SV μ' b LS OS (ct s 0) (fun r k => if k = 0 then comN s r else if k = 1 then sumF (comN s) (r + 1) else if k = 2 then sumF (comN s) (r + 1) else 0) cu s g ∧ Fs (fun a => a = b + 18 ∨ a = b + 18 + 1) μ μ') := by
  intro d
  induction d with
  | zero =>
    intro m q μ hq hm h
    obtain ⟨m, rfl⟩ : ∃ z, m = z + 1 := ⟨m - 1, by omega⟩
    obtain rfl : q = ct s 0 := by omega
    rw [F_X1_openGauges_11, h.rch.2.1, if_pos (Int32.le_refl _)]
    exact op_r ⟨h, Fs.rf⟩
  | succ d ih =>
    intro m q μ hq hm h
    obtain ⟨m, rfl⟩ : ∃ z, m = z + 1 := ⟨m - 1, by omega⟩
    rw [F_X1_openGauges_11, h.rch.2.1, if_neg (nI_ge (by omega) (by omega))]
    refine op_eb (x1_com h hb hv (by omega)) ?_
    refine op_mb (x2_add h.gau (by rw [hln]; omega)) (fun o w => ?_)
    obtain ⟨-, w1, w2⟩ := w
    refine op_eb (show F_X2_put (b + 18) (nI q) 0 (comN s q) o.2 = _ from x2_put (k := 0) w1 (by omega) (by decide)) ?_
    have u1 := w1.set (r := q) (k := 0) (v := comN s q) (by omega) (by decide)
    refine op_eb (show F_X2_put (b + 18) (nI q) 1 _ _ = _ from x2_put (k := 1) u1 (by omega) (by decide)) ?_
    have u2 := u1.set (r := q) (k := 1) (v := sumF (comN s) q + comN s q) (by omega) (by decide)
    refine op_eb (show F_X2_put (b + 18) (nI q) 2 _ _ = _ from x2_put (k := 2) u2 (by omega) (by decide)) ?_
    have u3 := u2.set (r := q) (k := 2) (v := sumF (comN s) q + comN s q) (by omega) (by decide)
    have f3 := w2.tr ((Fs.uI (S := fun a => a = b + 18 ∨ a = b + 18 + 1) (k := q * 5 + 0) (v := comN s q) (μ := o.2) (Or.inr rfl)).tr ((Fs.uI (k := q * 5 + 1) (v := sumF (comN s) q + comN s q) (Or.inr rfl)).tr (Fs.uI (k := q * 5 + 2) (v := sumF (comN s) q + comN s q) (Or.inr rfl))))
    rw [nI_1]
    refine op_m (ih m (q + 1) _ (by omega) (by omega) (h.wGau f3 (u3.congr (fun r k hr hk => ?_)))) (fun μ' z => ⟨z.1, f3.tr z.2⟩)
    unfold up2
    by_cases e : r = q
    · subst e
      rcases (show k = 0 ∨ k = 1 ∨ k = 2 ∨ k = 3 ∨ k = 4 by omega) with rfl | rfl | rfl | rfl | rfl <;> simp [sumF]
    · rw [if_neg (by omega), if_neg (by omega), if_neg (by omega)]
      exact if_neg e
theorem x1_open {μ : Mm} {b : Nat} {LS OS : List (Nat → Int32)} {ng : Nat} {G : Nat → Nat → Int32} {cu : Nat → Int32} {s : Nat → Int32} {g : Nat → Int64} (h : SV μ b LS OS ng G cu s g) (hb : kd b = 1) (hv : Vt s) :
    Op (F_X1_openGauges b μ) (fun μ' => SV μ' b LS OS (ct s 0) (fun r k => if k = 0 then comN s r else if k = 1 then sumF (comN s) (r + 1) else if k = 2 then sumF (comN s) (r + 1) else 0) cu s g ∧ Fs (Blk b) μ μ') := by
  have l := st_ln hb 19 (by decide)
  have e : (qStL.getD 19 (0, 0)).2 = 30 := rfl
  have h6 := (h.cnt hb).1
  unfold F_X1_openGauges
  refine op_mb (x2_remAll h.gau (fun r k => if k = 0 then comN s r else if k = 1 then sumF (comN s) (r + 1) else if k = 2 then sumF (comN s) (r + 1) else 0)) (fun μ2 w => ?_)
  refine op_b (op_m (x1_gauL (μ0 := μ) (ng := 0) (G := G) hb hv (l.trans e) h6 (ct s 0) qFuel 0 μ2 (by omega) (by unfold qFuel; omega) (h.wGau (w.2.mo (fun a e => Or.inl e)) w.1)) (fun μ' z => op_r ⟨z.1, (w.2.mo (fun a e => by unfold Blk; omega)).tr (z.2.mo (fun a e => by unfold Blk; omega))⟩))
/-! premiums -/
def prm (s : Nat → Int32) : List (Nat → Int32) → (Nat → Int64) → Nat → Int64
  | [], g => g
  | row :: L, g => prm s L (pay g (ct row 1) (ct s (58 + 10 * ct row 0 + 0)) (row 4).toInt64)
def prmG (s : Nat → Int32) (OS : List (Nat → Int32)) (g : Nat → Int64) : Nat → Int64 := if ct s 5 % 12 = 0 then prm s OS g else g
theorem x1_prmL {b : Nat} {LS OS : List (Nat → Int32)} {ng : Nat} {G : Nat → Nat → Int32} {cu : Nat → Int32} {s : Nat → Int32} (hb : kd b = 1) (hv : Rv s) (hO : ORows s OS) : ∀ (d m i : Nat) (g : Nat → Int64) (μ : Mm), i + d = OS.length → d < m → SV μ b LS OS ng G cu s g → Op (F_X1_payPremiums_13 b m (nI i) μ) (fun μ' => SV μ' b LS OS ng G cu s (prm s (OS.drop i) g) ∧ Fs (Blk b) μ μ') := by
  have h1 := hv.2.1.2
  have h2 := hv.2.2.1.2
  intro d
  induction d with
  | zero =>
    intro m i g μ hi hm h
    obtain ⟨m, rfl⟩ : ∃ z, m = z + 1 := ⟨m - 1, by omega⟩
    have hl := (h.lea_le hb).2.1
    rw [F_X1_payPremiums_13, h.opt.2.1, if_pos (nI_le (by omega) (by omega)), List.drop_eq_nil_of_le (by omega)]
    exact op_r ⟨h, Fs.rf⟩
  | succ d ih =>
    intro m i g μ hi hm h
    obtain ⟨m, rfl⟩ : ∃ z, m = z + 1 := ⟨m - 1, by omega⟩
    have hl := (h.lea_le hb).2.1
    have hlt : i < OS.length := by omega
    have hrow := hO _ (rowAt_mem hlt)
    have hf := hv.2.2.2.2.2 _ hrow.1.1.2
    have g9 : ∀ k, k < 6 → F_X2_get (b + 14) (nI i) (nI k) μ = some (rowAt OS i k) := fun k hk => x2_get h.opt hlt hk
    rw [F_X1_payPremiums_13, h.opt.2.1, if_neg (nI_ge hlt (by omega)), drop_row hlt, prm]
    refine op_eb ((g9 0 (by decide)).trans (congrArg some hrow.1.1.1)) ?_
    refine op_eb ((x2_get (k := 0) h.rgt hrow.1.1.2 (by decide)).trans (congrArg some ((if_neg (by decide)).trans hf.1.1))) ?_
    refine op_eb ((g9 1 (by decide)).trans (congrArg some hrow.1.2.1.1)) ?_
    refine op_eb (g9 4 (by decide)) ?_
    have ha : ct (rowAt OS i) 1 < 5 := by have := hrow.1.2.1.2; omega
    have ho : ct s (58 + 10 * ct (rowAt OS i) 0 + 0) < 5 := by have := hf.1.2; omega
    refine op_mb (x1_pay hb (x := rowAt OS i 4) ha ho) (fun μ2 w => ?_)
    rw [nI_1]
    refine op_m (ih m (i + 1) _ μ2 (by omega) (by omega) (h.wBal w.2 (fun k hk => (w.1 k).trans (pay_congr h.bal ha ho hk)) (fun k hk => pay_hi ha ho hk))) (fun μ' z => ⟨z.1, (w.2.mo (fun a e => by unfold Blk; omega)).tr z.2⟩)
theorem x1_prm {μ : Mm} {b : Nat} {LS OS : List (Nat → Int32)} {ng : Nat} {G : Nat → Nat → Int32} {cu : Nat → Int32} {s : Nat → Int32} {g : Nat → Int64} (h : SV μ b LS OS ng G cu s g) (hb : kd b = 1) (hv : Rv s) (hO : ORows s OS) : Op (F_X1_payPremiums b μ) (fun μ' => SV μ' b LS OS ng G cu s (prmG s OS g) ∧ Fs (Blk b) μ μ') := by
  have ht := hv.vt
  have hl := (h.lea_le hb).2.1
  have ht1 := ht.2.1
  unfold F_X1_payPremiums prmG
  rw [h.sca.2.1, ht.1, x_rem12 (by omega)]
  by_cases e : ct s 5 % 12 = 0
  · rw [if_pos e]
    refine op_t (congrArg nI e) (op_b (op_m (x1_prmL hb hv hO OS.length qFuel 0 g μ (by omega) (by unfold qFuel; omega) h) (fun μ' z => op_r ?_)))
    rw [List.drop_zero] at z
    exact z
  · rw [if_neg e]
    exact op_f (nI_ne0 (by omega) (by omega)) (op_r ⟨h, Fs.rf⟩)

