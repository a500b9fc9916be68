/-! ===== what a claim keeps; all claims of a right ===== -/
def Row0 (s row : Nat → Int32) : Prop := (row 0 = nI (ct row 0) ∧ ct row 0 < ct s 2) ∧ ((row 1 = nI (ct row 1) ∧ ct row 1 < ct s 1) ∧ (row 2 = nI (ct row 2) ∧ ct row 2 < ct s 0))
def LRow (s row : Nat → Int32) : Prop := Row0 s row ∧ (Bn row 3 999 ∧ Bn row 4 99)
def ORow (s row : Nat → Int32) : Prop := Row0 s row ∧ (Bn row 4 999 ∧ Bn row 5 99)
/-- the arguments of a claim -/
def Ars (st : Sg) (r acc reach w : Nat) : Prop := r < ct st.1 2 ∧ (acc < ct st.1 1 ∧ (reach < ct st.1 0 ∧ w ≤ 999))
theorem sub_nI {a b : Nat} (h : b ≤ a) : nI a - nI b = nI (a - b) := pk_sub h
theorem srv_keep {its r acc reach w price : Nat} {st : Sg} (hv : Rv st.1) (hfl : Flo (ct st.1 0) st.2.2.1) (ha : Ars st r acc reach w) (hc : Bn st.1 56 18) :
    (∀ j, Sta j → (srv its r acc reach w price st).1 j = st.1 j) ∧ (Rv (srv its r acc reach w price st).1 ∧ (Flo (ct (srv its r acc reach w price st).1 0) (srv its r acc reach w price st).2.2.1 ∧ ((srv its r acc reach w price st).1 56 = nI (ct st.1 56 + 1) ∧ ct (srv its r acc reach w price st).1 56 = ct st.1 56 + 1))) := by
  obtain ⟨a0, a1, a2, a3, a4, a5⟩ := id hv
  obtain ⟨b1, b2, b3, b4⟩ := ha
  obtain ⟨f0, f1, f5, f3, f4, f6, f2⟩ := a5 r b1
  have h0 := a0.2
  have h1 := a1.2
  have h2 := a2.2
  have hcc := hc.2
  have hs : ∀ j, Sta j → (srv its r acc reach w price st).1 j = st.1 j := fun j hj => srvS_sta (by omega) (by omega) (by omega) hj (by omega) (by omega) (by omega)
  have e56 : (srv its r acc reach w price st).1 56 = nI (ct st.1 56 + 1) := by
    show srvS its r acc reach w st 56 = _
    rw [srvS_56 (by omega) (by omega) (by omega), hc.1, nI_1]
  refine ⟨hs, hv.sta hs, ?_, e56, ?_⟩
  · rw [ct_eq (hs 0 (Or.inl (by decide)))]
    intro q hq
    obtain ⟨g1, g2⟩ := hfl q hq
    show srvF its r reach w st q = nI (ct (srvF its r reach w st) q) ∧ ct (srvF its r reach w st) q < 2 ^ 30
    by_cases e : reach ≤ q ∧ q < ct st.1 0
    · have hle : byN (kpO its r st.1) (rtO its r st.1) (ct st.1 (58 + 10 * r + 5)) (gotO its r reach w st) q ≤ ct st.2.2.1 q := by
        have hP := dn_ok (okN_0 (n0 := ct st.1 0) (mn := fun q => ct st.1 (14 + q)) (fl := fun q => ct st.2.2.1 q) (reach := reach) (kp := kpO its r st.1) (rt := rtO its r st.1) (to := ct st.1 (58 + 10 * r + 5))) w
        rw [show dn (okN (ct st.1 0) (fun q => ct st.1 (14 + q)) (fun q => ct st.2.2.1 q) reach (kpO its r st.1) (rtO its r st.1) (ct st.1 (58 + 10 * r + 5))) w = gotO its r reach w st from rfl] at hP
        unfold okN at hP
        rw [decide_eq_true_eq] at hP
        rcases hP q e.2 e.1 with z | z
        · rw [z]; exact Nat.zero_le _
        · exact Nat.le_trans (Nat.le_add_right _ _) z
      have es : srvF its r reach w st q = nI (ct st.2.2.1 q - byN (kpO its r st.1) (rtO its r st.1) (ct st.1 (58 + 10 * r + 5)) (gotO its r reach w st) q) := by
        unfold srvF
        rw [if_pos e, ← sub_nI hle, ← g1]
      have ec : ct (srvF its r reach w st) q = ct st.2.2.1 q - byN (kpO its r st.1) (rtO its r st.1) (ct st.1 (58 + 10 * r + 5)) (gotO its r reach w st) q := by
        show (srvF its r reach w st q).toNatClampNeg = _
        rw [es, nI_clamp (by omega)]
      rw [ec]
      exact ⟨es, by omega⟩
    · have es : srvF its r reach w st q = st.2.2.1 q := by unfold srvF; rw [if_neg e]
      rw [ct_eq es, es]
      exact ⟨g1, g2⟩
  · show ((srv its r acc reach w price st).1 56).toNatClampNeg = _
    rw [e56, nI_clamp (by omega)]
def cntR (r : Nat) : List (Nat → Int32) → Nat
  | [] => 0
  | row :: L => (if ct row 0 = r then 1 else 0) + cntR r L
theorem Row0.sta {s s' row : Nat → Int32} (h : Row0 s row) (e0 : s' 0 = s 0) (e1 : s' 1 = s 1) (e2 : s' 2 = s 2) : Row0 s' row := by
  unfold Row0 at h ⊢
  rw [ct_eq e0, ct_eq e1, ct_eq e2]
  exact h
theorem Sta0 : Sta 0 := Or.inl (by decide)
theorem Sta1 : Sta 1 := Or.inl (by decide)
theorem Sta2 : Sta 2 := Or.inl (by decide)
theorem Sta5 : Sta 5 := Or.inl (by decide)
theorem StaR {r k : Nat} (hr : r < 10) (hk : k < 7) : Sta (58 + 10 * r + k) := Or.inr (Or.inr (Or.inr (Or.inr (Or.inr (Or.inl (by omega))))))
/-- what is sure of a state of claims; c: how many more it bears -/
def Cst (st : Sg) (c : Nat) : Prop := Rv st.1 ∧ (Flo (ct st.1 0) st.2.2.1 ∧ (st.1 56 = nI (ct st.1 56) ∧ ct st.1 56 + c ≤ 19))
theorem Cst.srv {its r acc reach w price c : Nat} {st : Sg} (h : Cst st (c + 1)) (ha : Ars st r acc reach w) : Cst (srv its r acc reach w price st) c ∧ ∀ j, Sta j → (srv its r acc reach w price st).1 j = st.1 j := by
  obtain ⟨h1, h2, h3, h4⟩ := h
  obtain ⟨k1, k2, k3, k4, k5⟩ := srv_keep (its := its) (price := price) h1 h2 ha ⟨h3, by omega⟩
  exact ⟨⟨k2, k3, by rw [k5]; exact k4, by omega⟩, k1⟩
theorem Cst.less {st : Sg} {c c' : Nat} (h : Cst st c) (hc : c' ≤ c) : Cst st c' := ⟨h.1, h.2.1, h.2.2.1, by have := h.2.2.2; omega⟩
theorem Cst.b56 {st : Sg} {c : Nat} (h : Cst st (c + 1)) : Bn st.1 56 18 := ⟨h.2.2.1, by have := h.2.2.2; omega⟩
theorem wout_le {s : Nat → Int32} {r v : Nat} (hv : v ≤ 999) : wout s r v ≤ 999 := by
  unfold wout
  have : v * (100 - ct s (58 + 10 * r + 4)) ≤ v * 100 := Nat.mul_le_mul_left _ (by omega)
  omega
theorem clL_keep {r : Nat} : ∀ (L : List (Nat → Int32)) (st : Sg) (left c : Nat), Cst st (c + cntR r L) → r < ct st.1 2 → (∀ row, row ∈ L → LRow st.1 row) → left ≤ 999 →
    Cst (clL r L (st, left)).1 c ∧ ((∀ j, Sta j → (clL r L (st, left)).1.1 j = st.1 j) ∧ (clL r L (st, left)).2 ≤ left) := by
  intro L
  induction L with
  | nil => intro st left c h _ _ _; exact ⟨h, fun j _ => rfl, Nat.le_refl _⟩
  | cons row L ih =>
    intro st left c h hr hL hl
    have hrow := hL row List.mem_cons_self
    rw [clL]
    by_cases e : ct row 0 = r
    · rw [if_pos e]
      rw [cntR, if_pos e] at h
      have h' : Cst st ((c + cntR r L) + 1) := h.less (by omega)
      have hv : (if (st, left).2 < ct row 3 then (st, left).2 else ct row 3) ≤ left := by show (if left < ct row 3 then left else ct row 3) ≤ left; split <;> omega
      obtain ⟨k1, k2⟩ := h'.srv (its := 1) (price := ct row 4) (r := r) (acc := ct row 1) (reach := ct row 2) (w := wout (st, left).1.1 r (if (st, left).2 < ct row 3 then (st, left).2 else ct row 3)) ⟨hr, hrow.1.2.1.2, hrow.1.2.2.2, wout_le (by omega)⟩
      obtain ⟨i1, i2, i3⟩ := ih _ _ c k1 (by rw [ct_eq (k2 2 Sta2)]; exact hr) (fun row' hr' => ⟨(hL row' (List.mem_cons_of_mem _ hr')).1.sta (k2 0 Sta0) (k2 1 Sta1) (k2 2 Sta2), (hL row' (List.mem_cons_of_mem _ hr')).2⟩) (show (st, left).2 - (if (st, left).2 < ct row 3 then (st, left).2 else ct row 3) ≤ 999 by show left - _ ≤ 999; omega)
      exact ⟨i1, fun j hj => (i2 j hj).trans (k2 j hj), Nat.le_trans i3 (Nat.sub_le _ _)⟩
    · rw [if_neg e]
      rw [cntR, if_neg e, Nat.zero_add] at h
      exact ih st left c h hr (fun row' hr' => hL row' (List.mem_cons_of_mem _ hr')) hl
theorem Rv.vt {s : Nat → Int32} (h : Rv s) : Vt s := h.2.2.2.1
section SERVE
variable {b : Nat} {LS OS : List (Nat → Int32)} {n0 : Nat} {cu : Nat → Int32}
def rowAt (L : List (Nat → Int32)) (l : Nat) : Nat → Int32 := L.getD l (fun _ => 0)
theorem rowAt_mem {L : List (Nat → Int32)} {l : Nat} (h : l < L.length) : rowAt L l ∈ L := by
  unfold rowAt
  rw [List.getD_eq_getElem?_getD, List.getElem?_eq_getElem h]
  exact List.getElem_mem h
theorem drop_row {L : List (Nat → Int32)} {l : Nat} (h : l < L.length) : L.drop l = rowAt L l :: L.drop (l + 1) := by
  unfold rowAt
  rw [List.getD_eq_getElem?_getD, List.getElem?_eq_getElem h]
  exact List.drop_eq_getElem_cons h
set_option maxHeartbeats 2000000 in
theorem x1_leaL (hb : kd b = 1) {r : Nat} : ∀ (d m l left c : Nat) (st : Sg) (μ : Mm), l + d = LS.length → d < m → SV μ b LS OS n0 (GF st) cu st.1 st.2.1 → n0 = ct st.1 0 → Cst st (c + cntR r (LS.drop l)) → r < ct st.1 2 → (∀ row, row ∈ LS → LRow st.1 row) → left ≤ 999 →
    Op (F_X1_serveClaimsOf_12 b (nI r) m (nI left) (nI l) μ) (fun o => o.1 = nI (clL r (LS.drop l) (st, left)).2 ∧ (SV o.2 b LS OS n0 (GF (clL r (LS.drop l) (st, left)).1) cu (clL r (LS.drop l) (st, left)).1.1 (clL r (LS.drop l) (st, left)).1.2.1 ∧ Fs (Blk b) μ o.2)) := by
  intro d
  induction d with
  | zero =>
    intro m l left c st μ hl hm h hn0 hc hr hL hle
    have hlen := (h.lea_le hb).1
    obtain ⟨m, rfl⟩ : ∃ q, m = q + 1 := ⟨m - 1, by omega⟩
    rw [F_X1_serveClaimsOf_12, h.lea.2.1, if_pos (nI_le (by omega) (by omega)), List.drop_eq_nil_of_le (by omega)]
    exact op_r ⟨rfl, h, Fs.rf⟩
  | succ d ih =>
    intro m l left c st μ hl hm h hn0 hc hr hL hle
    have hlen := (h.lea_le hb).1
    obtain ⟨m, rfl⟩ : ∃ q, m = q + 1 := ⟨m - 1, by omega⟩
    have hlt : l < LS.length := by omega
    have hrow := hL _ (rowAt_mem hlt)
    have g : ∀ k, k < 6 → F_X2_get (b + 12) (nI l) (nI k) μ = some (rowAt LS l k) := fun k hk => x2_get h.lea hlt hk
    have hn2 := hc.1.2.2.1.2
    rw [drop_row hlt] at hc ⊢
    rw [F_X1_serveClaimsOf_12, h.lea.2.1, if_neg (nI_ge hlt (by omega))]
    refine op_eb (g 0 (by decide)) ?_
    rw [hrow.1.1.1, clL]
    by_cases e : ct (rowAt LS l) 0 = r
    · rw [if_pos e, e]
      refine op_b (op_t rfl ?_)
      refine op_eb ((g 3 (by decide)).trans (congrArg some hrow.2.1.1)) ?_
      refine op_eb ((g 4 (by decide)).trans (congrArg some hrow.2.2.1)) ?_
      have h3 := hrow.2.1.2
      have h4 := hrow.2.2.2
      rw [mn0 (show left < 2 ^ 31 by omega) (show ct (rowAt LS l) 3 < 2 ^ 31 by omega)]
      have hv : (if left < ct (rowAt LS l) 3 then left else ct (rowAt LS l) 3) ≤ left := by split <;> omega
      generalize hvv : (if left < ct (rowAt LS l) 3 then left else ct (rowAt LS l) 3) = v at hv
      rw [cntR, if_pos e] at hc
      have hc' : Cst st ((c + cntR r (LS.drop (l + 1))) + 1) := hc.less (by omega)
      refine op_mb (x1_oth h hb hn0 hc.1 (hn0 ▸ hc.2.1) (its := 1) (Or.inl rfl) ((g 0 (by decide)).trans (congrArg some (hrow.1.1.1.trans (congrArg nI e)))) ((g 1 (by decide)).trans (congrArg some hrow.1.2.1.1)) ((g 2 (by decide)).trans (congrArg some hrow.1.2.2.1)) hr hrow.1.2.1.2 (by rw [hn0]; exact hrow.1.2.2.2) (show v ≤ 999 by omega) h4 hc'.b56) (fun μ2 q2 => ?_)
      refine op_r ?_
      obtain ⟨k1, k2⟩ := hc'.srv (its := 1) (price := ct (rowAt LS l) 4) (r := r) (acc := ct (rowAt LS l) 1) (reach := ct (rowAt LS l) 2) (w := wout st.1 r v) ⟨hr, hrow.1.2.1.2, hrow.1.2.2.2, wout_le (by omega)⟩
      rw [pk_sub hv, nI_1]
      show Op (F_X1_serveClaimsOf_12 b (nI r) m (nI (left - v)) (nI (l + 1)) μ2) _
      refine op_m (ih m (l + 1) (left - v) c _ μ2 (by omega) (by omega) q2.1 (hn0.trans (ct_eq (k2 0 Sta0)).symm) k1 (by rw [ct_eq (k2 2 Sta2)]; exact hr) (fun row hr' => ⟨(hL row hr').1.sta (k2 0 Sta0) (k2 1 Sta1) (k2 2 Sta2), (hL row hr').2⟩) (by omega)) (fun o q => ⟨?_, ?_, q2.2.tr q.2.2⟩)
      · exact q.1
      · exact q.2.1
    · rw [if_neg e]
      refine op_b (op_f (fun z => e (nI_inj (by have := hrow.1.1.2; omega) (by omega) z)) (op_r ?_))
      rw [nI_1]
      rw [cntR, if_neg e, Nat.zero_add] at hc
      exact ih m (l + 1) left c st μ (by omega) (by omega) h hn0 hc hr hL hle
end SERVE

