/-! ===== append ===== -/
/-- the builder holds the first n of t -/
def TB (μ : Mm) (n : Nat) (t : Nat → Int32) : Prop := μ.1 295 1 = 0 ∧ (μ.1 295 3 = nI n ∧ (n ≤ μ.2.2.2.1 ∧ (μ.2.2.2.1 ≤ 2048 ∧ (Fitb μ.2.2.2.2 ∧ ∀ k, k < n → μ.2.2.2.2 k = t k))))
def GR (μ μ' : Mm) : Prop := (∀ b, b ≠ 295 → μ'.1 b = μ.1 b) ∧ μ'.2.1 = μ.2.1
theorem GR.rf {μ : Mm} : GR μ μ := ⟨fun _ _ => rfl, rfl⟩
theorem GR.tr {μ μ1 μ2 : Mm} (h : GR μ μ1) (h2 : GR μ1 μ2) : GR μ μ2 := ⟨fun b hb => (h2.1 b hb).trans (h.1 b hb), h2.2.trans h.2⟩
theorem GR.uI {μ : Mm} {k : Nat} {v : Int32} : GR μ (uI μ 295 k v) := ⟨fun b hb => uI_ne hb, rfl⟩
theorem capF_ge {q m : Nat} : q ≤ capF q m ∧ m ≤ capF q m := by
  unfold capF capG
  split
  · omega
  · split <;> omega
theorem capF_le {q m : Nat} (hq : q ≤ 1000) (hm : m ≤ 2048) : capF q m ≤ 2048 := by
  unfold capF capG
  split
  · omega
  · split <;> omega
theorem EnsP.is {q n : Nat} {μ μ' : Mm} {t : Nat → Int32} (h : TB μ n t) (e : EnsP q μ μ') (hq : q ≤ 1000) (hnq : n ≤ q) : μ'.1 = μ.1 ∧ (μ'.2.1 = μ.2.1 ∧ (μ'.2.2.2.1 = capF q μ.2.2.2.1 ∧ (TB μ' n t ∧ q ≤ μ'.2.2.2.1))) := by
  obtain ⟨h1, h2, h3, h4, h5, h6⟩ := h
  have hc := capF_le hq h4
  have hg := (capF_ge (q := q) (m := μ.2.2.2.1)).1
  rcases e with ⟨e1, rfl⟩ | ⟨e1, a, f, rfl, e2, e3⟩
  · exact ⟨rfl, rfl, (if_pos e1).symm, ⟨h1, h2, h3, h4, h5, h6⟩, e1⟩
  · have ec : capF q μ.2.2.2.1 = capG q μ.2.2.2.1 := if_neg (by omega)
    rw [ec] at hc hg ⊢
    exact ⟨rfl, rfl, rfl, ⟨h1, h2, by show n ≤ capG q μ.2.2.2.1; omega, hc, e3, fun k hk => (e2 k (by omega)).trans (h6 k hk)⟩, hg⟩
abbrev rm_ap (q m : Nat) : Room := { frames := 4, cells := if q ≤ m then 0 else 1, slots := if q ≤ m then 0 else capG q m, locals := 180 }
abbrev rm_bp (q m : Nat) : Room := { frames := 5, cells := if q ≤ m then 0 else 1, slots := if q ≤ m then 0 else capG q m, locals := 230 }
def ApP (E : Ev) (n w : Nat) (t : Nat → Int32) (μ : Mm) (o : Option Value) (μ' : Mm) : Prop := o = some (.ref (eB E + 295)) ∧ (TB μ' (n + w) t ∧ (GR μ μ' ∧ μ'.2.2.2.1 = capF (n + w) μ.2.2.2.1))
theorem chr_b : ∀ c, c < 128 → vp_nar .byte ((nI c).toInt8.toInt32) = nI c ∧ fits .byte (.int (nI c)) = true := by decide +kernel
theorem dig_f : ∀ j, j < 10 → fits .byte (.int (nI (48 + j))) = true := by decide +kernel
section SBA
variable {l : Launch} {E : Ev} {μ : Mm}
set_option maxHeartbeats 4000000 in
set_option maxRecDepth 100000 in
theorem c_J5_apI {n v : Nat} {t : Nat → Int32} (hN : 295 < eN E) (hU : (eU E).1 = 0) (h : TB μ n t) (hn : n + dg v ≤ 1000) (hv : v < 2 ^ 30) : CtS l E yJ5_append_c97b9 (Cond.code yJ5_append_c97b9 cJ5_append_c97b9 4 (some (.object "java/lang/AbstractStringBuilder")) :: GP) (rm_ap (n + dg v) μ.2.2.2.1) [.ref (eB E + 295), .int (nI v)] μ (ApP E n (dg v) (pt t v (dg v) (n + dg v)) μ) := by
  obtain ⟨h1, h2, h3, h4, h5, h6⟩ := id h
  obtain ⟨hD, hd10⟩ := dg_ok (v := v) (by omega)
  generalize hd : dg v = w at *
  have hw1 := hD.1
  refine ctp_of (by decide) (Nat.le_of_ble_eq_true rfl) (fun p e s m args below meth cc C hx hr => ?_)
  have C : Cq E p s m args meth cc cJ5_append_c97b9 4 RJ5 := C
  refine gq_lv (lv' := [(0, .ref (eB E + 295)), (1, .int (nI v))]) rfl ?_
  refine gq_aload_n (i := 0) C dJ5_append_c97b9_0 rfl 0 rfl ?_
  refine gq_get4 C hN kd_295 3 (by decide) wk_3_46 rfl dJ5_append_c97b9_1 ?_
  rw [h2]
  refine gq_istore_n (i := 2) C dJ5_append_c97b9_4 rfl (by decide) rfl ?_
  refine gq_iload_n (i := 2) C dJ5_append_c97b9_5 rfl 0 rfl ?_
  refine gq_iload_n (i := 1) C dJ5_append_c97b9_6 rfl 2 rfl ?_
  refine gq_call (run_SX (As := [.int (nI v)]) (rest := [.int (nI n)]) C (c_J6_stringSize_0f7a4 hv) wk_3_229 wk_3_230 wk_1_18 wk_3_231 ht_size ⟨Nat.le_of_ble_eq_true rfl, Nat.le_of_ble_eq_true rfl⟩ (Nat.le_of_ble_eq_true rfl) ⟨Nat.zero_le _, Nat.zero_le _⟩ dJ5_append_c97b9_7 rfl) rfl ?_
  rw [hd]
  refine gq_iadd C dJ5_append_c97b9_10 ?_
  rw [nI_add]
  refine gq_istore_n (i := 3) C dJ5_append_c97b9_11 rfl (by decide) rfl ?_
  refine gq_aload_n (i := 0) C dJ5_append_c97b9_12 rfl 2 rfl ?_
  refine gq_iload_n (i := 3) C dJ5_append_c97b9_13 rfl 0 rfl ?_
  refine gq_callS (run_VU (As := [.int (nI (n + w))]) (rest := []) (j := 4) C hx (c_J5_ensure hN hU h1 (by omega) (by omega) h5) (fun w h => h) hN kd_295 (by decide) rfl wk_3_130 wk_5_28 gp_ens wk_3_132 wk_1_7 wk_3_133 hb_ens ⟨Nat.le_of_ble_eq_true rfl, Nat.le_of_ble_eq_true rfl⟩ (Nat.le_of_ble_eq_true rfl) ⟨Nat.le_of_eq (Nat.zero_add _), Nat.le_of_eq (Nat.zero_add _)⟩ dJ5_append_c97b9_14 rfl) (fun o μ1 hP => ?_)
  obtain ⟨rfl, hE⟩ := hP
  obtain ⟨i1, i2, i3, ⟨g1, g2, g3, g4, g5, g6⟩, i5⟩ := EnsP.is h hE hn (by omega)
  refine gq_aload_n (i := 0) C dJ5_append_c97b9_17 rfl 2 rfl ?_
  refine gq_call (run_VU (As := []) (rest := []) (j := 4) C hx (c_J5_isLatin1_aae02 hN g1) (fun w h => gp_w h) hN kd_295 (by decide) rfl wk_3_158 wk_3_160 (gp_w wk_3_161) wk_3_159 wk_1_7 wk_3_162 hb_lat ⟨Nat.le_of_ble_eq_true rfl, Nat.le_of_ble_eq_true rfl⟩ (Nat.le_of_ble_eq_true rfl) ⟨Nat.le_of_eq (Nat.zero_add _), Nat.le_of_eq (Nat.zero_add _)⟩ dJ5_append_c97b9_18 rfl) rfl ?_
  refine gq_if_eq_f (tgt := 37) C dJ5_append_c97b9_21 (by decide) (by decide) ?_
  refine gq_iload_n (i := 1) C dJ5_append_c97b9_24 rfl 3 rfl ?_
  refine gq_iload_n (i := 3) C dJ5_append_c97b9_25 rfl 0 rfl ?_
  refine gq_aload_n (i := 0) C dJ5_append_c97b9_26 rfl 2 rfl ?_
  refine gq_get4 C hN kd_295 0 (by decide) wk_3_43 rfl dJ5_append_c97b9_27 ?_
  refine gq_call (run_SX (As := [.int (nI v), .int (nI (n + w)), .ref μ1.2.2.1]) (rest := []) C (c_J6_getChars_ba4f3 hN hv hD (by omega) i5 (by omega)) wk_3_232 wk_3_233 wk_1_18 wk_3_234 ht_getc ⟨Nat.le_of_ble_eq_true rfl, Nat.le_of_ble_eq_true rfl⟩ (Nat.le_of_ble_eq_true rfl) ⟨Nat.le_of_eq (Nat.zero_add _), Nat.le_of_eq (Nat.zero_add _)⟩ dJ5_append_c97b9_30 rfl) rfl ?_
  refine gq_popi C dJ5_append_c97b9_33 ?_
  refine gq_goto (tgt := 48) C dJ5_append_c97b9_34 (by decide) ?_
  refine gq_aload_n (i := 0) C dJ5_append_c97b9_48 rfl 2 rfl ?_
  refine gq_iload_n (i := 3) C dJ5_append_c97b9_49 rfl 0 rfl ?_
  refine gq_put4_3 (μ' := uI (putN μ1 v w (n + w)) 295 3 (nI (n + w))) C hN kd_295 wk_3_46 rfl dJ5_append_c97b9_50 ?_
  refine gq_aload_n (i := 0) C dJ5_append_c97b9_53 rfl 2 rfl ?_
  refine gs_end (P := ApP E n w (pt t v w (n + w)) μ) (o := some (.ref (eB E + 295))) (μ' := uI (putN μ1 v w (n + w)) 295 3 (nI (n + w))) ⟨rfl, ⟨?_, ?_, i5, g4, fun k => ?_, fun k hk => ?_⟩, ?_, i3⟩ ?_
  · rw [uI_eq]; exact g1
  · rw [uI_eq]; rfl
  · show fits .byte (.int (pt μ1.2.2.2.2 v w (n + w) k)) = true
    unfold pt
    by_cases e : n + w - w ≤ k ∧ k < n + w
    · rw [if_pos e]; exact dig_f _ (Nat.mod_lt _ (by decide))
    · rw [if_neg e]; exact g5 k
  · show pt μ1.2.2.2.2 v w (n + w) k = pt t v w (n + w) k
    unfold pt
    by_cases e : n + w - w ≤ k ∧ k < n + w
    · rw [if_pos e, if_pos e]
    · rw [if_neg e, if_neg e]; exact g6 k (by omega)
  · exact ⟨fun b hb => (uI_ne hb).trans (congrFun i1 b), i2⟩
  · exact gq_aret C hr (Or.inl ⟨_, rfl⟩) dJ5_append_c97b9_54 (Nat.le_of_eq (Nat.zero_add _)) (Nat.le_of_eq (Nat.zero_add _))
end SBA

