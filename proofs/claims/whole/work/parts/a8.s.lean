/-! ===== append ===== -/
/-- the builder holds the first n of t -/
def TB (μ : Mm) (n : Nat) (t : Nat → Int32) : Prop := μ.1 293 1 = 0 ∧ (μ.1 293 3 = nI n ∧ (n ≤ μ.2.2.2.1 ∧ (μ.2.2.2.1 ≤ 2048 ∧ (Fitb μ.2.2.2.2 ∧ ∀ k, k < n → μ.2.2.2.2 k = t k))))
def GR (μ μ' : Mm) : Prop := (∀ b, b ≠ 293 → μ'.1 b = μ.1 b) ∧ μ'.2.1 = μ.2.1
theorem GR.rf {μ : Mm} : GR μ μ := ⟨fun _ _ => rfl, rfl⟩
theorem GR.tr {μ μ1 μ2 : Mm} (h : GR μ μ1) (h2 : GR μ1 μ2) : GR μ μ2 := ⟨fun b hb => (h2.1 b hb).trans (h.1 b hb), h2.2.trans h.2⟩
theorem GR.uI {μ : Mm} {k : Nat} {v : Int32} : GR μ (uI μ 293 k v) := ⟨fun b hb => uI_ne hb, rfl⟩
theorem capF_ge {q m : Nat} : q ≤ capF q m ∧ m ≤ capF q m := by
  unfold capF capG
  split
  · omega
  · split <;> omega
theorem capF_le {q m : Nat} (hq : q ≤ 1000) (hm : m ≤ 2048) : capF q m ≤ 2048 := by
  unfold capF capG
  split
  · omega
  · split <;> omega
theorem EnsP.is {q n : Nat} {μ μ' : Mm} {t : Nat → Int32} (h : TB μ n t) (e : EnsP q μ μ') (hq : q ≤ 1000) (hnq : n ≤ q) : μ'.1 = μ.1 ∧ (μ'.2.1 = μ.2.1 ∧ (μ'.2.2.2.1 = capF q μ.2.2.2.1 ∧ (TB μ' n t ∧ q ≤ μ'.2.2.2.1))) := by
  obtain ⟨h1, h2, h3, h4, h5, h6⟩ := h
  have hc := capF_le hq h4
  have hg := (capF_ge (q := q) (m := μ.2.2.2.1)).1
  rcases e with ⟨e1, rfl⟩ | ⟨e1, a, f, rfl, e2, e3⟩
  · exact ⟨rfl, rfl, (if_pos e1).symm, ⟨h1, h2, h3, h4, h5, h6⟩, e1⟩
  · have ec : capF q μ.2.2.2.1 = capG q μ.2.2.2.1 := if_neg (by omega)
    rw [ec] at hc hg ⊢
    exact ⟨rfl, rfl, rfl, ⟨h1, h2, by show n ≤ capG q μ.2.2.2.1; omega, hc, e3, fun k hk => (e2 k (by omega)).trans (h6 k hk)⟩, hg⟩
abbrev rm_ap (q m : Nat) : Room := { frames := 4, cells := if q ≤ m then 0 else 1, slots := if q ≤ m then 0 else capG q m, locals := 180 }
abbrev rm_bp (q m : Nat) : Room := { frames := 5, cells := if q ≤ m then 0 else 1, slots := if q ≤ m then 0 else capG q m, locals := 230 }
def ApP (E : Ev) (n w : Nat) (t : Nat → Int32) (μ : Mm) (o : Option Value) (μ' : Mm) : Prop := o = some (.ref (eB E + 293)) ∧ (TB μ' (n + w) t ∧ (GR μ μ' ∧ μ'.2.2.2.1 = capF (n + w) μ.2.2.2.1))
theorem chr_b : ∀ c, c < 128 → vp_nar .byte ((nI c).toInt8.toInt32) = nI c ∧ fits .byte (.int (nI c)) = true := by decide +kernel
theorem dig_f : ∀ j, j < 10 → fits .byte (.int (nI (48 + j))) = true := by decide +kernel
section SBA
variable {l : Launch} {E : Ev} {μ : Mm}
set_option maxHeartbeats 4000000 in
set_option maxRecDepth 100000 in
theorem c_J5_apC {n c : Nat} {t : Nat → Int32} (hN : 293 < eN E) (h : TB μ n t) (hn : n + 1 ≤ 1000) (hc : c < 128) : CtS l E yJ5_append_3fe6f (Cond.code yJ5_append_3fe6f cJ5_append_3fe6f 2 (some (.object "java/lang/AbstractStringBuilder")) :: GP) (rm_ap (n + 1) μ.2.2.2.1) [.ref (eB E + 293), .int (nI c)] μ (ApP E n 1 (upd t n (nI c)) μ) := by
  obtain ⟨h1, h2, h3, h4, h5, h6⟩ := id h
  refine ctp_of (by decide) (Nat.le_of_ble_eq_true rfl) (fun p e s m args below meth cc C hx hr => ?_)
  have C : Cq E p s m args meth cc cJ5_append_3fe6f 2 RJ5 := C
  refine gq_lv (lv' := [(0, .ref (eB E + 293)), (1, .int (nI c))]) rfl ?_
  refine gq_aload_n (i := 0) C dJ5_append_3fe6f_0 rfl 0 rfl ?_
  refine gq_aload_n (i := 0) C dJ5_append_3fe6f_1 rfl 0 rfl ?_
  refine gq_get4 C hN kd_293 3 (by decide) wk_1_204 rfl dJ5_append_3fe6f_2 ?_
  rw [h2]
  refine gq_iconst (v := 1) C dJ5_append_3fe6f_5 (by decide) ?_
  refine gq_iadd C dJ5_append_3fe6f_6 ?_
  rw [nI_1]
  refine gq_callS (run_VU (As := [.int (nI (n + 1))]) (rest := []) (j := 4) C hx (c_J5_ensure hN h1 (by omega) (by omega) h5) (fun w h => h) hN kd_293 (by decide) rfl wk_2_179 wk_9_11 gp_ens wk_2_181 wk_1_5 wk_2_182 hb_ens ⟨Nat.le_of_ble_eq_true rfl, Nat.le_of_ble_eq_true rfl⟩ (Nat.le_of_ble_eq_true rfl) ⟨Nat.le_of_eq (Nat.zero_add _), Nat.le_of_eq (Nat.zero_add _)⟩ dJ5_append_3fe6f_7 rfl) (fun o μ1 hP => ?_)
  obtain ⟨rfl, hE⟩ := hP
  obtain ⟨i1, i2, i3, ⟨g1, g2, g3, g4, g5, g6⟩, i5⟩ := EnsP.is h hE hn (by omega)
  refine gq_aload_n (i := 0) C dJ5_append_3fe6f_10 rfl 0 rfl ?_
  refine gq_call (run_VU (As := []) (rest := []) (j := 4) C hx (c_J5_isLatin1_aae02 hN g1) (fun w h => gp_w h) hN kd_293 (by decide) rfl wk_2_212 wk_2_214 (gp_w wk_2_215) wk_2_213 wk_1_5 wk_2_216 hb_lat ⟨Nat.le_of_ble_eq_true rfl, Nat.le_of_ble_eq_true rfl⟩ (Nat.le_of_ble_eq_true rfl) ⟨Nat.le_of_eq (Nat.zero_add _), Nat.le_of_eq (Nat.zero_add _)⟩ dJ5_append_3fe6f_11 rfl) rfl ?_
  refine gq_if_eq_f (tgt := 45) C dJ5_append_3fe6f_14 (by decide) (by decide) ?_
  refine gq_iload_n (i := 1) C dJ5_append_3fe6f_17 rfl 1 rfl ?_
  refine gq_call (run_SX (As := [.int (nI c)]) (rest := []) C (c_J1_canEncode_fc78d (show ¬ nI 255 < nI c from nI_nlt (by omega) (by omega))) wk_4_23 wk_4_24 wk_1_10 wk_4_25 ht_can ⟨Nat.le_of_ble_eq_true rfl, Nat.le_of_ble_eq_true rfl⟩ (Nat.le_of_ble_eq_true rfl) ⟨Nat.le_of_eq (Nat.zero_add _), Nat.le_of_eq (Nat.zero_add _)⟩ dJ5_append_3fe6f_18 rfl) rfl ?_
  refine gq_if_eq_f (tgt := 45) C dJ5_append_3fe6f_21 (by decide) (by decide) ?_
  refine gq_aload_n (i := 0) C dJ5_append_3fe6f_24 rfl 0 rfl ?_
  refine gq_get4 C hN kd_293 0 (by decide) wk_1_200 rfl dJ5_append_3fe6f_25 ?_
  refine gq_aload_n (i := 0) C dJ5_append_3fe6f_28 rfl 0 rfl ?_
  refine gq_dupr C dJ5_append_3fe6f_29 ?_
  refine gq_get4 C hN kd_293 3 (by decide) wk_1_204 rfl dJ5_append_3fe6f_30 ?_
  rw [g2]
  refine gq_dup_x1 C dJ5_append_3fe6f_33 ?_
  refine gq_iconst (v := 1) C dJ5_append_3fe6f_34 (by decide) ?_
  refine gq_iadd C dJ5_append_3fe6f_35 ?_
  rw [nI_1]
  refine gq_put4_3 (μ' := uI μ1 293 3 (nI (n + 1))) C hN kd_293 wk_1_204 rfl dJ5_append_3fe6f_36 ?_
  refine gq_iload_n (i := 1) C dJ5_append_3fe6f_39 rfl 1 rfl ?_
  refine gq_i2b C dJ5_append_3fe6f_40 ?_
  obtain ⟨b1, b2⟩ := chr_b c hc
  refine gq_sbst (μ := uI μ1 293 3 (nI (n + 1))) (μ' := uB (uI μ1 293 3 (nI (n + 1))) n (nI c)) C (vp_in_nI (N := μ1.2.2.2.1) (by omega) (by omega)) (by rw [nI_clamp (by omega), b1]) dJ5_append_3fe6f_41 ?_
  refine gq_goto (tgt := 75) C dJ5_append_3fe6f_42 (by decide) ?_
  refine gq_aload_n (i := 0) C dJ5_append_3fe6f_75 rfl 0 rfl ?_
  refine gs_end (P := ApP E n 1 (upd t n (nI c)) μ) (o := some (.ref (eB E + 293))) (μ' := uB (uI μ1 293 3 (nI (n + 1))) n (nI c)) ⟨rfl, ⟨?_, ?_, i5, g4, fun k => ?_, fun k hk => ?_⟩, ?_, i3⟩ ?_
  · show (uI μ1 293 3 (nI (n + 1))).1 293 1 = 0
    rw [uI_eq]; exact g1
  · show (uI μ1 293 3 (nI (n + 1))).1 293 3 = _
    rw [uI_eq]; rfl
  · show fits .byte (.int (upd μ1.2.2.2.2 n (nI c) k)) = true
    unfold upd
    by_cases e : k = n
    · rw [if_pos e]; exact b2
    · rw [if_neg e]; exact g5 k
  · show upd μ1.2.2.2.2 n (nI c) k = upd t n (nI c) k
    unfold upd
    by_cases e : k = n
    · rw [if_pos e, if_pos e]
    · rw [if_neg e, if_neg e]; exact g6 k (by omega)
  · exact ⟨fun b hb => (uI_ne hb).trans (congrFun i1 b), i2⟩
  · exact gq_aret C hr (Or.inl ⟨_, rfl⟩) dJ5_append_3fe6f_76 (Nat.le_of_eq (Nat.zero_add _)) (Nat.le_of_eq (Nat.zero_add _))
set_option maxHeartbeats 4000000 in
set_option maxRecDepth 100000 in
theorem c_J5_apI {n v : Nat} {t : Nat → Int32} (hN : 293 < eN E) (h : TB μ n t) (hn : n + dg v ≤ 1000) (hv : v < 2 ^ 30) : CtS l E yJ5_append_c97b9 (Cond.code yJ5_append_c97b9 cJ5_append_c97b9 4 (some (.object "java/lang/AbstractStringBuilder")) :: GP) (rm_ap (n + dg v) μ.2.2.2.1) [.ref (eB E + 293), .int (nI v)] μ (ApP E n (dg v) (pt t v (dg v) (n + dg v)) μ) := by
  obtain ⟨h1, h2, h3, h4, h5, h6⟩ := id h
  obtain ⟨hD, hd10⟩ := dg_ok (v := v) (by omega)
  generalize hd : dg v = w at *
  have hw1 := hD.1
  refine ctp_of (by decide) (Nat.le_of_ble_eq_true rfl) (fun p e s m args below meth cc C hx hr => ?_)
  have C : Cq E p s m args meth cc cJ5_append_c97b9 4 RJ5 := C
  refine gq_lv (lv' := [(0, .ref (eB E + 293)), (1, .int (nI v))]) rfl ?_
  refine gq_aload_n (i := 0) C dJ5_append_c97b9_0 rfl 0 rfl ?_
  refine gq_get4 C hN kd_293 3 (by decide) wk_1_204 rfl dJ5_append_c97b9_1 ?_
  rw [h2]
  refine gq_istore_n (i := 2) C dJ5_append_c97b9_4 rfl (by decide) rfl ?_
  refine gq_iload_n (i := 2) C dJ5_append_c97b9_5 rfl 0 rfl ?_
  refine gq_iload_n (i := 1) C dJ5_append_c97b9_6 rfl 2 rfl ?_
  refine gq_call (run_SX (As := [.int (nI v)]) (rest := [.int (nI n)]) C (c_J6_stringSize_0f7a4 hv) wk_3_53 wk_3_54 wk_1_25 wk_3_55 ht_size ⟨Nat.le_of_ble_eq_true rfl, Nat.le_of_ble_eq_true rfl⟩ (Nat.le_of_ble_eq_true rfl) ⟨Nat.zero_le _, Nat.zero_le _⟩ dJ5_append_c97b9_7 rfl) rfl ?_
  rw [hd]
  refine gq_iadd C dJ5_append_c97b9_10 ?_
  rw [nI_add]
  refine gq_istore_n (i := 3) C dJ5_append_c97b9_11 rfl (by decide) rfl ?_
  refine gq_aload_n (i := 0) C dJ5_append_c97b9_12 rfl 2 rfl ?_
  refine gq_iload_n (i := 3) C dJ5_append_c97b9_13 rfl 0 rfl ?_
  refine gq_callS (run_VU (As := [.int (nI (n + w))]) (rest := []) (j := 4) C hx (c_J5_ensure hN h1 (by omega) (by omega) h5) (fun w h => h) hN kd_293 (by decide) rfl wk_2_179 wk_9_11 gp_ens wk_2_181 wk_1_5 wk_2_182 hb_ens ⟨Nat.le_of_ble_eq_true rfl, Nat.le_of_ble_eq_true rfl⟩ (Nat.le_of_ble_eq_true rfl) ⟨Nat.le_of_eq (Nat.zero_add _), Nat.le_of_eq (Nat.zero_add _)⟩ dJ5_append_c97b9_14 rfl) (fun o μ1 hP => ?_)
  obtain ⟨rfl, hE⟩ := hP
  obtain ⟨i1, i2, i3, ⟨g1, g2, g3, g4, g5, g6⟩, i5⟩ := EnsP.is h hE hn (by omega)
  refine gq_aload_n (i := 0) C dJ5_append_c97b9_17 rfl 2 rfl ?_
  refine gq_call (run_VU (As := []) (rest := []) (j := 4) C hx (c_J5_isLatin1_aae02 hN g1) (fun w h => gp_w h) hN kd_293 (by decide) rfl wk_2_212 wk_2_214 (gp_w wk_2_215) wk_2_213 wk_1_5 wk_2_216 hb_lat ⟨Nat.le_of_ble_eq_true rfl, Nat.le_of_ble_eq_true rfl⟩ (Nat.le_of_ble_eq_true rfl) ⟨Nat.le_of_eq (Nat.zero_add _), Nat.le_of_eq (Nat.zero_add _)⟩ dJ5_append_c97b9_18 rfl) rfl ?_
  refine gq_if_eq_f (tgt := 37) C dJ5_append_c97b9_21 (by decide) (by decide) ?_
  refine gq_iload_n (i := 1) C dJ5_append_c97b9_24 rfl 3 rfl ?_
  refine gq_iload_n (i := 3) C dJ5_append_c97b9_25 rfl 0 rfl ?_
  refine gq_aload_n (i := 0) C dJ5_append_c97b9_26 rfl 2 rfl ?_
  refine gq_get4 C hN kd_293 0 (by decide) wk_1_200 rfl dJ5_append_c97b9_27 ?_
  refine gq_call (run_SX (As := [.int (nI v), .int (nI (n + w)), .ref μ1.2.2.1]) (rest := []) C (c_J6_getChars_ba4f3 hv hD (by omega) i5 (by omega)) wk_3_56 wk_3_57 wk_1_25 wk_3_58 ht_getc ⟨Nat.le_of_ble_eq_true rfl, Nat.le_of_ble_eq_true rfl⟩ (Nat.le_of_ble_eq_true rfl) ⟨Nat.le_of_eq (Nat.zero_add _), Nat.le_of_eq (Nat.zero_add _)⟩ dJ5_append_c97b9_30 rfl) rfl ?_
  refine gq_popi C dJ5_append_c97b9_33 ?_
  refine gq_goto (tgt := 48) C dJ5_append_c97b9_34 (by decide) ?_
  refine gq_aload_n (i := 0) C dJ5_append_c97b9_48 rfl 2 rfl ?_
  refine gq_iload_n (i := 3) C dJ5_append_c97b9_49 rfl 0 rfl ?_
  refine gq_put4_3 (μ' := uI (putN μ1 v w (n + w)) 293 3 (nI (n + w))) C hN kd_293 wk_1_204 rfl dJ5_append_c97b9_50 ?_
  refine gq_aload_n (i := 0) C dJ5_append_c97b9_53 rfl 2 rfl ?_
  refine gs_end (P := ApP E n w (pt t v w (n + w)) μ) (o := some (.ref (eB E + 293))) (μ' := uI (putN μ1 v w (n + w)) 293 3 (nI (n + w))) ⟨rfl, ⟨?_, ?_, i5, g4, fun k => ?_, fun k hk => ?_⟩, ?_, i3⟩ ?_
  · rw [uI_eq]; exact g1
  · rw [uI_eq]; rfl
  · show fits .byte (.int (pt μ1.2.2.2.2 v w (n + w) k)) = true
    unfold pt
    by_cases e : n + w - w ≤ k ∧ k < n + w
    · rw [if_pos e]; exact dig_f _ (Nat.mod_lt _ (by decide))
    · rw [if_neg e]; exact g5 k
  · show pt μ1.2.2.2.2 v w (n + w) k = pt t v w (n + w) k
    unfold pt
    by_cases e : n + w - w ≤ k ∧ k < n + w
    · rw [if_pos e, if_pos e]
    · rw [if_neg e, if_neg e]; exact g6 k (by omega)
  · exact ⟨fun b hb => (uI_ne hb).trans (congrFun i1 b), i2⟩
  · exact gq_aret C hr (Or.inl ⟨_, rfl⟩) dJ5_append_c97b9_54 (Nat.le_of_eq (Nat.zero_add _)) (Nat.le_of_eq (Nat.zero_add _))
end SBA
