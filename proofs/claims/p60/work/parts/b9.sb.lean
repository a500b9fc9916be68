/-! ===== the builder's face ===== -/
def SlP (t : Nat → Int32) (μ : Mm) (o : Option Value) (μ' : Mm) : Prop := o = none ∧ (TB μ' 0 t ∧ (GR μ μ' ∧ μ'.2.2.2.1 = μ.2.2.2.1))
abbrev rm_sl : Room := { frames := 4, cells := 0, slots := 0, locals := 180 }
abbrev rm_bl : Room := { frames := 5, cells := 0, slots := 0, locals := 230 }
abbrev rm_ch : Room := { frames := 2, cells := 0, slots := 0, locals := 60 }
abbrev rm_bh : Room := { frames := 3, cells := 0, slots := 0, locals := 100 }
theorem chr_c : ∀ b, b < 128 → ((nI b &&& 255).toUInt32 % 65536).toInt32 = nI b ∧ narrow .char (.int (nI b)) = .int (nI b) := by decide +kernel
section SBF
variable {l : Launch} {E : Ev} {μ : Mm}
set_option maxHeartbeats 4000000 in
set_option maxRecDepth 100000 in
theorem c_J4_apI {n v : Nat} {t : Nat → Int32} (hN : 295 < eN E) (hU : (eU E).1 = 0) (h : TB μ n t) (hn : n + dg v ≤ 1000) (hv : v < 2 ^ 30) : CtS l E yJ4_append_bf812 (Cond.code yJ4_append_bf812 cJ4_append_bf812 2 (some (.object "java/lang/StringBuilder")) :: GP) (rm_bp (n + dg v) μ.2.2.2.1) [.ref (eB E + 295), .int (nI v)] μ (ApP E n (dg v) (pt t v (dg v) (n + dg v)) μ) := by
  refine ctp_of (by decide) (Nat.le_of_ble_eq_true rfl) (fun p e s m args below meth cc C hx hr => ?_)
  have C : Cq E p s m args meth cc cJ4_append_bf812 2 RJ4 := C
  refine gq_lv (lv' := [(0, .ref (eB E + 295)), (1, .int (nI v))]) rfl ?_
  refine gq_aload_n (i := 0) C dJ4_append_bf812_0 rfl 0 rfl ?_
  refine gq_iload_n (i := 1) C dJ4_append_bf812_1 rfl 1 rfl ?_
  refine gq_callS (run_SU (As := [.int (nI v)]) (rest := []) (j := 4) C hx (c_J5_apI hN hU h hn hv) (fun w h => h) hN kd_295 (by decide) rfl wk_3_226 wk_5_33 wk_3_55 wk_3_227 wk_1_7 wk_3_228 hs_apI ⟨Nat.le_of_ble_eq_true rfl, Nat.le_of_ble_eq_true rfl⟩ (Nat.le_of_ble_eq_true rfl) ⟨Nat.le_of_eq (Nat.zero_add _), Nat.le_of_eq (Nat.zero_add _)⟩ dJ4_append_bf812_2 rfl) (fun o μ1 hP => ?_)
  have h2 := hP
  obtain ⟨rfl, -⟩ := hP
  refine gq_popr C dJ4_append_bf812_5 ?_
  refine gq_aload_n (i := 0) C dJ4_append_bf812_6 rfl 0 rfl ?_
  exact gs_end (P := ApP E n (dg v) (pt t v (dg v) (n + dg v)) μ) h2 (gq_aret C hr (Or.inl ⟨_, rfl⟩) dJ4_append_bf812_7 (Nat.le_of_eq (Nat.zero_add _)) (Nat.le_of_eq (Nat.zero_add _)))
set_option maxHeartbeats 4000000 in
set_option maxRecDepth 100000 in
theorem c_J4_length_8abf5 (hN : 295 < eN E) : Ct l E yJ4_length_8abf5 (Cond.code yJ4_length_8abf5 cJ4_length_8abf5 1 (some .int) :: GW) rm_n1 [.ref (eB E + 295)] μ (some (.int (μ.1 295 3))) μ := by
  refine ct_of (by decide) (Nat.le_of_ble_eq_true rfl) (fun p e s m args below meth c C hr => ?_)
  have C : Cq E p s m args meth c cJ4_length_8abf5 1 RJ4 := C
  refine gq_lv (lv' := [(0, .ref (eB E + 295))]) rfl ?_
  refine gq_aload_n (i := 0) C dJ4_length_8abf5_0 rfl 0 rfl ?_
  refine gq_call (fun H locs ls hH hS hl => va_runSU (C := "java/lang/StringBuilder") (As := []) (rest := []) (C.2.2.2.2.2.2.1.1 1 _ rfl).2 ⟨C.1, C.2.1, C.2.2.1, C.2.2.2.1, C.2.2.2.2.1⟩ (c_J5_length_8abf5 hN) (va_cwSU (Ts := GW) 0 C.2.2.2.2.1 (gw_in (gw_app (P := fun w => w ∈ GW) (gw_cons wk_4_43 (gw_cons wk_4_39 (gw_cons wk_3_55 (gw_cons wk_4_38 (gw_cons wk_1_7 gw_nil))))) (gw_ws wk_4_44))) rfl rfl rfl hs_len ⟨Nat.le_of_ble_eq_true rfl, Nat.le_of_ble_eq_true rfl⟩) ⟨qP_blind E μ _, kd_rec (j := 4) hH C.2.2.2.2.2.2.1 hN kd_295 (by decide) rfl, fun U hU hW => ⟨rfl, qP_at hH hS C.2.2.2.2.2.2.1 C.2.2.2.2.2.2.2.1 C.2.2.2.2.2.2.2.2 hU hW⟩⟩ rfl rfl hl.1 rfl (lv_room (Nat.le_of_ble_eq_true rfl)) dJ4_length_8abf5_1 ⟨Nat.le_of_ble_eq_true rfl, Nat.le_of_ble_eq_true rfl⟩) rfl ?_
  exact gq_iret C hr dJ4_length_8abf5_4 (Nat.le_of_ble_eq_true rfl) (Nat.le_of_ble_eq_true rfl)
end SBF

