/-! ===== the builder's face ===== -/
def SlP (t : Nat → Int32) (μ : Mm) (o : Option Value) (μ' : Mm) : Prop := o = none ∧ (TB μ' 0 t ∧ (GR μ μ' ∧ μ'.2.2.2.1 = μ.2.2.2.1))
abbrev rm_sl : Room := { frames := 4, cells := 0, slots := 0, locals := 180 }
abbrev rm_bl : Room := { frames := 5, cells := 0, slots := 0, locals := 230 }
abbrev rm_ch : Room := { frames := 2, cells := 0, slots := 0, locals := 60 }
abbrev rm_bh : Room := { frames := 3, cells := 0, slots := 0, locals := 100 }
theorem chr_c : ∀ b, b < 128 → ((nI b &&& 255).toUInt32 % 65536).toInt32 = nI b ∧ narrow .char (.int (nI b)) = .int (nI b) := by decide +kernel
section SBF
variable {l : Launch} {E : Ev} {μ : Mm}
set_option maxHeartbeats 4000000 in
set_option maxRecDepth 100000 in
theorem c_J4_apC {n c : Nat} {t : Nat → Int32} (hN : 293 < eN E) (h : TB μ n t) (hn : n + 1 ≤ 1000) (hc : c < 128) : CtS l E yJ4_append_cf468 (Cond.code yJ4_append_cf468 cJ4_append_cf468 2 (some (.object "java/lang/StringBuilder")) :: GP) (rm_bp (n + 1) μ.2.2.2.1) [.ref (eB E + 293), .int (nI c)] μ (ApP E n 1 (upd t n (nI c)) μ) := by
  refine ctp_of (by decide) (Nat.le_of_ble_eq_true rfl) (fun p e s m args below meth cc C hx hr => ?_)
  have C : Cq E p s m args meth cc cJ4_append_cf468 2 RJ4 := C
  refine gq_lv (lv' := [(0, .ref (eB E + 293)), (1, .int (nI c))]) rfl ?_
  refine gq_aload_n (i := 0) C dJ4_append_cf468_0 rfl 0 rfl ?_
  refine gq_iload_n (i := 1) C dJ4_append_cf468_1 rfl 1 rfl ?_
  refine gq_callS (run_SU (As := [.int (nI c)]) (rest := []) (j := 4) C hx (c_J5_apC hN h hn hc) (fun w h => h) hN kd_293 (by decide) rfl wk_4_20 wk_9_18 wk_1_213 wk_4_21 wk_1_5 wk_4_22 hs_apC ⟨Nat.le_of_ble_eq_true rfl, Nat.le_of_ble_eq_true rfl⟩ (Nat.le_of_ble_eq_true rfl) ⟨Nat.le_of_eq (Nat.zero_add _), Nat.le_of_eq (Nat.zero_add _)⟩ dJ4_append_cf468_2 rfl) (fun o μ1 hP => ?_)
  have h2 := hP
  obtain ⟨rfl, -⟩ := hP
  refine gq_popr C dJ4_append_cf468_5 ?_
  refine gq_aload_n (i := 0) C dJ4_append_cf468_6 rfl 0 rfl ?_
  exact gs_end (P := ApP E n 1 (upd t n (nI c)) μ) h2 (gq_aret C hr (Or.inl ⟨_, rfl⟩) dJ4_append_cf468_7 (Nat.le_of_eq (Nat.zero_add _)) (Nat.le_of_eq (Nat.zero_add _)))
set_option maxHeartbeats 4000000 in
set_option maxRecDepth 100000 in
theorem c_J4_apI {n v : Nat} {t : Nat → Int32} (hN : 293 < eN E) (h : TB μ n t) (hn : n + dg v ≤ 1000) (hv : v < 2 ^ 30) : CtS l E yJ4_append_bf812 (Cond.code yJ4_append_bf812 cJ4_append_bf812 2 (some (.object "java/lang/StringBuilder")) :: GP) (rm_bp (n + dg v) μ.2.2.2.1) [.ref (eB E + 293), .int (nI v)] μ (ApP E n (dg v) (pt t v (dg v) (n + dg v)) μ) := by
  refine ctp_of (by decide) (Nat.le_of_ble_eq_true rfl) (fun p e s m args below meth cc C hx hr => ?_)
  have C : Cq E p s m args meth cc cJ4_append_bf812 2 RJ4 := C
  refine gq_lv (lv' := [(0, .ref (eB E + 293)), (1, .int (nI v))]) rfl ?_
  refine gq_aload_n (i := 0) C dJ4_append_bf812_0 rfl 0 rfl ?_
  refine gq_iload_n (i := 1) C dJ4_append_bf812_1 rfl 1 rfl ?_
  refine gq_callS (run_SU (As := [.int (nI v)]) (rest := []) (j := 4) C hx (c_J5_apI hN h hn hv) (fun w h => h) hN kd_293 (by decide) rfl wk_3_50 wk_9_16 wk_1_213 wk_3_51 wk_1_5 wk_3_52 hs_apI ⟨Nat.le_of_ble_eq_true rfl, Nat.le_of_ble_eq_true rfl⟩ (Nat.le_of_ble_eq_true rfl) ⟨Nat.le_of_eq (Nat.zero_add _), Nat.le_of_eq (Nat.zero_add _)⟩ dJ4_append_bf812_2 rfl) (fun o μ1 hP => ?_)
  have h2 := hP
  obtain ⟨rfl, -⟩ := hP
  refine gq_popr C dJ4_append_bf812_5 ?_
  refine gq_aload_n (i := 0) C dJ4_append_bf812_6 rfl 0 rfl ?_
  exact gs_end (P := ApP E n (dg v) (pt t v (dg v) (n + dg v)) μ) h2 (gq_aret C hr (Or.inl ⟨_, rfl⟩) dJ4_append_bf812_7 (Nat.le_of_eq (Nat.zero_add _)) (Nat.le_of_eq (Nat.zero_add _)))
set_option maxHeartbeats 4000000 in
set_option maxRecDepth 100000 in
theorem c_J5_setl {n : Nat} {t : Nat → Int32} (hN : 293 < eN E) (h : TB μ n t) (hn : n ≤ 1000) : CtS l E yJ5_setLength_d00df (Cond.code yJ5_setLength_d00df cJ5_setLength_d00df 2 none :: GP) rm_sl [.ref (eB E + 293), .int (nI 0)] μ (SlP t μ) := by
  obtain ⟨h1, h2, h3, h4, h5, h6⟩ := id h
  refine ctp_of (by decide) (Nat.le_of_ble_eq_true rfl) (fun p e s m args below meth cc C hx hr => ?_)
  have C : Cq E p s m args meth cc cJ5_setLength_d00df 2 RJ5 := C
  refine gq_lv (lv' := [(0, .ref (eB E + 293)), (1, .int (nI 0))]) rfl ?_
  refine gq_iload_n (i := 1) C dJ5_setLength_d00df_0 rfl 1 rfl ?_
  refine gq_if_ge_t (tgt := 13) C dJ5_setLength_d00df_1 (by decide) (by decide) ?_
  refine gq_aload_n (i := 0) C dJ5_setLength_d00df_13 rfl 0 rfl ?_
  refine gq_iload_n (i := 1) C dJ5_setLength_d00df_14 rfl 1 rfl ?_
  have hc0 : (rm_ens 0 μ.2.2.2.1).cells = 0 := show (if 0 ≤ μ.2.2.2.1 then 0 else 1) = 0 from if_pos (Nat.zero_le _)
  have hs0 : (rm_ens 0 μ.2.2.2.1).slots = 0 := show (if 0 ≤ μ.2.2.2.1 then 0 else capG 0 μ.2.2.2.1) = 0 from if_pos (Nat.zero_le _)
  refine gq_callS (run_VU (As := [.int (nI 0)]) (rest := []) (j := 4) C hx (c_J5_ensure hN h1 (by decide) (by omega) h5) (fun w h => h) hN kd_293 (by decide) rfl wk_2_179 wk_9_11 gp_ens wk_2_181 wk_1_5 wk_2_182 hb_ens ⟨Nat.le_of_ble_eq_true rfl, Nat.le_of_ble_eq_true rfl⟩ (Nat.le_of_ble_eq_true rfl) ⟨by rw [hc0]; exact Nat.le_refl _, by rw [hs0]; exact Nat.le_refl _⟩ dJ5_setLength_d00df_15 rfl) (fun o μ1 hP => ?_)
  obtain ⟨rfl, hE⟩ := hP
  have e1 : μ1 = μ := by
    rcases hE with ⟨-, z⟩ | ⟨z, -⟩
    · exact z
    · omega
  subst e1
  refine gq_widen (k' := 0) (n' := 0) (by rw [hc0]; exact Nat.le_refl _) (by rw [hs0]; exact Nat.le_refl _) ?_
  refine gq_aload_n (i := 0) C dJ5_setLength_d00df_18 rfl 0 rfl ?_
  refine gq_get4 C hN kd_293 3 (by decide) wk_1_204 rfl dJ5_setLength_d00df_19 ?_
  rw [h2]
  refine gq_iload_n (i := 1) C dJ5_setLength_d00df_22 rfl 1 rfl ?_
  refine gq_icmp_ge_t (tgt := 63) C dJ5_setLength_d00df_23 (by decide) (nI_le (Nat.zero_le n) (by omega)) ?_
  refine gq_aload_n (i := 0) C dJ5_setLength_d00df_63 rfl 0 rfl ?_
  refine gq_get4 C hN kd_293 3 (by decide) wk_1_204 rfl dJ5_setLength_d00df_64 ?_
  rw [h2]
  refine gq_iload_n (i := 1) C dJ5_setLength_d00df_67 rfl 1 rfl ?_
  have fin : ∀ μ2 : Mm, (∀ b, b ≠ 293 → μ2.1 b = μ1.1 b) → μ2.2 = μ1.2 → μ2.1 293 1 = 0 → Gq E p l e rm_sl s m args below meth cc 0 0 2 (MQ below (qS E (SlP t μ1)) args s rm_sl.cells rm_sl.slots (eA E)) 76 [(0, .ref (eB E + 293)), (1, .int (nI 0))] [] μ2 := by
    intro μ2 f1 f2 f3
    refine gq_aload_n (i := 0) C dJ5_setLength_d00df_76 rfl 0 rfl ?_
    refine gq_iload_n (i := 1) C dJ5_setLength_d00df_77 rfl 1 rfl ?_
    refine gq_put4_3 (μ' := uI μ2 293 3 (nI 0)) C hN kd_293 wk_1_204 rfl dJ5_setLength_d00df_78 ?_
    refine gs_end (P := SlP t μ1) (o := none) (μ' := uI μ2 293 3 (nI 0)) ⟨rfl, ⟨?_, ?_, ?_, ?_, ?_, fun k hk => absurd hk (Nat.not_lt_zero k)⟩, ⟨fun b hb => (uI_ne hb).trans (f1 b hb), ?_⟩, ?_⟩ (gq_vret C hr dJ5_setLength_d00df_81 (Nat.le_refl _) (Nat.le_refl _))
    · rw [uI_eq]; exact f3
    · rw [uI_eq]; rfl
    · exact Nat.zero_le _
    · show μ2.2.2.2.1 ≤ 2048
      rw [f2]; exact h4
    · show Fitb μ2.2.2.2.2
      rw [f2]; exact h5
    · show μ2.2.1 = _
      rw [f2]
    · show μ2.2.2.2.1 = _
      rw [f2]
  by_cases e : n = 0
  · refine gq_icmp_le_t (tgt := 76) C dJ5_setLength_d00df_68 (by decide) (by rw [e]; exact Int32.le_refl _) ?_
    exact fin μ1 (fun _ _ => rfl) rfl h1
  · refine gq_icmp_le_f (tgt := 76) C dJ5_setLength_d00df_68 (by decide) (nI_ge (by omega) (by omega)) ?_
    refine gq_aload_n (i := 0) C dJ5_setLength_d00df_71 rfl 0 rfl ?_
    refine gq_iconst (v := 1) C dJ5_setLength_d00df_72 (by decide) ?_
    refine gq_put4_2 (μ' := uI μ1 293 2 1) C hN kd_293 wk_1_202 (by decide) (by decide) rfl dJ5_setLength_d00df_73 ?_
    exact fin (uI μ1 293 2 1) (fun b hb => uI_ne hb) rfl (by rw [uI_eq]; exact h1)
set_option maxHeartbeats 4000000 in
set_option maxRecDepth 100000 in
theorem c_J4_setl {n : Nat} {t : Nat → Int32} (hN : 293 < eN E) (h : TB μ n t) (hn : n ≤ 1000) : CtS l E yJ4_setLength_d00df (Cond.code yJ4_setLength_d00df cJ4_setLength_d00df 2 none :: GP) rm_bl [.ref (eB E + 293), .int (nI 0)] μ (SlP t μ) := by
  refine ctp_of (by decide) (Nat.le_of_ble_eq_true rfl) (fun p e s m args below meth cc C hx hr => ?_)
  have C : Cq E p s m args meth cc cJ4_setLength_d00df 2 RJ4 := C
  refine gq_lv (lv' := [(0, .ref (eB E + 293)), (1, .int (nI 0))]) rfl ?_
  refine gq_aload_n (i := 0) C dJ4_setLength_d00df_0 rfl 0 rfl ?_
  refine gq_iload_n (i := 1) C dJ4_setLength_d00df_1 rfl 1 rfl ?_
  refine gq_callS (run_SU (As := [.int (nI 0)]) (rest := []) (j := 4) C hx (c_J5_setl hN h hn) (fun w h => h) hN kd_293 (by decide) rfl wk_2_157 wk_9_8 wk_1_213 wk_2_158 wk_1_5 wk_2_159 hs_setl ⟨Nat.le_of_ble_eq_true rfl, Nat.le_of_ble_eq_true rfl⟩ (Nat.le_of_ble_eq_true rfl) ⟨Nat.le_of_ble_eq_true rfl, Nat.le_of_ble_eq_true rfl⟩ dJ4_setLength_d00df_2 rfl) (fun o μ1 hP => ?_)
  have h2 := hP
  obtain ⟨rfl, -⟩ := hP
  exact gs_end (P := SlP t μ) h2 (gq_vret C hr dJ4_setLength_d00df_5 (Nat.le_of_ble_eq_true rfl) (Nat.le_of_ble_eq_true rfl))
set_option maxHeartbeats 4000000 in
set_option maxRecDepth 100000 in
theorem c_J4_length_8abf5 (hN : 293 < eN E) : Ct l E yJ4_length_8abf5 (Cond.code yJ4_length_8abf5 cJ4_length_8abf5 1 (some .int) :: GW) rm_n1 [.ref (eB E + 293)] μ (some (.int (μ.1 293 3))) μ := by
  refine ct_of (by decide) (Nat.le_of_ble_eq_true rfl) (fun p e s m args below meth c C hr => ?_)
  have C : Cq E p s m args meth c cJ4_length_8abf5 1 RJ4 := C
  refine gq_lv (lv' := [(0, .ref (eB E + 293))]) rfl ?_
  refine gq_aload_n (i := 0) C dJ4_length_8abf5_0 rfl 0 rfl ?_
  refine gq_call (fun H locs ls hH hS hl => va_runSU (C := "java/lang/StringBuilder") (As := []) (rest := []) (C.2.2.2.2.2.2.1.1 1 _ rfl).2 ⟨C.1, C.2.1, C.2.2.1, C.2.2.2.1, C.2.2.2.2.1⟩ (c_J5_length_8abf5 hN) (va_cwSU (Ts := GW) 0 C.2.2.2.2.1 (gw_in (gw_app (P := fun w => w ∈ GW) (gw_cons wk_3_95 (gw_cons wk_3_91 (gw_cons wk_1_213 (gw_cons wk_3_90 (gw_cons wk_1_5 gw_nil))))) (gw_ws wk_3_96))) rfl rfl rfl hs_len ⟨Nat.le_of_ble_eq_true rfl, Nat.le_of_ble_eq_true rfl⟩) ⟨qP_blind E μ _, kd_rec (j := 4) hH C.2.2.2.2.2.2.1 hN kd_293 (by decide) rfl, fun U hU hW => ⟨rfl, qP_at hH hS C.2.2.2.2.2.2.1 C.2.2.2.2.2.2.2.1 C.2.2.2.2.2.2.2.2 hU hW⟩⟩ rfl rfl hl.1 rfl (lv_room (Nat.le_of_ble_eq_true rfl)) dJ4_length_8abf5_1 ⟨Nat.le_of_ble_eq_true rfl, Nat.le_of_ble_eq_true rfl⟩) rfl ?_
  exact gq_iret C hr dJ4_length_8abf5_4 (Nat.le_of_ble_eq_true rfl) (Nat.le_of_ble_eq_true rfl)
set_option maxHeartbeats 4000000 in
set_option maxRecDepth 100000 in
theorem c_J5_charAt {n i b : Nat} {t : Nat → Int32} (hN : 293 < eN E) (h : TB μ n t) (hi : i < n) (hb : b < 128) (ht : t i = nI b) : Ct l E yJ5_charAt_5068e (Cond.code yJ5_charAt_5068e cJ5_charAt_5068e 5 (some .char) :: GW) rm_ch [.ref (eB E + 293), .int (nI i)] μ (some (.int (nI b))) μ := by
  obtain ⟨h1, h2, h3, h4, h5, h6⟩ := id h
  refine ct_of (by decide) (Nat.le_of_ble_eq_true rfl) (fun p e s m args below meth c C hr => ?_)
  have C : Cq E p s m args meth c cJ5_charAt_5068e 5 RJ5 := C
  refine gq_lv (lv' := [(0, .ref (eB E + 293)), (1, .int (nI i))]) rfl ?_
  refine gq_aload_n (i := 0) C dJ5_charAt_5068e_0 rfl 0 rfl ?_
  refine gq_get4 C hN kd_293 1 (by decide) wk_1_201 rfl dJ5_charAt_5068e_1 ?_
  rw [h1]
  refine gq_istore_n (i := 2) C dJ5_charAt_5068e_4 rfl (by decide) rfl ?_
  refine gq_aload_n (i := 0) C dJ5_charAt_5068e_5 rfl 1 rfl ?_
  refine gq_get4 C hN kd_293 0 (by decide) wk_1_200 rfl dJ5_charAt_5068e_6 ?_
  refine gq_astore_n (i := 3) C dJ5_charAt_5068e_9 rfl (by decide) rfl ?_
  refine gq_aload_n (i := 0) C dJ5_charAt_5068e_10 rfl 2 rfl ?_
  refine gq_get4 C hN kd_293 3 (by decide) wk_1_204 rfl dJ5_charAt_5068e_11 ?_
  rw [h2]
  refine gq_aload_n (i := 3) C dJ5_charAt_5068e_14 rfl 0 rfl ?_
  refine gq_sblen (v := nI μ.2.2.2.1) C rfl dJ5_charAt_5068e_15 ?_
  refine gq_iload_n (i := 2) C dJ5_charAt_5068e_16 rfl 1 rfl ?_
  refine gq_ishr C dJ5_charAt_5068e_17 ?_
  rw [shr_0]
  refine gq_mmin C wk_4_58 wk_2_209 wk_1_19 wk_2_210 (Nat.le_of_ble_eq_true rfl) (Nat.le_of_ble_eq_true rfl) (Nat.le_of_ble_eq_true rfl) (Nat.le_of_ble_eq_true rfl) dJ5_charAt_5068e_18 ?_
  rw [if_neg (show ¬ nI μ.2.2.2.1 < nI n from nI_nlt (by omega) (by omega))]
  refine gq_istore (i := 4) C dJ5_charAt_5068e_21 (by decide) rfl ?_
  refine gq_iload_n (i := 1) C dJ5_charAt_5068e_23 rfl 4 rfl ?_
  refine gq_iload (i := 4) C dJ5_charAt_5068e_24 0 rfl ?_
  refine gq_call (run_SX (As := [.int (nI i), .int (nI n)]) (rest := []) C (c_J0_checkIndex_df160 (nI_pos (by omega)) (nI_lt hi (by omega))) wk_4_59 wk_4_33 wk_1_7 wk_4_34 hd_J0_checkIndex_df160.2 ⟨Nat.le_of_ble_eq_true rfl, Nat.le_of_ble_eq_true rfl⟩ (Nat.le_of_ble_eq_true rfl) ⟨Nat.le_of_ble_eq_true rfl, Nat.le_of_ble_eq_true rfl⟩ dJ5_charAt_5068e_26 rfl) rfl ?_
  refine gq_iload_n (i := 2) C dJ5_charAt_5068e_29 rfl 2 rfl ?_
  refine gq_if_ne_f (tgt := 42) C dJ5_charAt_5068e_30 (by decide) rfl ?_
  refine gq_aload_n (i := 3) C dJ5_charAt_5068e_33 rfl 1 rfl ?_
  refine gq_iload_n (i := 1) C dJ5_charAt_5068e_34 rfl 4 rfl ?_
  refine gq_sbld (v := nI b) C (vp_in_nI (by omega) (by omega)) (by rw [nI_clamp (by omega), h6 i hi, ht]) dJ5_charAt_5068e_35 ?_
  refine gq_sipush (v := 255) C dJ5_charAt_5068e_36 (by decide) ?_
  refine gq_iand C dJ5_charAt_5068e_39 ?_
  obtain ⟨c1, c2⟩ := chr_c b hb
  refine gq_i2c C c1 dJ5_charAt_5068e_40 ?_
  exact gq_zret C hr c2 dJ5_charAt_5068e_41 (Nat.le_of_ble_eq_true rfl) (Nat.le_of_ble_eq_true rfl)
set_option maxHeartbeats 4000000 in
set_option maxRecDepth 100000 in
theorem c_J4_charAt {n i b : Nat} {t : Nat → Int32} (hN : 293 < eN E) (h : TB μ n t) (hi : i < n) (hb : b < 128) (ht : t i = nI b) : Ct l E yJ4_charAt_5068e (Cond.code yJ4_charAt_5068e cJ4_charAt_5068e 2 (some .char) :: GW) rm_bh [.ref (eB E + 293), .int (nI i)] μ (some (.int (nI b))) μ := by
  refine ct_of (by decide) (Nat.le_of_ble_eq_true rfl) (fun p e s m args below meth c C hr => ?_)
  have C : Cq E p s m args meth c cJ4_charAt_5068e 2 RJ4 := C
  refine gq_lv (lv' := [(0, .ref (eB E + 293)), (1, .int (nI i))]) rfl ?_
  refine gq_aload_n (i := 0) C dJ4_charAt_5068e_0 rfl 0 rfl ?_
  refine gq_iload_n (i := 1) C dJ4_charAt_5068e_1 rfl 1 rfl ?_
  refine gq_call (fun H locs ls hH hS hl => va_runSU (C := "java/lang/StringBuilder") (As := [.int (nI i)]) (rest := []) (C.2.2.2.2.2.2.1.1 1 _ rfl).2 ⟨C.1, C.2.1, C.2.2.1, C.2.2.2.1, C.2.2.2.2.1⟩ (c_J5_charAt hN h hi hb ht) (va_cwSU (Ts := GW) 1 C.2.2.2.2.1 (gw_in (gw_app (P := fun w => w ∈ GW) (gw_cons wk_4_55 (gw_cons wk_9_20 (gw_cons wk_1_213 (gw_cons wk_4_56 (gw_cons wk_1_5 gw_nil))))) (gw_ws wk_4_57))) rfl rfl rfl hs_chat ⟨Nat.le_of_ble_eq_true rfl, Nat.le_of_ble_eq_true rfl⟩) ⟨qP_blind E μ _, kd_rec (j := 4) hH C.2.2.2.2.2.2.1 hN kd_293 (by decide) rfl, fun U hU hW => ⟨rfl, qP_at hH hS C.2.2.2.2.2.2.1 C.2.2.2.2.2.2.2.1 C.2.2.2.2.2.2.2.2 hU hW⟩⟩ rfl rfl hl.1 rfl (lv_room (Nat.le_of_ble_eq_true rfl)) dJ4_charAt_5068e_2 ⟨Nat.le_of_ble_eq_true rfl, Nat.le_of_ble_eq_true rfl⟩) rfl ?_
  exact gq_zret C hr (chr_c b hb).2 dJ4_charAt_5068e_5 (Nat.le_of_ble_eq_true rfl) (Nat.le_of_ble_eq_true rfl)
end SBF
