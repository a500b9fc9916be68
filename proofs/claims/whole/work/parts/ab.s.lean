/-! ===== formatRiver, formattedByte ===== -/
def rvX (g : Nat → Nat) (c : Nat) (x : Tx2) : Tx2 := tI (g c) (if 0 < c then tC 62 x else x)
def rvN (g : Nat → Nat) (t : Nat → Int32) : Nat → Tx2
  | 0 => (0, t)
  | c + 1 => rvX g c (rvN g t c)
theorem dg_10 {v : Nat} (h : v < 2 ^ 30) : dg v ≤ 10 := (dg_ok (v := v) (by omega)).2
theorem rvN_le {N : Nat} {g : Nat → Nat} {t : Nat → Int32} (h : ∀ c, c < N → g c < 2 ^ 30) : ∀ c, c ≤ N → (rvN g t c).1 ≤ 11 * c := by
  intro c
  induction c with
  | zero => intro _; exact Nat.le_refl _
  | succ c ih =>
    intro hc
    have i := ih (by omega)
    have d := dg_10 (h c (by omega))
    show (if 0 < c then tC 62 (rvN g t c) else rvN g t c).1 + dg (g c) ≤ 11 * (c + 1)
    have : (if 0 < c then tC 62 (rvN g t c) else rvN g t c).1 ≤ (rvN g t c).1 + 1 := by
      split
      · exact Nat.le_refl _
      · omega
    omega
def RvP (N : Nat) (g : Nat → Nat) (t : Nat → Int32) (μ : Mm) (o : Option Value) (μ' : Mm) : Prop := o = some (.int (nI (rvN g t N).1)) ∧ (TB μ' (rvN g t N).1 (rvN g t N).2 ∧ (GR μ μ' ∧ μ.2.2.2.1 ≤ μ'.2.2.2.1))
def fbV (n : Nat) (t : Nat → Int32) (p : Int32) : Int32 := if p < 0 then -1 else if p < nI n then t p.toNatClampNeg else -1
section FMR
variable {l : Launch} {E : Ev} {μ : Mm}
set_option maxHeartbeats 8000000 in
set_option maxRecDepth 100000 in
theorem c_X3_formatRiver {n0 N : Nat} {t : Nat → Int32} {g : Nat → Nat} {fr : Nat → Nat → Int32} (hN : 295 ≤ eN E) (hT : TB μ n0 t) (hn : n0 ≤ 1000) (h16 : 16 ≤ μ.2.2.2.1) (hN6 : N ≤ 6) (hS : Tb μ 2 3 N fr) (hg30 : ∀ c, c < N → g c < 2 ^ 30) (hG : ∀ μ2 : Mm, μ2.1 19 = μ.1 19 → μ2.1 20 = μ.1 20 → ∀ c, c < N → F_X2_get 19 (nI c) (nI 2) μ2 = some (nI (g c))) : CtS l E yX3_formatRiver (Cond.code yX3_formatRiver cX3_formatRiver 2 (some .int) :: GP) rm_fmt [.ref (eB E + 0)] μ (RvP N g t μ) := by
  refine ctp_of (by decide) (Nat.le_of_ble_eq_true rfl) (fun p e s m args below meth cc C hx hr => ?_)
  have C : Cq E p s m args meth cc cX3_formatRiver 2 RX3 := C
  refine gq_lv (lv' := [(0, .ref (eB E + 0))]) rfl ?_
  refine gq_aload_n (i := 0) C dX3_formatRiver_0 rfl 0 rfl ?_
  refine gq_get0 C (qn_l 0 (by decide) hN) (by decide) 8 (by decide) wk_1_235 rfl dX3_formatRiver_1 ?_
  refine gq_iconst (v := nI 0) C dX3_formatRiver_4 (by decide) ?_
  refine gq_callS (run_V (As := [.int (nI 0)]) (rest := []) (j := 4) C hx (c_J4_setl (qn_l 293 (by decide) hN) hT hn) (fun w h => h) (qn_l 293 (by decide) hN) kd_293 (by decide) rfl wk_2_153 wk_2_154 wk_2_155 wk_1_6 wk_2_156 hv_setl ⟨(Nat.le_of_ble_eq_true rfl), (Nat.le_of_ble_eq_true rfl)⟩ (Nat.le_of_ble_eq_true rfl) ⟨(Nat.le_of_ble_eq_true rfl), (Nat.le_of_ble_eq_true rfl)⟩ dX3_formatRiver_5 rfl) (fun o μ1 hP => ?_)
  obtain ⟨rfl, hT1, hG1, hc1⟩ := hP
  refine gq_iconst (v := nI 0) C dX3_formatRiver_8 (by decide) ?_
  refine gq_istore_n (i := 1) C dX3_formatRiver_9 rfl (by decide) rfl ?_
  have hm16 : 16 ≤ μ.2.2.2.1 := h16
  have loop : ∀ d c, c + d = N → ∀ (k n : Nat) (μ2 : Mm), TB μ2 (rvN g t c).1 (rvN g t c).2 → GR μ μ2 → Bud μ.2.2.2.1 k n μ2 → Gq E p l e rm_fmt s m args below meth cc k n 2 (MQ below (qS E (RvP N g t μ)) args s rm_fmt.cells rm_fmt.slots (eA E)) 10 [(1, .int (nI c)), (0, .ref (eB E + 0))] [] μ2 := by
    intro d
    induction d with
    | zero =>
      intro c hc k n μ2 hT2 hG2 hB2
      obtain rfl : c = N := by omega
      have hb := hB2.le hT2.2.2.2.1
      have hS2 : Tb μ2 2 3 c fr := hS.keep (hG2.1 2 (by decide)) (hG2.1 3 (by decide))
      refine gq_iload_n (i := 1) C dX3_formatRiver_10 rfl 0 rfl ?_
      refine gq_aload_n (i := 0) C dX3_formatRiver_11 rfl 1 rfl ?_
      refine gq_get0 C (qn_l 0 (by decide) hN) (by decide) 0 (by decide) wk_1_227 rfl dX3_formatRiver_12 ?_
      refine gq_get1N C (qn_l 1 (by decide) hN) (by decide) 0 (by decide) wk_1_62 rfl dX3_formatRiver_15 ?_
      refine gq_get2N C (qn_l 2 (by decide) hN) (by decide) 2 (by decide) wk_1_50 rfl dX3_formatRiver_18 ?_
      rw [hS2.2.1]
      refine gq_icmp_ge_t (tgt := 64) C dX3_formatRiver_21 (by decide) (Int32.le_refl _) ?_
      refine gq_aload_n (i := 0) C dX3_formatRiver_64 rfl 1 rfl ?_
      refine gq_get0 C (qn_l 0 (by decide) hN) (by decide) 8 (by decide) wk_1_235 rfl dX3_formatRiver_65 ?_
      refine gq_V (As := []) (rest := []) (j := 4) C (c_J4_length_8abf5 (qn_l 293 (by decide) hN)) (qn_l 293 (by decide) hN) kd_293 (by decide) rfl wk_4_42 wk_3_93 wk_9_19 wk_1_6 wk_3_94 hv_len ⟨(Nat.le_of_ble_eq_true rfl), (Nat.le_of_ble_eq_true rfl)⟩ (Nat.le_of_ble_eq_true rfl) ⟨by show k + 0 ≤ 128; omega, by show n + 0 ≤ 4096; omega⟩ dX3_formatRiver_68 rfl rfl ?_
      rw [hT2.2.1]
      refine gs_end (P := RvP c g t μ) (o := some (.int (nI (rvN g t c).1))) (μ' := μ2) ⟨rfl, hT2, hG2, by have := hB2.2.1; omega⟩ ?_
      exact gq_iret C hr dX3_formatRiver_71 (by show k + 0 ≤ 128; omega) (by show n + 0 ≤ 4096; omega)
    | succ d ih =>
      intro c hc k n μ2 hT2 hG2 hB2
      have hl := (rvN_le (t := t) hg30 c (by omega))
      have hgc := hg30 c (by omega)
      have d10 := dg_10 hgc
      have hS2 : Tb μ2 2 3 N fr := hS.keep (hG2.1 2 (by decide)) (hG2.1 3 (by decide))
      refine gq_iload_n (i := 1) C dX3_formatRiver_10 rfl 0 rfl ?_
      refine gq_aload_n (i := 0) C dX3_formatRiver_11 rfl 1 rfl ?_
      refine gq_get0 C (qn_l 0 (by decide) hN) (by decide) 0 (by decide) wk_1_227 rfl dX3_formatRiver_12 ?_
      refine gq_get1N C (qn_l 1 (by decide) hN) (by decide) 0 (by decide) wk_1_62 rfl dX3_formatRiver_15 ?_
      refine gq_get2N C (qn_l 2 (by decide) hN) (by decide) 2 (by decide) wk_1_50 rfl dX3_formatRiver_18 ?_
      rw [hS2.2.1]
      refine gq_icmp_ge_f (tgt := 64) C dX3_formatRiver_21 (by decide) (nI_ge (by omega) (by omega)) ?_
      refine gq_iload_n (i := 1) C dX3_formatRiver_24 rfl 0 rfl ?_
      have mid : ∀ (x : Tx2) (k n : Nat) (μ3 : Mm), x = (if 0 < c then tC 62 (rvN g t c) else rvN g t c) → TB μ3 x.1 x.2 → GR μ μ3 → Bud μ.2.2.2.1 k n μ3 → Gq E p l e rm_fmt s m args below meth cc k n 2 (MQ below (qS E (RvP N g t μ)) args s rm_fmt.cells rm_fmt.slots (eA E)) 38 [(1, .int (nI c)), (0, .ref (eB E + 0))] [] μ3 := by
        intro x k n μ3 hx3 hT3 hG3 hB3
        have hx1 : x.1 ≤ (rvN g t c).1 + 1 := by
          rw [hx3]
          split
          · exact Nat.le_refl _
          · omega
        have hb3 := hB3.le hT3.2.2.2.1
        refine gq_aload_n (i := 0) C dX3_formatRiver_38 rfl 1 rfl ?_
        refine gq_get0 C (qn_l 0 (by decide) hN) (by decide) 8 (by decide) wk_1_235 rfl dX3_formatRiver_39 ?_
        refine gq_aload_n (i := 0) C dX3_formatRiver_42 rfl 1 rfl ?_
        refine gq_get0 C (qn_l 0 (by decide) hN) (by decide) 0 (by decide) wk_1_227 rfl dX3_formatRiver_43 ?_
        refine gq_get1N C (qn_l 1 (by decide) hN) (by decide) 12 (by decide) wk_1_89 rfl dX3_formatRiver_46 ?_
        refine gq_iload_n (i := 1) C dX3_formatRiver_49 rfl 0 rfl ?_
        refine gq_iconst (v := nI 2) C dX3_formatRiver_50 (by decide) ?_
        refine gq_V (As := [.int (nI c), .int (nI 2)]) (rest := [.ref (eB E + 293)]) (j := 2) C (c_X2_get hN (show kd 19 = 2 by decide) (hG μ3 (hG3.1 19 (by decide)) (hG3.1 20 (by decide)) c (by omega))) (qn_l 19 (by decide) hN) (by decide) (by decide) rfl wk_2_67 wk_2_60 wk_2_61 wk_1_3 wk_2_62 hd_X2_get ⟨(Nat.le_of_ble_eq_true rfl), (Nat.le_of_ble_eq_true rfl)⟩ (Nat.le_of_ble_eq_true rfl) ⟨by show _ + 0 ≤ 128; omega, by show _ + 0 ≤ 4096; omega⟩ dX3_formatRiver_51 rfl rfl ?_
        refine gq_tI (x := x) (rest := []) C hx hN hT3 (by omega) hB3 hgc (Nat.le_of_ble_eq_true rfl) dX3_formatRiver_54 (fun μ4 k4 n4 hT4 hg4 hB4 => ?_)
        refine gq_popr C dX3_formatRiver_57 ?_
        refine gq_iinc (i := 1) (q := 0) (v := nI (c + 1)) C dX3_formatRiver_58 rfl (nI_1 c) (by decide) rfl ?_
        refine gq_goto (tgt := 10) C dX3_formatRiver_61 (by decide) ?_
        rw [hx3] at hT4
        exact ih (c + 1) (by omega) _ _ _ hT4 (hG3.tr hg4) hB4
      by_cases e0 : 0 < c
      · refine gq_if_le_f (tgt := 38) C dX3_formatRiver_25 (by decide) (show ¬ nI c ≤ nI 0 from nI_ge e0 (by omega)) ?_
        refine gq_aload_n (i := 0) C dX3_formatRiver_28 rfl 1 rfl ?_
        refine gq_get0 C (qn_l 0 (by decide) hN) (by decide) 8 (by decide) wk_1_235 rfl dX3_formatRiver_29 ?_
        refine gq_bipush (v := nI 62) C dX3_formatRiver_32 (by decide) ?_
        refine gq_tC (x := rvN g t c) (rest := []) C hx hN hT2 (by omega) hB2 (by decide) (Nat.le_of_ble_eq_true rfl) dX3_formatRiver_34 (fun μ9 k9 n9 hT9 hg9 hB9 => ?_)
        refine gq_popr C dX3_formatRiver_37 ?_
        exact mid (tC 62 (rvN g t c)) k9 n9 μ9 (if_pos e0).symm hT9 (hG2.tr hg9) hB9
      · refine gq_if_le_t (tgt := 38) C dX3_formatRiver_25 (by decide) (show nI c ≤ nI 0 from nI_le (by omega) (by decide)) ?_
        exact mid (rvN g t c) k n μ2 (if_neg e0).symm hT2 hG2 hB2
  exact loop N 0 (by omega) _ _ μ1 hT1 hG1 ⟨hm16, by show 0 + 0 + _ ≤ _; omega, by show 0 + 0 + _ ≤ _; omega⟩
abbrev rm_fb : Room := { frames := 4, cells := 0, slots := 0, locals := 160 }
set_option maxHeartbeats 4000000 in
set_option maxRecDepth 100000 in
theorem c_X3_formattedByte {n : Nat} {t : Nat → Int32} {p1 : Int32} (hN : 295 ≤ eN E) (hT : TB μ n t) (hn : n ≤ 1000) (hb : ∀ k, k < n → ∃ b, b < 128 ∧ t k = nI b) : Ct l E yX3_formattedByte (Cond.code yX3_formattedByte cX3_formattedByte 2 (some .int) :: GW) rm_fb [.ref (eB E + 0), .int p1] μ (some (.int (fbV n t p1))) μ := by
  refine ct_of (by decide) (Nat.le_of_ble_eq_true rfl) (fun p e s m args below meth cc C hr => ?_)
  have C : Cq E p s m args meth cc cX3_formattedByte 2 RX3 := C
  refine gq_lv (lv' := [(0, .ref (eB E + 0)), (1, .int p1)]) rfl ?_
  refine gq_iload_n (i := 1) C dX3_formattedByte_0 rfl 1 rfl ?_
  unfold fbV
  by_cases e1 : p1 < 0
  · rw [if_pos e1]
    refine gq_if_lt_t (tgt := 15) C dX3_formattedByte_1 (by decide) e1 ?_
    refine gq_iconst (v := -1) C dX3_formattedByte_15 (by decide) ?_
    exact gq_iret C hr dX3_formattedByte_16 (Nat.le_of_ble_eq_true rfl) (Nat.le_of_ble_eq_true rfl)
  · rw [if_neg e1]
    obtain ⟨q, hq, rfl⟩ := i32_pos (p := p1) e1
    refine gq_if_lt_f (tgt := 15) C dX3_formattedByte_1 (by decide) e1 ?_
    refine gq_iload_n (i := 1) C dX3_formattedByte_4 rfl 1 rfl ?_
    refine gq_aload_n (i := 0) C dX3_formattedByte_5 rfl 0 rfl ?_
    refine gq_get0 C (qn_l 0 (by decide) hN) (by decide) 8 (by decide) wk_1_235 rfl dX3_formattedByte_6 ?_
    refine gq_V (As := []) (rest := [.int (nI q)]) (j := 4) C (c_J4_length_8abf5 (qn_l 293 (by decide) hN)) (qn_l 293 (by decide) hN) kd_293 (by decide) rfl wk_4_42 wk_3_93 wk_9_19 wk_1_6 wk_3_94 hv_len ⟨(Nat.le_of_ble_eq_true rfl), (Nat.le_of_ble_eq_true rfl)⟩ (Nat.le_of_ble_eq_true rfl) ⟨(Nat.le_of_ble_eq_true rfl), (Nat.le_of_ble_eq_true rfl)⟩ dX3_formattedByte_9 rfl rfl ?_
    rw [hT.2.1]
    by_cases e2 : q < n
    · have hlt : nI q < nI n := nI_lt e2 (by omega)
      rw [if_pos hlt, nI_clamp hq]
      obtain ⟨b, b1, b2⟩ := hb q e2
      rw [b2]
      refine gq_icmp_lt_t (tgt := 17) C dX3_formattedByte_12 (by decide) hlt ?_
      refine gq_aload_n (i := 0) C dX3_formattedByte_17 rfl 0 rfl ?_
      refine gq_get0 C (qn_l 0 (by decide) hN) (by decide) 8 (by decide) wk_1_235 rfl dX3_formattedByte_18 ?_
      refine gq_iload_n (i := 1) C dX3_formattedByte_21 rfl 1 rfl ?_
      refine gq_V (As := [.int (nI q)]) (rest := []) (j := 4) C (c_J4_charAt (qn_l 293 (by decide) hN) hT e2 b1 b2) (qn_l 293 (by decide) hN) kd_293 (by decide) rfl wk_4_51 wk_4_52 wk_4_53 wk_1_6 wk_4_54 hv_chat ⟨(Nat.le_of_ble_eq_true rfl), (Nat.le_of_ble_eq_true rfl)⟩ (Nat.le_of_ble_eq_true rfl) ⟨(Nat.le_of_ble_eq_true rfl), (Nat.le_of_ble_eq_true rfl)⟩ dX3_formattedByte_22 rfl rfl ?_
      exact gq_iret C hr dX3_formattedByte_25 (Nat.le_of_ble_eq_true rfl) (Nat.le_of_ble_eq_true rfl)
    · have hlt : ¬ nI q < nI n := nI_nlt (by omega) hq
      rw [if_neg hlt]
      refine gq_icmp_lt_f (tgt := 17) C dX3_formattedByte_12 (by decide) hlt ?_
      refine gq_iconst (v := -1) C dX3_formattedByte_15 (by decide) ?_
      exact gq_iret C hr dX3_formattedByte_16 (Nat.le_of_ble_eq_true rfl) (Nat.le_of_ble_eq_true rfl)
end FMR
