/-! ===== the class forms its text ===== -/
theorem wk_2_153 : Cond.methodLink "WaterExchange" (258 : Nat) ({ cls := "java/lang/StringBuilder", name := "setLength", desc := "(I)V" } : MethodName) ∈ GW := gw_2 (List.mem_of_getElem? (i := 153) rfl) rfl
theorem wk_4_16 : Cond.methodLink "WaterExchange" (261 : Nat) ({ cls := "java/lang/StringBuilder", name := "append", desc := "(C)Ljava/lang/StringBuilder;" } : MethodName) ∈ GW := gw_4 (List.mem_of_getElem? (i := 16) rfl) rfl
theorem wk_4_38 : Cond.methodLink "WaterExchange" (265 : Nat) ({ cls := "WaterExchange", name := "letterOf", desc := "(I)C" } : MethodName) ∈ GW := gw_4 (List.mem_of_getElem? (i := 38) rfl) rfl
theorem wk_4_39 : Cond.static ({ cls := "WaterExchange", name := "letterOf", desc := "(I)C" } : MethodName) ∈ GW := gw_4 (List.mem_of_getElem? (i := 39) rfl) rfl
theorem wk_4_40 : Cond.code ({ cls := "WaterExchange", name := "letterOf", desc := "(I)C" } : MethodName) prog_1_method_62_code (1 : Nat) (Option.some Jvm.ClassFile.FieldType.char) ∈ GW := gw_4 (List.mem_of_getElem? (i := 40) rfl) rfl
theorem wk_4_41 : Cond.methodLink "WaterExchange" (269 : Nat) ({ cls := "java/lang/StringBuilder", name := "append", desc := "(I)Ljava/lang/StringBuilder;" } : MethodName) ∈ GW := gw_4 (List.mem_of_getElem? (i := 41) rfl) rfl
theorem wk_4_42 : Cond.methodLink "WaterExchange" (272 : Nat) ({ cls := "java/lang/StringBuilder", name := "length", desc := "()I" } : MethodName) ∈ GW := gw_4 (List.mem_of_getElem? (i := 42) rfl) rfl
theorem wk_4_51 : Cond.methodLink "WaterExchange" (274 : Nat) ({ cls := "java/lang/StringBuilder", name := "charAt", desc := "(I)C" } : MethodName) ∈ GW := gw_4 (List.mem_of_getElem? (i := 51) rfl) rfl
theorem wk_1_235 : Cond.fieldLink "WaterExchange" (44 : Nat) "WaterExchange" "text" "Ljava/lang/StringBuilder;" ∈ GW := gw_1 (List.mem_of_getElem? (i := 235) rfl) rfl
abbrev Tx2 : Type := Nat × (Nat → Int32)
def tC (c : Nat) (x : Tx2) : Tx2 := (x.1 + 1, upd x.2 x.1 (nI c))
def tI (v : Nat) (x : Tx2) : Tx2 := (x.1 + dg v, pt x.2 v (dg v) (x.1 + dg v))
def ltr (k : Nat) : Nat := if k = 1 then 108 else if k = 2 then 111 else 114
theorem ltr_f {μ : Mm} : ∀ k, k ≤ 2 → F_X3_letterOf (nI k) μ = some (nI (ltr k)) := by
  intro k hk
  rcases (show k = 0 ∨ k = 1 ∨ k = 2 by omega) with rfl | rfl | rfl <;> rfl
theorem ltr_b {k : Nat} : ltr k < 128 := by unfold ltr; split; decide; split <;> decide
/-- what a call may still make -/
def Bud (m0 k n : Nat) (μ : Mm) : Prop := 16 ≤ m0 ∧ (k * 16 + m0 ≤ μ.2.2.2.1 ∧ n + 2 * m0 ≤ 2 * μ.2.2.2.1)
theorem Bud.step {m0 k n q : Nat} {μ μ' : Mm} (h : Bud m0 k n μ) (hc : μ'.2.2.2.1 = capF q μ.2.2.2.1) : Bud m0 (k + (if q ≤ μ.2.2.2.1 then 0 else 1)) (n + (if q ≤ μ.2.2.2.1 then 0 else capG q μ.2.2.2.1)) μ' := by
  obtain ⟨h1, h2, h3⟩ := h
  unfold Bud
  rw [hc]
  unfold capF
  by_cases e : q ≤ μ.2.2.2.1
  · rw [if_pos e, if_pos e, if_pos e]
    exact ⟨h1, h2, h3⟩
  · rw [if_neg e, if_neg e, if_neg e]
    have : 2 * μ.2.2.2.1 + 2 ≤ capG q μ.2.2.2.1 := by unfold capG; split <;> omega
    exact ⟨h1, by omega, by omega⟩
theorem Bud.le {m0 k n : Nat} {μ : Mm} (h : Bud m0 k n μ) (hm : μ.2.2.2.1 ≤ 2048) : k ≤ 127 ∧ n ≤ 4096 := by
  obtain ⟨h1, h2, h3⟩ := h
  omega
abbrev rm_fmt : Room := { frames := 6, cells := 128, slots := 4096, locals := 280 }
section FMT
variable {E : Ev} {p : Program} {l : Launch} {e : Env} {s : State} {m : MethodId} {args : Array Value} {below : List Frame} {meth : Method} {c : Code} {k n nL : Nat} {Q : State → Prop} {cc : ByteArray} {pc : Nat} {lv : List (Nat × Value)} {rest : List Value} {μ : Mm}
theorem gq_tC (C : Cq E p s m args meth c cc nL RX3) (hx : Px args s) (hN : 295 ≤ eN E) {x : Tx2} {m0 ch : Nat} (hT : TB μ x.1 x.2) (hl : x.1 + 1 ≤ 1000) (hb : Bud m0 k n μ) (hc : ch < 128) (hw : (rest.map fun v => v.category).sum ≤ 8) (d : decode cc pc = .ok (.invokevirtual 261, 3)) (kk : ∀ μ' k' n', TB μ' (tC ch x).1 (tC ch x).2 → GR μ μ' → Bud m0 k' n' μ' → Gq E p l e rm_fmt s m args below meth c k' n' nL Q (pc + 3) lv (.ref (eB E + 293) :: rest) μ') : Gq E p l e rm_fmt s m args below meth c k n nL Q pc lv (.int (nI ch) :: .ref (eB E + 293) :: rest) μ := by
  have hcap := capF_le (q := x.1 + 1) (m := μ.2.2.2.1) hl hT.2.2.2.1
  have hs := (Bud.step (q := x.1 + 1) (μ' := uN μ 0 (capF (x.1 + 1) μ.2.2.2.1) (fun _ => 0)) hb rfl).le hcap
  refine gq_callS (run_V (As := [.int (nI ch)]) (rest := rest) (j := 4) C hx (c_J4_apC (qn_l 293 (by decide) hN) hT hl hc) (fun w h => h) (qn_l 293 (by decide) hN) kd_293 (by decide) rfl wk_4_16 wk_4_17 wk_4_18 wk_1_6 wk_4_19 hv_apC ⟨Nat.le_of_ble_eq_true rfl, Nat.le_of_ble_eq_true rfl⟩ hw ⟨Nat.le_trans hs.1 (by decide), hs.2⟩ d rfl) (fun o μ1 hP => ?_)
  obtain ⟨rfl, h1, h2, h3⟩ := hP
  exact kk μ1 _ _ h1 h2 (hb.step h3)
theorem gq_tI (C : Cq E p s m args meth c cc nL RX3) (hx : Px args s) (hN : 295 ≤ eN E) {x : Tx2} {m0 v : Nat} (hT : TB μ x.1 x.2) (hl : x.1 + dg v ≤ 1000) (hb : Bud m0 k n μ) (hv : v < 2 ^ 30) (hw : (rest.map fun v => v.category).sum ≤ 8) (d : decode cc pc = .ok (.invokevirtual 269, 3)) (kk : ∀ μ' k' n', TB μ' (tI v x).1 (tI v x).2 → GR μ μ' → Bud m0 k' n' μ' → Gq E p l e rm_fmt s m args below meth c k' n' nL Q (pc + 3) lv (.ref (eB E + 293) :: rest) μ') : Gq E p l e rm_fmt s m args below meth c k n nL Q pc lv (.int (nI v) :: .ref (eB E + 293) :: rest) μ := by
  have hcap := capF_le (q := x.1 + dg v) (m := μ.2.2.2.1) hl hT.2.2.2.1
  have hs := (Bud.step (q := x.1 + dg v) (μ' := uN μ 0 (capF (x.1 + dg v) μ.2.2.2.1) (fun _ => 0)) hb rfl).le hcap
  refine gq_callS (run_V (As := [.int (nI v)]) (rest := rest) (j := 4) C hx (c_J4_apI (qn_l 293 (by decide) hN) hT hl hv) (fun w h => h) (qn_l 293 (by decide) hN) kd_293 (by decide) rfl wk_4_41 wk_3_47 wk_3_48 wk_1_6 wk_3_49 hv_apI ⟨Nat.le_of_ble_eq_true rfl, Nat.le_of_ble_eq_true rfl⟩ hw ⟨Nat.le_trans hs.1 (by decide), hs.2⟩ d rfl) (fun o μ1 hP => ?_)
  obtain ⟨rfl, h1, h2, h3⟩ := hP
  exact kk μ1 _ _ h1 h2 (hb.step h3)
end FMT
/-- the claims' rows, as numbers -/
def CF (N : Nat) (f : Nat → Nat → Int32) : Prop := N ≤ 19 ∧ ∀ c, c < N → Bn (f c) 0 2 ∧ (Bn (f c) 1 9 ∧ (Bn (f c) 4 999 ∧ Bn (f c) 5 999))
def clX (f : Nat → Nat → Int32) (c : Nat) (x : Tx2) : Tx2 := tI (ct (f c) 4) (tC 47 (tI (ct (f c) 5) (tC 58 (tI (ct (f c) 1) (tC (ltr (ct (f c) 0)) (if 0 < c then tC 32 x else x))))))
def clN (f : Nat → Nat → Int32) (t : Nat → Int32) : Nat → Tx2
  | 0 => (0, t)
  | c + 1 => clX f c (clN f t c)
theorem dg_3 {v : Nat} (h : v ≤ 999) : dg v ≤ 3 := by
  obtain ⟨⟨h1, h2, h3⟩, h4⟩ := dg_ok (v := v) (by omega)
  rcases (show dg v ≤ 3 ∨ 4 ≤ dg v by omega) with e | e
  · exact e
  · rcases h3 with e3 | e3
    · omega
    · have := Nat.pow_le_pow_right (show 0 < 10 by decide) (show 3 ≤ dg v - 1 by omega)
      omega
theorem dg_1 {v : Nat} (h : v ≤ 9) : dg v = 1 := (dg_ok (v := v) (by omega)).1.one (by omega)
theorem clN_le {N : Nat} {f : Nat → Nat → Int32} {t : Nat → Int32} (h : CF N f) : ∀ c, c ≤ N → (clN f t c).1 ≤ 11 * c := by
  intro c
  induction c with
  | zero => intro _; exact Nat.le_refl _
  | succ c ih =>
    intro hc
    have i := ih (by omega)
    obtain ⟨h0, h1, h4, h5⟩ := h.2 c (by omega)
    have d1 := dg_1 h1.2
    have d4 := dg_3 h4.2
    have d5 := dg_3 h5.2
    show (if 0 < c then tC 32 (clN f t c) else clN f t c).1 + 1 + dg (ct (f c) 1) + 1 + dg (ct (f c) 5) + 1 + dg (ct (f c) 4) ≤ 11 * (c + 1)
    have : (if 0 < c then tC 32 (clN f t c) else clN f t c).1 ≤ (clN f t c).1 + 1 := by
      split
      · exact Nat.le_refl _
      · omega
    omega
def FmP (N : Nat) (f : Nat → Nat → Int32) (t : Nat → Int32) (μ : Mm) (o : Option Value) (μ' : Mm) : Prop := o = some (.int (nI (clN f t N).1)) ∧ (TB μ' (clN f t N).1 (clN f t N).2 ∧ (GR μ μ' ∧ μ.2.2.2.1 ≤ μ'.2.2.2.1))

section FMC
variable {l : Launch} {E : Ev} {μ : Mm}
set_option maxHeartbeats 8000000 in
set_option maxRecDepth 100000 in
theorem c_X3_formatClaims {n0 N : Nat} {t : Nat → Int32} {f : Nat → Nat → Int32} (hN : 295 ≤ eN E) (hT : TB μ n0 t) (hn : n0 ≤ 1000) (h16 : 16 ≤ μ.2.2.2.1) (hS : Tb μ 17 8 N f) (hF : CF N f) : CtS l E yX3_formatClaims (Cond.code yX3_formatClaims cX3_formatClaims 2 (some .int) :: GP) rm_fmt [.ref (eB E + 0)] μ (FmP N f t μ) := by
  refine ctp_of (by decide) (Nat.le_of_ble_eq_true rfl) (fun p e s m args below meth cc C hx hr => ?_)
  have C : Cq E p s m args meth cc cX3_formatClaims 2 RX3 := C
  refine gq_lv (lv' := [(0, .ref (eB E + 0))]) rfl ?_
  refine gq_aload_n (i := 0) C dX3_formatClaims_0 rfl 0 rfl ?_
  refine gq_get0 C (qn_l 0 (by decide) hN) (by decide) 8 (by decide) wk_1_235 rfl dX3_formatClaims_1 ?_
  refine gq_iconst (v := nI 0) C dX3_formatClaims_4 (by decide) ?_
  refine gq_callS (run_V (As := [.int (nI 0)]) (rest := []) (j := 4) C hx (c_J4_setl (qn_l 293 (by decide) hN) hT hn) (fun w h => h) (qn_l 293 (by decide) hN) kd_293 (by decide) rfl wk_2_153 wk_2_154 wk_2_155 wk_1_6 wk_2_156 hv_setl ⟨(Nat.le_of_ble_eq_true rfl), (Nat.le_of_ble_eq_true rfl)⟩ (Nat.le_of_ble_eq_true rfl) ⟨(Nat.le_of_ble_eq_true rfl), (Nat.le_of_ble_eq_true rfl)⟩ dX3_formatClaims_5 rfl) (fun o μ1 hP => ?_)
  obtain ⟨rfl, hT1, hG1, hc1⟩ := hP
  refine gq_iconst (v := nI 0) C dX3_formatClaims_8 (by decide) ?_
  refine gq_istore_n (i := 1) C dX3_formatClaims_9 rfl (by decide) rfl ?_
  have hm16 : 16 ≤ μ.2.2.2.1 := h16
  have loop : ∀ d c, c + d = N → ∀ (k n : Nat) (μ2 : Mm), TB μ2 (clN f t c).1 (clN f t c).2 → GR μ μ2 → Bud μ.2.2.2.1 k n μ2 → Gq E p l e rm_fmt s m args below meth cc k n 2 (MQ below (qS E (FmP N f t μ)) args s rm_fmt.cells rm_fmt.slots (eA E)) 10 [(1, .int (nI c)), (0, .ref (eB E + 0))] [] μ2 := by
    intro d
    induction d with
    | zero =>
      intro c hc k n μ2 hT2 hG2 hB2
      obtain rfl : c = N := by omega
      have hl := (clN_le (t := t) hF c (Nat.le_refl c))
      have hN19 := hF.1
      have hS2 : Tb μ2 17 8 c f := hS.keep (hG2.1 17 (by decide)) (hG2.1 18 (by decide))
      have hb := hB2.le hT2.2.2.2.1
      refine gq_iload_n (i := 1) C dX3_formatClaims_10 rfl 0 rfl ?_
      refine gq_aload_n (i := 0) C dX3_formatClaims_11 rfl 1 rfl ?_
      refine gq_get0 C (qn_l 0 (by decide) hN) (by decide) 0 (by decide) wk_1_227 rfl dX3_formatClaims_12 ?_
      refine gq_get1N C (qn_l 1 (by decide) hN) (by decide) 11 (by decide) wk_1_87 rfl dX3_formatClaims_15 ?_
      refine gq_get2N C (qn_l 17 (by decide) hN) (by decide) 2 (by decide) wk_1_50 rfl dX3_formatClaims_18 ?_
      rw [hS2.2.1]
      refine gq_icmp_ge_t (tgt := 147) C dX3_formatClaims_21 (by decide) (Int32.le_refl _) ?_
      refine gq_aload_n (i := 0) C dX3_formatClaims_147 rfl 1 rfl ?_
      refine gq_get0 C (qn_l 0 (by decide) hN) (by decide) 8 (by decide) wk_1_235 rfl dX3_formatClaims_148 ?_
      refine gq_V (As := []) (rest := []) (j := 4) C (c_J4_length_8abf5 (qn_l 293 (by decide) hN)) (qn_l 293 (by decide) hN) kd_293 (by decide) rfl wk_4_42 wk_3_93 wk_9_19 wk_1_6 wk_3_94 hv_len ⟨(Nat.le_of_ble_eq_true rfl), (Nat.le_of_ble_eq_true rfl)⟩ (Nat.le_of_ble_eq_true rfl) ⟨by show k + 0 ≤ 128; omega, by show n + 0 ≤ 4096; omega⟩ dX3_formatClaims_151 rfl rfl ?_
      rw [hT2.2.1]
      refine gs_end (P := FmP c f t μ) (o := some (.int (nI (clN f t c).1))) (μ' := μ2) ⟨rfl, hT2, hG2, by have := hB2.2.1; omega⟩ ?_
      exact gq_iret C hr dX3_formatClaims_154 (by show k + 0 ≤ 128; omega) (by show n + 0 ≤ 4096; omega)
    | succ d ih =>
      intro c hc k n μ2 hT2 hG2 hB2
      have hl := (clN_le (t := t) hF c (by omega))
      have hN19 := hF.1
      obtain ⟨f0, f1, f4, f5⟩ := hF.2 c (by omega)
      have d1 := dg_1 f1.2
      have d4 := dg_3 f4.2
      have d5 := dg_3 f5.2
      have e4 := f4.2
      have e5 := f5.2
      have e1 := f1.2
      have hS2 : Tb μ2 17 8 N f := hS.keep (hG2.1 17 (by decide)) (hG2.1 18 (by decide))
      refine gq_iload_n (i := 1) C dX3_formatClaims_10 rfl 0 rfl ?_
      refine gq_aload_n (i := 0) C dX3_formatClaims_11 rfl 1 rfl ?_
      refine gq_get0 C (qn_l 0 (by decide) hN) (by decide) 0 (by decide) wk_1_227 rfl dX3_formatClaims_12 ?_
      refine gq_get1N C (qn_l 1 (by decide) hN) (by decide) 11 (by decide) wk_1_87 rfl dX3_formatClaims_15 ?_
      refine gq_get2N C (qn_l 17 (by decide) hN) (by decide) 2 (by decide) wk_1_50 rfl dX3_formatClaims_18 ?_
      rw [hS2.2.1]
      refine gq_icmp_ge_f (tgt := 147) C dX3_formatClaims_21 (by decide) (nI_ge (by omega) (by omega)) ?_
      refine gq_iload_n (i := 1) C dX3_formatClaims_24 rfl 0 rfl ?_
      have mid : ∀ (x : Tx2) (k n : Nat) (μ3 : Mm), x = (if 0 < c then tC 32 (clN f t c) else clN f t c) → TB μ3 x.1 x.2 → GR μ μ3 → Bud μ.2.2.2.1 k n μ3 → Gq E p l e rm_fmt s m args below meth cc k n 2 (MQ below (qS E (FmP N f t μ)) args s rm_fmt.cells rm_fmt.slots (eA E)) 38 [(1, .int (nI c)), (0, .ref (eB E + 0))] [] μ3 := by
        intro x k n μ3 hx3 hT3 hG3 hB3
        have hx1 : x.1 ≤ (clN f t c).1 + 1 := by
          rw [hx3]
          split
          · exact Nat.le_refl _
          · omega
        refine gq_aload_n (i := 0) C dX3_formatClaims_38 rfl 1 rfl ?_
        refine gq_get0 C (qn_l 0 (by decide) hN) (by decide) 8 (by decide) wk_1_235 rfl dX3_formatClaims_39 ?_
        refine gq_aload_n (i := 0) C dX3_formatClaims_42 rfl 1 rfl ?_
        refine gq_get0 C (qn_l 0 (by decide) hN) (by decide) 0 (by decide) wk_1_227 rfl dX3_formatClaims_43 ?_
        refine gq_get1N C (qn_l 1 (by decide) hN) (by decide) 11 (by decide) wk_1_87 rfl dX3_formatClaims_46 ?_
        refine gq_iload_n (i := 1) C dX3_formatClaims_49 rfl 0 rfl ?_
        refine gq_iconst (v := nI 0) C dX3_formatClaims_50 (by decide) ?_
        have hb51 := hB3.le hT3.2.2.2.1
        have hr51 : F_X2_get 17 (nI c) (nI 0) μ3 = some (nI (ct (f c) 0)) := (x2_get (k := 0) (hS.keep (hG3.1 17 (by decide)) (hG3.1 18 (by decide))) (by omega) (by decide)).trans (congrArg some f0.1)
        refine gq_V (As := [.int (nI c), .int (nI 0)]) (rest := [.ref (eB E + 293)]) (j := 2) C (c_X2_get hN (show kd 17 = 2 by decide) hr51) (qn_l 17 (by decide) hN) (by decide) (by decide) rfl wk_2_67 wk_2_60 wk_2_61 wk_1_3 wk_2_62 hd_X2_get ⟨(Nat.le_of_ble_eq_true rfl), (Nat.le_of_ble_eq_true rfl)⟩ (Nat.le_of_ble_eq_true rfl) ⟨by show _ + 0 ≤ 128; omega, by show _ + 0 ≤ 4096; omega⟩ dX3_formatClaims_51 rfl rfl ?_
        refine gq_S (As := [.int (nI (ct (f c) 0))]) (rest := [.ref (eB E + 293)]) C (c_X3_letterOf hN (ltr_f _ f0.2)) wk_4_38 wk_4_39 wk_1_1 wk_4_40 hd_X3_letterOf ⟨(Nat.le_of_ble_eq_true rfl), (Nat.le_of_ble_eq_true rfl)⟩ (Nat.le_of_ble_eq_true rfl) ⟨by show _ + 0 + 0 ≤ 128; omega, by show _ + 0 + 0 ≤ 4096; omega⟩ dX3_formatClaims_54 rfl rfl ?_
        refine gq_tC (x := x) (rest := []) C hx hN hT3 (by omega) hB3 ltr_b (Nat.le_of_ble_eq_true rfl) dX3_formatClaims_57 (fun μ4 k4 n4 hT4 hg4 hB4 => ?_)
        have hG4 : GR μ μ4 := hG3.tr hg4
        refine gq_popr C dX3_formatClaims_60 ?_
        refine gq_aload_n (i := 0) C dX3_formatClaims_61 rfl 1 rfl ?_
        refine gq_get0 C (qn_l 0 (by decide) hN) (by decide) 8 (by decide) wk_1_235 rfl dX3_formatClaims_62 ?_
        refine gq_aload_n (i := 0) C dX3_formatClaims_65 rfl 1 rfl ?_
        refine gq_get0 C (qn_l 0 (by decide) hN) (by decide) 0 (by decide) wk_1_227 rfl dX3_formatClaims_66 ?_
        refine gq_get1N C (qn_l 1 (by decide) hN) (by decide) 11 (by decide) wk_1_87 rfl dX3_formatClaims_69 ?_
        refine gq_iload_n (i := 1) C dX3_formatClaims_72 rfl 0 rfl ?_
        refine gq_iconst (v := nI 1) C dX3_formatClaims_73 (by decide) ?_
        have hb74 := hB4.le hT4.2.2.2.1
        have hr74 : F_X2_get 17 (nI c) (nI 1) μ4 = some (nI (ct (f c) 1)) := (x2_get (k := 1) (hS.keep (hG4.1 17 (by decide)) (hG4.1 18 (by decide))) (by omega) (by decide)).trans (congrArg some f1.1)
        refine gq_V (As := [.int (nI c), .int (nI 1)]) (rest := [.ref (eB E + 293)]) (j := 2) C (c_X2_get hN (show kd 17 = 2 by decide) hr74) (qn_l 17 (by decide) hN) (by decide) (by decide) rfl wk_2_67 wk_2_60 wk_2_61 wk_1_3 wk_2_62 hd_X2_get ⟨(Nat.le_of_ble_eq_true rfl), (Nat.le_of_ble_eq_true rfl)⟩ (Nat.le_of_ble_eq_true rfl) ⟨by show _ + 0 ≤ 128; omega, by show _ + 0 ≤ 4096; omega⟩ dX3_formatClaims_74 rfl rfl ?_
        refine gq_tI (x := (tC (ltr (ct (f c) 0)) x)) (rest := []) C hx hN hT4 (by show x.1 + 1 + dg _ ≤ 1000; omega) hB4 (by omega) (Nat.le_of_ble_eq_true rfl) dX3_formatClaims_77 (fun μ5 k5 n5 hT5 hg5 hB5 => ?_)
        have hG5 : GR μ μ5 := hG4.tr hg5
        refine gq_popr C dX3_formatClaims_80 ?_
        refine gq_aload_n (i := 0) C dX3_formatClaims_81 rfl 1 rfl ?_
        refine gq_get0 C (qn_l 0 (by decide) hN) (by decide) 8 (by decide) wk_1_235 rfl dX3_formatClaims_82 ?_
        refine gq_bipush (v := nI 58) C dX3_formatClaims_85 (by decide) ?_
        refine gq_tC (x := (tI (ct (f c) 1) (tC (ltr (ct (f c) 0)) x))) (rest := []) C hx hN hT5 (by show x.1 + 1 + dg _ + 1 ≤ 1000; omega) hB5 (by decide) (Nat.le_of_ble_eq_true rfl) dX3_formatClaims_87 (fun μ6 k6 n6 hT6 hg6 hB6 => ?_)
        have hG6 : GR μ μ6 := hG5.tr hg6
        refine gq_popr C dX3_formatClaims_90 ?_
        refine gq_aload_n (i := 0) C dX3_formatClaims_91 rfl 1 rfl ?_
        refine gq_get0 C (qn_l 0 (by decide) hN) (by decide) 8 (by decide) wk_1_235 rfl dX3_formatClaims_92 ?_
        refine gq_aload_n (i := 0) C dX3_formatClaims_95 rfl 1 rfl ?_
        refine gq_get0 C (qn_l 0 (by decide) hN) (by decide) 0 (by decide) wk_1_227 rfl dX3_formatClaims_96 ?_
        refine gq_get1N C (qn_l 1 (by decide) hN) (by decide) 11 (by decide) wk_1_87 rfl dX3_formatClaims_99 ?_
        refine gq_iload_n (i := 1) C dX3_formatClaims_102 rfl 0 rfl ?_
        refine gq_iconst (v := nI 5) C dX3_formatClaims_103 (by decide) ?_
        have hb104 := hB6.le hT6.2.2.2.1
        have hr104 : F_X2_get 17 (nI c) (nI 5) μ6 = some (nI (ct (f c) 5)) := (x2_get (k := 5) (hS.keep (hG6.1 17 (by decide)) (hG6.1 18 (by decide))) (by omega) (by decide)).trans (congrArg some f5.1)
        refine gq_V (As := [.int (nI c), .int (nI 5)]) (rest := [.ref (eB E + 293)]) (j := 2) C (c_X2_get hN (show kd 17 = 2 by decide) hr104) (qn_l 17 (by decide) hN) (by decide) (by decide) rfl wk_2_67 wk_2_60 wk_2_61 wk_1_3 wk_2_62 hd_X2_get ⟨(Nat.le_of_ble_eq_true rfl), (Nat.le_of_ble_eq_true rfl)⟩ (Nat.le_of_ble_eq_true rfl) ⟨by show _ + 0 ≤ 128; omega, by show _ + 0 ≤ 4096; omega⟩ dX3_formatClaims_104 rfl rfl ?_
        refine gq_tI (x := (tC 58 (tI (ct (f c) 1) (tC (ltr (ct (f c) 0)) x)))) (rest := []) C hx hN hT6 (by show x.1 + 1 + dg _ + 1 + dg _ ≤ 1000; omega) hB6 (by omega) (Nat.le_of_ble_eq_true rfl) dX3_formatClaims_107 (fun μ7 k7 n7 hT7 hg7 hB7 => ?_)
        have hG7 : GR μ μ7 := hG6.tr hg7
        refine gq_popr C dX3_formatClaims_110 ?_
        refine gq_aload_n (i := 0) C dX3_formatClaims_111 rfl 1 rfl ?_
        refine gq_get0 C (qn_l 0 (by decide) hN) (by decide) 8 (by decide) wk_1_235 rfl dX3_formatClaims_112 ?_
        refine gq_bipush (v := nI 47) C dX3_formatClaims_115 (by decide) ?_
        refine gq_tC (x := (tI (ct (f c) 5) (tC 58 (tI (ct (f c) 1) (tC (ltr (ct (f c) 0)) x))))) (rest := []) C hx hN hT7 (by show x.1 + 1 + dg _ + 1 + dg _ + 1 ≤ 1000; omega) hB7 (by decide) (Nat.le_of_ble_eq_true rfl) dX3_formatClaims_117 (fun μ8 k8 n8 hT8 hg8 hB8 => ?_)
        have hG8 : GR μ μ8 := hG7.tr hg8
        refine gq_popr C dX3_formatClaims_120 ?_
        refine gq_aload_n (i := 0) C dX3_formatClaims_121 rfl 1 rfl ?_
        refine gq_get0 C (qn_l 0 (by decide) hN) (by decide) 8 (by decide) wk_1_235 rfl dX3_formatClaims_122 ?_
        refine gq_aload_n (i := 0) C dX3_formatClaims_125 rfl 1 rfl ?_
        refine gq_get0 C (qn_l 0 (by decide) hN) (by decide) 0 (by decide) wk_1_227 rfl dX3_formatClaims_126 ?_
        refine gq_get1N C (qn_l 1 (by decide) hN) (by decide) 11 (by decide) wk_1_87 rfl dX3_formatClaims_129 ?_
        refine gq_iload_n (i := 1) C dX3_formatClaims_132 rfl 0 rfl ?_
        refine gq_iconst (v := nI 4) C dX3_formatClaims_133 (by decide) ?_
        have hb134 := hB8.le hT8.2.2.2.1
        have hr134 : F_X2_get 17 (nI c) (nI 4) μ8 = some (nI (ct (f c) 4)) := (x2_get (k := 4) (hS.keep (hG8.1 17 (by decide)) (hG8.1 18 (by decide))) (by omega) (by decide)).trans (congrArg some f4.1)
        refine gq_V (As := [.int (nI c), .int (nI 4)]) (rest := [.ref (eB E + 293)]) (j := 2) C (c_X2_get hN (show kd 17 = 2 by decide) hr134) (qn_l 17 (by decide) hN) (by decide) (by decide) rfl wk_2_67 wk_2_60 wk_2_61 wk_1_3 wk_2_62 hd_X2_get ⟨(Nat.le_of_ble_eq_true rfl), (Nat.le_of_ble_eq_true rfl)⟩ (Nat.le_of_ble_eq_true rfl) ⟨by show _ + 0 ≤ 128; omega, by show _ + 0 ≤ 4096; omega⟩ dX3_formatClaims_134 rfl rfl ?_
        refine gq_tI (x := (tC 47 (tI (ct (f c) 5) (tC 58 (tI (ct (f c) 1) (tC (ltr (ct (f c) 0)) x)))))) (rest := []) C hx hN hT8 (by show x.1 + 1 + dg _ + 1 + dg _ + 1 + dg _ ≤ 1000; omega) hB8 (by omega) (Nat.le_of_ble_eq_true rfl) dX3_formatClaims_137 (fun μ9 k9 n9 hT9 hg9 hB9 => ?_)
        have hG9 : GR μ μ9 := hG8.tr hg9
        refine gq_popr C dX3_formatClaims_140 ?_
        refine gq_iinc (i := 1) (q := 0) (v := nI (c + 1)) C dX3_formatClaims_141 rfl (nI_1 c) (by decide) rfl ?_
        refine gq_goto (tgt := 10) C dX3_formatClaims_144 (by decide) ?_
        rw [hx3] at hT9
        exact ih (c + 1) (by omega) _ _ _ hT9 hG9 hB9
      by_cases e0 : 0 < c
      · refine gq_if_le_f (tgt := 38) C dX3_formatClaims_25 (by decide) (show ¬ nI c ≤ nI 0 from nI_ge e0 (by omega)) ?_
        refine gq_aload_n (i := 0) C dX3_formatClaims_28 rfl 1 rfl ?_
        refine gq_get0 C (qn_l 0 (by decide) hN) (by decide) 8 (by decide) wk_1_235 rfl dX3_formatClaims_29 ?_
        refine gq_bipush (v := nI 32) C dX3_formatClaims_32 (by decide) ?_
        refine gq_tC (x := clN f t c) (rest := []) C hx hN hT2 (by omega) hB2 (by decide) (Nat.le_of_ble_eq_true rfl) dX3_formatClaims_34 (fun μ9 k9 n9 hT9 hg9 hB9 => ?_)
        refine gq_popr C dX3_formatClaims_37 ?_
        exact mid (tC 32 (clN f t c)) k9 n9 μ9 (if_pos e0).symm hT9 (hG2.tr hg9) hB9
      · refine gq_if_le_t (tgt := 38) C dX3_formatClaims_25 (by decide) (show nI c ≤ nI 0 from nI_le (by omega) (by decide)) ?_
        exact mid (clN f t c) k n μ2 (if_neg e0).symm hT2 hG2 hB2
  exact loop N 0 (by omega) _ _ μ1 hT1 hG1 ⟨hm16, by show 0 + 0 + _ ≤ _; omega, by show 0 + 0 + _ ≤ _; omega⟩
end FMC
