/-! ===== a helper: load ===== -/
section LH1
variable {E : Ev} {p : Program} {l : Launch} {e : Env} {R : Room} {s : State} {m : MethodId} {args : Array Value} {below : List Frame} {meth : Method} {c : Code} {k n nL : Nat} {cc : ByteArray} {own : String} {pc : Nat} {lv : List (Nat × Value)} {rest : List Value} {μ μ' : Mm}
theorem runx_V (C : Cq E p s m args meth c cc nL own) {y : MethodName} {bytes : ByteArray} {maxL index : Nat} {ret : Option FieldType} {rm : Room} {As : List Value} {o : Option Value} {st0 : List Value} {i j : Nat} {Cn : String} {T : u_T} {N : Nat} {ec : Nat} (hM : Cx l E y (Cond.code y bytes maxL ret :: GW) rm (.ref (eB E + i) :: As) μ ec o μ') (hi : i < eN E) (hk : kd i = j) (hj : j < 6) (hc : vwCl[kc j]? = some (Cn, T, N)) (w1 : Cond.methodLink own index y ∈ GW) (w2 : Cond.instanceMethod y ∈ GW) (w3 : Cond.selects Cn y y ∈ GW) (w4 : Cond.initialized Cn ∈ GW) (w5 : Cond.code y bytes maxL ret ∈ GW) (hd : y.cls = Cn ∧ y.cls ≠ "java/lang/invoke/MethodHandle" ∧ y.cls ≠ "java/lang/invoke/VarHandle" ∧ (parseMethodDescriptor y.desc).map (fun d => d.parameters.length) = some As.length) (hR : rm.frames + 1 ≤ R.frames ∧ 8 + (maxL + 11) + rm.locals ≤ R.locals) (hw : (rest.map fun v => v.category).sum ≤ 8) (hf : k + rm.cells ≤ R.cells ∧ n + rm.slots ≤ R.slots) (d : decode cc pc = .ok (.invokevirtual index, 3)) (hst0 : st0 = As.reverse ++ .ref (eB E + i) :: rest) :
    ∀ (H : Heap) (locs : List Loc) (ls : Array Slot), Hd E μ H → va_S (eA E) s.heap H locs → lv_has ls nL lv → vx_Run p l e R s m args below meth c H locs k n rm.cells rm.slots (F0 m pc ls st0) rest (qQx E ec o μ' (Value.ref (eB E + i) :: As).toArray) (qX E ec μ') (eA E) := fun H locs ls hH hS hl =>
  vx_runV (C := Cn) (As := As) (rest := rest) ⟨C.1, C.2.1, C.2.2.1, C.2.2.2.1, C.2.2.2.2.1⟩ hM (cwV As.length C.2.2.2.2.1 (gw_V w1 w2 w3 w4 (gw_ws w5)) rfl rfl rfl hd hR) ⟨qP_blind E μ _, kd_rec hH C.2.2.2.2.2.2.1 hi hk hj hc, fun U hU hW => ⟨rfl, qP_at hH hS C.2.2.2.2.2.2.1 C.2.2.2.2.2.2.2.1 C.2.2.2.2.2.2.2.2 hU hW⟩⟩ rfl rfl hl.1 hst0 (lv_room hw) d hf
end LH1
theorem ln311 : ln 311 = 1 := by decide +kernel
abbrev rmL_load : Room := { frames := 11, cells := 1, slots := 6, locals := 340 }
set_option maxHeartbeats 4000000 in
set_option maxRecDepth 100000 in
theorem c_L_load {l : Launch} {E : Ev} (hN : 312 ≤ eN E) (hl9 : l.stackTraces = false) {μ μ' : Mm} {ec : Nat} {r : Int32} (z0 : F_X3_load μ = some (ec, r, μ')) (hec : ec = 0 ∨ ec = 3) : Met l yL_load (Cond.codeWith yL_load cL_load 3 (some .int) [(0, 8, 11, 13)] :: GW) rmL_load (va_Pc [.ref (eB E + 0), .ref (eB E + 311)] (qP E μ)) (qQ E (some (.int (nI (if ec = 0 then 0 else 1)))) (if ec = 0 then uL μ' 311 0 r.toInt64 else μ')) rmL_load.cells rmL_load.slots (eA E) := by
  refine cth_of (rm := rmL_load) (by decide) (Nat.le_of_ble_eq_true rfl) (fun p e s m args below meth c C hr ht => ?_)
  have C : Cq E p s m args meth c cL_load 3 RL := C
  have hN2 : 295 ≤ eN E := by omega
  refine gq_lv (lv' := [(0, .ref (eB E + 0)), (1, .ref (eB E + 311))]) rfl ?_
  refine gq_aload_n (i := 1) C dL_load_0 rfl 1 rfl ?_
  refine gq_iconst (v := 0) C dL_load_1 (by decide) ?_
  refine gq_aload_n (i := 0) C dL_load_2 rfl 0 rfl ?_
  refine gh_call (name := "java/lang/IllegalArgumentException") (rest := [.int 0, .ref (eB E + 311)]) C rfl (runx_V (As := []) (j := 0) C (c_X3_load hN2 hl9 z0) (qn_l 0 (by decide) hN2) (by decide) (by decide) rfl wk_4_65 wk_4_66 wk_4_67 wk_1_1 wk_4_68 hd_X3_load ⟨Nat.le_of_ble_eq_true rfl, Nat.le_of_ble_eq_true rfl⟩ (Nat.le_of_ble_eq_true rfl) ⟨Nat.le_of_ble_eq_true rfl, Nat.le_of_ble_eq_true rfl⟩ dL_load_3 rfl) (fun h0 => ?_) [] ⟨0, 8, 11, 13⟩ [] (fun h0 => ?_) (fun h0 q => ?_)
  · rw [if_pos h0, if_pos h0]
    refine gq_i2l C dL_load_6 ?_
    refine gq_lastore (μ' := uL μ' 311 0 r.toInt64) C (show 311 < eN E by omega) (by decide +kernel) (sL_ok (k := 0) rfl (by rw [ln311]; decide)) dL_load_7 ?_
    refine gq_goto (tgt := 14) C dL_load_8 (by decide) ?_
    refine gq_iconst (v := nI 0) C dL_load_14 (by decide) ?_
    exact gq_iret C hr dL_load_15 (Nat.le_of_ble_eq_true rfl) (Nat.le_of_ble_eq_true rfl)
  · obtain rfl := hec.resolve_left h0
    exact ⟨ht, fun z hz => absurd hz List.not_mem_nil, by decide, by decide, wk_4_64, wk_3_109⟩
  · rw [if_neg h0, if_neg h0]
    refine gq_astore_n (i := 2) C dL_load_11 rfl (by decide) rfl ?_
    refine gq_iconst (v := nI 1) C dL_load_12 (by decide) ?_
    exact gq_iret C hr dL_load_13 (Nat.le_of_ble_eq_true rfl) (Nat.le_of_ble_eq_true rfl)
