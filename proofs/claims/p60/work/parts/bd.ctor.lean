/-! ===== the exchange's constructor ===== -/
section CTX
variable {E : Ev} {n : Nat} {o o' x Pe Se : va_E}
def oF (E : Ev) (o Pe Se : va_E) : Nat → va_E := fun j => if j = 0 then o else if j = 70 then Pe else if j = 247 then Se else fw E (mZ E) j
theorem oF_put : bu (oF E o Pe Se) 0 o' = oF E o' Pe Se := by
  funext j
  unfold bu oF
  by_cases e : j = 0
  · rw [if_pos e, if_pos e]
  · rw [if_neg e, if_neg e, if_neg e]
theorem oF_70 : bu (oF E o Pe Se) 70 x = oF E o x Se := by
  funext j
  unfold bu oF
  by_cases e : j = 70
  · subst e
    rfl
  · rw [if_neg e, if_neg e, if_neg e]
theorem oF_247 : bu (oF E o Pe Se) 247 x = oF E o Pe x := by
  funext j
  unfold bu oF
  by_cases e : j = 247
  · subst e
    rfl
  · rw [if_neg e, if_neg e, if_neg e]
theorem oF_mk {j : Nat} (h : j ≠ 0 ∧ (j ≠ 70 ∧ j ≠ 247)) : oF E o Pe Se j = fw E (mZ E) j := by
  unfold oF
  rw [if_neg h.1, if_neg h.2.1, if_neg h.2.2]
theorem oF_push (h : n ≠ 0 ∧ (n ≠ 70 ∧ n ≠ 247)) (hx : fw E (mZ E) n = x) : ∀ i, i < n + 1 → oF E o Pe Se i = bu (oF E o Pe Se) n x i := fun i _ => by
  by_cases e : i = n
  · subst e
    rw [bu_eq]
    exact (oF_mk h).trans hx
  · rw [bu_ne e]
theorem arrV_c {cA : ClassId} {N : Nat} {f g : Nat → Value} (h : ∀ j, j < N → f j = g j) : arrV cA N f = arrV cA N g := by
  unfold arrV
  have : (fun j : Fin N => f j.val) = (fun j : Fin N => g j.val) := funext fun j => h j.val j.isLt
  rw [this]
theorem at_q {D : va_G} {cl : List vw_C} {a : Nat} {cA : ClassId} {N : Nat} {f g : Nat → Option Nat} {H : Heap} (h : ∀ j, j < N → f j = g j) (hx : va_at D cl (a, .inl (cA, N, .inr (.inr (.inr (.inr f))))) H) : va_at D cl (a, .inl (cA, N, .inr (.inr (.inr (.inr g))))) H := by
  have hx : H[a]? = some (arrV cA N (fun j => va_rf (f j))) := hx
  show H[a]? = some (arrV cA N (fun j => va_rf (g j)))
  rw [hx, arrV_c (fun j hj => by rw [h j hj])]
theorem fw_70 : fw E (mZ E) 70 = .inl (eC E 4, 8, .inr (.inr (.inr (.inr (fun j => some (eB E + (zI 70 j).toNatClampNeg)))))) := by
  rw [fw_n (by decide), cn_10 (by decide +kernel), show ln 70 = 8 by decide +kernel]
  rfl
theorem fw_247 : fw E (mZ E) 247 = .inl (eC E 4, 2, .inr (.inr (.inr (.inr (fun j => some (eB E + (zI 247 j).toNatClampNeg)))))) := by
  rw [fw_n (by decide), cn_10 (by decide +kernel), show ln 247 = 2 by decide +kernel]
  rfl
theorem fw_0 : fw E (mZ E) 0 = .inr (5, [.ref (eB E + 1), .ref (eB E + 23), .ref (eB E + 45), .ref (eB E + 69), .ref (eB E + 70), .int 0, .ref (eB E + 247), .ref (eB E + 292), .ref (eB E + 293)]) := by
  rw [fw_n (by decide), cn_0 (by decide +kernel)]
  rfl
def wN (E : Ev) (n : Nat) : Ev := (E.1, (E.2.1, ((eB E, n), E.2.2.2)))
theorem Cq.wN {p : Program} {s : State} {m : MethodId} {args : Array Value} {meth : Method} {c : Code} {cc : ByteArray} {nL : Nat} {own : String} (C : Cq E p s m args meth c cc nL own) : Cq (wN E n) p s m args meth c cc nL own := C
theorem hd_of {μ : Mm} {H : Heap} (h : Bp E (eB E) n (fw E μ) H) (hn : n ≤ 295) (hU : (eU E).1 = 0 ∨ eB E + n ≤ (eU E).2) : Hd (wN E n) μ H := by
  have htx : tx (wN E n) μ = [] := if_pos hn
  refine ⟨fun k q hq => ?_, fun i j p q hp hq e => ?_, fun k q hq => ?_⟩
  · have hq := List.mem_of_getElem? hq
    unfold wl at hq
    rw [htx, List.nil_append] at hq
    obtain ⟨a, ha, rfl⟩ := List.mem_map.mp hq
    obtain ⟨i, i1, i2, rfl⟩ := eL_ge ha
    have h2 := h i i1
    show va_at E.1 vwCl (eB E + i, cn (wN E n) μ (eB E + i - eB E)) H
    rw [Nat.add_sub_cancel_left]
    exact h2
  · have hnd : ((wl (wN E n) μ).map (fun z => z.1)).Nodup := by
      have e1 : (wl (wN E n) μ).map (fun z => z.1) = ((List.range n).filter (fun i => i != 296)).map (fun i => eB E + i) := by
        unfold wl va_pl
        rw [htx, List.nil_append, List.map_map]
        show List.map id (eL (wN E n)) = _
        rw [List.map_id]
        rfl
      rw [e1]
      exact List.pairwise_map.mpr (List.Pairwise.imp (fun h e => h (Nat.add_left_cancel e)) (List.Nodup.sublist List.filter_sublist List.nodup_range))
    have hi : ((wl (wN E n) μ).map (fun z => z.1))[i]? = some p.1 := by rw [List.getElem?_map, hp]; rfl
    have hj : ((wl (wN E n) μ).map (fun z => z.1))[j]? = some q.1 := by rw [List.getElem?_map, hq]; rfl
    exact (List.getElem?_inj (List.getElem?_eq_some_iff.mp hi).1 hnd).mp (by rw [hi, hj, e])
  · have hq := List.mem_of_getElem? hq
    unfold wl at hq
    rw [htx, List.nil_append] at hq
    obtain ⟨a, ha, rfl⟩ := List.mem_map.mp hq
    obtain ⟨i, i1, i2, rfl⟩ := eL_ge ha
    have i1 : i < n := i1
    exact ⟨Nat.le_add_right (eB E) i, hU.elim Or.inl (fun z => Or.inr (by show eB E + i < (eU E).2; omega))⟩
theorem bp_of {μ : Mm} {H : Heap} (h : Hd (wN E n) μ H) (hn : n ≤ 295) : Bp E (eB E) n (fw E μ) H := fun i hi => by
  obtain ⟨k, hk⟩ := wl_get (wN E n) μ (i := i) hi (by omega)
  exact h.1 k _ hk
end CTX
section CTY
variable {E : Ev} {p : Program} {l : Launch} {e : Env} {R : Room} {s : State} {m : MethodId} {args : Array Value} {below : List Frame} {meth : Method} {c : Code} {k sl nL n : Nat} {Q : State → Prop} {cc : ByteArray} {own : String} {pc : Nat} {lv : List (Nat × Value)} {st : List Value} {F : Nat → va_E} {μ : Mm}
theorem va_S.cv {H0 H : Heap} {locs : List Loc} {A A2 : Nat → Prop} (h : ∀ q, A q ↔ A2 q) (hS : va_S A H0 H locs) : va_S A2 H0 H locs := ⟨hS.1, fun q h1 h2 => hS.2.1 q h1 (fun z => h2 ((h q).mp z)), fun q hq => (h _).mp (hS.2.2 q hq)⟩
theorem eA_wN (hU : (eU E).1 = 0) (q : Nat) : eB E ≤ q ↔ eA (wN E n) q := ⟨fun z => ⟨z, Or.inl hU⟩, fun z => z.1⟩
theorem gb_gq (hF : ∀ i, i < n → fw E μ i = F i) (hn : n ≤ 295) (hU : (eU E).1 = 0) (kk : Gq (wN E n) p l e R s m args below meth c k sl nL Q pc lv st μ) : Gb E (eB E) n F p l e R s m args below meth c k sl nL Q pc lv st := fun H locs ls hP hS hl => kk H locs ls (hd_of (fun i hi => by rw [hF i hi]; exact hP i hi) hn (Or.inl hU)) (va_S.cv (eA_wN hU) hS) hl
theorem gq_gb (hn : n ≤ 295) (hU : (eU E).1 = 0) (kk : Gb E (eB E) n (fw E μ) p l e R s m args below meth c k sl nL Q pc lv st) : Gq (wN E n) p l e R s m args below meth c k sl nL Q pc lv st μ := fun H locs ls hH hS hl => kk H locs ls (bp_of hH hn) (va_S.cv (fun q => (eA_wN hU q).symm) hS) hl
end CTY
theorem wk_2_124 : Cond.methodLink "WaterExchange" (1 : Nat) ({ cls := "java/lang/Object", name := "<init>", desc := "()V" } : MethodName) ∈ GW := gw_2 (List.mem_of_getElem? (i := 124) rfl) rfl
theorem wk_2_125 : Cond.classLink "WaterExchange" (7 : Nat) "WaterExchange$State" ∈ GW := gw_2 (List.mem_of_getElem? (i := 125) rfl) rfl
theorem wk_2_126 : Cond.methodLink "WaterExchange" (9 : Nat) ({ cls := "WaterExchange$State", name := "<init>", desc := "()V" } : MethodName) ∈ GW := gw_2 (List.mem_of_getElem? (i := 126) rfl) rfl
theorem wk_2_228 : Cond.classLink "WaterExchange" (19 : Nat) "WaterExchange$Reader" ∈ GW := gw_2 (List.mem_of_getElem? (i := 228) rfl) rfl
theorem wk_2_229 : Cond.instantiable "WaterExchange$Reader" (8 : Nat) ∈ GW := gw_2 (List.mem_of_getElem? (i := 229) rfl) rfl
theorem wk_2_230 : Cond.methodLink "WaterExchange" (21 : Nat) ({ cls := "WaterExchange$Reader", name := "<init>", desc := "()V" } : MethodName) ∈ GW := gw_2 (List.mem_of_getElem? (i := 230) rfl) rfl
theorem wk_2_231 : Cond.instanceMethod ({ cls := "WaterExchange$Reader", name := "<init>", desc := "()V" } : MethodName) ∈ GW := gw_2 (List.mem_of_getElem? (i := 231) rfl) rfl
theorem wk_2_232 : Cond.code ({ cls := "WaterExchange$Reader", name := "<init>", desc := "()V" } : MethodName) prog_2_method_1_code (1 : Nat) (Option.none : Option Jvm.ClassFile.FieldType) ∈ GW := gw_2 (List.mem_of_getElem? (i := 232) rfl) rfl
theorem wk_3_25 : Cond.classLink "WaterExchange" (41 : Nat) "java/lang/StringBuilder" ∈ GW := gw_3 (List.mem_of_getElem? (i := 25) rfl) rfl
theorem wk_3_26 : Cond.instantiable "java/lang/StringBuilder" (4 : Nat) ∈ GW := gw_3 (List.mem_of_getElem? (i := 26) rfl) rfl
theorem wk_3_27 : Cond.methodLink "WaterExchange" (43 : Nat) ({ cls := "java/lang/StringBuilder", name := "<init>", desc := "()V" } : MethodName) ∈ GW := gw_3 (List.mem_of_getElem? (i := 27) rfl) rfl
theorem wk_3_28 : Cond.instanceMethod ({ cls := "java/lang/StringBuilder", name := "<init>", desc := "()V" } : MethodName) ∈ GW := gw_3 (List.mem_of_getElem? (i := 28) rfl) rfl
theorem wk_3_29 : Cond.code ({ cls := "java/lang/StringBuilder", name := "<init>", desc := "()V" } : MethodName) prog_24_method_1_code (1 : Nat) (Option.none : Option Jvm.ClassFile.FieldType) ∈ GW := gw_3 (List.mem_of_getElem? (i := 29) rfl) rfl
theorem wk_3_56 : Cond.arrayClass Jvm.ClassFile.FieldType.boolean ∈ GW := gw_3 (List.mem_of_getElem? (i := 56) rfl) rfl
theorem wk_3_57 : Cond.methodLink "WaterExchange" (48 : Nat) ({ cls := "WaterExchange$State", name := "makeEmpty", desc := "()V" } : MethodName) ∈ GW := gw_3 (List.mem_of_getElem? (i := 57) rfl) rfl
theorem wk_3_62 : Cond.fieldLink "WaterExchange" (16 : Nat) "WaterExchange" "trial" "LWaterExchange$State;" ∈ GW := gw_3 (List.mem_of_getElem? (i := 62) rfl) rfl
theorem wk_3_64 : Cond.fieldLink "WaterExchange" (26 : Nat) "WaterExchange" "usualGot" "[I" ∈ GW := gw_3 (List.mem_of_getElem? (i := 64) rfl) rfl
theorem wk_3_67 : Cond.fieldLink "WaterExchange" (34 : Nat) "WaterExchange" "slots" "[LWaterExchange$State;" ∈ GW := gw_3 (List.mem_of_getElem? (i := 67) rfl) rfl
theorem wk_3_69 : Cond.fieldLink "WaterExchange" (44 : Nat) "WaterExchange" "text" "Ljava/lang/StringBuilder;" ∈ GW := gw_3 (List.mem_of_getElem? (i := 69) rfl) rfl
def rawX : va_E := .inr (5, [.null, .null, .null, .null, .null, .int 0, .null, .null, .null])
abbrev rmX : Room := { frames := 8, cells := 294, slots := 8503, locals := 300 }
set_option maxHeartbeats 16000000 in
set_option maxRecDepth 100000 in
theorem c_X3_init {l : Launch} {E : Ev} {μ' : Mm} (hU : (eU E).1 = 0) (hme : F_X1_makeEmpty 1 (mZ E) = some μ') : Cb l E yX3_init (Cond.code yX3_init cX3_init 2 none :: GW) rmX [.ref (eB E)] (eB E) 1 (fun _ => rawX) 295 (fw E μ') := by
  refine cb_of (by decide) (Nat.le_of_ble_eq_true rfl) (fun p e s m args below meth c C hnm hAO hz hB hr => ?_)
  have C : Cq E p s m args meth c cX3_init 2 RX3 := C
  have hnm : meth.name = "<init>" := hnm
  refine gb_F (F' := oF E (.inr (5, [.null, .null, .null, .null, .null, .int 0, .null, .null, .null])) (fw E (mZ E) 70) (fw E (mZ E) 247)) (fun i hi => if_pos (by omega)) ?_
  refine gb_lv (lv' := [(0, .ref (eB E))]) rfl ?_
  refine gb_aload_n (i := 0) C dX3_init_0 rfl 0 rfl ?_
  refine gb_obj C wk_2_124 wk_1_56 wk_1_57 ⟨(Nat.le_of_ble_eq_true rfl), (Nat.le_of_ble_eq_true rfl)⟩ dX3_init_1 ?_
  refine gb_aload_n (i := 0) C dX3_init_4 rfl 0 rfl ?_
  refine gb_new (ci := 3) (fs := [.null, .null, .null, .int 0, .null, .null, .null, .null, .null, .null, .null, .null, .null, .null, .int 0, .int 0, .int 0, .int 0, .int 0]) C inG_X1 tyX1 tyX1_ok wk_2_125 wk_2_17 wk_1_4 rfl df_X1 (by omega) (Or.inl (by omega)) ⟨(Nat.le_of_ble_eq_true rfl), (Nat.le_of_ble_eq_true rfl)⟩ dX3_init_5 ?_
  refine gb_dup C dX3_init_8 ?_
  refine gb_ctor (F' := oF E (.inr (5, [.null, .null, .null, .null, .null, .int 0, .null, .null, .null])) (fw E (mZ E) 70) (fw E (mZ E) 247)) (i := 1) (nb := 1) (n' := 22) (a := eB E + 1) (b := eB E + 1) (As := []) (rest := [.ref (eB E + 1), .ref (eB E)]) (rm := rmS) C hAO hU (Nat.le_refl _) rfl (by decide) (c_X1_init hU (i0 := 1) rfl (by decide) (by decide +kernel)) wk_2_126 wk_2_127 wk_1_4 wk_2_128 rfl (by decide +kernel) (by omega) bu_one (bu_old (fun _ _ => rfl)) (fun j hj => oF_mk (by omega)) ⟨(Nat.le_of_ble_eq_true rfl), (Nat.le_of_ble_eq_true rfl)⟩ (Nat.le_of_ble_eq_true rfl) ⟨(Nat.le_of_ble_eq_true rfl), (Nat.le_of_ble_eq_true rfl)⟩ dX3_init_9 rfl ?_
  refine gb_k (k' := 22) (sl' := 581) rfl rfl ?_
  refine gb_putF (ci := 5) (ty := .object "WaterExchange$State") C hnm inG_X3 tyX3 tyX3_ok nmX3 0 (by omega) rfl rfl rfl 0 (by decide) wk_3_61 rfl rfl (by decide +kernel) rfl rfl (Nat.le_of_ble_eq_true rfl) dX3_init_12 ?_
  refine gb_F (F' := oF E (.inr (5, [.ref (eB E + 1), .null, .null, .null, .null, .int 0, .null, .null, .null])) (fw E (mZ E) 70) (fw E (mZ E) 247)) (fun i _ => (congrFun oF_put i).symm) ?_
  refine gb_aload_n (i := 0) C dX3_init_15 rfl 0 rfl ?_
  refine gb_new (ci := 3) (fs := [.null, .null, .null, .int 0, .null, .null, .null, .null, .null, .null, .null, .null, .null, .null, .int 0, .int 0, .int 0, .int 0, .int 0]) C inG_X1 tyX1 tyX1_ok wk_2_125 wk_2_17 wk_1_4 rfl df_X1 (by omega) (Or.inl (by omega)) ⟨(Nat.le_of_ble_eq_true rfl), (Nat.le_of_ble_eq_true rfl)⟩ dX3_init_16 ?_
  refine gb_dup C dX3_init_19 ?_
  refine gb_ctor (F' := oF E (.inr (5, [.ref (eB E + 1), .null, .null, .null, .null, .int 0, .null, .null, .null])) (fw E (mZ E) 70) (fw E (mZ E) 247)) (i := 23) (nb := 1) (n' := 22) (a := eB E + 23) (b := eB E + 23) (As := []) (rest := [.ref (eB E + 23), .ref (eB E)]) (rm := rmS) C hAO hU (Nat.le_refl _) rfl (by decide) (c_X1_init hU (i0 := 23) rfl (by decide) (by decide +kernel)) wk_2_126 wk_2_127 wk_1_4 wk_2_128 rfl (by decide +kernel) (by omega) bu_one (bu_old (fun _ _ => rfl)) (fun j hj => oF_mk (by omega)) ⟨(Nat.le_of_ble_eq_true rfl), (Nat.le_of_ble_eq_true rfl)⟩ (Nat.le_of_ble_eq_true rfl) ⟨(Nat.le_of_ble_eq_true rfl), (Nat.le_of_ble_eq_true rfl)⟩ dX3_init_20 rfl ?_
  refine gb_k (k' := 44) (sl' := 1162) rfl rfl ?_
  refine gb_putF (ci := 5) (ty := .object "WaterExchange$State") C hnm inG_X3 tyX3 tyX3_ok nmX3 0 (by omega) rfl rfl rfl 1 (by decide) wk_3_62 rfl rfl (by decide +kernel) rfl rfl (Nat.le_of_ble_eq_true rfl) dX3_init_23 ?_
  refine gb_F (F' := oF E (.inr (5, [.ref (eB E + 1), .ref (eB E + 23), .null, .null, .null, .int 0, .null, .null, .null])) (fw E (mZ E) 70) (fw E (mZ E) 247)) (fun i _ => (congrFun oF_put i).symm) ?_
  refine gb_aload_n (i := 0) C dX3_init_26 rfl 0 rfl ?_
  refine gb_new (ci := 2) (fs := [.null, .null, .int 0, .int 0, .int 0, .int 0, .int 0, .int 0]) C inG_X0 tyX0 tyX0_ok wk_2_228 wk_2_229 wk_1_6 rfl (fun j hj => by rcases (show j = 0 ∨ j = 1 ∨ j = 2 ∨ j = 3 ∨ j = 4 ∨ j = 5 ∨ j = 6 ∨ j = 7 by omega) with rfl | rfl | rfl | rfl | rfl | rfl | rfl | rfl <;> rfl) (by omega) (Or.inl (by omega)) ⟨(Nat.le_of_ble_eq_true rfl), (Nat.le_of_ble_eq_true rfl)⟩ dX3_init_27 ?_
  refine gb_dup C dX3_init_30 ?_
  refine gb_ctor (F' := oF E (.inr (5, [.ref (eB E + 1), .ref (eB E + 23), .null, .null, .null, .int 0, .null, .null, .null])) (fw E (mZ E) 70) (fw E (mZ E) 247)) (i := 45) (nb := 1) (n' := 24) (a := eB E + 45) (b := eB E + 45) (As := []) (rest := [.ref (eB E + 45), .ref (eB E)]) (rm := rmR) C hAO hU (Nat.le_refl _) rfl (by decide) (c_X0_init hU rfl) wk_2_230 wk_2_231 wk_1_6 wk_2_232 rfl (by decide +kernel) (by omega) bu_one (bu_old (fun _ _ => rfl)) (fun j hj => oF_mk (by omega)) ⟨(Nat.le_of_ble_eq_true rfl), (Nat.le_of_ble_eq_true rfl)⟩ (Nat.le_of_ble_eq_true rfl) ⟨(Nat.le_of_ble_eq_true rfl), (Nat.le_of_ble_eq_true rfl)⟩ dX3_init_31 rfl ?_
  refine gb_k (k' := 68) (sl' := 2651) rfl rfl ?_
  refine gb_putF (ci := 5) (ty := .object "WaterExchange$Reader") C hnm inG_X3 tyX3 tyX3_ok nmX3 0 (by omega) rfl rfl rfl 2 (by decide) wk_3_63 rfl rfl (by decide +kernel) rfl rfl (Nat.le_of_ble_eq_true rfl) dX3_init_34 ?_
  refine gb_F (F' := oF E (.inr (5, [.ref (eB E + 1), .ref (eB E + 23), .ref (eB E + 45), .null, .null, .int 0, .null, .null, .null])) (fw E (mZ E) 70) (fw E (mZ E) 247)) (fun i _ => (congrFun oF_put i).symm) ?_
  refine gb_aload_n (i := 0) C dX3_init_37 rfl 0 rfl ?_
  refine gb_bipush (v := 10) C dX3_init_38 (by decide) ?_
  refine gb_newa (atype := .int) (ty := .int) (a0 := (10, .inl (fun _ => 0))) (v := 10) (N := 10) C wk_2_149 rfl 1 rfl (fun _ _ h => ra_i h) (fun _ => rfl) (by decide) (by decide) (Nat.le_of_ble_eq_true rfl) (by omega) (Or.inl (by omega)) ⟨(Nat.le_of_ble_eq_true rfl), (Nat.le_of_ble_eq_true rfl)⟩ dX3_init_40 ?_
  refine gb_F (F' := oF E (.inr (5, [.ref (eB E + 1), .ref (eB E + 23), .ref (eB E + 45), .null, .null, .int 0, .null, .null, .null])) (fw E (mZ E) 70) (fw E (mZ E) 247)) (oF_push (by decide) (fw_i (q := 69) (by unfold NS; decide) (by decide +kernel) (by decide +kernel) (by decide +kernel))) ?_
  refine gb_k (k' := 69) (sl' := 2661) rfl rfl ?_
  refine gb_putF (ci := 5) (ty := .array .int) C hnm inG_X3 tyX3 tyX3_ok nmX3 0 (by omega) rfl rfl rfl 3 (by decide) wk_3_64 rfl rfl (by decide +kernel) rfl rfl (Nat.le_of_ble_eq_true rfl) dX3_init_42 ?_
  refine gb_F (F' := oF E (.inr (5, [.ref (eB E + 1), .ref (eB E + 23), .ref (eB E + 45), .ref (eB E + 69), .null, .int 0, .null, .null, .null])) (fw E (mZ E) 70) (fw E (mZ E) 247)) (fun i _ => (congrFun oF_put i).symm) ?_
  refine gb_aload_n (i := 0) C dX3_init_45 rfl 0 rfl ?_
  refine gb_bipush (v := 8) C dX3_init_46 (by decide) ?_
  refine gb_newq (v := 8) (N := 8) C hAO wk_2_125 (by decide) (by decide) (Nat.le_of_ble_eq_true rfl) (by omega) (Or.inl (by omega)) ⟨(Nat.le_of_ble_eq_true rfl), (Nat.le_of_ble_eq_true rfl)⟩ dX3_init_48 ?_
  refine gb_F (F' := oF E (.inr (5, [.ref (eB E + 1), .ref (eB E + 23), .ref (eB E + 45), .ref (eB E + 69), .null, .int 0, .null, .null, .null])) (.inl (eC E 4, 8, .inr (.inr (.inr (.inr (fun _ => none)))))) (fw E (mZ E) 247)) (fun i _ => (congrFun oF_70 i).symm) ?_
  refine gb_k (k' := 70) (sl' := 2669) rfl rfl ?_
  refine gb_putF (ci := 5) (ty := .array (.object "WaterExchange$State")) C hnm inG_X3 tyX3 tyX3_ok nmX3 0 (by omega) rfl rfl rfl 4 (by decide) wk_3_65 rfl rfl (by decide +kernel) rfl rfl (Nat.le_of_ble_eq_true rfl) dX3_init_51 ?_
  refine gb_F (F' := oF E (.inr (5, [.ref (eB E + 1), .ref (eB E + 23), .ref (eB E + 45), .ref (eB E + 69), .ref (eB E + 70), .int 0, .null, .null, .null])) (.inl (eC E 4, 8, .inr (.inr (.inr (.inr (fun _ => none)))))) (fw E (mZ E) 247)) (fun i _ => (congrFun oF_put i).symm) ?_
  refine gb_iconst (v := 0) C dX3_init_54 (by decide) ?_
  refine gb_istore_n (i := 1) (lv' := [(1, .int 0), (0, .ref (eB E))]) C dX3_init_55 rfl (by decide) rfl ?_
  refine gb_iload_n (i := 1) C dX3_init_56 rfl 0 rfl ?_
  refine gb_bipush (v := 8) C dX3_init_57 (by decide) ?_
  refine gb_icmp_ge_f (tgt := 81) C dX3_init_59 (by decide) (by decide) ?_
  refine gb_aload_n (i := 0) C dX3_init_62 rfl 1 rfl ?_
  refine gb_get (ci := 5) C inG_X3 0 (by omega) rfl rfl rfl 4 (by decide) wk_3_65 rfl dX3_init_63 ?_
  refine gb_iload_n (i := 1) C dX3_init_66 rfl 0 rfl ?_
  refine gb_new (ci := 3) (fs := [.null, .null, .null, .int 0, .null, .null, .null, .null, .null, .null, .null, .null, .null, .null, .int 0, .int 0, .int 0, .int 0, .int 0]) C inG_X1 tyX1 tyX1_ok wk_2_125 wk_2_17 wk_1_4 rfl df_X1 (by omega) (Or.inl (by omega)) ⟨(Nat.le_of_ble_eq_true rfl), (Nat.le_of_ble_eq_true rfl)⟩ dX3_init_67 ?_
  refine gb_dup C dX3_init_70 ?_
  refine gb_ctor (F' := oF E (.inr (5, [.ref (eB E + 1), .ref (eB E + 23), .ref (eB E + 45), .ref (eB E + 69), .ref (eB E + 70), .int 0, .null, .null, .null])) (.inl (eC E 4, 8, .inr (.inr (.inr (.inr (fun _ => none)))))) (fw E (mZ E) 247)) (i := 71) (nb := 1) (n' := 22) (a := eB E + 71) (b := eB E + 71) (As := []) (rest := [.ref (eB E + 71), .int 0, .ref (eB E + 70)]) (rm := rmS) C hAO hU (Nat.le_refl _) rfl (by decide) (c_X1_init hU (i0 := 71) rfl (by decide) (by decide +kernel)) wk_2_126 wk_2_127 wk_1_4 wk_2_128 rfl (by decide +kernel) (by omega) bu_one (bu_old (fun _ _ => rfl)) (fun j hj => oF_mk (by omega)) ⟨(Nat.le_of_ble_eq_true rfl), (Nat.le_of_ble_eq_true rfl)⟩ (Nat.le_of_ble_eq_true rfl) ⟨(Nat.le_of_ble_eq_true rfl), (Nat.le_of_ble_eq_true rfl)⟩ dX3_init_71 rfl ?_
  refine gb_k (k' := 92) (sl' := 3250) rfl rfl ?_
  refine gb_aast C 70 71 (by decide) (by decide) rfl rfl rfl ((oF_mk (by decide)).trans (fw_s (q := 71) (by unfold NS; decide) (by decide +kernel) (by decide +kernel))) (vp_in_nI (n := 0) (N := 8) (by decide) (by decide)) dX3_init_74 ?_
  refine gb_F (F' := oF E (.inr (5, [.ref (eB E + 1), .ref (eB E + 23), .ref (eB E + 45), .ref (eB E + 69), .ref (eB E + 70), .int 0, .null, .null, .null])) (.inl (eC E 4, 8, .inr (.inr (.inr (.inr (va_up (fun _ => none) (Int32.toNatClampNeg 0) (some (eB E + 71)))))))) (fw E (mZ E) 247)) (fun i _ => (congrFun oF_70 i).symm) ?_
  refine gb_iinc (q := 0) (v := 1) (lv' := [(1, .int 1), (0, .ref (eB E))]) C dX3_init_75 rfl (by decide) (by decide) rfl ?_
  refine gb_goto (tgt := 56) C dX3_init_78 (by decide) ?_
  refine gb_iload_n (i := 1) C dX3_init_56 rfl 0 rfl ?_
  refine gb_bipush (v := 8) C dX3_init_57 (by decide) ?_
  refine gb_icmp_ge_f (tgt := 81) C dX3_init_59 (by decide) (by decide) ?_
  refine gb_aload_n (i := 0) C dX3_init_62 rfl 1 rfl ?_
  refine gb_get (ci := 5) C inG_X3 0 (by omega) rfl rfl rfl 4 (by decide) wk_3_65 rfl dX3_init_63 ?_
  refine gb_iload_n (i := 1) C dX3_init_66 rfl 0 rfl ?_
  refine gb_new (ci := 3) (fs := [.null, .null, .null, .int 0, .null, .null, .null, .null, .null, .null, .null, .null, .null, .null, .int 0, .int 0, .int 0, .int 0, .int 0]) C inG_X1 tyX1 tyX1_ok wk_2_125 wk_2_17 wk_1_4 rfl df_X1 (by omega) (Or.inl (by omega)) ⟨(Nat.le_of_ble_eq_true rfl), (Nat.le_of_ble_eq_true rfl)⟩ dX3_init_67 ?_
  refine gb_dup C dX3_init_70 ?_
  refine gb_ctor (F' := oF E (.inr (5, [.ref (eB E + 1), .ref (eB E + 23), .ref (eB E + 45), .ref (eB E + 69), .ref (eB E + 70), .int 0, .null, .null, .null])) (.inl (eC E 4, 8, .inr (.inr (.inr (.inr (va_up (fun _ => none) (Int32.toNatClampNeg 0) (some (eB E + 71)))))))) (fw E (mZ E) 247)) (i := 93) (nb := 1) (n' := 22) (a := eB E + 93) (b := eB E + 93) (As := []) (rest := [.ref (eB E + 93), .int 1, .ref (eB E + 70)]) (rm := rmS) C hAO hU (Nat.le_refl _) rfl (by decide) (c_X1_init hU (i0 := 93) rfl (by decide) (by decide +kernel)) wk_2_126 wk_2_127 wk_1_4 wk_2_128 rfl (by decide +kernel) (by omega) bu_one (bu_old (fun _ _ => rfl)) (fun j hj => oF_mk (by omega)) ⟨(Nat.le_of_ble_eq_true rfl), (Nat.le_of_ble_eq_true rfl)⟩ (Nat.le_of_ble_eq_true rfl) ⟨(Nat.le_of_ble_eq_true rfl), (Nat.le_of_ble_eq_true rfl)⟩ dX3_init_71 rfl ?_
  refine gb_k (k' := 114) (sl' := 3831) rfl rfl ?_
  refine gb_aast C 70 93 (by decide) (by decide) rfl rfl rfl ((oF_mk (by decide)).trans (fw_s (q := 93) (by unfold NS; decide) (by decide +kernel) (by decide +kernel))) (vp_in_nI (n := 1) (N := 8) (by decide) (by decide)) dX3_init_74 ?_
  refine gb_F (F' := oF E (.inr (5, [.ref (eB E + 1), .ref (eB E + 23), .ref (eB E + 45), .ref (eB E + 69), .ref (eB E + 70), .int 0, .null, .null, .null])) (.inl (eC E 4, 8, .inr (.inr (.inr (.inr (va_up (va_up (fun _ => none) (Int32.toNatClampNeg 0) (some (eB E + 71))) (Int32.toNatClampNeg 1) (some (eB E + 93)))))))) (fw E (mZ E) 247)) (fun i _ => (congrFun oF_70 i).symm) ?_
  refine gb_iinc (q := 0) (v := 2) (lv' := [(1, .int 2), (0, .ref (eB E))]) C dX3_init_75 rfl (by decide) (by decide) rfl ?_
  refine gb_goto (tgt := 56) C dX3_init_78 (by decide) ?_
  refine gb_iload_n (i := 1) C dX3_init_56 rfl 0 rfl ?_
  refine gb_bipush (v := 8) C dX3_init_57 (by decide) ?_
  refine gb_icmp_ge_f (tgt := 81) C dX3_init_59 (by decide) (by decide) ?_
  refine gb_aload_n (i := 0) C dX3_init_62 rfl 1 rfl ?_
  refine gb_get (ci := 5) C inG_X3 0 (by omega) rfl rfl rfl 4 (by decide) wk_3_65 rfl dX3_init_63 ?_
  refine gb_iload_n (i := 1) C dX3_init_66 rfl 0 rfl ?_
  refine gb_new (ci := 3) (fs := [.null, .null, .null, .int 0, .null, .null, .null, .null, .null, .null, .null, .null, .null, .null, .int 0, .int 0, .int 0, .int 0, .int 0]) C inG_X1 tyX1 tyX1_ok wk_2_125 wk_2_17 wk_1_4 rfl df_X1 (by omega) (Or.inl (by omega)) ⟨(Nat.le_of_ble_eq_true rfl), (Nat.le_of_ble_eq_true rfl)⟩ dX3_init_67 ?_
  refine gb_dup C dX3_init_70 ?_
  refine gb_ctor (F' := oF E (.inr (5, [.ref (eB E + 1), .ref (eB E + 23), .ref (eB E + 45), .ref (eB E + 69), .ref (eB E + 70), .int 0, .null, .null, .null])) (.inl (eC E 4, 8, .inr (.inr (.inr (.inr (va_up (va_up (fun _ => none) (Int32.toNatClampNeg 0) (some (eB E + 71))) (Int32.toNatClampNeg 1) (some (eB E + 93)))))))) (fw E (mZ E) 247)) (i := 115) (nb := 1) (n' := 22) (a := eB E + 115) (b := eB E + 115) (As := []) (rest := [.ref (eB E + 115), .int 2, .ref (eB E + 70)]) (rm := rmS) C hAO hU (Nat.le_refl _) rfl (by decide) (c_X1_init hU (i0 := 115) rfl (by decide) (by decide +kernel)) wk_2_126 wk_2_127 wk_1_4 wk_2_128 rfl (by decide +kernel) (by omega) bu_one (bu_old (fun _ _ => rfl)) (fun j hj => oF_mk (by omega)) ⟨(Nat.le_of_ble_eq_true rfl), (Nat.le_of_ble_eq_true rfl)⟩ (Nat.le_of_ble_eq_true rfl) ⟨(Nat.le_of_ble_eq_true rfl), (Nat.le_of_ble_eq_true rfl)⟩ dX3_init_71 rfl ?_
  refine gb_k (k' := 136) (sl' := 4412) rfl rfl ?_
  refine gb_aast C 70 115 (by decide) (by decide) rfl rfl rfl ((oF_mk (by decide)).trans (fw_s (q := 115) (by unfold NS; decide) (by decide +kernel) (by decide +kernel))) (vp_in_nI (n := 2) (N := 8) (by decide) (by decide)) dX3_init_74 ?_
  refine gb_F (F' := oF E (.inr (5, [.ref (eB E + 1), .ref (eB E + 23), .ref (eB E + 45), .ref (eB E + 69), .ref (eB E + 70), .int 0, .null, .null, .null])) (.inl (eC E 4, 8, .inr (.inr (.inr (.inr (va_up (va_up (va_up (fun _ => none) (Int32.toNatClampNeg 0) (some (eB E + 71))) (Int32.toNatClampNeg 1) (some (eB E + 93))) (Int32.toNatClampNeg 2) (some (eB E + 115)))))))) (fw E (mZ E) 247)) (fun i _ => (congrFun oF_70 i).symm) ?_
  refine gb_iinc (q := 0) (v := 3) (lv' := [(1, .int 3), (0, .ref (eB E))]) C dX3_init_75 rfl (by decide) (by decide) rfl ?_
  refine gb_goto (tgt := 56) C dX3_init_78 (by decide) ?_
  refine gb_iload_n (i := 1) C dX3_init_56 rfl 0 rfl ?_
  refine gb_bipush (v := 8) C dX3_init_57 (by decide) ?_
  refine gb_icmp_ge_f (tgt := 81) C dX3_init_59 (by decide) (by decide) ?_
  refine gb_aload_n (i := 0) C dX3_init_62 rfl 1 rfl ?_
  refine gb_get (ci := 5) C inG_X3 0 (by omega) rfl rfl rfl 4 (by decide) wk_3_65 rfl dX3_init_63 ?_
  refine gb_iload_n (i := 1) C dX3_init_66 rfl 0 rfl ?_
  refine gb_new (ci := 3) (fs := [.null, .null, .null, .int 0, .null, .null, .null, .null, .null, .null, .null, .null, .null, .null, .int 0, .int 0, .int 0, .int 0, .int 0]) C inG_X1 tyX1 tyX1_ok wk_2_125 wk_2_17 wk_1_4 rfl df_X1 (by omega) (Or.inl (by omega)) ⟨(Nat.le_of_ble_eq_true rfl), (Nat.le_of_ble_eq_true rfl)⟩ dX3_init_67 ?_
  refine gb_dup C dX3_init_70 ?_
  refine gb_ctor (F' := oF E (.inr (5, [.ref (eB E + 1), .ref (eB E + 23), .ref (eB E + 45), .ref (eB E + 69), .ref (eB E + 70), .int 0, .null, .null, .null])) (.inl (eC E 4, 8, .inr (.inr (.inr (.inr (va_up (va_up (va_up (fun _ => none) (Int32.toNatClampNeg 0) (some (eB E + 71))) (Int32.toNatClampNeg 1) (some (eB E + 93))) (Int32.toNatClampNeg 2) (some (eB E + 115)))))))) (fw E (mZ E) 247)) (i := 137) (nb := 1) (n' := 22) (a := eB E + 137) (b := eB E + 137) (As := []) (rest := [.ref (eB E + 137), .int 3, .ref (eB E + 70)]) (rm := rmS) C hAO hU (Nat.le_refl _) rfl (by decide) (c_X1_init hU (i0 := 137) rfl (by decide) (by decide +kernel)) wk_2_126 wk_2_127 wk_1_4 wk_2_128 rfl (by decide +kernel) (by omega) bu_one (bu_old (fun _ _ => rfl)) (fun j hj => oF_mk (by omega)) ⟨(Nat.le_of_ble_eq_true rfl), (Nat.le_of_ble_eq_true rfl)⟩ (Nat.le_of_ble_eq_true rfl) ⟨(Nat.le_of_ble_eq_true rfl), (Nat.le_of_ble_eq_true rfl)⟩ dX3_init_71 rfl ?_
  refine gb_k (k' := 158) (sl' := 4993) rfl rfl ?_
  refine gb_aast C 70 137 (by decide) (by decide) rfl rfl rfl ((oF_mk (by decide)).trans (fw_s (q := 137) (by unfold NS; decide) (by decide +kernel) (by decide +kernel))) (vp_in_nI (n := 3) (N := 8) (by decide) (by decide)) dX3_init_74 ?_
  refine gb_F (F' := oF E (.inr (5, [.ref (eB E + 1), .ref (eB E + 23), .ref (eB E + 45), .ref (eB E + 69), .ref (eB E + 70), .int 0, .null, .null, .null])) (.inl (eC E 4, 8, .inr (.inr (.inr (.inr (va_up (va_up (va_up (va_up (fun _ => none) (Int32.toNatClampNeg 0) (some (eB E + 71))) (Int32.toNatClampNeg 1) (some (eB E + 93))) (Int32.toNatClampNeg 2) (some (eB E + 115))) (Int32.toNatClampNeg 3) (some (eB E + 137)))))))) (fw E (mZ E) 247)) (fun i _ => (congrFun oF_70 i).symm) ?_
  refine gb_iinc (q := 0) (v := 4) (lv' := [(1, .int 4), (0, .ref (eB E))]) C dX3_init_75 rfl (by decide) (by decide) rfl ?_
  refine gb_goto (tgt := 56) C dX3_init_78 (by decide) ?_
  refine gb_iload_n (i := 1) C dX3_init_56 rfl 0 rfl ?_
  refine gb_bipush (v := 8) C dX3_init_57 (by decide) ?_
  refine gb_icmp_ge_f (tgt := 81) C dX3_init_59 (by decide) (by decide) ?_
  refine gb_aload_n (i := 0) C dX3_init_62 rfl 1 rfl ?_
  refine gb_get (ci := 5) C inG_X3 0 (by omega) rfl rfl rfl 4 (by decide) wk_3_65 rfl dX3_init_63 ?_
  refine gb_iload_n (i := 1) C dX3_init_66 rfl 0 rfl ?_
  refine gb_new (ci := 3) (fs := [.null, .null, .null, .int 0, .null, .null, .null, .null, .null, .null, .null, .null, .null, .null, .int 0, .int 0, .int 0, .int 0, .int 0]) C inG_X1 tyX1 tyX1_ok wk_2_125 wk_2_17 wk_1_4 rfl df_X1 (by omega) (Or.inl (by omega)) ⟨(Nat.le_of_ble_eq_true rfl), (Nat.le_of_ble_eq_true rfl)⟩ dX3_init_67 ?_
  refine gb_dup C dX3_init_70 ?_
  refine gb_ctor (F' := oF E (.inr (5, [.ref (eB E + 1), .ref (eB E + 23), .ref (eB E + 45), .ref (eB E + 69), .ref (eB E + 70), .int 0, .null, .null, .null])) (.inl (eC E 4, 8, .inr (.inr (.inr (.inr (va_up (va_up (va_up (va_up (fun _ => none) (Int32.toNatClampNeg 0) (some (eB E + 71))) (Int32.toNatClampNeg 1) (some (eB E + 93))) (Int32.toNatClampNeg 2) (some (eB E + 115))) (Int32.toNatClampNeg 3) (some (eB E + 137)))))))) (fw E (mZ E) 247)) (i := 159) (nb := 1) (n' := 22) (a := eB E + 159) (b := eB E + 159) (As := []) (rest := [.ref (eB E + 159), .int 4, .ref (eB E + 70)]) (rm := rmS) C hAO hU (Nat.le_refl _) rfl (by decide) (c_X1_init hU (i0 := 159) rfl (by decide) (by decide +kernel)) wk_2_126 wk_2_127 wk_1_4 wk_2_128 rfl (by decide +kernel) (by omega) bu_one (bu_old (fun _ _ => rfl)) (fun j hj => oF_mk (by omega)) ⟨(Nat.le_of_ble_eq_true rfl), (Nat.le_of_ble_eq_true rfl)⟩ (Nat.le_of_ble_eq_true rfl) ⟨(Nat.le_of_ble_eq_true rfl), (Nat.le_of_ble_eq_true rfl)⟩ dX3_init_71 rfl ?_
  refine gb_k (k' := 180) (sl' := 5574) rfl rfl ?_
  refine gb_aast C 70 159 (by decide) (by decide) rfl rfl rfl ((oF_mk (by decide)).trans (fw_s (q := 159) (by unfold NS; decide) (by decide +kernel) (by decide +kernel))) (vp_in_nI (n := 4) (N := 8) (by decide) (by decide)) dX3_init_74 ?_
  refine gb_F (F' := oF E (.inr (5, [.ref (eB E + 1), .ref (eB E + 23), .ref (eB E + 45), .ref (eB E + 69), .ref (eB E + 70), .int 0, .null, .null, .null])) (.inl (eC E 4, 8, .inr (.inr (.inr (.inr (va_up (va_up (va_up (va_up (va_up (fun _ => none) (Int32.toNatClampNeg 0) (some (eB E + 71))) (Int32.toNatClampNeg 1) (some (eB E + 93))) (Int32.toNatClampNeg 2) (some (eB E + 115))) (Int32.toNatClampNeg 3) (some (eB E + 137))) (Int32.toNatClampNeg 4) (some (eB E + 159)))))))) (fw E (mZ E) 247)) (fun i _ => (congrFun oF_70 i).symm) ?_
  refine gb_iinc (q := 0) (v := 5) (lv' := [(1, .int 5), (0, .ref (eB E))]) C dX3_init_75 rfl (by decide) (by decide) rfl ?_
  refine gb_goto (tgt := 56) C dX3_init_78 (by decide) ?_
  refine gb_iload_n (i := 1) C dX3_init_56 rfl 0 rfl ?_
  refine gb_bipush (v := 8) C dX3_init_57 (by decide) ?_
  refine gb_icmp_ge_f (tgt := 81) C dX3_init_59 (by decide) (by decide) ?_
  refine gb_aload_n (i := 0) C dX3_init_62 rfl 1 rfl ?_
  refine gb_get (ci := 5) C inG_X3 0 (by omega) rfl rfl rfl 4 (by decide) wk_3_65 rfl dX3_init_63 ?_
  refine gb_iload_n (i := 1) C dX3_init_66 rfl 0 rfl ?_
  refine gb_new (ci := 3) (fs := [.null, .null, .null, .int 0, .null, .null, .null, .null, .null, .null, .null, .null, .null, .null, .int 0, .int 0, .int 0, .int 0, .int 0]) C inG_X1 tyX1 tyX1_ok wk_2_125 wk_2_17 wk_1_4 rfl df_X1 (by omega) (Or.inl (by omega)) ⟨(Nat.le_of_ble_eq_true rfl), (Nat.le_of_ble_eq_true rfl)⟩ dX3_init_67 ?_
  refine gb_dup C dX3_init_70 ?_
  refine gb_ctor (F' := oF E (.inr (5, [.ref (eB E + 1), .ref (eB E + 23), .ref (eB E + 45), .ref (eB E + 69), .ref (eB E + 70), .int 0, .null, .null, .null])) (.inl (eC E 4, 8, .inr (.inr (.inr (.inr (va_up (va_up (va_up (va_up (va_up (fun _ => none) (Int32.toNatClampNeg 0) (some (eB E + 71))) (Int32.toNatClampNeg 1) (some (eB E + 93))) (Int32.toNatClampNeg 2) (some (eB E + 115))) (Int32.toNatClampNeg 3) (some (eB E + 137))) (Int32.toNatClampNeg 4) (some (eB E + 159)))))))) (fw E (mZ E) 247)) (i := 181) (nb := 1) (n' := 22) (a := eB E + 181) (b := eB E + 181) (As := []) (rest := [.ref (eB E + 181), .int 5, .ref (eB E + 70)]) (rm := rmS) C hAO hU (Nat.le_refl _) rfl (by decide) (c_X1_init hU (i0 := 181) rfl (by decide) (by decide +kernel)) wk_2_126 wk_2_127 wk_1_4 wk_2_128 rfl (by decide +kernel) (by omega) bu_one (bu_old (fun _ _ => rfl)) (fun j hj => oF_mk (by omega)) ⟨(Nat.le_of_ble_eq_true rfl), (Nat.le_of_ble_eq_true rfl)⟩ (Nat.le_of_ble_eq_true rfl) ⟨(Nat.le_of_ble_eq_true rfl), (Nat.le_of_ble_eq_true rfl)⟩ dX3_init_71 rfl ?_
  refine gb_k (k' := 202) (sl' := 6155) rfl rfl ?_
  refine gb_aast C 70 181 (by decide) (by decide) rfl rfl rfl ((oF_mk (by decide)).trans (fw_s (q := 181) (by unfold NS; decide) (by decide +kernel) (by decide +kernel))) (vp_in_nI (n := 5) (N := 8) (by decide) (by decide)) dX3_init_74 ?_
  refine gb_F (F' := oF E (.inr (5, [.ref (eB E + 1), .ref (eB E + 23), .ref (eB E + 45), .ref (eB E + 69), .ref (eB E + 70), .int 0, .null, .null, .null])) (.inl (eC E 4, 8, .inr (.inr (.inr (.inr (va_up (va_up (va_up (va_up (va_up (va_up (fun _ => none) (Int32.toNatClampNeg 0) (some (eB E + 71))) (Int32.toNatClampNeg 1) (some (eB E + 93))) (Int32.toNatClampNeg 2) (some (eB E + 115))) (Int32.toNatClampNeg 3) (some (eB E + 137))) (Int32.toNatClampNeg 4) (some (eB E + 159))) (Int32.toNatClampNeg 5) (some (eB E + 181)))))))) (fw E (mZ E) 247)) (fun i _ => (congrFun oF_70 i).symm) ?_
  refine gb_iinc (q := 0) (v := 6) (lv' := [(1, .int 6), (0, .ref (eB E))]) C dX3_init_75 rfl (by decide) (by decide) rfl ?_
  refine gb_goto (tgt := 56) C dX3_init_78 (by decide) ?_
  refine gb_iload_n (i := 1) C dX3_init_56 rfl 0 rfl ?_
  refine gb_bipush (v := 8) C dX3_init_57 (by decide) ?_
  refine gb_icmp_ge_f (tgt := 81) C dX3_init_59 (by decide) (by decide) ?_
  refine gb_aload_n (i := 0) C dX3_init_62 rfl 1 rfl ?_
  refine gb_get (ci := 5) C inG_X3 0 (by omega) rfl rfl rfl 4 (by decide) wk_3_65 rfl dX3_init_63 ?_
  refine gb_iload_n (i := 1) C dX3_init_66 rfl 0 rfl ?_
  refine gb_new (ci := 3) (fs := [.null, .null, .null, .int 0, .null, .null, .null, .null, .null, .null, .null, .null, .null, .null, .int 0, .int 0, .int 0, .int 0, .int 0]) C inG_X1 tyX1 tyX1_ok wk_2_125 wk_2_17 wk_1_4 rfl df_X1 (by omega) (Or.inl (by omega)) ⟨(Nat.le_of_ble_eq_true rfl), (Nat.le_of_ble_eq_true rfl)⟩ dX3_init_67 ?_
  refine gb_dup C dX3_init_70 ?_
  refine gb_ctor (F' := oF E (.inr (5, [.ref (eB E + 1), .ref (eB E + 23), .ref (eB E + 45), .ref (eB E + 69), .ref (eB E + 70), .int 0, .null, .null, .null])) (.inl (eC E 4, 8, .inr (.inr (.inr (.inr (va_up (va_up (va_up (va_up (va_up (va_up (fun _ => none) (Int32.toNatClampNeg 0) (some (eB E + 71))) (Int32.toNatClampNeg 1) (some (eB E + 93))) (Int32.toNatClampNeg 2) (some (eB E + 115))) (Int32.toNatClampNeg 3) (some (eB E + 137))) (Int32.toNatClampNeg 4) (some (eB E + 159))) (Int32.toNatClampNeg 5) (some (eB E + 181)))))))) (fw E (mZ E) 247)) (i := 203) (nb := 1) (n' := 22) (a := eB E + 203) (b := eB E + 203) (As := []) (rest := [.ref (eB E + 203), .int 6, .ref (eB E + 70)]) (rm := rmS) C hAO hU (Nat.le_refl _) rfl (by decide) (c_X1_init hU (i0 := 203) rfl (by decide) (by decide +kernel)) wk_2_126 wk_2_127 wk_1_4 wk_2_128 rfl (by decide +kernel) (by omega) bu_one (bu_old (fun _ _ => rfl)) (fun j hj => oF_mk (by omega)) ⟨(Nat.le_of_ble_eq_true rfl), (Nat.le_of_ble_eq_true rfl)⟩ (Nat.le_of_ble_eq_true rfl) ⟨(Nat.le_of_ble_eq_true rfl), (Nat.le_of_ble_eq_true rfl)⟩ dX3_init_71 rfl ?_
  refine gb_k (k' := 224) (sl' := 6736) rfl rfl ?_
  refine gb_aast C 70 203 (by decide) (by decide) rfl rfl rfl ((oF_mk (by decide)).trans (fw_s (q := 203) (by unfold NS; decide) (by decide +kernel) (by decide +kernel))) (vp_in_nI (n := 6) (N := 8) (by decide) (by decide)) dX3_init_74 ?_
  refine gb_F (F' := oF E (.inr (5, [.ref (eB E + 1), .ref (eB E + 23), .ref (eB E + 45), .ref (eB E + 69), .ref (eB E + 70), .int 0, .null, .null, .null])) (.inl (eC E 4, 8, .inr (.inr (.inr (.inr (va_up (va_up (va_up (va_up (va_up (va_up (va_up (fun _ => none) (Int32.toNatClampNeg 0) (some (eB E + 71))) (Int32.toNatClampNeg 1) (some (eB E + 93))) (Int32.toNatClampNeg 2) (some (eB E + 115))) (Int32.toNatClampNeg 3) (some (eB E + 137))) (Int32.toNatClampNeg 4) (some (eB E + 159))) (Int32.toNatClampNeg 5) (some (eB E + 181))) (Int32.toNatClampNeg 6) (some (eB E + 203)))))))) (fw E (mZ E) 247)) (fun i _ => (congrFun oF_70 i).symm) ?_
  refine gb_iinc (q := 0) (v := 7) (lv' := [(1, .int 7), (0, .ref (eB E))]) C dX3_init_75 rfl (by decide) (by decide) rfl ?_
  refine gb_goto (tgt := 56) C dX3_init_78 (by decide) ?_
  refine gb_iload_n (i := 1) C dX3_init_56 rfl 0 rfl ?_
  refine gb_bipush (v := 8) C dX3_init_57 (by decide) ?_
  refine gb_icmp_ge_f (tgt := 81) C dX3_init_59 (by decide) (by decide) ?_
  refine gb_aload_n (i := 0) C dX3_init_62 rfl 1 rfl ?_
  refine gb_get (ci := 5) C inG_X3 0 (by omega) rfl rfl rfl 4 (by decide) wk_3_65 rfl dX3_init_63 ?_
  refine gb_iload_n (i := 1) C dX3_init_66 rfl 0 rfl ?_
  refine gb_new (ci := 3) (fs := [.null, .null, .null, .int 0, .null, .null, .null, .null, .null, .null, .null, .null, .null, .null, .int 0, .int 0, .int 0, .int 0, .int 0]) C inG_X1 tyX1 tyX1_ok wk_2_125 wk_2_17 wk_1_4 rfl df_X1 (by omega) (Or.inl (by omega)) ⟨(Nat.le_of_ble_eq_true rfl), (Nat.le_of_ble_eq_true rfl)⟩ dX3_init_67 ?_
  refine gb_dup C dX3_init_70 ?_
  refine gb_ctor (F' := oF E (.inr (5, [.ref (eB E + 1), .ref (eB E + 23), .ref (eB E + 45), .ref (eB E + 69), .ref (eB E + 70), .int 0, .null, .null, .null])) (.inl (eC E 4, 8, .inr (.inr (.inr (.inr (va_up (va_up (va_up (va_up (va_up (va_up (va_up (fun _ => none) (Int32.toNatClampNeg 0) (some (eB E + 71))) (Int32.toNatClampNeg 1) (some (eB E + 93))) (Int32.toNatClampNeg 2) (some (eB E + 115))) (Int32.toNatClampNeg 3) (some (eB E + 137))) (Int32.toNatClampNeg 4) (some (eB E + 159))) (Int32.toNatClampNeg 5) (some (eB E + 181))) (Int32.toNatClampNeg 6) (some (eB E + 203)))))))) (fw E (mZ E) 247)) (i := 225) (nb := 1) (n' := 22) (a := eB E + 225) (b := eB E + 225) (As := []) (rest := [.ref (eB E + 225), .int 7, .ref (eB E + 70)]) (rm := rmS) C hAO hU (Nat.le_refl _) rfl (by decide) (c_X1_init hU (i0 := 225) rfl (by decide) (by decide +kernel)) wk_2_126 wk_2_127 wk_1_4 wk_2_128 rfl (by decide +kernel) (by omega) bu_one (bu_old (fun _ _ => rfl)) (fun j hj => oF_mk (by omega)) ⟨(Nat.le_of_ble_eq_true rfl), (Nat.le_of_ble_eq_true rfl)⟩ (Nat.le_of_ble_eq_true rfl) ⟨(Nat.le_of_ble_eq_true rfl), (Nat.le_of_ble_eq_true rfl)⟩ dX3_init_71 rfl ?_
  refine gb_k (k' := 246) (sl' := 7317) rfl rfl ?_
  refine gb_aast C 70 225 (by decide) (by decide) rfl rfl rfl ((oF_mk (by decide)).trans (fw_s (q := 225) (by unfold NS; decide) (by decide +kernel) (by decide +kernel))) (vp_in_nI (n := 7) (N := 8) (by decide) (by decide)) dX3_init_74 ?_
  refine gb_F (F' := oF E (.inr (5, [.ref (eB E + 1), .ref (eB E + 23), .ref (eB E + 45), .ref (eB E + 69), .ref (eB E + 70), .int 0, .null, .null, .null])) (.inl (eC E 4, 8, .inr (.inr (.inr (.inr (va_up (va_up (va_up (va_up (va_up (va_up (va_up (va_up (fun _ => none) (Int32.toNatClampNeg 0) (some (eB E + 71))) (Int32.toNatClampNeg 1) (some (eB E + 93))) (Int32.toNatClampNeg 2) (some (eB E + 115))) (Int32.toNatClampNeg 3) (some (eB E + 137))) (Int32.toNatClampNeg 4) (some (eB E + 159))) (Int32.toNatClampNeg 5) (some (eB E + 181))) (Int32.toNatClampNeg 6) (some (eB E + 203))) (Int32.toNatClampNeg 7) (some (eB E + 225)))))))) (fw E (mZ E) 247)) (fun i _ => (congrFun oF_70 i).symm) ?_
  refine gb_iinc (q := 0) (v := 8) (lv' := [(1, .int 8), (0, .ref (eB E))]) C dX3_init_75 rfl (by decide) (by decide) rfl ?_
  refine gb_goto (tgt := 56) C dX3_init_78 (by decide) ?_
  refine gb_iload_n (i := 1) C dX3_init_56 rfl 0 rfl ?_
  refine gb_bipush (v := 8) C dX3_init_57 (by decide) ?_
  refine gb_icmp_ge_t (tgt := 81) C dX3_init_59 (by decide) (by decide) ?_
  refine gb_at (F' := oF E (.inr (5, [.ref (eB E + 1), .ref (eB E + 23), .ref (eB E + 45), .ref (eB E + 69), .ref (eB E + 70), .int 0, .null, .null, .null])) (fw E (mZ E) 70) (fw E (mZ E) 247)) (fun i H _ h => ?_) ?_
  · by_cases e1 : i = 70
    · subst e1
      show va_at E.1 vwCl (eB E + 70, fw E (mZ E) 70) H
      rw [fw_70]
      refine at_q (fun j hj => ?_) h
      rcases (show j = 0 ∨ j = 1 ∨ j = 2 ∨ j = 3 ∨ j = 4 ∨ j = 5 ∨ j = 6 ∨ j = 7 by omega) with rfl | rfl | rfl | rfl | rfl | rfl | rfl | rfl
      · show some (eB E + 71) = some (eB E + (zI 70 0).toNatClampNeg)
        rw [show (zI 70 0).toNatClampNeg = 71 by decide +kernel]
      · show some (eB E + 93) = some (eB E + (zI 70 1).toNatClampNeg)
        rw [show (zI 70 1).toNatClampNeg = 93 by decide +kernel]
      · show some (eB E + 115) = some (eB E + (zI 70 2).toNatClampNeg)
        rw [show (zI 70 2).toNatClampNeg = 115 by decide +kernel]
      · show some (eB E + 137) = some (eB E + (zI 70 3).toNatClampNeg)
        rw [show (zI 70 3).toNatClampNeg = 137 by decide +kernel]
      · show some (eB E + 159) = some (eB E + (zI 70 4).toNatClampNeg)
        rw [show (zI 70 4).toNatClampNeg = 159 by decide +kernel]
      · show some (eB E + 181) = some (eB E + (zI 70 5).toNatClampNeg)
        rw [show (zI 70 5).toNatClampNeg = 181 by decide +kernel]
      · show some (eB E + 203) = some (eB E + (zI 70 6).toNatClampNeg)
        rw [show (zI 70 6).toNatClampNeg = 203 by decide +kernel]
      · show some (eB E + 225) = some (eB E + (zI 70 7).toNatClampNeg)
        rw [show (zI 70 7).toNatClampNeg = 225 by decide +kernel]
    · have e2 : ∀ A B : va_E, oF E A B (fw E (mZ E) 247) i = oF E A (fw E (mZ E) 70) (fw E (mZ E) 247) i := fun A B => by unfold oF; simp only [e1, if_false]
      rw [← e2 _ _]
      exact h
  refine gb_aload_n (i := 0) C dX3_init_81 rfl 1 rfl ?_
  refine gb_iconst (v := 2) C dX3_init_82 (by decide) ?_
  refine gb_newq (v := 2) (N := 2) C hAO wk_2_125 (by decide) (by decide) (Nat.le_of_ble_eq_true rfl) (by omega) (Or.inl (by omega)) ⟨(Nat.le_of_ble_eq_true rfl), (Nat.le_of_ble_eq_true rfl)⟩ dX3_init_83 ?_
  refine gb_F (F' := oF E (.inr (5, [.ref (eB E + 1), .ref (eB E + 23), .ref (eB E + 45), .ref (eB E + 69), .ref (eB E + 70), .int 0, .null, .null, .null])) (fw E (mZ E) 70) (.inl (eC E 4, 2, .inr (.inr (.inr (.inr (fun _ => none))))))) (fun i _ => (congrFun oF_247 i).symm) ?_
  refine gb_k (k' := 247) (sl' := 7319) rfl rfl ?_
  refine gb_putF (ci := 5) (ty := .array (.object "WaterExchange$State")) C hnm inG_X3 tyX3 tyX3_ok nmX3 0 (by omega) rfl rfl rfl 6 (by decide) wk_3_67 rfl rfl (by decide +kernel) rfl rfl (Nat.le_of_ble_eq_true rfl) dX3_init_86 ?_
  refine gb_F (F' := oF E (.inr (5, [.ref (eB E + 1), .ref (eB E + 23), .ref (eB E + 45), .ref (eB E + 69), .ref (eB E + 70), .int 0, .ref (eB E + 247), .null, .null])) (fw E (mZ E) 70) (.inl (eC E 4, 2, .inr (.inr (.inr (.inr (fun _ => none))))))) (fun i _ => (congrFun oF_put i).symm) ?_
  refine gb_iconst (v := 0) C dX3_init_89 (by decide) ?_
  refine gb_istore_n (i := 1) (lv' := [(1, .int 0), (0, .ref (eB E))]) C dX3_init_90 rfl (by decide) rfl ?_
  refine gb_iload_n (i := 1) C dX3_init_91 rfl 0 rfl ?_
  refine gb_iconst (v := 2) C dX3_init_92 (by decide) ?_
  refine gb_icmp_ge_f (tgt := 115) C dX3_init_93 (by decide) (by decide) ?_
  refine gb_aload_n (i := 0) C dX3_init_96 rfl 1 rfl ?_
  refine gb_get (ci := 5) C inG_X3 0 (by omega) rfl rfl rfl 6 (by decide) wk_3_67 rfl dX3_init_97 ?_
  refine gb_iload_n (i := 1) C dX3_init_100 rfl 0 rfl ?_
  refine gb_new (ci := 3) (fs := [.null, .null, .null, .int 0, .null, .null, .null, .null, .null, .null, .null, .null, .null, .null, .int 0, .int 0, .int 0, .int 0, .int 0]) C inG_X1 tyX1 tyX1_ok wk_2_125 wk_2_17 wk_1_4 rfl df_X1 (by omega) (Or.inl (by omega)) ⟨(Nat.le_of_ble_eq_true rfl), (Nat.le_of_ble_eq_true rfl)⟩ dX3_init_101 ?_
  refine gb_dup C dX3_init_104 ?_
  refine gb_ctor (F' := oF E (.inr (5, [.ref (eB E + 1), .ref (eB E + 23), .ref (eB E + 45), .ref (eB E + 69), .ref (eB E + 70), .int 0, .ref (eB E + 247), .null, .null])) (fw E (mZ E) 70) (.inl (eC E 4, 2, .inr (.inr (.inr (.inr (fun _ => none))))))) (i := 248) (nb := 1) (n' := 22) (a := eB E + 248) (b := eB E + 248) (As := []) (rest := [.ref (eB E + 248), .int 0, .ref (eB E + 247)]) (rm := rmS) C hAO hU (Nat.le_refl _) rfl (by decide) (c_X1_init hU (i0 := 248) rfl (by decide) (by decide +kernel)) wk_2_126 wk_2_127 wk_1_4 wk_2_128 rfl (by decide +kernel) (by omega) bu_one (bu_old (fun _ _ => rfl)) (fun j hj => oF_mk (by omega)) ⟨(Nat.le_of_ble_eq_true rfl), (Nat.le_of_ble_eq_true rfl)⟩ (Nat.le_of_ble_eq_true rfl) ⟨(Nat.le_of_ble_eq_true rfl), (Nat.le_of_ble_eq_true rfl)⟩ dX3_init_105 rfl ?_
  refine gb_k (k' := 269) (sl' := 7900) rfl rfl ?_
  refine gb_aast C 247 248 (by decide) (by decide) rfl rfl rfl ((oF_mk (by decide)).trans (fw_s (q := 248) (by unfold NS; decide) (by decide +kernel) (by decide +kernel))) (vp_in_nI (n := 0) (N := 2) (by decide) (by decide)) dX3_init_108 ?_
  refine gb_F (F' := oF E (.inr (5, [.ref (eB E + 1), .ref (eB E + 23), .ref (eB E + 45), .ref (eB E + 69), .ref (eB E + 70), .int 0, .ref (eB E + 247), .null, .null])) (fw E (mZ E) 70) (.inl (eC E 4, 2, .inr (.inr (.inr (.inr (va_up (fun _ => none) (Int32.toNatClampNeg 0) (some (eB E + 248))))))))) (fun i _ => (congrFun oF_247 i).symm) ?_
  refine gb_iinc (q := 0) (v := 1) (lv' := [(1, .int 1), (0, .ref (eB E))]) C dX3_init_109 rfl (by decide) (by decide) rfl ?_
  refine gb_goto (tgt := 91) C dX3_init_112 (by decide) ?_
  refine gb_iload_n (i := 1) C dX3_init_91 rfl 0 rfl ?_
  refine gb_iconst (v := 2) C dX3_init_92 (by decide) ?_
  refine gb_icmp_ge_f (tgt := 115) C dX3_init_93 (by decide) (by decide) ?_
  refine gb_aload_n (i := 0) C dX3_init_96 rfl 1 rfl ?_
  refine gb_get (ci := 5) C inG_X3 0 (by omega) rfl rfl rfl 6 (by decide) wk_3_67 rfl dX3_init_97 ?_
  refine gb_iload_n (i := 1) C dX3_init_100 rfl 0 rfl ?_
  refine gb_new (ci := 3) (fs := [.null, .null, .null, .int 0, .null, .null, .null, .null, .null, .null, .null, .null, .null, .null, .int 0, .int 0, .int 0, .int 0, .int 0]) C inG_X1 tyX1 tyX1_ok wk_2_125 wk_2_17 wk_1_4 rfl df_X1 (by omega) (Or.inl (by omega)) ⟨(Nat.le_of_ble_eq_true rfl), (Nat.le_of_ble_eq_true rfl)⟩ dX3_init_101 ?_
  refine gb_dup C dX3_init_104 ?_
  refine gb_ctor (F' := oF E (.inr (5, [.ref (eB E + 1), .ref (eB E + 23), .ref (eB E + 45), .ref (eB E + 69), .ref (eB E + 70), .int 0, .ref (eB E + 247), .null, .null])) (fw E (mZ E) 70) (.inl (eC E 4, 2, .inr (.inr (.inr (.inr (va_up (fun _ => none) (Int32.toNatClampNeg 0) (some (eB E + 248))))))))) (i := 270) (nb := 1) (n' := 22) (a := eB E + 270) (b := eB E + 270) (As := []) (rest := [.ref (eB E + 270), .int 1, .ref (eB E + 247)]) (rm := rmS) C hAO hU (Nat.le_refl _) rfl (by decide) (c_X1_init hU (i0 := 270) rfl (by decide) (by decide +kernel)) wk_2_126 wk_2_127 wk_1_4 wk_2_128 rfl (by decide +kernel) (by omega) bu_one (bu_old (fun _ _ => rfl)) (fun j hj => oF_mk (by omega)) ⟨(Nat.le_of_ble_eq_true rfl), (Nat.le_of_ble_eq_true rfl)⟩ (Nat.le_of_ble_eq_true rfl) ⟨(Nat.le_of_ble_eq_true rfl), (Nat.le_of_ble_eq_true rfl)⟩ dX3_init_105 rfl ?_
  refine gb_k (k' := 291) (sl' := 8481) rfl rfl ?_
  refine gb_aast C 247 270 (by decide) (by decide) rfl rfl rfl ((oF_mk (by decide)).trans (fw_s (q := 270) (by unfold NS; decide) (by decide +kernel) (by decide +kernel))) (vp_in_nI (n := 1) (N := 2) (by decide) (by decide)) dX3_init_108 ?_
  refine gb_F (F' := oF E (.inr (5, [.ref (eB E + 1), .ref (eB E + 23), .ref (eB E + 45), .ref (eB E + 69), .ref (eB E + 70), .int 0, .ref (eB E + 247), .null, .null])) (fw E (mZ E) 70) (.inl (eC E 4, 2, .inr (.inr (.inr (.inr (va_up (va_up (fun _ => none) (Int32.toNatClampNeg 0) (some (eB E + 248))) (Int32.toNatClampNeg 1) (some (eB E + 270))))))))) (fun i _ => (congrFun oF_247 i).symm) ?_
  refine gb_iinc (q := 0) (v := 2) (lv' := [(1, .int 2), (0, .ref (eB E))]) C dX3_init_109 rfl (by decide) (by decide) rfl ?_
  refine gb_goto (tgt := 91) C dX3_init_112 (by decide) ?_
  refine gb_iload_n (i := 1) C dX3_init_91 rfl 0 rfl ?_
  refine gb_iconst (v := 2) C dX3_init_92 (by decide) ?_
  refine gb_icmp_ge_t (tgt := 115) C dX3_init_93 (by decide) (by decide) ?_
  refine gb_at (F' := oF E (.inr (5, [.ref (eB E + 1), .ref (eB E + 23), .ref (eB E + 45), .ref (eB E + 69), .ref (eB E + 70), .int 0, .ref (eB E + 247), .null, .null])) (fw E (mZ E) 70) (fw E (mZ E) 247)) (fun i H _ h => ?_) ?_
  · by_cases e1 : i = 247
    · subst e1
      show va_at E.1 vwCl (eB E + 247, fw E (mZ E) 247) H
      rw [fw_247]
      refine at_q (fun j hj => ?_) h
      rcases (show j = 0 ∨ j = 1 by omega) with rfl | rfl
      · show some (eB E + 248) = some (eB E + (zI 247 0).toNatClampNeg)
        rw [show (zI 247 0).toNatClampNeg = 248 by decide +kernel]
      · show some (eB E + 270) = some (eB E + (zI 247 1).toNatClampNeg)
        rw [show (zI 247 1).toNatClampNeg = 270 by decide +kernel]
    · have e2 : ∀ A B : va_E, oF E A (fw E (mZ E) 70) B i = oF E A (fw E (mZ E) 70) (fw E (mZ E) 247) i := fun A B => by unfold oF; simp only [e1, if_false]
      rw [← e2 _ _]
      exact h
  refine gb_aload_n (i := 0) C dX3_init_115 rfl 1 rfl ?_
  refine gb_iconst (v := 2) C dX3_init_116 (by decide) ?_
  refine gb_newa (atype := .boolean) (ty := .boolean) (a0 := (2, .inl (fun _ => 0))) (v := 2) (N := 2) C wk_3_56 rfl 3 rfl (fun _ _ h => ra_z h) (fun _ => rfl) (by decide) (by decide) (Nat.le_of_ble_eq_true rfl) (by omega) (Or.inl (by omega)) ⟨(Nat.le_of_ble_eq_true rfl), (Nat.le_of_ble_eq_true rfl)⟩ dX3_init_117 ?_
  refine gb_F (F' := oF E (.inr (5, [.ref (eB E + 1), .ref (eB E + 23), .ref (eB E + 45), .ref (eB E + 69), .ref (eB E + 70), .int 0, .ref (eB E + 247), .null, .null])) (fw E (mZ E) 70) (fw E (mZ E) 247)) (oF_push (by decide) (fw_z (q := 292) (by unfold NS; decide) (by decide +kernel) (by decide +kernel) (by decide +kernel))) ?_
  refine gb_k (k' := 292) (sl' := 8483) rfl rfl ?_
  refine gb_putF (ci := 5) (ty := .array .boolean) C hnm inG_X3 tyX3 tyX3_ok nmX3 0 (by omega) rfl rfl rfl 7 (by decide) wk_3_68 rfl rfl (by decide +kernel) rfl rfl (Nat.le_of_ble_eq_true rfl) dX3_init_119 ?_
  refine gb_F (F' := oF E (.inr (5, [.ref (eB E + 1), .ref (eB E + 23), .ref (eB E + 45), .ref (eB E + 69), .ref (eB E + 70), .int 0, .ref (eB E + 247), .ref (eB E + 292), .null])) (fw E (mZ E) 70) (fw E (mZ E) 247)) (fun i _ => (congrFun oF_put i).symm) ?_
  refine gb_aload_n (i := 0) C dX3_init_122 rfl 1 rfl ?_
  refine gb_new (ci := 1) (fs := [.null, .int 0, .int 0, .int 0]) C inG_J4 tyJ4 tyJ4_ok wk_3_25 wk_3_26 wk_1_8 rfl (fun j hj => by rcases (show j = 0 ∨ j = 1 ∨ j = 2 ∨ j = 3 by omega) with rfl | rfl | rfl | rfl <;> rfl) (by omega) (Or.inl (by omega)) ⟨(Nat.le_of_ble_eq_true rfl), (Nat.le_of_ble_eq_true rfl)⟩ dX3_init_123 ?_
  refine gb_dup C dX3_init_126 ?_
  refine gb_ctor (F' := oF E (.inr (5, [.ref (eB E + 1), .ref (eB E + 23), .ref (eB E + 45), .ref (eB E + 69), .ref (eB E + 70), .int 0, .ref (eB E + 247), .ref (eB E + 292), .null])) (fw E (mZ E) 70) (fw E (mZ E) 247)) (i := 293) (nb := 1) (n' := 2) (a := eB E + 293) (b := eB E + 293) (As := []) (rest := [.ref (eB E + 293), .ref (eB E)]) (rm := rmJ4) C hAO hU (Nat.le_refl _) rfl (by decide) (c_J4_init hU rfl) wk_3_27 wk_3_28 wk_1_8 wk_3_29 rfl (by decide +kernel) (by omega) bu_one (bu_old (fun _ _ => rfl)) (fun j hj => oF_mk (by omega)) ⟨(Nat.le_of_ble_eq_true rfl), (Nat.le_of_ble_eq_true rfl)⟩ (Nat.le_of_ble_eq_true rfl) ⟨(Nat.le_of_ble_eq_true rfl), (Nat.le_of_ble_eq_true rfl)⟩ dX3_init_127 rfl ?_
  refine gb_k (k' := 294) (sl' := 8503) rfl rfl ?_
  refine gb_putF (ci := 5) (ty := .object "java/lang/StringBuilder") C hnm inG_X3 tyX3 tyX3_ok nmX3 0 (by omega) rfl rfl rfl 8 (by decide) wk_3_69 rfl rfl (by decide +kernel) rfl rfl (Nat.le_of_ble_eq_true rfl) dX3_init_130 ?_
  refine gb_F (F' := oF E (.inr (5, [.ref (eB E + 1), .ref (eB E + 23), .ref (eB E + 45), .ref (eB E + 69), .ref (eB E + 70), .int 0, .ref (eB E + 247), .ref (eB E + 292), .ref (eB E + 293)])) (fw E (mZ E) 70) (fw E (mZ E) 247)) (fun i _ => (congrFun oF_put i).symm) ?_
  refine gb_aload_n (i := 0) C dX3_init_133 rfl 1 rfl ?_
  refine gb_get (ci := 5) C inG_X3 0 (by omega) rfl rfl rfl 0 (by decide) wk_3_61 rfl dX3_init_134 ?_
  refine gb_gq (n := 295) (μ := mZ E) (fun i hi => ?_) (by decide) hU ?_
  · by_cases e0 : i = 0
    · subst e0
      exact fw_0
    · by_cases e1 : i = 70
      · subst e1
        rfl
      · by_cases e2 : i = 247
        · subst e2
          rfl
        · exact (oF_mk ⟨e0, e1, e2⟩).symm
  refine gq_V (As := []) (rest := []) (j := 1) C.wN (c_X1_makeEmpty (E := wN E 295) (Nat.le_refl 295) (t := 1) kd1 hme) (show 1 < 295 by decide) (by decide) (by decide) rfl wk_3_57 wk_3_58 wk_3_59 wk_1_4 wk_3_60 hd_X1_makeEmpty ⟨(Nat.le_of_ble_eq_true rfl), (Nat.le_of_ble_eq_true rfl)⟩ (Nat.le_of_ble_eq_true rfl) ⟨(Nat.le_of_ble_eq_true rfl), (Nat.le_of_ble_eq_true rfl)⟩ dX3_init_137 rfl rfl ?_
  exact gq_gb (Nat.le_refl 295) hU (gb_vret C hr dX3_init_140 (Nat.le_of_ble_eq_true rfl) (Nat.le_of_ble_eq_true rfl))
