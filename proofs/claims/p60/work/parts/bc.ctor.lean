/-! ===== the constructors: the first memory ===== -/
def stC : List Int32 := [0, 3, 0, 0, 0, 2, 0, 0, 10, 0, 0, 0, 6, 0, 6, 0, 8, 0, 5, 0, 4, 0]
def qCl : List Int32 := [0] ++ (stC ++ (stC ++ ([0, 0] ++ (stC ++ ([0, 0] ++ (stC ++ (stC ++ (stC ++ (stC ++ (stC ++ (stC ++ (stC ++ (stC ++ ([0] ++ (stC ++ stC)))))))))))))))
def zI (a k : Nat) : Int32 := if a = 70 then nI (71 + 22 * k) else if a = 247 then nI (248 + 22 * k) else if a = 45 then (if k = 3 then -1 else 0) else if k = 0 then qCl.getD a 0 else 0
def mZ (E : Ev) : Mm := (zI, (fun _ _ => 0, (0, (0, fun _ => 0))))
def fw (E : Ev) (μ : Mm) (i : Nat) : va_E := cn E μ i
def NS (q : Nat) : Prop := q ≠ 70 ∧ (q ≠ 247 ∧ (q ≠ 45 ∧ (q ≠ 295 ∧ q ≠ 294)))
theorem st_fa : ∀ i, i < 295 → kd i = 1 → ∀ j, j < 22 → (kd (i + j), ln (i + j)) = qStL.getD j (99, 0) := by decide +kernel
theorem st_fb : ∀ i, i < 295 → kd i = 1 → ∀ j, j < 22 → qCl.getD (i + j) 0 = stC.getD j 0 := by decide +kernel
theorem st_fc : ∀ i, i < 295 → kd i = 1 → ∀ j, j < 22 → i + j ≠ 70 ∧ i + j ≠ 247 := by decide +kernel
theorem st_fd : ∀ i, i < 295 → kd i = 1 → ∀ j, j < 22 → i + j ≠ 45 ∧ (i + j ≠ 295 ∧ i + j ≠ 294) := by decide +kernel
theorem st_f (i : Nat) (hi : i < 295) (hk : kd i = 1) (j : Nat) (hj : j < 22) : kd (i + j) = (qStL.getD j (99, 0)).1 ∧ (ln (i + j) = (qStL.getD j (99, 0)).2 ∧ (qCl.getD (i + j) 0 = stC.getD j 0 ∧ NS (i + j))) := ⟨congrArg Prod.fst (st_fa i hi hk j hj), congrArg Prod.snd (st_fa i hi hk j hj), st_fb i hi hk j hj, (st_fc i hi hk j hj).1, (st_fc i hi hk j hj).2, st_fd i hi hk j hj⟩
section CTF
variable {E : Ev} {q N : Nat} {cI : Int32}
theorem zI_n (h : NS q) : zI q = fun k => if k = 0 then qCl.getD q 0 else 0 := by
  funext k
  unfold zI
  rw [if_neg h.1, if_neg h.2.1, if_neg h.2.2.1]
theorem zI_0 (h : NS q) (hc : qCl.getD q 0 = 0) : zI q = fun _ => 0 := by
  rw [zI_n h, hc]
  funext k
  split <;> rfl
theorem fw_n {μ : Mm} (_ : q ≠ 294) : fw E μ q = cn E μ q := rfl
theorem fw_t (h : NS q) (hk : kd q = 2) (hc : qCl.getD q 0 = cI) : fw E (mZ E) q = .inr (4, [.int cI, .ref (eB E + (q + 1)), .int 0]) := by
  rw [fw_n h.2.2.2.2, cn_2 hk]
  show (Sum.inr (4, [.int (zI q 0), .ref (eB E + (q + 1)), .int (zI q 2)]) : va_E) = _
  rw [zI_n h, hc]
  rfl
theorem fw_i (h : NS q) (hk : kd q = 6) (hl : ln q = N) (hc : qCl.getD q 0 = 0) : fw E (mZ E) q = .inl (eC E 1, N, .inl (fun _ => 0)) := by
  rw [fw_n h.2.2.2.2, cn_6 hk, hl]
  show (Sum.inl (eC E 1, N, Sum.inl (zI q)) : va_E) = _
  rw [zI_0 h hc]
theorem fw_b (h : NS q) (hk : kd q = 8) (hl : ln q = N) (hc : qCl.getD q 0 = 0) : fw E (mZ E) q = .inl (eC E 0, N, .inl (fun _ => 0)) := by
  rw [fw_n h.2.2.2.2, cn_8 hk, hl]
  show (Sum.inl (eC E 0, N, Sum.inl (zI q)) : va_E) = _
  rw [zI_0 h hc]
theorem fw_z (h : NS q) (hk : kd q = 9) (hl : ln q = N) (hc : qCl.getD q 0 = 0) : fw E (mZ E) q = .inl (eC E 3, N, .inl (fun _ => 0)) := by
  rw [fw_n h.2.2.2.2, cn_9 hk, hl]
  show (Sum.inl (eC E 3, N, Sum.inl (zI q)) : va_E) = _
  rw [zI_0 h hc]
theorem fw_l (h : NS q) (hk : kd q = 7) (hl : ln q = N) : fw E (mZ E) q = .inl (eC E 2, N, .inr (.inl (fun _ => 0))) := by
  rw [fw_n h.2.2.2.2, cn_7 hk, hl]
  rfl
theorem fw_s (h : NS q) (hk : kd q = 1) (hc : qCl.getD q 0 = 0) : fw E (mZ E) q = .inr (3, [.ref (eB E + (q + 1)), .ref (eB E + (q + 3)), .ref (eB E + (q + 4)), .int 0, .ref (eB E + (q + 5)), .ref (eB E + (q + 7)), .ref (eB E + (q + 8)), .ref (eB E + (q + 10)), .ref (eB E + (q + 11)), .ref (eB E + (q + 12)), .ref (eB E + (q + 14)), .ref (eB E + (q + 16)), .ref (eB E + (q + 18)), .ref (eB E + (q + 20)), .int 0, .int 0, .int 0, .int 0, .int 0]) := by
  rw [fw_n h.2.2.2.2, cn_1 hk]
  show (Sum.inr (3, [.ref (eB E + (q + 1)), .ref (eB E + (q + 3)), .ref (eB E + (q + 4)), .int (zI q 3), .ref (eB E + (q + 5)), .ref (eB E + (q + 7)), .ref (eB E + (q + 8)), .ref (eB E + (q + 10)), .ref (eB E + (q + 11)), .ref (eB E + (q + 12)), .ref (eB E + (q + 14)), .ref (eB E + (q + 16)), .ref (eB E + (q + 18)), .ref (eB E + (q + 20)), .int (zI q 14), .int (zI q 15), .int (zI q 16), .int (zI q 17), .int (zI q 18)]) : va_E) = _
  rw [zI_0 h hc]
def sF (E : Ev) (i0 : Nat) (o : va_E) : Nat → va_E := fun j => if j = 0 then o else fw E (mZ E) (i0 + j)
theorem sF_put {i0 : Nat} {o o' : va_E} : bu (sF E i0 o) 0 o' = sF E i0 o' := by
  funext j
  unfold bu sF
  by_cases e : j = 0
  · rw [if_pos e, if_pos e]
  · rw [if_neg e, if_neg e, if_neg e]
theorem sF_push {i0 n : Nat} {o x : va_E} (hn : n ≠ 0) (h : fw E (mZ E) (i0 + n) = x) : ∀ i, i < n + 1 → sF E i0 o i = bu (sF E i0 o) n x i := fun i _ => by
  by_cases e : i = n
  · subst e
    rw [bu_eq]
    exact (if_neg hn).trans h
  · rw [bu_ne e]
theorem sF_mk {i0 n : Nat} {o : va_E} (hn : n ≠ 0) (j : Nat) : sF E i0 o (n + j) = fw E (mZ E) (i0 + n + j) := by
  unfold sF
  rw [if_neg (by omega), Nat.add_assoc]
end CTF
theorem bu_one {F : Nat → va_E} {n : Nat} {x : va_E} : ∀ j, j < 1 → bu F n x (n + j) = x := fun j hj => by
  obtain rfl : j = 0 := by omega
  exact bu_eq
theorem bu_old {F F' : Nat → va_E} {n : Nat} {x : va_E} (h : ∀ j, j < n → F' j = F j) : ∀ j, j < n → F' j = bu F n x j := fun j hj => by
  rw [bu_ne (by omega)]
  exact h j hj
section CTG
variable {E : Ev} {p : Program} {l : Launch} {e : Env} {R : Room} {s : State} {m : MethodId} {args : Array Value} {below : List Frame} {meth : Method} {c : Code} {k k' sl sl' nL : Nat} {Q : State → Prop} {pc : Nat} {lv : List (Nat × Value)} {st : List Value} {B n : Nat} {F : Nat → va_E}
theorem gb_k (h1 : k = k') (h2 : sl = sl') (kk : Gb E B n F p l e R s m args below meth c k' sl' nL Q pc lv st) : Gb E B n F p l e R s m args below meth c k sl nL Q pc lv st := by
  subst h1
  subst h2
  exact kk
end CTG
theorem wk_1_56 : Cond.instanceMethod ({ cls := "java/lang/Object", name := "<init>", desc := "()V" } : MethodName) ∈ GW := gw_1 (List.mem_of_getElem? (i := 56) rfl) rfl
theorem wk_1_57 : Cond.code ({ cls := "java/lang/Object", name := "<init>", desc := "()V" } : MethodName) object_method_1_code (1 : Nat) (Option.none : Option Jvm.ClassFile.FieldType) ∈ GW := gw_1 (List.mem_of_getElem? (i := 57) rfl) rfl
theorem wk_2_127 : Cond.instanceMethod ({ cls := "WaterExchange$State", name := "<init>", desc := "()V" } : MethodName) ∈ GW := gw_2 (List.mem_of_getElem? (i := 127) rfl) rfl
theorem wk_2_128 : Cond.code ({ cls := "WaterExchange$State", name := "<init>", desc := "()V" } : MethodName) prog_3_method_1_code (2 : Nat) (Option.none : Option Jvm.ClassFile.FieldType) ∈ GW := gw_2 (List.mem_of_getElem? (i := 128) rfl) rfl
theorem wk_2_129 : Cond.methodLink "WaterExchange$State" (3 : Nat) ({ cls := "java/lang/Object", name := "<init>", desc := "()V" } : MethodName) ∈ GW := gw_2 (List.mem_of_getElem? (i := 129) rfl) rfl
theorem wk_2_130 : Cond.classLink "WaterExchange$State" (9 : Nat) "WaterExchange$Table" ∈ GW := gw_2 (List.mem_of_getElem? (i := 130) rfl) rfl
theorem wk_2_131 : Cond.instantiable "WaterExchange$Table" (3 : Nat) ∈ GW := gw_2 (List.mem_of_getElem? (i := 131) rfl) rfl
theorem wk_2_132 : Cond.methodLink "WaterExchange$State" (11 : Nat) ({ cls := "WaterExchange$Table", name := "<init>", desc := "(II)V" } : MethodName) ∈ GW := gw_2 (List.mem_of_getElem? (i := 132) rfl) rfl
theorem wk_2_133 : Cond.instanceMethod ({ cls := "WaterExchange$Table", name := "<init>", desc := "(II)V" } : MethodName) ∈ GW := gw_2 (List.mem_of_getElem? (i := 133) rfl) rfl
theorem wk_2_134 : Cond.code ({ cls := "WaterExchange$Table", name := "<init>", desc := "(II)V" } : MethodName) prog_4_method_1_code (3 : Nat) (Option.none : Option Jvm.ClassFile.FieldType) ∈ GW := gw_2 (List.mem_of_getElem? (i := 134) rfl) rfl
theorem wk_2_135 : Cond.methodLink "WaterExchange$Table" (3 : Nat) ({ cls := "java/lang/Object", name := "<init>", desc := "()V" } : MethodName) ∈ GW := gw_2 (List.mem_of_getElem? (i := 135) rfl) rfl
theorem wk_2_149 : Cond.arrayClass Jvm.ClassFile.FieldType.int ∈ GW := gw_2 (List.mem_of_getElem? (i := 149) rfl) rfl
theorem wk_2_17 : Cond.instantiable "WaterExchange$State" (19 : Nat) ∈ GW := gw_2 (List.mem_of_getElem? (i := 17) rfl) rfl
theorem wk_2_227 : Cond.arrayClass Jvm.ClassFile.FieldType.long ∈ GW := gw_2 (List.mem_of_getElem? (i := 227) rfl) rfl
theorem wk_2_233 : Cond.methodLink "WaterExchange$Reader" (3 : Nat) ({ cls := "java/lang/Object", name := "<init>", desc := "()V" } : MethodName) ∈ GW := gw_2 (List.mem_of_getElem? (i := 233) rfl) rfl
theorem wk_2_234 : Cond.classLink "WaterExchange$Reader" (15 : Nat) "WaterExchange$State" ∈ GW := gw_2 (List.mem_of_getElem? (i := 234) rfl) rfl
theorem wk_2_235 : Cond.methodLink "WaterExchange$Reader" (17 : Nat) ({ cls := "WaterExchange$State", name := "<init>", desc := "()V" } : MethodName) ∈ GW := gw_2 (List.mem_of_getElem? (i := 235) rfl) rfl
theorem wk_3_30 : Cond.methodLink "java/lang/StringBuilder" (1 : Nat) ({ cls := "java/lang/AbstractStringBuilder", name := "<init>", desc := "(I)V" } : MethodName) ∈ GW := gw_3 (List.mem_of_getElem? (i := 30) rfl) rfl
theorem wk_3_31 : Cond.instanceMethod ({ cls := "java/lang/AbstractStringBuilder", name := "<init>", desc := "(I)V" } : MethodName) ∈ GW := gw_3 (List.mem_of_getElem? (i := 31) rfl) rfl
theorem wk_3_32 : Cond.code ({ cls := "java/lang/AbstractStringBuilder", name := "<init>", desc := "(I)V" } : MethodName) prog_10_method_2_code (2 : Nat) (Option.none : Option Jvm.ClassFile.FieldType) ∈ GW := gw_3 (List.mem_of_getElem? (i := 32) rfl) rfl
theorem wk_3_33 : Cond.methodLink "java/lang/AbstractStringBuilder" (3 : Nat) ({ cls := "java/lang/Object", name := "<init>", desc := "()V" } : MethodName) ∈ GW := gw_3 (List.mem_of_getElem? (i := 33) rfl) rfl
abbrev rmT (N : Nat) : Room := { frames := 1, cells := 1, slots := N, locals := 12 }
set_option maxHeartbeats 4000000 in
set_option maxRecDepth 100000 in
theorem c_X2_init {l : Launch} {E : Ev} {a q N : Nat} {r cI : Int32} (hU : (eU E).1 = 0) (ha : a = eB E + q) (h : NS q) (h' : NS (q + 1)) (hk : kd q = 2) (hk1 : kd (q + 1) = 6) (hln : ln (q + 1) = N) (hc : qCl.getD q 0 = cI) (hc1 : qCl.getD (q + 1) 0 = 0) (hN : r * cI = nI N) (hN5 : N ≤ 5000) : Cb l E yX2_init (Cond.code yX2_init cX2_init 3 none :: GW) (rmT N) [.ref a, .int r, .int cI] a 1 (fun _ => .inr (4, [.int 0, .null, .int 0])) 2 (fun j => fw E (mZ E) (q + j)) := by
  refine cb_of (by decide) (Nat.le_of_ble_eq_true rfl) (fun p e s m args below meth c C hnm hAO hz hB hr => ?_)
  have C : Cq E p s m args meth c cX2_init 3 RX2 := C
  have hnm : meth.name = "<init>" := hnm
  refine gb_lv (lv' := [(0, .ref a), (1, .int r), (2, .int cI)]) rfl ?_
  refine gb_aload_n (i := 0) C dX2_init_0 rfl 0 rfl ?_
  refine gb_obj C wk_2_135 wk_1_56 wk_1_57 ⟨(Nat.le_of_ble_eq_true rfl), (Nat.le_of_ble_eq_true rfl)⟩ dX2_init_1 ?_
  refine gb_aload_n (i := 0) C dX2_init_4 rfl 0 rfl ?_
  refine gb_iload_n (i := 2) C dX2_init_5 rfl 2 rfl ?_
  refine gb_putF (ci := 4) (ty := .int) C hnm inG_X2 tyX2 tyX2_ok nmX2 0 (by omega) rfl rfl rfl 0 (by decide) wk_2_136 rfl rfl (by decide +kernel) rfl rfl (Nat.le_of_ble_eq_true rfl) dX2_init_6 ?_
  refine gb_aload_n (i := 0) C dX2_init_9 rfl 0 rfl ?_
  refine gb_iload_n (i := 1) C dX2_init_10 rfl 1 rfl ?_
  refine gb_iload_n (i := 2) C dX2_init_11 rfl 2 rfl ?_
  refine gb_imul (v := nI N) C hN dX2_init_12 ?_
  refine gb_newa (atype := .int) (ty := .int) (a0 := (N, .inl (fun _ => 0))) (v := nI N) (N := N) C wk_2_149 rfl 1 rfl (fun _ _ h => ra_i h) (fun _ => rfl) (nI_pos (by omega)) (nI_clamp (by omega)) (by show N * 4 ≤ 536870912; omega) (by omega) (Or.inl (by omega)) ⟨(Nat.le_of_ble_eq_true rfl), by show 0 + N ≤ N; omega⟩ dX2_init_13 ?_
  refine gb_putF (ci := 4) (ty := .array .int) C hnm inG_X2 tyX2 tyX2_ok nmX2 0 (by omega) rfl rfl rfl 1 (by decide) wk_2_137 rfl rfl (by decide +kernel) rfl rfl (Nat.le_of_ble_eq_true rfl) dX2_init_15 ?_
  refine gb_F (F' := fun j => fw E (mZ E) (q + j)) (fun i hi => ?_) (gb_vret C hr dX2_init_18 (Nat.le_of_ble_eq_true rfl) (by show 0 + N ≤ N; omega))
  rcases (show i = 0 ∨ i = 1 by omega) with rfl | rfl
  · refine (fw_t h hk hc).trans ?_
    rw [show eB E + (q + 1) = a + 1 by omega]
    rfl
  · exact fw_i h' hk1 hln hc1
abbrev rmS : Room := { frames := 2, cells := 21, slots := 562, locals := 40 }
def rawS : va_E := .inr (3, [.null, .null, .null, .int 0, .null, .null, .null, .null, .null, .null, .null, .null, .null, .null, .int 0, .int 0, .int 0, .int 0, .int 0])
set_option maxHeartbeats 4000000 in
set_option maxRecDepth 100000 in
theorem c_X1_init {l : Launch} {E : Ev} {a i0 : Nat} (hU : (eU E).1 = 0) (ha : a = eB E + i0) (hi : i0 < 295) (hk : kd i0 = 1) : Cb l E yX1_init (Cond.code yX1_init cX1_init 2 none :: GW) rmS [.ref a] a 1 (fun _ => rawS) 22 (fun j => fw E (mZ E) (i0 + j)) := by
  refine cb_of (by decide) (Nat.le_of_ble_eq_true rfl) (fun p e s m args below meth c C hnm hAO hz hB hr => ?_)
  have C : Cq E p s m args meth c cX1_init 2 RX1 := C
  have hnm : meth.name = "<init>" := hnm
  have f := st_f i0 hi hk
  refine gb_F (F' := sF E i0 rawS) (fun i hi => if_pos (by omega)) ?_
  refine gb_lv (lv' := [(0, .ref a)]) rfl ?_
  refine gb_aload_n (i := 0) C dX1_init_0 rfl 0 rfl ?_
  refine gb_obj C wk_2_129 wk_1_56 wk_1_57 ⟨(Nat.le_of_ble_eq_true rfl), (Nat.le_of_ble_eq_true rfl)⟩ dX1_init_1 ?_
  refine gb_bipush (v := 9) C dX1_init_4 (by decide) ?_
  refine gb_istore_n (i := 1) (lv' := [(1, .int 9), (0, .ref a)]) C dX1_init_6 rfl (by decide) rfl ?_
  refine gb_aload_n (i := 0) C dX1_init_7 rfl 1 rfl ?_
  refine gb_new (ci := 4) (fs := [.int 0, .null, .int 0]) C inG_X2 tyX2 tyX2_ok wk_2_130 wk_2_131 wk_1_5 rfl (fun j hj => by rcases (show j = 0 ∨ j = 1 ∨ j = 2 by omega) with rfl | rfl | rfl <;> rfl) (by omega) (Or.inl (by omega)) ⟨(Nat.le_of_ble_eq_true rfl), (Nat.le_of_ble_eq_true rfl)⟩ dX1_init_8 ?_
  refine gb_dup C dX1_init_11 ?_
  refine gb_bipush (v := 6) C dX1_init_12 (by decide) ?_
  refine gb_iconst (v := 3) C dX1_init_14 (by decide) ?_
  refine gb_ctor (F' := sF E i0 (.inr (3, [.null, .null, .null, .int 0, .null, .null, .null, .null, .null, .null, .null, .null, .null, .null, .int 0, .int 0, .int 0, .int 0, .int 0]))) (i := 1) (nb := 1) (n' := 2) (a := a + 1) (b := a + 1) (As := [.int 6, .int 3]) (rest := [.ref (a + 1), .ref a]) (rm := rmT 18) C hAO hU hB rfl (by decide) (c_X2_init hU (q := i0 + 1) (N := 18) (by omega) (f 1 (by decide)).2.2.2 (f 2 (by decide)).2.2.2 ((f 1 (by decide)).1.trans rfl) ((f 2 (by decide)).1.trans rfl) ((f 2 (by decide)).2.1.trans rfl) ((f 1 (by decide)).2.2.1.trans rfl) ((f 2 (by decide)).2.2.1.trans rfl) (by decide) (by decide)) wk_2_132 wk_2_133 wk_1_5 wk_2_134 rfl (by decide +kernel) (by omega) bu_one (bu_old (fun _ _ => rfl)) (fun j hj => sF_mk (by decide) j) ⟨(Nat.le_of_ble_eq_true rfl), (Nat.le_of_ble_eq_true rfl)⟩ (Nat.le_of_ble_eq_true rfl) ⟨(Nat.le_of_ble_eq_true rfl), (Nat.le_of_ble_eq_true rfl)⟩ dX1_init_15 rfl ?_
  refine gb_k (k' := 2) (sl' := 21) rfl rfl ?_
  refine gb_putF (ci := 3) (ty := .object "WaterExchange$Table") C hnm inG_X1 tyX1 tyX1_ok nmX1 0 (by omega) rfl rfl rfl 0 (by decide) wk_2_150 rfl rfl (by decide +kernel) rfl rfl (Nat.le_of_ble_eq_true rfl) dX1_init_18 ?_
  refine gb_F (F' := sF E i0 (.inr (3, [.ref (a + 1), .null, .null, .int 0, .null, .null, .null, .null, .null, .null, .null, .null, .null, .null, .int 0, .int 0, .int 0, .int 0, .int 0]))) (fun i _ => (congrFun sF_put i).symm) ?_
  refine gb_aload_n (i := 0) C dX1_init_21 rfl 1 rfl ?_
  refine gb_bipush (v := 12) C dX1_init_22 (by decide) ?_
  refine gb_newa (atype := .int) (ty := .int) (a0 := (12, .inl (fun _ => 0))) (v := 12) (N := 12) C wk_2_149 rfl 1 rfl (fun _ _ h => ra_i h) (fun _ => rfl) (by decide) (by decide) (Nat.le_of_ble_eq_true rfl) (by omega) (Or.inl (by omega)) ⟨(Nat.le_of_ble_eq_true rfl), (Nat.le_of_ble_eq_true rfl)⟩ dX1_init_24 ?_
  refine gb_F (F' := sF E i0 (.inr (3, [.ref (a + 1), .null, .null, .int 0, .null, .null, .null, .null, .null, .null, .null, .null, .null, .null, .int 0, .int 0, .int 0, .int 0, .int 0]))) (sF_push (by decide) (fw_i (f 3 (by decide)).2.2.2 ((f 3 (by decide)).1.trans rfl) ((f 3 (by decide)).2.1.trans rfl) ((f 3 (by decide)).2.2.1.trans rfl))) ?_
  refine gb_k (k' := 3) (sl' := 33) rfl rfl ?_
  refine gb_putF (ci := 3) (ty := .array .int) C hnm inG_X1 tyX1 tyX1_ok nmX1 0 (by omega) rfl rfl rfl 1 (by decide) wk_2_153 rfl rfl (by decide +kernel) rfl rfl (Nat.le_of_ble_eq_true rfl) dX1_init_26 ?_
  refine gb_F (F' := sF E i0 (.inr (3, [.ref (a + 1), .ref (a + 3), .null, .int 0, .null, .null, .null, .null, .null, .null, .null, .null, .null, .null, .int 0, .int 0, .int 0, .int 0, .int 0]))) (fun i _ => (congrFun sF_put i).symm) ?_
  refine gb_aload_n (i := 0) C dX1_init_29 rfl 1 rfl ?_
  refine gb_iconst (v := 5) C dX1_init_30 (by decide) ?_
  refine gb_newa (atype := .int) (ty := .int) (a0 := (5, .inl (fun _ => 0))) (v := 5) (N := 5) C wk_2_149 rfl 1 rfl (fun _ _ h => ra_i h) (fun _ => rfl) (by decide) (by decide) (Nat.le_of_ble_eq_true rfl) (by omega) (Or.inl (by omega)) ⟨(Nat.le_of_ble_eq_true rfl), (Nat.le_of_ble_eq_true rfl)⟩ dX1_init_31 ?_
  refine gb_F (F' := sF E i0 (.inr (3, [.ref (a + 1), .ref (a + 3), .null, .int 0, .null, .null, .null, .null, .null, .null, .null, .null, .null, .null, .int 0, .int 0, .int 0, .int 0, .int 0]))) (sF_push (by decide) (fw_i (f 4 (by decide)).2.2.2 ((f 4 (by decide)).1.trans rfl) ((f 4 (by decide)).2.1.trans rfl) ((f 4 (by decide)).2.2.1.trans rfl))) ?_
  refine gb_k (k' := 4) (sl' := 38) rfl rfl ?_
  refine gb_putF (ci := 3) (ty := .array .int) C hnm inG_X1 tyX1 tyX1_ok nmX1 0 (by omega) rfl rfl rfl 2 (by decide) wk_2_155 rfl rfl (by decide +kernel) rfl rfl (Nat.le_of_ble_eq_true rfl) dX1_init_33 ?_
  refine gb_F (F' := sF E i0 (.inr (3, [.ref (a + 1), .ref (a + 3), .ref (a + 4), .int 0, .null, .null, .null, .null, .null, .null, .null, .null, .null, .null, .int 0, .int 0, .int 0, .int 0, .int 0]))) (fun i _ => (congrFun sF_put i).symm) ?_
  refine gb_aload_n (i := 0) C dX1_init_36 rfl 1 rfl ?_
  refine gb_new (ci := 4) (fs := [.int 0, .null, .int 0]) C inG_X2 tyX2 tyX2_ok wk_2_130 wk_2_131 wk_1_5 rfl (fun j hj => by rcases (show j = 0 ∨ j = 1 ∨ j = 2 by omega) with rfl | rfl | rfl <;> rfl) (by omega) (Or.inl (by omega)) ⟨(Nat.le_of_ble_eq_true rfl), (Nat.le_of_ble_eq_true rfl)⟩ dX1_init_37 ?_
  refine gb_dup C dX1_init_40 ?_
  refine gb_iconst (v := 5) C dX1_init_41 (by decide) ?_
  refine gb_iconst (v := 2) C dX1_init_42 (by decide) ?_
  refine gb_ctor (F' := sF E i0 (.inr (3, [.ref (a + 1), .ref (a + 3), .ref (a + 4), .int 0, .null, .null, .null, .null, .null, .null, .null, .null, .null, .null, .int 0, .int 0, .int 0, .int 0, .int 0]))) (i := 5) (nb := 1) (n' := 2) (a := a + 5) (b := a + 5) (As := [.int 5, .int 2]) (rest := [.ref (a + 5), .ref a]) (rm := rmT 10) C hAO hU hB rfl (by decide) (c_X2_init hU (q := i0 + 5) (N := 10) (by omega) (f 5 (by decide)).2.2.2 (f 6 (by decide)).2.2.2 ((f 5 (by decide)).1.trans rfl) ((f 6 (by decide)).1.trans rfl) ((f 6 (by decide)).2.1.trans rfl) ((f 5 (by decide)).2.2.1.trans rfl) ((f 6 (by decide)).2.2.1.trans rfl) (by decide) (by decide)) wk_2_132 wk_2_133 wk_1_5 wk_2_134 rfl (by decide +kernel) (by omega) bu_one (bu_old (fun _ _ => rfl)) (fun j hj => sF_mk (by decide) j) ⟨(Nat.le_of_ble_eq_true rfl), (Nat.le_of_ble_eq_true rfl)⟩ (Nat.le_of_ble_eq_true rfl) ⟨(Nat.le_of_ble_eq_true rfl), (Nat.le_of_ble_eq_true rfl)⟩ dX1_init_43 rfl ?_
  refine gb_k (k' := 6) (sl' := 51) rfl rfl ?_
  refine gb_putF (ci := 3) (ty := .object "WaterExchange$Table") C hnm inG_X1 tyX1 tyX1_ok nmX1 0 (by omega) rfl rfl rfl 4 (by decide) wk_2_160 rfl rfl (by decide +kernel) rfl rfl (Nat.le_of_ble_eq_true rfl) dX1_init_46 ?_
  refine gb_F (F' := sF E i0 (.inr (3, [.ref (a + 1), .ref (a + 3), .ref (a + 4), .int 0, .ref (a + 5), .null, .null, .null, .null, .null, .null, .null, .null, .null, .int 0, .int 0, .int 0, .int 0, .int 0]))) (fun i _ => (congrFun sF_put i).symm) ?_
  refine gb_aload_n (i := 0) C dX1_init_49 rfl 1 rfl ?_
  refine gb_iconst (v := 5) C dX1_init_50 (by decide) ?_
  refine gb_newa (atype := .long) (ty := .long) (a0 := (5, .inr (.inl (fun _ => 0)))) (v := 5) (N := 5) C wk_2_227 rfl 2 rfl (fun _ _ h => ra_l h) (fun _ => rfl) (by decide) (by decide) (Nat.le_of_ble_eq_true rfl) (by omega) (Or.inl (by omega)) ⟨(Nat.le_of_ble_eq_true rfl), (Nat.le_of_ble_eq_true rfl)⟩ dX1_init_51 ?_
  refine gb_F (F' := sF E i0 (.inr (3, [.ref (a + 1), .ref (a + 3), .ref (a + 4), .int 0, .ref (a + 5), .null, .null, .null, .null, .null, .null, .null, .null, .null, .int 0, .int 0, .int 0, .int 0, .int 0]))) (sF_push (by decide) (fw_l (f 7 (by decide)).2.2.2 ((f 7 (by decide)).1.trans rfl) ((f 7 (by decide)).2.1.trans rfl))) ?_
  refine gb_k (k' := 7) (sl' := 56) rfl rfl ?_
  refine gb_putF (ci := 3) (ty := .array .long) C hnm inG_X1 tyX1 tyX1_ok nmX1 0 (by omega) rfl rfl rfl 5 (by decide) wk_2_163 rfl rfl (by decide +kernel) rfl rfl (Nat.le_of_ble_eq_true rfl) dX1_init_53 ?_
  refine gb_F (F' := sF E i0 (.inr (3, [.ref (a + 1), .ref (a + 3), .ref (a + 4), .int 0, .ref (a + 5), .ref (a + 7), .null, .null, .null, .null, .null, .null, .null, .null, .int 0, .int 0, .int 0, .int 0, .int 0]))) (fun i _ => (congrFun sF_put i).symm) ?_
  refine gb_aload_n (i := 0) C dX1_init_56 rfl 1 rfl ?_
  refine gb_new (ci := 4) (fs := [.int 0, .null, .int 0]) C inG_X2 tyX2 tyX2_ok wk_2_130 wk_2_131 wk_1_5 rfl (fun j hj => by rcases (show j = 0 ∨ j = 1 ∨ j = 2 by omega) with rfl | rfl | rfl <;> rfl) (by omega) (Or.inl (by omega)) ⟨(Nat.le_of_ble_eq_true rfl), (Nat.le_of_ble_eq_true rfl)⟩ dX1_init_57 ?_
  refine gb_dup C dX1_init_60 ?_
  refine gb_bipush (v := 10) C dX1_init_61 (by decide) ?_
  refine gb_bipush (v := 10) C dX1_init_63 (by decide) ?_
  refine gb_ctor (F' := sF E i0 (.inr (3, [.ref (a + 1), .ref (a + 3), .ref (a + 4), .int 0, .ref (a + 5), .ref (a + 7), .null, .null, .null, .null, .null, .null, .null, .null, .int 0, .int 0, .int 0, .int 0, .int 0]))) (i := 8) (nb := 1) (n' := 2) (a := a + 8) (b := a + 8) (As := [.int 10, .int 10]) (rest := [.ref (a + 8), .ref a]) (rm := rmT 100) C hAO hU hB rfl (by decide) (c_X2_init hU (q := i0 + 8) (N := 100) (by omega) (f 8 (by decide)).2.2.2 (f 9 (by decide)).2.2.2 ((f 8 (by decide)).1.trans rfl) ((f 9 (by decide)).1.trans rfl) ((f 9 (by decide)).2.1.trans rfl) ((f 8 (by decide)).2.2.1.trans rfl) ((f 9 (by decide)).2.2.1.trans rfl) (by decide) (by decide)) wk_2_132 wk_2_133 wk_1_5 wk_2_134 rfl (by decide +kernel) (by omega) bu_one (bu_old (fun _ _ => rfl)) (fun j hj => sF_mk (by decide) j) ⟨(Nat.le_of_ble_eq_true rfl), (Nat.le_of_ble_eq_true rfl)⟩ (Nat.le_of_ble_eq_true rfl) ⟨(Nat.le_of_ble_eq_true rfl), (Nat.le_of_ble_eq_true rfl)⟩ dX1_init_65 rfl ?_
  refine gb_k (k' := 9) (sl' := 159) rfl rfl ?_
  refine gb_putF (ci := 3) (ty := .object "WaterExchange$Table") C hnm inG_X1 tyX1 tyX1_ok nmX1 0 (by omega) rfl rfl rfl 6 (by decide) wk_2_164 rfl rfl (by decide +kernel) rfl rfl (Nat.le_of_ble_eq_true rfl) dX1_init_68 ?_
  refine gb_F (F' := sF E i0 (.inr (3, [.ref (a + 1), .ref (a + 3), .ref (a + 4), .int 0, .ref (a + 5), .ref (a + 7), .ref (a + 8), .null, .null, .null, .null, .null, .null, .null, .int 0, .int 0, .int 0, .int 0, .int 0]))) (fun i _ => (congrFun sF_put i).symm) ?_
  refine gb_aload_n (i := 0) C dX1_init_71 rfl 1 rfl ?_
  refine gb_bipush (v := 10) C dX1_init_72 (by decide) ?_
  refine gb_newa (atype := .int) (ty := .int) (a0 := (10, .inl (fun _ => 0))) (v := 10) (N := 10) C wk_2_149 rfl 1 rfl (fun _ _ h => ra_i h) (fun _ => rfl) (by decide) (by decide) (Nat.le_of_ble_eq_true rfl) (by omega) (Or.inl (by omega)) ⟨(Nat.le_of_ble_eq_true rfl), (Nat.le_of_ble_eq_true rfl)⟩ dX1_init_74 ?_
  refine gb_F (F' := sF E i0 (.inr (3, [.ref (a + 1), .ref (a + 3), .ref (a + 4), .int 0, .ref (a + 5), .ref (a + 7), .ref (a + 8), .null, .null, .null, .null, .null, .null, .null, .int 0, .int 0, .int 0, .int 0, .int 0]))) (sF_push (by decide) (fw_i (f 10 (by decide)).2.2.2 ((f 10 (by decide)).1.trans rfl) ((f 10 (by decide)).2.1.trans rfl) ((f 10 (by decide)).2.2.1.trans rfl))) ?_
  refine gb_k (k' := 10) (sl' := 169) rfl rfl ?_
  refine gb_putF (ci := 3) (ty := .array .int) C hnm inG_X1 tyX1 tyX1_ok nmX1 0 (by omega) rfl rfl rfl 7 (by decide) wk_2_167 rfl rfl (by decide +kernel) rfl rfl (Nat.le_of_ble_eq_true rfl) dX1_init_76 ?_
  refine gb_F (F' := sF E i0 (.inr (3, [.ref (a + 1), .ref (a + 3), .ref (a + 4), .int 0, .ref (a + 5), .ref (a + 7), .ref (a + 8), .ref (a + 10), .null, .null, .null, .null, .null, .null, .int 0, .int 0, .int 0, .int 0, .int 0]))) (fun i _ => (congrFun sF_put i).symm) ?_
  refine gb_aload_n (i := 0) C dX1_init_79 rfl 1 rfl ?_
  refine gb_bipush (v := 10) C dX1_init_80 (by decide) ?_
  refine gb_newa (atype := .long) (ty := .long) (a0 := (10, .inr (.inl (fun _ => 0)))) (v := 10) (N := 10) C wk_2_227 rfl 2 rfl (fun _ _ h => ra_l h) (fun _ => rfl) (by decide) (by decide) (Nat.le_of_ble_eq_true rfl) (by omega) (Or.inl (by omega)) ⟨(Nat.le_of_ble_eq_true rfl), (Nat.le_of_ble_eq_true rfl)⟩ dX1_init_82 ?_
  refine gb_F (F' := sF E i0 (.inr (3, [.ref (a + 1), .ref (a + 3), .ref (a + 4), .int 0, .ref (a + 5), .ref (a + 7), .ref (a + 8), .ref (a + 10), .null, .null, .null, .null, .null, .null, .int 0, .int 0, .int 0, .int 0, .int 0]))) (sF_push (by decide) (fw_l (f 11 (by decide)).2.2.2 ((f 11 (by decide)).1.trans rfl) ((f 11 (by decide)).2.1.trans rfl))) ?_
  refine gb_k (k' := 11) (sl' := 179) rfl rfl ?_
  refine gb_putF (ci := 3) (ty := .array .long) C hnm inG_X1 tyX1 tyX1_ok nmX1 0 (by omega) rfl rfl rfl 8 (by decide) wk_2_168 rfl rfl (by decide +kernel) rfl rfl (Nat.le_of_ble_eq_true rfl) dX1_init_84 ?_
  refine gb_F (F' := sF E i0 (.inr (3, [.ref (a + 1), .ref (a + 3), .ref (a + 4), .int 0, .ref (a + 5), .ref (a + 7), .ref (a + 8), .ref (a + 10), .ref (a + 11), .null, .null, .null, .null, .null, .int 0, .int 0, .int 0, .int 0, .int 0]))) (fun i _ => (congrFun sF_put i).symm) ?_
  refine gb_aload_n (i := 0) C dX1_init_87 rfl 1 rfl ?_
  refine gb_new (ci := 4) (fs := [.int 0, .null, .int 0]) C inG_X2 tyX2 tyX2_ok wk_2_130 wk_2_131 wk_1_5 rfl (fun j hj => by rcases (show j = 0 ∨ j = 1 ∨ j = 2 by omega) with rfl | rfl | rfl <;> rfl) (by omega) (Or.inl (by omega)) ⟨(Nat.le_of_ble_eq_true rfl), (Nat.le_of_ble_eq_true rfl)⟩ dX1_init_88 ?_
  refine gb_dup C dX1_init_91 ?_
  refine gb_iload_n (i := 1) C dX1_init_92 rfl 0 rfl ?_
  refine gb_bipush (v := 6) C dX1_init_93 (by decide) ?_
  refine gb_ctor (F' := sF E i0 (.inr (3, [.ref (a + 1), .ref (a + 3), .ref (a + 4), .int 0, .ref (a + 5), .ref (a + 7), .ref (a + 8), .ref (a + 10), .ref (a + 11), .null, .null, .null, .null, .null, .int 0, .int 0, .int 0, .int 0, .int 0]))) (i := 12) (nb := 1) (n' := 2) (a := a + 12) (b := a + 12) (As := [.int 9, .int 6]) (rest := [.ref (a + 12), .ref a]) (rm := rmT 54) C hAO hU hB rfl (by decide) (c_X2_init hU (q := i0 + 12) (N := 54) (by omega) (f 12 (by decide)).2.2.2 (f 13 (by decide)).2.2.2 ((f 12 (by decide)).1.trans rfl) ((f 13 (by decide)).1.trans rfl) ((f 13 (by decide)).2.1.trans rfl) ((f 12 (by decide)).2.2.1.trans rfl) ((f 13 (by decide)).2.2.1.trans rfl) (by decide) (by decide)) wk_2_132 wk_2_133 wk_1_5 wk_2_134 rfl (by decide +kernel) (by omega) bu_one (bu_old (fun _ _ => rfl)) (fun j hj => sF_mk (by decide) j) ⟨(Nat.le_of_ble_eq_true rfl), (Nat.le_of_ble_eq_true rfl)⟩ (Nat.le_of_ble_eq_true rfl) ⟨(Nat.le_of_ble_eq_true rfl), (Nat.le_of_ble_eq_true rfl)⟩ dX1_init_95 rfl ?_
  refine gb_k (k' := 13) (sl' := 236) rfl rfl ?_
  refine gb_putF (ci := 3) (ty := .object "WaterExchange$Table") C hnm inG_X1 tyX1 tyX1_ok nmX1 0 (by omega) rfl rfl rfl 9 (by decide) wk_2_169 rfl rfl (by decide +kernel) rfl rfl (Nat.le_of_ble_eq_true rfl) dX1_init_98 ?_
  refine gb_F (F' := sF E i0 (.inr (3, [.ref (a + 1), .ref (a + 3), .ref (a + 4), .int 0, .ref (a + 5), .ref (a + 7), .ref (a + 8), .ref (a + 10), .ref (a + 11), .ref (a + 12), .null, .null, .null, .null, .int 0, .int 0, .int 0, .int 0, .int 0]))) (fun i _ => (congrFun sF_put i).symm) ?_
  refine gb_aload_n (i := 0) C dX1_init_101 rfl 1 rfl ?_
  refine gb_new (ci := 4) (fs := [.int 0, .null, .int 0]) C inG_X2 tyX2 tyX2_ok wk_2_130 wk_2_131 wk_1_5 rfl (fun j hj => by rcases (show j = 0 ∨ j = 1 ∨ j = 2 by omega) with rfl | rfl | rfl <;> rfl) (by omega) (Or.inl (by omega)) ⟨(Nat.le_of_ble_eq_true rfl), (Nat.le_of_ble_eq_true rfl)⟩ dX1_init_102 ?_
  refine gb_dup C dX1_init_105 ?_
  refine gb_bipush (v := 6) C dX1_init_106 (by decide) ?_
  refine gb_bipush (v := 6) C dX1_init_108 (by decide) ?_
  refine gb_ctor (F' := sF E i0 (.inr (3, [.ref (a + 1), .ref (a + 3), .ref (a + 4), .int 0, .ref (a + 5), .ref (a + 7), .ref (a + 8), .ref (a + 10), .ref (a + 11), .ref (a + 12), .null, .null, .null, .null, .int 0, .int 0, .int 0, .int 0, .int 0]))) (i := 14) (nb := 1) (n' := 2) (a := a + 14) (b := a + 14) (As := [.int 6, .int 6]) (rest := [.ref (a + 14), .ref a]) (rm := rmT 36) C hAO hU hB rfl (by decide) (c_X2_init hU (q := i0 + 14) (N := 36) (by omega) (f 14 (by decide)).2.2.2 (f 15 (by decide)).2.2.2 ((f 14 (by decide)).1.trans rfl) ((f 15 (by decide)).1.trans rfl) ((f 15 (by decide)).2.1.trans rfl) ((f 14 (by decide)).2.2.1.trans rfl) ((f 15 (by decide)).2.2.1.trans rfl) (by decide) (by decide)) wk_2_132 wk_2_133 wk_1_5 wk_2_134 rfl (by decide +kernel) (by omega) bu_one (bu_old (fun _ _ => rfl)) (fun j hj => sF_mk (by decide) j) ⟨(Nat.le_of_ble_eq_true rfl), (Nat.le_of_ble_eq_true rfl)⟩ (Nat.le_of_ble_eq_true rfl) ⟨(Nat.le_of_ble_eq_true rfl), (Nat.le_of_ble_eq_true rfl)⟩ dX1_init_110 rfl ?_
  refine gb_k (k' := 15) (sl' := 275) rfl rfl ?_
  refine gb_putF (ci := 3) (ty := .object "WaterExchange$Table") C hnm inG_X1 tyX1 tyX1_ok nmX1 0 (by omega) rfl rfl rfl 10 (by decide) wk_2_172 rfl rfl (by decide +kernel) rfl rfl (Nat.le_of_ble_eq_true rfl) dX1_init_113 ?_
  refine gb_F (F' := sF E i0 (.inr (3, [.ref (a + 1), .ref (a + 3), .ref (a + 4), .int 0, .ref (a + 5), .ref (a + 7), .ref (a + 8), .ref (a + 10), .ref (a + 11), .ref (a + 12), .ref (a + 14), .null, .null, .null, .int 0, .int 0, .int 0, .int 0, .int 0]))) (fun i _ => (congrFun sF_put i).symm) ?_
  refine gb_aload_n (i := 0) C dX1_init_116 rfl 1 rfl ?_
  refine gb_new (ci := 4) (fs := [.int 0, .null, .int 0]) C inG_X2 tyX2 tyX2_ok wk_2_130 wk_2_131 wk_1_5 rfl (fun j hj => by rcases (show j = 0 ∨ j = 1 ∨ j = 2 by omega) with rfl | rfl | rfl <;> rfl) (by omega) (Or.inl (by omega)) ⟨(Nat.le_of_ble_eq_true rfl), (Nat.le_of_ble_eq_true rfl)⟩ dX1_init_117 ?_
  refine gb_dup C dX1_init_120 ?_
  refine gb_bipush (v := 10) C dX1_init_121 (by decide) ?_
  refine gb_iload_n (i := 1) C dX1_init_123 rfl 0 rfl ?_
  refine gb_iadd (v := 19) C (by decide) dX1_init_124 ?_
  refine gb_bipush (v := 8) C dX1_init_125 (by decide) ?_
  refine gb_ctor (F' := sF E i0 (.inr (3, [.ref (a + 1), .ref (a + 3), .ref (a + 4), .int 0, .ref (a + 5), .ref (a + 7), .ref (a + 8), .ref (a + 10), .ref (a + 11), .ref (a + 12), .ref (a + 14), .null, .null, .null, .int 0, .int 0, .int 0, .int 0, .int 0]))) (i := 16) (nb := 1) (n' := 2) (a := a + 16) (b := a + 16) (As := [.int 19, .int 8]) (rest := [.ref (a + 16), .ref a]) (rm := rmT 152) C hAO hU hB rfl (by decide) (c_X2_init hU (q := i0 + 16) (N := 152) (by omega) (f 16 (by decide)).2.2.2 (f 17 (by decide)).2.2.2 ((f 16 (by decide)).1.trans rfl) ((f 17 (by decide)).1.trans rfl) ((f 17 (by decide)).2.1.trans rfl) ((f 16 (by decide)).2.2.1.trans rfl) ((f 17 (by decide)).2.2.1.trans rfl) (by decide) (by decide)) wk_2_132 wk_2_133 wk_1_5 wk_2_134 rfl (by decide +kernel) (by omega) bu_one (bu_old (fun _ _ => rfl)) (fun j hj => sF_mk (by decide) j) ⟨(Nat.le_of_ble_eq_true rfl), (Nat.le_of_ble_eq_true rfl)⟩ (Nat.le_of_ble_eq_true rfl) ⟨(Nat.le_of_ble_eq_true rfl), (Nat.le_of_ble_eq_true rfl)⟩ dX1_init_127 rfl ?_
  refine gb_k (k' := 17) (sl' := 430) rfl rfl ?_
  refine gb_putF (ci := 3) (ty := .object "WaterExchange$Table") C hnm inG_X1 tyX1 tyX1_ok nmX1 0 (by omega) rfl rfl rfl 11 (by decide) wk_2_175 rfl rfl (by decide +kernel) rfl rfl (Nat.le_of_ble_eq_true rfl) dX1_init_130 ?_
  refine gb_F (F' := sF E i0 (.inr (3, [.ref (a + 1), .ref (a + 3), .ref (a + 4), .int 0, .ref (a + 5), .ref (a + 7), .ref (a + 8), .ref (a + 10), .ref (a + 11), .ref (a + 12), .ref (a + 14), .ref (a + 16), .null, .null, .int 0, .int 0, .int 0, .int 0, .int 0]))) (fun i _ => (congrFun sF_put i).symm) ?_
  refine gb_aload_n (i := 0) C dX1_init_133 rfl 1 rfl ?_
  refine gb_new (ci := 4) (fs := [.int 0, .null, .int 0]) C inG_X2 tyX2 tyX2_ok wk_2_130 wk_2_131 wk_1_5 rfl (fun j hj => by rcases (show j = 0 ∨ j = 1 ∨ j = 2 by omega) with rfl | rfl | rfl <;> rfl) (by omega) (Or.inl (by omega)) ⟨(Nat.le_of_ble_eq_true rfl), (Nat.le_of_ble_eq_true rfl)⟩ dX1_init_134 ?_
  refine gb_dup C dX1_init_137 ?_
  refine gb_bipush (v := 6) C dX1_init_138 (by decide) ?_
  refine gb_iconst (v := 5) C dX1_init_140 (by decide) ?_
  refine gb_ctor (F' := sF E i0 (.inr (3, [.ref (a + 1), .ref (a + 3), .ref (a + 4), .int 0, .ref (a + 5), .ref (a + 7), .ref (a + 8), .ref (a + 10), .ref (a + 11), .ref (a + 12), .ref (a + 14), .ref (a + 16), .null, .null, .int 0, .int 0, .int 0, .int 0, .int 0]))) (i := 18) (nb := 1) (n' := 2) (a := a + 18) (b := a + 18) (As := [.int 6, .int 5]) (rest := [.ref (a + 18), .ref a]) (rm := rmT 30) C hAO hU hB rfl (by decide) (c_X2_init hU (q := i0 + 18) (N := 30) (by omega) (f 18 (by decide)).2.2.2 (f 19 (by decide)).2.2.2 ((f 18 (by decide)).1.trans rfl) ((f 19 (by decide)).1.trans rfl) ((f 19 (by decide)).2.1.trans rfl) ((f 18 (by decide)).2.2.1.trans rfl) ((f 19 (by decide)).2.2.1.trans rfl) (by decide) (by decide)) wk_2_132 wk_2_133 wk_1_5 wk_2_134 rfl (by decide +kernel) (by omega) bu_one (bu_old (fun _ _ => rfl)) (fun j hj => sF_mk (by decide) j) ⟨(Nat.le_of_ble_eq_true rfl), (Nat.le_of_ble_eq_true rfl)⟩ (Nat.le_of_ble_eq_true rfl) ⟨(Nat.le_of_ble_eq_true rfl), (Nat.le_of_ble_eq_true rfl)⟩ dX1_init_141 rfl ?_
  refine gb_k (k' := 19) (sl' := 463) rfl rfl ?_
  refine gb_putF (ci := 3) (ty := .object "WaterExchange$Table") C hnm inG_X1 tyX1 tyX1_ok nmX1 0 (by omega) rfl rfl rfl 12 (by decide) wk_2_177 rfl rfl (by decide +kernel) rfl rfl (Nat.le_of_ble_eq_true rfl) dX1_init_144 ?_
  refine gb_F (F' := sF E i0 (.inr (3, [.ref (a + 1), .ref (a + 3), .ref (a + 4), .int 0, .ref (a + 5), .ref (a + 7), .ref (a + 8), .ref (a + 10), .ref (a + 11), .ref (a + 12), .ref (a + 14), .ref (a + 16), .ref (a + 18), .null, .int 0, .int 0, .int 0, .int 0, .int 0]))) (fun i _ => (congrFun sF_put i).symm) ?_
  refine gb_aload_n (i := 0) C dX1_init_147 rfl 1 rfl ?_
  refine gb_new (ci := 4) (fs := [.int 0, .null, .int 0]) C inG_X2 tyX2 tyX2_ok wk_2_130 wk_2_131 wk_1_5 rfl (fun j hj => by rcases (show j = 0 ∨ j = 1 ∨ j = 2 by omega) with rfl | rfl | rfl <;> rfl) (by omega) (Or.inl (by omega)) ⟨(Nat.le_of_ble_eq_true rfl), (Nat.le_of_ble_eq_true rfl)⟩ dX1_init_148 ?_
  refine gb_dup C dX1_init_151 ?_
  refine gb_bipush (v := 24) C dX1_init_152 (by decide) ?_
  refine gb_iconst (v := 4) C dX1_init_154 (by decide) ?_
  refine gb_ctor (F' := sF E i0 (.inr (3, [.ref (a + 1), .ref (a + 3), .ref (a + 4), .int 0, .ref (a + 5), .ref (a + 7), .ref (a + 8), .ref (a + 10), .ref (a + 11), .ref (a + 12), .ref (a + 14), .ref (a + 16), .ref (a + 18), .null, .int 0, .int 0, .int 0, .int 0, .int 0]))) (i := 20) (nb := 1) (n' := 2) (a := a + 20) (b := a + 20) (As := [.int 24, .int 4]) (rest := [.ref (a + 20), .ref a]) (rm := rmT 96) C hAO hU hB rfl (by decide) (c_X2_init hU (q := i0 + 20) (N := 96) (by omega) (f 20 (by decide)).2.2.2 (f 21 (by decide)).2.2.2 ((f 20 (by decide)).1.trans rfl) ((f 21 (by decide)).1.trans rfl) ((f 21 (by decide)).2.1.trans rfl) ((f 20 (by decide)).2.2.1.trans rfl) ((f 21 (by decide)).2.2.1.trans rfl) (by decide) (by decide)) wk_2_132 wk_2_133 wk_1_5 wk_2_134 rfl (by decide +kernel) (by omega) bu_one (bu_old (fun _ _ => rfl)) (fun j hj => sF_mk (by decide) j) ⟨(Nat.le_of_ble_eq_true rfl), (Nat.le_of_ble_eq_true rfl)⟩ (Nat.le_of_ble_eq_true rfl) ⟨(Nat.le_of_ble_eq_true rfl), (Nat.le_of_ble_eq_true rfl)⟩ dX1_init_155 rfl ?_
  refine gb_k (k' := 21) (sl' := 562) rfl rfl ?_
  refine gb_putF (ci := 3) (ty := .object "WaterExchange$Table") C hnm inG_X1 tyX1 tyX1_ok nmX1 0 (by omega) rfl rfl rfl 13 (by decide) wk_2_179 rfl rfl (by decide +kernel) rfl rfl (Nat.le_of_ble_eq_true rfl) dX1_init_158 ?_
  refine gb_F (F' := sF E i0 (.inr (3, [.ref (a + 1), .ref (a + 3), .ref (a + 4), .int 0, .ref (a + 5), .ref (a + 7), .ref (a + 8), .ref (a + 10), .ref (a + 11), .ref (a + 12), .ref (a + 14), .ref (a + 16), .ref (a + 18), .ref (a + 20), .int 0, .int 0, .int 0, .int 0, .int 0]))) (fun i _ => (congrFun sF_put i).symm) ?_
  refine gb_F (F' := fun j => fw E (mZ E) (i0 + j)) (fun i hi => ?_) (gb_vret C hr dX1_init_161 (Nat.le_of_ble_eq_true rfl) (Nat.le_of_ble_eq_true rfl))
  by_cases e0 : i = 0
  · subst e0
    refine (fw_s (q := i0) (f 0 (by decide)).2.2.2 hk ((f 0 (by decide)).2.2.1.trans rfl)).trans ?_
    rw [show eB E + (i0 + 1) = a + 1 by omega, show eB E + (i0 + 3) = a + 3 by omega, show eB E + (i0 + 4) = a + 4 by omega, show eB E + (i0 + 5) = a + 5 by omega, show eB E + (i0 + 7) = a + 7 by omega, show eB E + (i0 + 8) = a + 8 by omega, show eB E + (i0 + 10) = a + 10 by omega, show eB E + (i0 + 11) = a + 11 by omega, show eB E + (i0 + 12) = a + 12 by omega, show eB E + (i0 + 14) = a + 14 by omega, show eB E + (i0 + 16) = a + 16 by omega, show eB E + (i0 + 18) = a + 18 by omega, show eB E + (i0 + 20) = a + 20 by omega]
    rfl
  · exact (if_neg e0).symm
theorem dJ5_init_d00df_0 : decode cJ5_init_d00df 0 = .ok (.aload_n 0, 1) := by decide +kernel
theorem dJ5_init_d00df_1 : decode cJ5_init_d00df 1 = .ok (.invokespecial 3, 3) := by decide +kernel
theorem dJ5_init_d00df_4 : decode cJ5_init_d00df 4 = .ok (.getstatic 18, 3) := by decide +kernel
theorem dJ5_init_d00df_7 : decode cJ5_init_d00df 7 = .ok (.ifCond .eq 18, 3) := by decide +kernel
theorem dJ5_init_d00df_10 : decode cJ5_init_d00df 10 = .ok (.aload_n 0, 1) := by decide +kernel
theorem dJ5_init_d00df_11 : decode cJ5_init_d00df 11 = .ok (.iload_n 1, 1) := by decide +kernel
theorem dJ5_init_d00df_12 : decode cJ5_init_d00df 12 = .ok (.newarray .byte, 2) := by decide +kernel
theorem dJ5_init_d00df_14 : decode cJ5_init_d00df 14 = .ok (.putfield 15, 3) := by decide +kernel
theorem dJ5_init_d00df_17 : decode cJ5_init_d00df 17 = .ok (.aload_n 0, 1) := by decide +kernel
theorem dJ5_init_d00df_18 : decode cJ5_init_d00df 18 = .ok (.iconst 0, 1) := by decide +kernel
theorem dJ5_init_d00df_19 : decode cJ5_init_d00df 19 = .ok (.putfield 22, 3) := by decide +kernel
theorem dJ5_init_d00df_22 : decode cJ5_init_d00df 22 = .ok (.goto 16, 3) := by decide +kernel
theorem dJ5_init_d00df_38 : decode cJ5_init_d00df 38 = .ok (.return_, 1) := by decide +kernel
theorem dJ4_init_da8c8_0 : decode cJ4_init_da8c8 0 = .ok (.aload_n 0, 1) := by decide +kernel
theorem dJ4_init_da8c8_1 : decode cJ4_init_da8c8 1 = .ok (.bipush 16, 2) := by decide +kernel
theorem dJ4_init_da8c8_3 : decode cJ4_init_da8c8 3 = .ok (.invokespecial 1, 3) := by decide +kernel
theorem dJ4_init_da8c8_6 : decode cJ4_init_da8c8 6 = .ok (.return_, 1) := by decide +kernel
def rawB : va_E := .inr (1, [.null, .int 0, .int 0, .int 0])
theorem fw_293 {E : Ev} : fw E (mZ E) 293 = .inr (1, [.ref (eB E + 294), .int 0, .int 0, .int 0]) := by
  rw [fw_n (by decide), cn_11 (by decide +kernel)]
  rfl
theorem fw_294 {E : Ev} : fw E (mZ E) 294 = .inl (eC E 0, 16, .inl (fun _ => 0)) := by
  have hz : zI 294 = fun _ => 0 := by
    funext k
    unfold zI
    rw [if_neg (by decide), if_neg (by decide), if_neg (by decide), show qCl.getD 294 0 = 0 by decide +kernel]
    split <;> rfl
  show cn E (mZ E) 294 = _
  rw [cn_8 (by decide +kernel), show ln 294 = 16 by decide +kernel]
  show (Sum.inl (eC E 0, 16, Sum.inl (zI 294)) : va_E) = _
  rw [hz]
abbrev rmJ5 : Room := { frames := 1, cells := 1, slots := 16, locals := 12 }
set_option maxHeartbeats 4000000 in
set_option maxRecDepth 100000 in
theorem c_J5_init {l : Launch} {E : Ev} {a : Nat} (hU : (eU E).1 = 0) (ha : a = eB E + 293) : Cb l E yJ5_init_d00df (Cond.code yJ5_init_d00df cJ5_init_d00df 2 none :: GW) rmJ5 [.ref a, .int 16] a 1 (fun _ => rawB) 2 (fun j => fw E (mZ E) (293 + j)) := by
  refine cb_of (by decide) (Nat.le_of_ble_eq_true rfl) (fun p e s m args below meth c C hnm hAO hz hB hr => ?_)
  have C : Cq E p s m args meth c cJ5_init_d00df 2 RJ5 := C
  refine gb_lv (lv' := [(0, .ref a), (1, .int 16)]) rfl ?_
  refine gb_aload_n (i := 0) C dJ5_init_d00df_0 rfl 0 rfl ?_
  refine gb_obj C wk_3_33 wk_1_56 wk_1_57 ⟨(Nat.le_of_ble_eq_true rfl), (Nat.le_of_ble_eq_true rfl)⟩ dJ5_init_d00df_1 ?_
  refine gb_gets C hU C.2.2.2.2.2.2.2.2.2.2.2.2.1 hB wk_3_34 dJ5_init_d00df_4 ?_
  refine gb_if_eq_f (tgt := 25) C dJ5_init_d00df_7 (by decide) (by decide) ?_
  refine gb_aload_n (i := 0) C dJ5_init_d00df_10 rfl 0 rfl ?_
  refine gb_iload_n (i := 1) C dJ5_init_d00df_11 rfl 1 rfl ?_
  refine gb_newa (atype := .byte) (ty := .byte) (a0 := (16, .inl (fun _ => 0))) (v := 16) (N := 16) C wk_1_100 rfl 0 rfl (fun _ _ h => ra_b h) (fun _ => rfl) (by decide) (by decide) (Nat.le_of_ble_eq_true rfl) (by omega) (Or.inl (by omega)) ⟨(Nat.le_of_ble_eq_true rfl), (Nat.le_of_ble_eq_true rfl)⟩ dJ5_init_d00df_12 ?_
  refine gb_put (ci := 1) (ty := .array .byte) C inG_J4 tyJ4 tyJ4_ok nmJ4 0 (by omega) rfl rfl rfl 0 (by decide) wk_3_43 rfl rfl (by decide +kernel) rfl rfl (Nat.le_of_ble_eq_true rfl) dJ5_init_d00df_14 ?_
  refine gb_aload_n (i := 0) C dJ5_init_d00df_17 rfl 0 rfl ?_
  refine gb_iconst (v := 0) C dJ5_init_d00df_18 (by decide) ?_
  refine gb_put (ci := 1) (ty := .byte) C inG_J4 tyJ4 tyJ4_ok nmJ4 0 (by omega) rfl rfl rfl 1 (by decide) wk_3_44 rfl rfl (by decide +kernel) rfl rfl (Nat.le_of_ble_eq_true rfl) dJ5_init_d00df_19 ?_
  refine gb_goto (tgt := 38) C dJ5_init_d00df_22 (by decide) ?_
  refine gb_F (F' := fun j => fw E (mZ E) (293 + j)) (fun i hi => ?_) (gb_vret C hr dJ5_init_d00df_38 (Nat.le_of_ble_eq_true rfl) (Nat.le_of_ble_eq_true rfl))
  rcases (show i = 0 ∨ i = 1 by omega) with rfl | rfl
  · refine fw_293.trans ?_
    rw [show eB E + 294 = a + 1 by omega]
    rfl
  · exact fw_294
abbrev rmJ4 : Room := { frames := 2, cells := 1, slots := 16, locals := 40 }
set_option maxHeartbeats 4000000 in
set_option maxRecDepth 100000 in
theorem c_J4_init {l : Launch} {E : Ev} {a : Nat} (hU : (eU E).1 = 0) (ha : a = eB E + 293) : Cb l E yJ4_init_da8c8 (Cond.code yJ4_init_da8c8 cJ4_init_da8c8 1 none :: GW) rmJ4 [.ref a] a 1 (fun _ => rawB) 2 (fun j => fw E (mZ E) (293 + j)) := by
  refine cb_of (by decide) (Nat.le_of_ble_eq_true rfl) (fun p e s m args below meth c C hnm hAO hz hB hr => ?_)
  have C : Cq E p s m args meth c cJ4_init_da8c8 1 RJ4 := C
  refine gb_lv (lv' := [(0, .ref a)]) rfl ?_
  refine gb_aload_n (i := 0) C dJ4_init_da8c8_0 rfl 0 rfl ?_
  refine gb_bipush (v := 16) C dJ4_init_da8c8_1 (by decide) ?_
  refine gb_ctor (F' := fun j => fw E (mZ E) (293 + j)) (i := 0) (nb := 1) (n' := 2) (a := a) (b := a) (As := [.int 16]) (rest := []) (rm := rmJ5) C hAO hU hB rfl (by decide) (c_J5_init hU ha) wk_3_30 wk_3_31 wk_1_7 wk_3_32 rfl (by decide +kernel) (by omega) (fun j hj => rfl) (fun j hj => absurd hj (Nat.not_lt_zero j)) (fun j hj => by rw [Nat.zero_add]) ⟨(Nat.le_of_ble_eq_true rfl), (Nat.le_of_ble_eq_true rfl)⟩ (Nat.le_of_ble_eq_true rfl) ⟨(Nat.le_of_ble_eq_true rfl), (Nat.le_of_ble_eq_true rfl)⟩ dJ4_init_da8c8_3 rfl ?_
  exact gb_vret C hr dJ4_init_da8c8_6 (Nat.le_of_ble_eq_true rfl) (Nat.le_of_ble_eq_true rfl)
theorem df_X1 : ∀ j, j < 19 → defaultValue (tyX1 j) = vp_V [.null, .null, .null, .int 0, .null, .null, .null, .null, .null, .null, .null, .null, .null, .null, .int 0, .int 0, .int 0, .int 0, .int 0] j := by
  intro j hj
  rcases (show j = 0 ∨ j = 1 ∨ j = 2 ∨ j = 3 ∨ j = 4 ∨ j = 5 ∨ j = 6 ∨ j = 7 ∨ j = 8 ∨ j = 9 ∨ j = 10 ∨ j = 11 ∨ j = 12 ∨ j = 13 ∨ j = 14 ∨ j = 15 ∨ j = 16 ∨ j = 17 ∨ j = 18 by omega) with rfl | rfl | rfl | rfl | rfl | rfl | rfl | rfl | rfl | rfl | rfl | rfl | rfl | rfl | rfl | rfl | rfl | rfl | rfl <;> rfl
theorem fw_45 {E : Ev} : fw E (mZ E) 45 = .inr (2, [.ref (eB E + 46), .ref (eB E + 47), .int 0, .int (-1), .int 0, .int 0, .int 0, .int 0]) := by
  rw [fw_n (by decide), cn_3 (by decide +kernel)]
  rfl
def rawR : va_E := .inr (2, [.null, .null, .int 0, .int 0, .int 0, .int 0, .int 0, .int 0])
abbrev rmR : Room := { frames := 3, cells := 23, slots := 1481, locals := 70 }
set_option maxHeartbeats 4000000 in
set_option maxRecDepth 100000 in
theorem c_X0_init {l : Launch} {E : Ev} {a : Nat} (hU : (eU E).1 = 0) (ha : a = eB E + 45) : Cb l E yX0_init (Cond.code yX0_init cX0_init 1 none :: GW) rmR [.ref a] a 1 (fun _ => rawR) 24 (fun j => fw E (mZ E) (45 + j)) := by
  refine cb_of (by decide) (Nat.le_of_ble_eq_true rfl) (fun p e s m args below meth c C hnm hAO hz hB hr => ?_)
  have C : Cq E p s m args meth c cX0_init 1 RX0 := C
  have hnm : meth.name = "<init>" := hnm
  refine gb_F (F' := sF E 45 rawR) (fun i hi => if_pos (by omega)) ?_
  refine gb_lv (lv' := [(0, .ref a)]) rfl ?_
  refine gb_aload_n (i := 0) C dX0_init_0 rfl 0 rfl ?_
  refine gb_obj C wk_2_233 wk_1_56 wk_1_57 ⟨(Nat.le_of_ble_eq_true rfl), (Nat.le_of_ble_eq_true rfl)⟩ dX0_init_1 ?_
  refine gb_aload_n (i := 0) C dX0_init_4 rfl 0 rfl ?_
  refine gb_sipush (v := 900) C dX0_init_5 (by decide) ?_
  refine gb_newa (atype := .byte) (ty := .byte) (a0 := (900, .inl (fun _ => 0))) (v := 900) (N := 900) C wk_1_100 rfl 0 rfl (fun _ _ h => ra_b h) (fun _ => rfl) (by decide) (by decide) (Nat.le_of_ble_eq_true rfl) (by omega) (Or.inl (by omega)) ⟨(Nat.le_of_ble_eq_true rfl), (Nat.le_of_ble_eq_true rfl)⟩ dX0_init_8 ?_
  refine gb_F (F' := sF E 45 rawR) (sF_push (by decide) (fw_b (q := 46) (by unfold NS; decide) (by decide +kernel) (by decide +kernel) (by decide +kernel))) ?_
  refine gb_k (k' := 1) (sl' := 900) rfl rfl ?_
  refine gb_putF (ci := 2) (ty := .array .byte) C hnm inG_X0 tyX0 tyX0_ok nmX0 0 (by omega) rfl rfl rfl 0 (by decide) wk_2_236 rfl rfl (by decide +kernel) rfl rfl (Nat.le_of_ble_eq_true rfl) dX0_init_10 ?_
  refine gb_F (F' := sF E 45 (.inr (2, [.ref (a + 1), .null, .int 0, .int 0, .int 0, .int 0, .int 0, .int 0]))) (fun i _ => (congrFun sF_put i).symm) ?_
  refine gb_aload_n (i := 0) C dX0_init_13 rfl 0 rfl ?_
  refine gb_new (ci := 3) (fs := [.null, .null, .null, .int 0, .null, .null, .null, .null, .null, .null, .null, .null, .null, .null, .int 0, .int 0, .int 0, .int 0, .int 0]) C inG_X1 tyX1 tyX1_ok wk_2_234 wk_2_17 wk_1_4 rfl df_X1 (by omega) (Or.inl (by omega)) ⟨(Nat.le_of_ble_eq_true rfl), (Nat.le_of_ble_eq_true rfl)⟩ dX0_init_14 ?_
  refine gb_dup C dX0_init_17 ?_
  refine gb_ctor (F' := sF E 45 (.inr (2, [.ref (a + 1), .null, .int 0, .int 0, .int 0, .int 0, .int 0, .int 0]))) (i := 2) (nb := 1) (n' := 22) (a := a + 2) (b := a + 2) (As := []) (rest := [.ref (a + 2), .ref a]) (rm := rmS) C hAO hU hB rfl (by decide) (c_X1_init hU (i0 := 47) (by omega) (by decide) (by decide +kernel)) wk_2_235 wk_2_127 wk_1_4 wk_2_128 rfl (by decide +kernel) (by omega) bu_one (bu_old (fun _ _ => rfl)) (fun j hj => sF_mk (by decide) j) ⟨(Nat.le_of_ble_eq_true rfl), (Nat.le_of_ble_eq_true rfl)⟩ (Nat.le_of_ble_eq_true rfl) ⟨(Nat.le_of_ble_eq_true rfl), (Nat.le_of_ble_eq_true rfl)⟩ dX0_init_18 rfl ?_
  refine gb_k (k' := 23) (sl' := 1481) rfl rfl ?_
  refine gb_putF (ci := 2) (ty := .object "WaterExchange$State") C hnm inG_X0 tyX0 tyX0_ok nmX0 0 (by omega) rfl rfl rfl 1 (by decide) wk_2_237 rfl rfl (by decide +kernel) rfl rfl (Nat.le_of_ble_eq_true rfl) dX0_init_21 ?_
  refine gb_F (F' := sF E 45 (.inr (2, [.ref (a + 1), .ref (a + 2), .int 0, .int 0, .int 0, .int 0, .int 0, .int 0]))) (fun i _ => (congrFun sF_put i).symm) ?_
  refine gb_aload_n (i := 0) C dX0_init_24 rfl 0 rfl ?_
  refine gb_iconst (v := -1) C dX0_init_25 (by decide) ?_
  refine gb_put (ci := 2) (ty := .int) C inG_X0 tyX0 tyX0_ok nmX0 0 (by omega) rfl rfl rfl 3 (by decide) wk_3_1 rfl rfl (by decide +kernel) rfl rfl (Nat.le_of_ble_eq_true rfl) dX0_init_26 ?_
  refine gb_F (F' := fun j => fw E (mZ E) (45 + j)) (fun i hi => ?_) (gb_vret C hr dX0_init_29 (Nat.le_of_ble_eq_true rfl) (Nat.le_of_ble_eq_true rfl))
  rw [sF_put]
  by_cases e0 : i = 0
  · subst e0
    refine fw_45.trans ?_
    rw [show eB E + 46 = a + 1 by omega, show eB E + 47 = a + 2 by omega]
    rfl
  · exact (if_neg e0).symm
