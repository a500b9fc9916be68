/-! ===== the law's own rules ===== -/
/-- the script, as the law's frame sees it -/
def Sx (E : Ev) (s : State) (b L : Nat) (xs : Nat → Int32) : Prop := va_X b L xs s s.heap ∧ (b < s.heap.size ∧ ¬ eA E b)
section LWA
variable {E : Ev} {p : Program} {l : Launch} {e : Env} {R : Room} {s : State} {m : MethodId} {args : Array Value} {below : List Frame} {meth : Method} {c : Code} {k n nL : Nat} {Q : State → Prop} {cc : ByteArray} {own : String} {pc : Nat} {lv lv' : List (Nat × Value)} {rest st : List Value} {μ μ' : Mm} {b L : Nat} {xs : Nat → Int32}
theorem gq_sld (C : Cq E p s m args meth c cc nL own) (X : Sx E s b L xs) {i v : Int32} (hin : vp_in i L) (hv : xs i.toNatClampNeg = v) (d : decode cc pc = .ok (.iaload, 1)) (kk : Gq E p l e R s m args below meth c k n nL Q (pc + 1) lv (.int v :: rest) μ) : Gq E p l e R s m args below meth c k n nL Q pc lv (.int i :: .ref b :: rest) μ := by
  subst hv
  exact fun H locs ls hH hS hl => va_sld C.1 C.2.1 X.1 X.2.1 X.2.2 hS hin d (kk H locs ls hH hS hl)
theorem gq_slen (C : Cq E p s m args meth c cc nL own) (X : Sx E s b L xs) (d : decode cc pc = .ok (.arraylength, 1)) (kk : Gq E p l e R s m args below meth c k n nL Q (pc + 1) lv (.int (Int32.ofNat L) :: rest) μ) : Gq E p l e R s m args below meth c k n nL Q pc lv (.ref b :: rest) μ := fun H locs ls hH hS hl => va_slen C.1 C.2.1 X.1 X.2.1 X.2.2 hS d (kk H locs ls hH hS hl)
theorem gq_dcmpl (C : Cq E p s m args meth c cc nL own) {x y : UInt64} {v : Int32} {op : CmpOp} (hv : Op.cmpValue (FP.dcmp x y) op = v) (d : decode cc pc = .ok (.dcmp op, 1)) (kk : Gq E p l e R s m args below meth c k n nL Q (pc + 1) lv (.int v :: rest) μ) : Gq E p l e R s m args below meth c k n nL Q pc lv (.double y :: .double x :: rest) μ := by
  subst hv
  exact fun H locs ls hH hS hl => lv_dcmp C.1 C.2.1 d (kk H locs ls hH hS hl)
/-- the script's cell at i + v, v a constant up to 5 -/
theorem gq_arg (C : Cq E p s m args meth c cc nL own) (X : Sx E s b L xs) {i v w : Int32} {j : Int} (hin : vp_in (i + v) L) (hw : xs (i + v).toNatClampNeg = w) (q0 q4 : Nat) (hk0 : lv[q0]? = some (0, .ref b)) (hk4 : lv[q4]? = some (4, .int i)) (hv : Int32.ofInt j = v) (d0 : decode cc pc = .ok (.aload_n 0, 1)) (d1 : decode cc (pc + 1) = .ok (.iload 4, 2)) (d2 : decode cc (pc + 3) = .ok (.iconst j, 1)) (d3 : decode cc (pc + 4) = .ok (.iadd, 1)) (d4 : decode cc (pc + 5) = .ok (.iaload, 1)) (kk : Gq E p l e R s m args below meth c k n nL Q (pc + 6) lv (.int w :: rest) μ) : Gq E p l e R s m args below meth c k n nL Q pc lv rest μ :=
  gq_aload_n C d0 rfl q0 hk0 (gq_iload C d1 q4 hk4 (gq_iconst C d2 hv (gq_iadd C d3 (gq_sld C X hin hw d4 kk))))
theorem gq_argB (C : Cq E p s m args meth c cc nL own) (X : Sx E s b L xs) {i v w : Int32} {j : Int} (hin : vp_in (i + v) L) (hw : xs (i + v).toNatClampNeg = w) (q0 q4 : Nat) (hk0 : lv[q0]? = some (0, .ref b)) (hk4 : lv[q4]? = some (4, .int i)) (hv : (Int8.ofInt j).toInt32 = v) (d0 : decode cc pc = .ok (.aload_n 0, 1)) (d1 : decode cc (pc + 1) = .ok (.iload 4, 2)) (d2 : decode cc (pc + 3) = .ok (.bipush j, 2)) (d3 : decode cc (pc + 5) = .ok (.iadd, 1)) (d4 : decode cc (pc + 6) = .ok (.iaload, 1)) (kk : Gq E p l e R s m args below meth c k n nL Q (pc + 7) lv (.int w :: rest) μ) : Gq E p l e R s m args below meth c k n nL Q pc lv rest μ :=
  gq_aload_n C d0 rfl q0 hk0 (gq_iload C d1 q4 hk4 (gq_bipush C d2 hv (gq_iadd C d3 (gq_sld C X hin hw d4 kk))))
/-- a helper is called -/
theorem run_SW (C : Cq E p s m args meth c cc nL own) {y : MethodName} {bytes : ByteArray} {maxL index : Nat} {ret : Option FieldType} {hh : List (Nat × Nat × Nat × Nat)} {rm : Room} {As : List Value} {st0 : List Value} {Qc : Array Value → State → Outcome → State → Prop} (hM : Met l y (Cond.codeWith y bytes maxL ret hh :: GW) rm (va_Pc As (qP E μ)) Qc rm.cells rm.slots (eA E)) (w1 : Cond.methodLink own index y ∈ GW) (w2 : Cond.static y ∈ GW) (w4 : Cond.initialized y.cls ∈ GW) (w5 : Cond.codeWith y bytes maxL ret hh ∈ GW) (hd : y.cls ≠ "java/lang/invoke/MethodHandle" ∧ y.cls ≠ "java/lang/invoke/VarHandle" ∧ (parseMethodDescriptor y.desc).map (fun d => d.parameters.length) = some As.length) (hR : rm.frames + 1 ≤ R.frames ∧ 8 + (maxL + 11) + rm.locals ≤ R.locals) (hw : (rest.map fun v => v.category).sum ≤ 8) (hf : k + rm.cells ≤ R.cells ∧ n + rm.slots ≤ R.slots) (d : decode cc pc = .ok (.invokestatic index, 3)) (hst0 : st0 = As.reverse ++ rest) :
    ∀ (H : Heap) (locs : List Loc) (ls : Array Slot), Hd E μ H → va_S (eA E) s.heap H locs → lv_has ls nL lv → va_Run p l e R s m args below meth c H locs k n rm.cells rm.slots (F0 m pc ls st0) rest (Qc As.toArray) (eA E) := fun H locs ls hH hS hl =>
  vx_runSW (As := As) (rest := rest) ⟨C.1, C.2.1, C.2.2.1, C.2.2.2.1, C.2.2.2.2.1⟩ hM (vx_cwSW As.length C.2.2.2.2.1 (gw_in (gw_app (P := fun w => w ∈ GW) (gw_cons w1 (gw_cons w2 (gw_cons w4 gw_nil))) (gw_ws w5))) rfl rfl rfl hd hR) ⟨qP_blind E μ _, fun U hU hW => ⟨rfl, qP_at hH hS C.2.2.2.2.2.2.1 C.2.2.2.2.2.2.2.1 C.2.2.2.2.2.2.2.2 hU hW⟩⟩ rfl rfl hl.1 hst0 (lv_room hw) d hf
theorem lw_hf {rm : Room} (hk : k ≤ 600000) (hn : n ≤ 7000000) (h : (Nat.ble rm.cells 128 && Nat.ble rm.slots 4096) = true) : k + rm.cells ≤ room_1.cells ∧ n + rm.slots ≤ room_1.slots := by
  obtain ⟨h1, h2⟩ := (Bool.and_eq_true _ _).mp h
  have h1 := Nat.le_of_ble_eq_true h1
  have h2 := Nat.le_of_ble_eq_true h2
  show k + rm.cells ≤ 601024 ∧ n + rm.slots ≤ 7293034
  omega
theorem lw_k2 {a1 a2 : Nat} (h : (Nat.ble (a1 + a2) 128) = true) : k + a1 + a2 ≤ k + 128 := by
  have := Nat.le_of_ble_eq_true h
  omega
theorem lw_k3 {a1 a2 a3 : Nat} (h : (Nat.ble (a1 + a2 + a3) 128) = true) : k + a1 + a2 + a3 ≤ k + 128 := by
  have := Nat.le_of_ble_eq_true h
  omega
theorem lw_n2 {a1 a2 : Nat} (h : (Nat.ble (a1 + a2) 4096) = true) : n + a1 + a2 ≤ n + 4096 := by
  have := Nat.le_of_ble_eq_true h
  omega
theorem lw_n3 {a1 a2 a3 : Nat} (h : (Nat.ble (a1 + a2 + a3) 4096) = true) : n + a1 + a2 + a3 ≤ n + 4096 := by
  have := Nat.le_of_ble_eq_true h
  omega
theorem lw_kk {a : Nat} (hk : k ≤ 500000) (h : Nat.ble a 128 = true) : k + a ≤ 600000 := by
  have := Nat.le_of_ble_eq_true h
  omega
theorem lw_nn {a : Nat} (hn : n ≤ 6000000) (h : Nat.ble a 8192 = true) : n + a ≤ 7000000 := by
  have := Nat.le_of_ble_eq_true h
  omega
end LWA
/-- the law's locals at the loop's head -/
def lvL (E : Ev) (b : Nat) (i : Int32) : List (Nat × Value) := [(4, .int i), (3, .ref (eB E + 311)), (2, .ref (eB E + 295)), (1, .ref (eB E + 0)), (0, .ref b)]
