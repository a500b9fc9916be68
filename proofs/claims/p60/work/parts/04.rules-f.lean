/-! ===== starts, calls ===== -/
section QR
variable {E : Ev} {p : Program} {l : Launch} {e : Env} {R : Room} {s : State} {m : MethodId} {args : Array Value} {below : List Frame} {meth : Method} {c : Code} {k n nL : Nat} {Q : State → Prop} {cc : ByteArray} {own : String} {pc : Nat} {lv lv' : List (Nat × Value)} {rest st : List Value} {μ μ' : Mm}
theorem gq_lv (h : lv = lv') (kk : Gq E p l e R s m args below meth c k n nL Q pc lv' st μ) : Gq E p l e R s m args below meth c k n nL Q pc lv st μ := h ▸ kk
theorem gq_zret (C : Cq E p s m args meth c cc nL own) {x : Int32} {ty : FieldType} {mc ms : Nat} (hr : meth.sig.returnType = some ty) (hn : narrow ty (.int x) = .int x) (d : decode cc pc = .ok (.ireturn, 1)) (h1 : k ≤ mc) (h2 : n ≤ ms) : Gq E p l e R s m args below meth c k n nL (MQ below (qQ E (some (.int x)) μ) args s mc ms (eA E)) pc lv [.int x] μ := fun H locs ls hH hS hl => W.widen h1 h2 (W.zret C.1 C.2.1 hr hn (fun t ht _ => ⟨rfl, hH.sameH ht, hS.F ht⟩) hS.2.2 d (hlocks := C.2.2.2.2.2.1))
/-- a contract out of the goal at the method's start -/
theorem ct_of {y : MethodName} {maxL : Nat} {ret : Option FieldType} {rm : Room} {av : List Value} {o : Option Value} (hy : plainName y.cls = true) (hav : (lg_sl av).length ≤ maxL) (body : ∀ (p : Program) (e : Env) (s : State) (m : MethodId) (args : Array Value) (below : List Frame) (meth : Method) (c : Code), Cq E p s m args meth c cc maxL y.cls → meth.sig.returnType = ret → Gq E p l e rm s m args below meth c 0 0 maxL (MQ below (qQ E o μ') args s rm.cells rm.slots (eA E)) 0 (lv_args 0 av) [] μ) : Ct l E y (Cond.code y cc maxL ret :: GW) rm av μ o μ' := by
  refine Met.ofW (cc := cc) (maxL := maxL) (ret := ret) hy rfl ?_
  intro p e s m args below meth c s₁ B hml hv
  obtain ⟨rfl, hH, hK, hB, hO⟩ := hv
  have hts := atoms_spec (ws := Cond.code y cc maxL ret :: GW) B.pre
  rw [lg_entry_eq]
  exact body p e s m av.toArray below meth c ⟨B.exec, B.bytes, hml, findClass_of_methodNamed B.named, fun w h => hts w (List.mem_cons_of_mem _ h), B.notSynchronized, hK, hB, hO⟩ B.returns s.heap [] _ hH va_S.rf (lv_entry av hav)
theorem cx_of {y : MethodName} {maxL : Nat} {ret : Option FieldType} {rm : Room} {av : List Value} {ec : Nat} {o : Option Value} (hy : plainName y.cls = true) (hav : (lg_sl av).length ≤ maxL) (body : ∀ (p : Program) (e : Env) (s : State) (m : MethodId) (args : Array Value) (below : List Frame) (meth : Method) (c : Code), Cq E p s m args meth c cc maxL y.cls → meth.sig.returnType = ret → (∀ x ∈ c.exceptionTable.toList, False) → Gq E p l e rm s m args below meth c 0 0 maxL (vx_MQ below (qQx E ec o μ') (qX E ec μ') args s rm.cells rm.slots (eA E)) 0 (lv_args 0 av) [] μ) : Cx l E y (Cond.code y cc maxL ret :: GW) rm av μ ec o μ' := by
  refine vx_ofW (cc := cc) (maxL := maxL) (ret := ret) hy rfl ?_
  intro p e s m args below meth c s₁ B hml hout hv
  obtain ⟨rfl, hH, hK, hB, hO⟩ := hv
  have hts := atoms_spec (ws := Cond.code y cc maxL ret :: GW) B.pre
  rw [lg_entry_eq]
  exact body p e s m av.toArray below meth c ⟨B.exec, B.bytes, hml, findClass_of_methodNamed B.named, fun w h => hts w (List.mem_cons_of_mem _ h), B.notSynchronized, hK, hB, hO⟩ B.returns hout s.heap [] _ hH va_S.rf (lv_entry av hav)
/-- a method that may throw, at a return -/
theorem gx_ret {mc ms : Nat} {o : Option Value} (kk : Gq E p l e R s m args below meth c k n nL (MQ below (qQ E o μ') args s mc ms (eA E)) pc lv st μ) : Gq E p l e R s m args below meth c k n nL (vx_MQ below (qQx E 0 o μ') (qX E 0 μ') args s mc ms (eA E)) pc lv st μ := by
  intro H locs ls hH hS hl
  refine vx_ret ?_
  intro T hT X
  obtain ⟨t, a1, o1, b1, b2, b3, b4⟩ := kk H locs ls hH hS hl T hT X
  exact ⟨t, a1, o1, b1, b2, ⟨rfl, b3⟩, b4⟩
theorem ct_cx {y : MethodName} {ws : List Cond} {rm : Room} {av : List Value} {o : Option Value} (h : Ct l E y ws rm av μ o μ') : Ct l E y ws rm av μ o μ' := h
/-- what a call's run gives the goal -/
theorem gq_call {mc ms : Nat} {o : Option Value} {a : Array Value} {st0 st1 : List Value} (hr : ∀ (H : Heap) (locs : List Loc) (ls : Array Slot), Hd E μ H → va_S (eA E) s.heap H locs → lv_has ls nL lv → va_Run p l e R s m args below meth c H locs k n mc ms (F0 m pc ls st0) rest (qQ E o μ' a) (eA E)) (hst : o.toList ++ rest = st1)
    (kk : Gq E p l e R s m args below meth c (k + mc) (n + ms) nL Q (pc + 3) lv st1 μ') : Gq E p l e R s m args below meth c k n nL Q pc lv st0 μ := by
  intro H locs ls hH hS hl T hT X
  obtain ⟨v, st₀, t, T', L, h0, X', hL, e1, e2, ⟨hv, hH', hF⟩, st⟩ := hr H locs ls hH hS hl T hT X
  cases hv
  subst hst
  obtain ⟨k1, k2, k3⟩ := vx_keep h0 e1 hS (fun _ _ h => h) (fun _ h => h) hL hF
  obtain ⟨t2, a1, b1⟩ := kk T'.heap (locs ++ L) ls (hH'.sameH e1) k3 hl T' rfl X'
  exact ⟨t2, st t2 a1, b1⟩
/-- .. of one that may throw: it returns where ec is 0; what is thrown leaves this method too -/
theorem gx_call {mc ms mcF msF ec : Nat} {o oF : Option Value} {a : Array Value} {st0 st1 : List Value} {μF : Mm} (hQ : Q = vx_MQ below (qQx E ec oF μF) (qX E ec μF) args s mcF msF (eA E) ∨ ec = 0) (hμ : ec ≠ 0 → μF = μ') (hcl : meth.locks = false) (hout : ∀ x ∈ c.exceptionTable.toList, False) (h1 : k + mc ≤ mcF) (h2 : n + ms ≤ msF)
    (hr : ∀ (H : Heap) (locs : List Loc) (ls : Array Slot), Hd E μ H → va_S (eA E) s.heap H locs → lv_has ls nL lv → vx_Run p l e R s m args below meth c H locs k n mc ms (F0 m pc ls st0) rest (qQx E ec o μ' a) (qX E ec μ') (eA E)) (hst : o.toList ++ rest = st1)
    (kk : ec = 0 → Gq E p l e R s m args below meth c (k + mc) (n + ms) nL Q (pc + 3) lv st1 μ') : Gq E p l e R s m args below meth c k n nL Q pc lv st0 μ := by
  intro H locs ls hH hS hl T hT X
  rcases hr H locs ls hH hS hl T hT X with ⟨v, st₀, t, T', L, h0, X', hL, e1, e2, ⟨hec, hv, hH', hF⟩, st⟩ | ⟨q, st₀, t, T', L, Ex, ce, h0, X', hL, e1, e2, ⟨⟨hec, hEx⟩, hH', hF⟩, hce, hcv, hcl2, st⟩
  · cases hv
    subst hst
    obtain ⟨k1, k2, k3⟩ := vx_keep h0 e1 hS (fun _ _ h => h) (fun _ h => h) hL hF
    obtain ⟨t2, a1, b1⟩ := kk hec T'.heap (locs ++ L) ls (hH'.sameH e1) k3 hl T' rfl X'
    exact ⟨t2, st t2 a1, b1⟩
  · obtain ⟨k1, k2, k3⟩ := vx_keep h0 e1 hS (fun _ _ h => h) (fun _ h => h) hL hF
    rcases hQ with rfl | h0
    · obtain ⟨t2, a1, b1⟩ := vx_out (E := Ex) (ce := ce) (q := q) (Qc := qQx E ec oF μF) (XC := qX E ec μF) (pc := pc) (ls := ls) (rest := rest) (fun x hx => (hout x hx).elim) hcl (by rw [e1]; exact hce) hcv hcl2 (fun t9 ht9 _ => ⟨⟨hec, hEx⟩, by rw [hμ hec]; exact (hH'.sameH e1).sameH ht9, k3.F ht9⟩) k3.2.2 h1 h2 T' rfl X'
      exact ⟨t2, st.trans a1, b1⟩
    · exact absurd h0 hec
def kc (j : Nat) : Nat := [5, 3, 4, 2, 1].getD j 99
theorem kd_rec {H : Heap} (hH : Hd E μ H) (hK : va_K E.1 vwCl (eTy E) s) {i j : Nat} (hi : i < eN E) (hk : kd i = j) (hj : j < 5) {q : vw_C} (hc : vwCl[kc j]? = some q) : ∃ cell : Cell, H[eB E + i]? = some cell ∧ cell.vm.isStatics = false ∧ s.vm.findClass q.1 = some cell.cls := by
  have h9 : i ≠ 296 := by
    rintro rfl
    have : kd 296 = 99 := by decide
    omega
  obtain ⟨q0, hq⟩ := wl_get E μ hi h9
  have : ∃ fs, cn E μ i = .inr (kc j, fs) := by
    rcases (show j = 0 ∨ j = 1 ∨ j = 2 ∨ j = 3 ∨ j = 4 by omega) with rfl | rfl | rfl | rfl | rfl
    · exact ⟨_, cn_0 hk⟩
    · exact ⟨_, cn_1 hk⟩
    · exact ⟨_, cn_2 hk⟩
    · exact ⟨_, cn_3 hk⟩
    · exact ⟨_, cn_4 hk⟩
  obtain ⟨fs, hfs⟩ := this
  rw [hfs] at hq
  exact va_recv hK hH.1 hc hq

theorem gq_V (C : Cq E p s m args meth c cc nL own) {y : MethodName} {bytes : ByteArray} {maxL index : Nat} {ret : Option FieldType} {rm : Room} {As : List Value} {o : Option Value} {st0 st1 : List Value} {i j : Nat} {Cn : String} {T : u_T} {N : Nat} (hM : Ct l E y (Cond.code y bytes maxL ret :: GW) rm (.ref (eB E + i) :: As) μ o μ') (hi : i < eN E) (hk : kd i = j) (hj : j < 5) (hc : vwCl[kc j]? = some (Cn, T, N)) (w1 : Cond.methodLink own index y ∈ GW) (w2 : Cond.instanceMethod y ∈ GW) (w3 : Cond.selects Cn y y ∈ GW) (w4 : Cond.initialized Cn ∈ GW) (w5 : Cond.code y bytes maxL ret ∈ GW) (hd : y.cls = Cn ∧ y.cls ≠ "java/lang/invoke/MethodHandle" ∧ y.cls ≠ "java/lang/invoke/VarHandle" ∧ (parseMethodDescriptor y.desc).map (fun d => d.parameters.length) = some As.length) (hR : rm.frames + 1 ≤ R.frames ∧ 8 + (maxL + 11) + rm.locals ≤ R.locals) (hw : (rest.map fun v => v.category).sum ≤ 8) (hf : k + rm.cells ≤ R.cells ∧ n + rm.slots ≤ R.slots) (d : decode cc pc = .ok (.invokevirtual index, 3)) (hst0 : st0 = As.reverse ++ .ref (eB E + i) :: rest) (hst1 : o.toList ++ rest = st1)
    (kk : Gq E p l e R s m args below meth c (k + rm.cells) (n + rm.slots) nL Q (pc + 3) lv st1 μ') : Gq E p l e R s m args below meth c k n nL Q pc lv st0 μ :=
  gq_call (fun H locs ls hH hS hl => va_runV (C := Cn) (As := As) (rest := rest) ⟨C.1, C.2.1, C.2.2.1, C.2.2.2.1, C.2.2.2.2.1⟩ hM (cwV As.length C.2.2.2.2.1 (gw_V w1 w2 w3 w4 (gw_ws w5)) rfl rfl rfl hd hR) ⟨qP_blind E μ _, kd_rec hH C.2.2.2.2.2.2.1 hi hk hj hc, fun U hU hW => ⟨rfl, qP_at hH hS C.2.2.2.2.2.2.1 C.2.2.2.2.2.2.2.1 C.2.2.2.2.2.2.2.2 hU hW⟩⟩ rfl rfl hl.1 hst0 (lv_room hw) d hf) hst1 kk
theorem gq_S (C : Cq E p s m args meth c cc nL own) {y : MethodName} {bytes : ByteArray} {maxL index : Nat} {ret : Option FieldType} {rm : Room} {As : List Value} {o : Option Value} {st0 st1 : List Value} (hM : Ct l E y (Cond.code y bytes maxL ret :: GW) rm As μ o μ') (w1 : Cond.methodLink own index y ∈ GW) (w2 : Cond.static y ∈ GW) (w4 : Cond.initialized own ∈ GW) (w5 : Cond.code y bytes maxL ret ∈ GW) (hd : y.cls = own ∧ y.cls ≠ "java/lang/invoke/MethodHandle" ∧ y.cls ≠ "java/lang/invoke/VarHandle" ∧ (parseMethodDescriptor y.desc).map (fun d => d.parameters.length) = some As.length) (hR : rm.frames + 1 ≤ R.frames ∧ 8 + (maxL + 11) + rm.locals ≤ R.locals) (hw : (rest.map fun v => v.category).sum ≤ 8) (hf : k + rm.cells ≤ R.cells ∧ n + rm.slots ≤ R.slots) (d : decode cc pc = .ok (.invokestatic index, 3)) (hst0 : st0 = As.reverse ++ rest) (hst1 : o.toList ++ rest = st1)
    (kk : Gq E p l e R s m args below meth c (k + rm.cells) (n + rm.slots) nL Q (pc + 3) lv st1 μ') : Gq E p l e R s m args below meth c k n nL Q pc lv st0 μ :=
  gq_call (fun H locs ls hH hS hl => va_runS (As := As) (rest := rest) ⟨C.1, C.2.1, C.2.2.1, C.2.2.2.1, C.2.2.2.2.1⟩ hM (cwS As.length C.2.2.2.2.1 (gw_S w1 w2 w4 (gw_ws w5)) rfl rfl rfl hd hR) ⟨qP_blind E μ _, fun U hU hW => ⟨rfl, qP_at hH hS C.2.2.2.2.2.2.1 C.2.2.2.2.2.2.2.1 C.2.2.2.2.2.2.2.2 hU hW⟩⟩ rfl rfl hl.1 hst0 (lv_room hw) d hf) hst1 kk
theorem gx_V (C : Cq E p s m args meth c cc nL own) {y : MethodName} {bytes : ByteArray} {maxL index : Nat} {ret : Option FieldType} {rm : Room} {As : List Value} {o : Option Value} {st0 st1 : List Value} {i j : Nat} {Cn : String} {T : u_T} {N : Nat} {mcF msF ec : Nat} {oF : Option Value} {μF : Mm} (hQ : Q = vx_MQ below (qQx E ec oF μF) (qX E ec μF) args s mcF msF (eA E) ∨ ec = 0) (hμ : ec ≠ 0 → μF = μ') (hout : ∀ x ∈ c.exceptionTable.toList, False) (h1 : k + rm.cells ≤ mcF) (h2 : n + rm.slots ≤ msF) (hM : Cx l E y (Cond.code y bytes maxL ret :: GW) rm (.ref (eB E + i) :: As) μ ec o μ') (hi : i < eN E) (hk : kd i = j) (hj : j < 5) (hc : vwCl[kc j]? = some (Cn, T, N)) (w1 : Cond.methodLink own index y ∈ GW) (w2 : Cond.instanceMethod y ∈ GW) (w3 : Cond.selects Cn y y ∈ GW) (w4 : Cond.initialized Cn ∈ GW) (w5 : Cond.code y bytes maxL ret ∈ GW) (hd : y.cls = Cn ∧ y.cls ≠ "java/lang/invoke/MethodHandle" ∧ y.cls ≠ "java/lang/invoke/VarHandle" ∧ (parseMethodDescriptor y.desc).map (fun d => d.parameters.length) = some As.length) (hR : rm.frames + 1 ≤ R.frames ∧ 8 + (maxL + 11) + rm.locals ≤ R.locals) (hw : (rest.map fun v => v.category).sum ≤ 8) (hf : k + rm.cells ≤ R.cells ∧ n + rm.slots ≤ R.slots) (d : decode cc pc = .ok (.invokevirtual index, 3)) (hst0 : st0 = As.reverse ++ .ref (eB E + i) :: rest) (hst1 : o.toList ++ rest = st1)
    (kk : ec = 0 → Gq E p l e R s m args below meth c (k + rm.cells) (n + rm.slots) nL Q (pc + 3) lv st1 μ') : Gq E p l e R s m args below meth c k n nL Q pc lv st0 μ :=
  gx_call hQ hμ C.2.2.2.2.2.1 hout h1 h2 (fun H locs ls hH hS hl => vx_runV (C := Cn) (As := As) (rest := rest) ⟨C.1, C.2.1, C.2.2.1, C.2.2.2.1, C.2.2.2.2.1⟩ hM (cwV As.length C.2.2.2.2.1 (gw_V w1 w2 w3 w4 (gw_ws w5)) rfl rfl rfl hd hR) ⟨qP_blind E μ _, kd_rec hH C.2.2.2.2.2.2.1 hi hk hj hc, fun U hU hW => ⟨rfl, qP_at hH hS C.2.2.2.2.2.2.1 C.2.2.2.2.2.2.2.1 C.2.2.2.2.2.2.2.2 hU hW⟩⟩ rfl rfl hl.1 hst0 (lv_room hw) d hf) hst1 kk
theorem gx_S (C : Cq E p s m args meth c cc nL own) {y : MethodName} {bytes : ByteArray} {maxL index : Nat} {ret : Option FieldType} {rm : Room} {As : List Value} {o : Option Value} {st0 st1 : List Value} {mcF msF ec : Nat} {oF : Option Value} {μF : Mm} (hQ : Q = vx_MQ below (qQx E ec oF μF) (qX E ec μF) args s mcF msF (eA E) ∨ ec = 0) (hμ : ec ≠ 0 → μF = μ') (hout : ∀ x ∈ c.exceptionTable.toList, False) (h1 : k + rm.cells ≤ mcF) (h2 : n + rm.slots ≤ msF) (hM : Cx l E y (Cond.code y bytes maxL ret :: GW) rm As μ ec o μ') (w1 : Cond.methodLink own index y ∈ GW) (w2 : Cond.static y ∈ GW) (w4 : Cond.initialized own ∈ GW) (w5 : Cond.code y bytes maxL ret ∈ GW) (hd : y.cls = own ∧ y.cls ≠ "java/lang/invoke/MethodHandle" ∧ y.cls ≠ "java/lang/invoke/VarHandle" ∧ (parseMethodDescriptor y.desc).map (fun d => d.parameters.length) = some As.length) (hR : rm.frames + 1 ≤ R.frames ∧ 8 + (maxL + 11) + rm.locals ≤ R.locals) (hw : (rest.map fun v => v.category).sum ≤ 8) (hf : k + rm.cells ≤ R.cells ∧ n + rm.slots ≤ R.slots) (d : decode cc pc = .ok (.invokestatic index, 3)) (hst0 : st0 = As.reverse ++ rest) (hst1 : o.toList ++ rest = st1)
    (kk : ec = 0 → Gq E p l e R s m args below meth c (k + rm.cells) (n + rm.slots) nL Q (pc + 3) lv st1 μ') : Gq E p l e R s m args below meth c k n nL Q pc lv st0 μ :=
  gx_call hQ hμ C.2.2.2.2.2.1 hout h1 h2 (fun H locs ls hH hS hl => vx_runS (As := As) (rest := rest) ⟨C.1, C.2.1, C.2.2.1, C.2.2.2.1, C.2.2.2.2.1⟩ hM (cwS As.length C.2.2.2.2.1 (gw_S w1 w2 w4 (gw_ws w5)) rfl rfl rfl hd hR) ⟨qP_blind E μ _, fun U hU hW => ⟨rfl, qP_at hH hS C.2.2.2.2.2.2.1 C.2.2.2.2.2.2.2.1 C.2.2.2.2.2.2.2.2 hU hW⟩⟩ rfl rfl hl.1 hst0 (lv_room hw) d hf) hst1 kk
/-- 'throw new E("text")' -/
theorem gx_throw (C : Cq E p s m args meth c cc nL own) (hl9 : l.stackTraces = false) {cls text : String} {names : List String} {ik is ic mc ms ec j : Nat} {o : Option Value} (hcls : Bundle.fit cls = true) (hnames : ∀ n ∈ names, Bundle.fit n = true) (w1 : Cond.classLink own ik cls ∈ GW) (w2 : Cond.initialized cls ∈ GW) (hq : (own, is, text, j) ∈ qLits) (hat : ∀ w ∈ vx_atS own ic cls names, w.before args s = true) (hgood : ∀ w ∈ Cond.classLink own ik cls :: Cond.initialized cls :: vx_atS own ic cls names, vx_ot w = true)
    (d0 : decode cc pc = .ok (.new ik, 3)) (d3 : decode cc (pc + 3) = .ok (.dup, 1)) (d4 : decode cc (pc + 4) = .ok (.ldc is, 2)) (d6 : decode cc (pc + 6) = .ok (.invokespecial ic, 3)) (d9 : decode cc (pc + 9) = .ok (.athrow, 1)) (hout : ∀ x ∈ c.exceptionTable.toList, False) (hec : ec ≠ 0) (hX : XN ec = cls)
    (hRframes : names.length + 3 < R.frames) (hRlocals : (rest.map fun v => v.category).sum + (13 * (names.length + 1) + 43) ≤ R.locals) (hRcells : k + 1 ≤ R.cells) (hRslots : n + 6 ≤ R.slots) (h1 : k + 1 ≤ mc) (h2 : n + 6 ≤ ms) : Gq E p l e R s m args below meth c k n nL (vx_MQ below (qQx E ec o μ) (qX E ec μ) args s mc ms (eA E)) pc lv rest μ := by
  intro H locs ls hH hS hl
  refine vx_throwS (A := eA E) C.1 C.2.1 hl9 C.2.2.2.1 hcls hnames (C.2.2.2.2.1 _ w1) (C.2.2.2.2.1 _ w2) (C.2.2.2.2.2.2.2.2.1 _ hq) hat hgood C.2.2.2.2.2.2.2.2.2.2.1 C.2.2.2.2.2.2.2.2.2.2.2.1 hS (hl.1.trans C.2.2.1.symm) d0 d3 d4 d6 d9 (fun x hx => (hout x hx).elim) hRframes hRlocals hRcells hRslots C.2.2.2.2.2.1 (fun t hvm hz hsame => ⟨⟨hec, hX.symm⟩, ?_, ?_⟩) hS.2.2 h1 h2
  · exact ⟨hH.1.kept (fun k q hk => hsame _ (hH.1 k q hk).lt), hH.2⟩
  · exact ⟨Nat.le_trans hS.1 hz, fun q h3 h4 => (hsame q (Nat.lt_of_lt_of_le h3 hS.1)).trans (hS.2.1 q h3 h4)⟩
theorem gx_throwW (C : Cq E p s m args meth c cc nL own) (hl9 : l.stackTraces = false) {cls text : String} {names : List String} {ik is ic mc ms ec j : Nat} {o : Option Value} (hcls : Bundle.fit cls = true) (hnames : ∀ n ∈ names, Bundle.fit n = true) (w1 : Cond.classLink own ik cls ∈ GW) (w2 : Cond.initialized cls ∈ GW) (hq : (own, is, text, j) ∈ qLits) (hat : ∀ w ∈ vx_atS own ic cls names, w.before args s = true) (hgood : ∀ w ∈ Cond.classLink own ik cls :: Cond.initialized cls :: vx_atS own ic cls names, vx_ot w = true)
    (d0 : decode cc pc = .ok (.new ik, 3)) (d3 : decode cc (pc + 3) = .ok (.dup, 1)) (d4 : decode cc (pc + 4) = .ok (.ldc_w is, 3)) (d7 : decode cc (pc + 7) = .ok (.invokespecial ic, 3)) (d10 : decode cc (pc + 10) = .ok (.athrow, 1)) (hout : ∀ x ∈ c.exceptionTable.toList, False) (hec : ec ≠ 0) (hX : XN ec = cls)
    (hRframes : names.length + 3 < R.frames) (hRlocals : (rest.map fun v => v.category).sum + (13 * (names.length + 1) + 43) ≤ R.locals) (hRcells : k + 1 ≤ R.cells) (hRslots : n + 6 ≤ R.slots) (h1 : k + 1 ≤ mc) (h2 : n + 6 ≤ ms) : Gq E p l e R s m args below meth c k n nL (vx_MQ below (qQx E ec o μ) (qX E ec μ) args s mc ms (eA E)) pc lv rest μ := by
  intro H locs ls hH hS hl
  refine vx_throwSW (A := eA E) C.1 C.2.1 hl9 C.2.2.2.1 hcls hnames (C.2.2.2.2.1 _ w1) (C.2.2.2.2.1 _ w2) (C.2.2.2.2.2.2.2.2.1 _ hq) hat hgood C.2.2.2.2.2.2.2.2.2.2.1 C.2.2.2.2.2.2.2.2.2.2.2.1 hS (hl.1.trans C.2.2.1.symm) d0 d3 d4 d7 d10 (fun x hx => (hout x hx).elim) hRframes hRlocals hRcells hRslots C.2.2.2.2.2.1 (fun t hvm hz hsame => ⟨⟨hec, hX.symm⟩, ?_, ?_⟩) hS.2.2 h1 h2
  · exact ⟨hH.1.kept (fun k q hk => hsame _ (hH.1 k q hk).lt), hH.2⟩
  · exact ⟨Nat.le_trans hS.1 hz, fun q h3 h4 => (hsame q (Nat.lt_of_lt_of_le h3 hS.1)).trans (hS.2.1 q h3 h4)⟩
end QR
