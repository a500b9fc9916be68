/-! ===== Random, the script ===== -/
theorem wk_3_93 : Cond.constant "WaterExchangeLaw$Random" (13 : Nat) (1103515245 : Int32) ∈ GW := gw_3 (List.mem_of_getElem? (i := 93) rfl) rfl
theorem wk_5_10 : Cond.methodLink "WaterExchangeLaw$Random" (1 : Nat) ({ cls := "java/lang/Object", name := "<init>", desc := "()V" } : MethodName) ∈ GW := gw_5 (List.mem_of_getElem? (i := 10) rfl) rfl
theorem wk_5_11 : Cond.fieldLink "WaterExchangeLaw$Random" (7 : Nat) "WaterExchangeLaw$Random" "v" "I" ∈ GW := gw_5 (List.mem_of_getElem? (i := 11) rfl) rfl
theorem wk_5_18 : Cond.constant "WaterExchangeLaw" (7 : Nat) (2147483647 : Int32) ∈ GW := gw_5 (List.mem_of_getElem? (i := 18) rfl) rfl
theorem hd_X5_init : yX5_init.cls ≠ "java/lang/invoke/MethodHandle" ∧ yX5_init.cls ≠ "java/lang/invoke/VarHandle" ∧ (parseMethodDescriptor yX5_init.desc).map (fun d => d.parameters.length) = some 1 := by decide +kernel
theorem hd_X5_next : yX5_next.cls = RX5 ∧ yX5_next.cls ≠ "java/lang/invoke/MethodHandle" ∧ yX5_next.cls ≠ "java/lang/invoke/VarHandle" ∧ (parseMethodDescriptor yX5_next.desc).map (fun d => d.parameters.length) = some 1 := by decide +kernel
theorem hd_L_draw : yL_draw.cls = RL ∧ yL_draw.cls ≠ "java/lang/invoke/MethodHandle" ∧ yL_draw.cls ≠ "java/lang/invoke/VarHandle" ∧ (parseMethodDescriptor yL_draw.desc).map (fun d => d.parameters.length) = some 2 := by decide +kernel
theorem and15 (y : Int32) : ∃ c, c < 32768 ∧ y &&& 32767 = nI c := by
  refine ⟨(y.toBitVec &&& 32767#32).toNat, ?_, ?_⟩
  · rw [BitVec.toNat_and]
    exact Nat.lt_of_le_of_lt Nat.and_le_right (by decide)
  · apply Int32.toBitVec_inj.mp
    show (y &&& 32767).toBitVec = (Int32.ofNat (y.toBitVec &&& 32767#32).toNat).toBitVec
    rw [Int32.toBitVec_and, Int32.toBitVec_ofNat', BitVec.ofNat_toNat, BitVec.setWidth_eq]
    rfl
/-- where the law's script lies -/
def Sx (E : Ev) (s : State) (b L : Nat) (xs : Nat → Int32) : Prop := va_X b L xs s s.heap ∧ (b < s.heap.size ∧ ¬ eA E b)
section SCR
variable {E : Ev} {p : Program} {l : Launch} {e : Env} {R : Room} {s : State} {m : MethodId} {args : Array Value} {below : List Frame} {meth : Method} {c : Code} {k n nL : Nat} {Q : State → Prop} {cc : ByteArray} {own : String} {pc : Nat} {lv lv' : List (Nat × Value)} {rest st : List Value} {ν : va_W} {b L : Nat} {xs : Nat → Int32}
theorem gz_sld (C : Cq E p s m args meth c cc nL own) (X : Sx E s b L xs) {i v : Int32} (hin : vp_in i L) (hv : xs i.toNatClampNeg = v) (d : decode cc pc = .ok (.iaload, 1)) (kk : Gz E p l e R s m args below meth c k n nL Q (pc + 1) lv (.int v :: rest) ν) : Gz E p l e R s m args below meth c k n nL Q pc lv (.int i :: .ref b :: rest) ν := by
  subst hv
  exact fun H locs ls hH hS hl => va_sld C.1 C.2.1 X.1 X.2.1 X.2.2 hS hin d (kk H locs ls hH hS hl)
theorem gz_slen (C : Cq E p s m args meth c cc nL own) (X : Sx E s b L xs) (d : decode cc pc = .ok (.arraylength, 1)) (kk : Gz E p l e R s m args below meth c k n nL Q (pc + 1) lv (.int (Int32.ofNat L) :: rest) ν) : Gz E p l e R s m args below meth c k n nL Q pc lv (.ref b :: rest) ν := fun H locs ls hH hS hl => va_slen C.1 C.2.1 X.1 X.2.1 X.2.2 hS d (kk H locs ls hH hS hl)
end SCR
abbrev rm_r0 : Room := { frames := 1, cells := 0, slots := 0, locals := 20 }
section SML
variable {l : Launch} {E : Ev} {ν : va_W}
set_option maxHeartbeats 4000000 in
set_option maxRecDepth 100000 in
theorem c_X5_init {a : Nat} {v x : Int32} : Cz l E yX5_init (Cond.code yX5_init cX5_init 2 none :: GW) rm_r0 [.ref a, .int v] ((a, .inr (7, [.int x])) :: ν) (fun o ν' => o = none ∧ ν' = (a, .inr (7, [.int v])) :: ν) := by
  refine cz_of (by decide) (Nat.le_of_ble_eq_true rfl) (fun p e s m args below meth c C hnm hr => ?_)
  have C : Cq E p s m args meth c cX5_init 2 RX5 := C
  refine gz_lv (lv' := [(0, .ref a), (1, .int v)]) rfl ?_
  refine gz_aload_n C dX5_init_0 rfl 0 rfl ?_
  refine gz_obj C wk_5_10 wk_1_56 wk_1_57 ⟨(Nat.le_of_ble_eq_true rfl), (Nat.le_of_ble_eq_true rfl)⟩ dX5_init_1 ?_
  refine gz_aload_n C dX5_init_4 rfl 0 rfl ?_
  refine gz_iload_n C dX5_init_5 rfl 1 rfl ?_
  refine gz_put (ci := 7) (N := 1) (T := TX5) (ν' := (a, .inr (7, [.int v])) :: ν) C inG_X5 tyX5 tyX5_ok nmX5 0 rfl rfl 0 (by decide) wk_5_11 rfl rfl rfl rfl (Nat.le_of_ble_eq_true rfl) rfl dX5_init_6 ?_
  exact gz_end (o := none) ⟨rfl, rfl⟩ (gz_vret C hr dX5_init_9 (Nat.le_of_ble_eq_true rfl) (Nat.le_of_ble_eq_true rfl))
set_option maxHeartbeats 4000000 in
set_option maxRecDepth 100000 in
theorem c_X5_next {a i q : Nat} {v : Int32} (hq : ν[i]? = some (a, .inr (7, [.int v]))) (h0 : 0 < q) (h1 : q < 32768) : Cz l E yX5_next (Cond.code yX5_next cX5_next 2 (some .int) :: GW) rm_r0 [.ref a, .int (nI q)] ν (fun o ν' => ∃ (j : Nat) (v' : Int32), j < q ∧ (o = some (.int (nI j)) ∧ ν' = ν.set i (a, .inr (7, [.int v'])))) := by
  have hil : i < ν.length := (List.getElem?_eq_some_iff.mp hq).1
  refine cz_of (by decide) (Nat.le_of_ble_eq_true rfl) (fun p e s m args below meth c C hnm hr => ?_)
  have C : Cq E p s m args meth c cX5_next 2 RX5 := C
  refine gz_lv (lv' := [(0, .ref a), (1, .int (nI q))]) rfl ?_
  refine gz_aload_n C dX5_next_0 rfl 0 rfl ?_
  refine gz_ldc (v := 1103515245) C wk_3_93 dX5_next_1 ?_
  refine gz_aload_n C dX5_next_3 rfl 0 rfl ?_
  refine gz_get (ci := 7) (N := 1) (T := TX5) C inG_X5 i hq rfl 0 (by decide) wk_5_11 rfl dX5_next_4 ?_
  refine gz_imul C dX5_next_7 ?_
  refine gz_sipush (v := 12345) C dX5_next_8 (by decide) ?_
  refine gz_iadd C dX5_next_11 ?_
  generalize (1103515245 : Int32) * v + 12345 = v2
  refine gz_put (ci := 7) (N := 1) (T := TX5) (ν' := ν.set i (a, .inr (7, [.int v2]))) C inG_X5 tyX5 tyX5_ok nmX5 i hq rfl 0 (by decide) wk_5_11 rfl rfl rfl rfl (Nat.le_of_ble_eq_true rfl) rfl dX5_next_12 ?_
  have hq2 : (ν.set i (a, .inr (7, [.int v2])))[i]? = some (a, .inr (7, [.int v2])) := List.getElem?_set_self hil
  refine gz_aload_n C dX5_next_15 rfl 0 rfl ?_
  refine gz_get (ci := 7) (N := 1) (T := TX5) C inG_X5 i hq2 rfl 0 (by decide) wk_5_11 rfl dX5_next_16 ?_
  refine gz_bipush (v := 16) C dX5_next_19 (by decide) ?_
  refine gz_iushr C dX5_next_21 rfl ?_
  refine gz_sipush (v := 32767) C dX5_next_22 (by decide) ?_
  refine gz_iand C dX5_next_25 ?_
  obtain ⟨z, z1, z2⟩ := and15 ((v2.toUInt32 >>> ((16 : Int32).toUInt32 &&& Int32.toUInt32 31)).toInt32)
  rw [z2]
  refine gz_iload_n C dX5_next_26 rfl 1 rfl ?_
  refine gz_irem C dX5_next_27 (nI_ne0 h0 (by omega)) ?_
  rw [pk_rem (d := q) (by omega) h0 (by omega)]
  exact gz_end (o := some (.int (nI (z % q)))) ⟨z % q, v2, Nat.mod_lt _ h0, rfl, rfl⟩ (gz_iret C hr dX5_next_28 (Nat.le_of_ble_eq_true rfl) (Nat.le_of_ble_eq_true rfl))
/-- the script's number, some number -/
def qPd (E : Ev) (ν : va_W) (b L : Nat) (xs : Nat → Int32) (U : State) : Prop := qPz E ν U ∧ Sx E U b L xs
theorem qPd_blind (E : Ev) (ν : va_W) (b L : Nat) (xs : Nat → Int32) (av : List Value) : FrameBlind (va_Pc av (qPd E ν b L xs)) := fun a U g mk h => ⟨h.1, (qPz_blind E ν av a U g mk ⟨h.1, h.2.1⟩).2, va_X.moved (u := U) (U := U.calling g mk a) (Vm.Alike.refl U.vm) h.2.2.1, h.2.2.2⟩
set_option maxHeartbeats 4000000 in
set_option maxRecDepth 100000 in
theorem c_L_draw {b L i : Nat} {xs : Nat → Int32} (hi : i < L) (hL : L ≤ 260) : Met l yL_draw (Cond.code yL_draw cL_draw 2 (some .int) :: GW) rm_r0 (va_Pc [.ref b, .int (nI i)] (qPd E ν b L xs)) (qSz E (fun o ν' => (∃ v, o = some (.int v)) ∧ ν' = ν)) rm_r0.cells rm_r0.slots (eA E) := by
  refine Met.ofW (cc := cL_draw) (maxL := 2) (ret := some .int) (by decide) rfl ?_
  intro p e s m args below meth c s₁ B hml hv
  obtain ⟨rfl, ⟨hH, hK, hB, hO⟩, X⟩ := hv
  have hts := atoms_spec (ws := Cond.code yL_draw cL_draw 2 (some .int) :: GW) B.pre
  rw [lg_entry_eq]
  have C : Cq E p s m #[Value.ref b, Value.int (nI i)] meth c cL_draw 2 RL := ⟨B.exec, B.bytes, hml, findClass_of_methodNamed B.named, fun w h => hts w (List.mem_cons_of_mem _ h), B.notSynchronized, hK, hB, hO⟩
  have hr := B.returns
  have key : Gz E p l e rm_r0 s m #[Value.ref b, Value.int (nI i)] below meth c 0 0 2 (MQ below (qSz E (fun o ν' => (∃ v, o = some (.int v)) ∧ ν' = ν)) #[Value.ref b, Value.int (nI i)] s rm_r0.cells rm_r0.slots (eA E)) 0 (lv_args 0 [.ref b, .int (nI i)]) [] ν := by
    refine gz_lv (lv' := [(0, .ref b), (1, .int (nI i))]) rfl ?_
    refine gz_iload_n C dL_draw_0 rfl 1 rfl ?_
    refine gz_aload_n C dL_draw_1 rfl 0 rfl ?_
    refine gz_slen C X dL_draw_2 ?_
    refine gz_icmp_ge_f (tgt := 15) C dL_draw_3 (by decide) (show ¬ nI L ≤ nI i from nI_ge hi (by omega)) ?_
    refine gz_aload_n C dL_draw_6 rfl 0 rfl ?_
    refine gz_iload_n C dL_draw_7 rfl 1 rfl ?_
    refine gz_sld C X (nI_in hi (by omega)) rfl dL_draw_8 ?_
    refine gz_ldc (v := 2147483647) C wk_5_18 dL_draw_9 ?_
    refine gz_iand C dL_draw_11 ?_
    refine gz_goto (tgt := 16) C dL_draw_12 (by decide) ?_
    exact gz_end (o := some (.int _)) ⟨⟨_, rfl⟩, rfl⟩ (gz_iret C hr dL_draw_16 (Nat.le_of_ble_eq_true rfl) (Nat.le_of_ble_eq_true rfl))
  exact key s.heap [] _ hH va_S.rf (lv_entry [.ref b, .int (nI i)] (Nat.le_of_ble_eq_true rfl))
end SML
