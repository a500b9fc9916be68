/-! ===== the text builder: its memory ===== -/
/-- the builder's bytes: one place changed; another array -/
def uB (m : Mm) (k : Nat) (v : Int32) : Mm := (m.1, (m.2.1, (m.2.2.1, (m.2.2.2.1, upd m.2.2.2.2 k v))))
def uN (m : Mm) (a n : Nat) (f : Nat → Int32) : Mm := (m.1, (m.2.1, (a, (n, f))))
theorem cn_sb {E : Ev} {m m' : Mm} {i : Nat} (h1 : m'.1 i = m.1 i) (h2 : m'.2.1 i = m.2.1 i) (h3 : m'.2.2.1 = m.2.2.1) : cn E m' i = cn E m i := by unfold cn cnB; rw [h1, h2, h3]
theorem tx_1 {E : Ev} {m : Mm} (h : 295 < eN E) : tx E m = [(m.2.2.1, .inl (eC E 0, m.2.2.2.1, .inl m.2.2.2.2))] := if_neg (by omega)
theorem wl_b0 {E : Ev} {m : Mm} (h : 295 < eN E) : (wl E m)[0]? = some (m.2.2.1, .inl (eC E 0, m.2.2.2.1, .inl m.2.2.2.2)) := by unfold wl; rw [tx_1 h]; rfl
theorem wl_bset {E : Ev} {m : Mm} {k : Nat} {v : Int32} (h : 295 < eN E) : (wl E m).set 0 (m.2.2.1, .inl (eC E 0, m.2.2.2.1, .inl (upd m.2.2.2.2 k v))) = wl E (uB m k v) := by
  have e : (fun a => cn E (uB m k v) (a - eB E)) = (fun a => cn E m (a - eB E)) := funext fun a => cn_sb rfl rfl rfl
  unfold wl
  rw [e, tx_1 h, tx_1 h]
  rfl
/-- a contract with some memory behind it -/
def qS (E : Ev) (P : Option Value → Mm → Prop) : Array Value → State → Outcome → State → Prop := fun _ st oc t => ∃ (o : Option Value) (μ' : Mm), (oc = .returned o ∧ P o μ') ∧ (Hd E μ' t.heap ∧ va_F (eA E) st t)
def CtS (l : Launch) (E : Ev) (y : MethodName) (ws : List Cond) (rm : Room) (av : List Value) (μ : Mm) (P : Option Value → Mm → Prop) : Prop := Met l y ws rm (va_Pc av (qP E μ)) (qS E P) rm.cells rm.slots (eA E)
section QB
variable {E : Ev} {p : Program} {l : Launch} {e : Env} {R : Room} {s : State} {m : MethodId} {args : Array Value} {below : List Frame} {meth : Method} {c : Code} {k n nL : Nat} {Q : State → Prop} {cc : ByteArray} {own : String} {pc : Nat} {lv lv' : List (Nat × Value)} {rest st : List Value} {μ μ' : Mm} {P : Option Value → Mm → Prop}
theorem cts_of {y : MethodName} {maxL : Nat} {ret : Option FieldType} {rm : Room} {av : List Value} (hy : plainName y.cls = true) (hav : (lg_sl av).length ≤ maxL) (body : ∀ (p : Program) (e : Env) (s : State) (m : MethodId) (args : Array Value) (below : List Frame) (meth : Method) (c : Code), Cq E p s m args meth c cc maxL y.cls → meth.sig.returnType = ret → Gq E p l e rm s m args below meth c 0 0 maxL (MQ below (qS E P) args s rm.cells rm.slots (eA E)) 0 (lv_args 0 av) [] μ) : CtS l E y (Cond.code y cc maxL ret :: GW) rm av μ P := by
  refine Met.ofW (cc := cc) (maxL := maxL) (ret := ret) hy rfl ?_
  intro p e s m args below meth c s₁ B hml hv
  obtain ⟨rfl, hH, hK, hB, hO⟩ := hv
  have hts := atoms_spec (ws := Cond.code y cc maxL ret :: GW) B.pre
  rw [lg_entry_eq]
  exact body p e s m av.toArray below meth c ⟨B.exec, B.bytes, hml, findClass_of_methodNamed B.named, fun w h => hts w (List.mem_cons_of_mem _ h), B.notSynchronized, hK, hB, hO⟩ B.returns s.heap [] _ hH va_S.rf (lv_entry av hav)
theorem gs_end {mc ms : Nat} {o : Option Value} (hp : P o μ') (kk : Gq E p l e R s m args below meth c k n nL (MQ below (qQ E o μ') args s mc ms (eA E)) pc lv st μ) : Gq E p l e R s m args below meth c k n nL (MQ below (qS E P) args s mc ms (eA E)) pc lv st μ := by
  intro H locs ls hH hS hl T hT X
  obtain ⟨t, a1, o1, b1, b2, b3, b4⟩ := kk H locs ls hH hS hl T hT X
  exact ⟨t, a1, o1, b1, b2, ⟨o, μ', ⟨b3.1, hp⟩, b3.2⟩, b4⟩
theorem gq_callS {mc ms : Nat} {a : Array Value} {st0 : List Value} (hr : ∀ (H : Heap) (locs : List Loc) (ls : Array Slot), Hd E μ H → va_S (eA E) s.heap H locs → lv_has ls nL lv → va_Run p l e R s m args below meth c H locs k n mc ms (F0 m pc ls st0) rest (qS E P a) (eA E))
    (kk : ∀ o μ', P o μ' → Gq E p l e R s m args below meth c (k + mc) (n + ms) nL Q (pc + 3) lv (o.toList ++ rest) μ') : Gq E p l e R s m args below meth c k n nL Q pc lv st0 μ := by
  intro H locs ls hH hS hl T hT X
  obtain ⟨v, st₀, t, T', L, h0, X', hL, e1, e2, ⟨o, μ', ⟨hv, hP⟩, hH', hF⟩, st⟩ := hr H locs ls hH hS hl T hT X
  cases hv
  obtain ⟨k1, k2, k3⟩ := vx_keep h0 e1 hS (fun _ _ h => h) (fun _ h => h) hL hF
  obtain ⟨t2, a1, b1⟩ := kk v μ' hP T'.heap (locs ++ L) ls (hH'.sameH e1) k3 hl T' rfl X'
  exact ⟨t2, st t2 a1, b1⟩
theorem gq_sblen (C : Cq E p s m args meth c cc nL own) (hb : 295 < eN E) {v : Int32} (hv : Int32.ofNat μ.2.2.2.1 = v) (d : decode cc pc = .ok (.arraylength, 1)) (kk : Gq E p l e R s m args below meth c k n nL Q (pc + 1) lv (.int v :: rest) μ) : Gq E p l e R s m args below meth c k n nL Q pc lv (.ref μ.2.2.1 :: rest) μ := by
  intro H locs ls hH hS hl
  exact va_alen C.1 C.2.1 C.2.2.2.2.2.2.1 hH.1 0 0 (wl_b0 hb) rfl hv d (kk H locs ls hH hS hl)
theorem gq_sbld (C : Cq E p s m args meth c cc nL own) (hb : 295 < eN E) {i : Int32} {v : Int32} (hin : vp_in i μ.2.2.2.1) (hv : μ.2.2.2.2 i.toNatClampNeg = v) (d : decode cc pc = .ok (.baload, 1)) (kk : Gq E p l e R s m args below meth c k n nL Q (pc + 1) lv (.int v :: rest) μ) : Gq E p l e R s m args below meth c k n nL Q pc lv (.int i :: .ref μ.2.2.1 :: rest) μ := by
  intro H locs ls hH hS hl
  subst hv
  exact va_bald C.1 C.2.1 C.2.2.2.2.2.2.1 hH.1 0 0 (wl_b0 hb) rfl hin d (kk H locs ls hH hS hl)
theorem gq_sbst (C : Cq E p s m args meth c cc nL own) (hb : 295 < eN E) {i x : Int32} (hin : vp_in i μ.2.2.2.1) (hm : μ' = uB μ i.toNatClampNeg (vp_nar .byte x)) (d : decode cc pc = .ok (.bastore, 1)) (kk : Gq E p l e R s m args below meth c k n nL Q (pc + 1) lv rest μ') : Gq E p l e R s m args below meth c k n nL Q pc lv (.int x :: .int i :: .ref μ.2.2.1 :: rest) μ := by
  intro H locs ls hH hS hl
  subst hm
  refine va_bast C.1 C.2.1 C.2.2.2.2.2.2.1 hH.1 hH.2 hS 0 0 (wl_b0 hb) rfl hin d (fun H1 locs1 hP hD hS1 => kk H1 locs1 ls ?_ hS1 hl)
  rw [wl_bset hb] at hP hD
  exact ⟨hP, hD⟩
theorem gq_get4 (C : Cq E p s m args meth c cc nL own) {i : Nat} (hi : i < eN E) (hk : kd i = 4) (f : Nat) {index : Nat} {v : Value} (hf : f < 4) (w : Cond.fieldLink own index (TJ4 f).1 (TJ4 f).2.1 (TJ4 f).2.2.1 ∈ GW) (hv : [.ref μ.2.2.1, .int (μ.1 i 1), .int (μ.1 i 2), .int (μ.1 i 3)][f]? = some v) (d : decode cc pc = .ok (.getfield index, 3)) (kk : Gq E p l e R s m args below meth c k n nL Q (pc + 3) lv (v :: rest) μ) : Gq E p l e R s m args below meth c k n nL Q pc lv (.ref (eB E + i) :: rest) μ := by
  intro H locs ls hH hS hl
  obtain ⟨q, hq⟩ := wl_get E μ hi (by rintro rfl; exact absurd hk (by decide))
  rw [cn_4 hk] at hq
  exact va_get (ci := 1) (C := RJ4) (T := TJ4) (N := 4) C.1 C.2.1 C.2.2.2.2.1 inG_J4 C.2.2.2.1 C.2.2.2.2.2.2.1 hH.1 q hq rfl f hf (C.2.2.2.2.1 _ w) (fun _ h => h) hv d (kk H locs ls hH hS hl)
theorem gq_put4_3 (C : Cq E p s m args meth c cc nL own) {i : Nat} (hi : i < eN E) (hk : kd i = 4) {index : Nat} {x : Int32} (w : Cond.fieldLink own index (TJ4 3).1 (TJ4 3).2.1 (TJ4 3).2.2.1 ∈ GW) (hm : μ' = uI μ i 3 x) (d : decode cc pc = .ok (.putfield index, 3)) (kk : Gq E p l e R s m args below meth c k n nL Q (pc + 3) lv rest μ') : Gq E p l e R s m args below meth c k n nL Q pc lv (.int x :: .ref (eB E + i) :: rest) μ := by
  intro H locs ls hH hS hl
  have h9 : i ≠ 296 := by rintro rfl; exact absurd hk (by decide)
  obtain ⟨q, hq0⟩ := wl_get E μ hi h9
  have hq := hq0
  rw [cn_4 hk] at hq
  refine va_put (ci := 1) (C := RJ4) (T := TJ4) (N := 4) (ty := .int) C.1 C.2.1 C.2.2.2.2.1 inG_J4 tyJ4 tyJ4_ok nmJ4 C.2.2.2.1 C.2.2.2.2.2.2.1 hH.1 hH.2 hS q hq rfl 3 (by decide) (C.2.2.2.2.1 _ w) (fun _ h => h) rfl (by decide +kernel) rfl rfl (Nat.le_of_ble_eq_true rfl) d (fun H1 locs1 hP hD hS1 => kk H1 locs1 ls ?_ hS1 hl)
  subst hm
  have he : cn E (uI μ i 3 x) i = .inr (1, [.ref μ.2.2.1, .int (μ.1 i 1), .int (μ.1 i 2), .int (μ.1 i 3)].set 3 (.int x)) := by
    rw [cn_4 hk, uI_eq]
    first | rfl | simp [List.set]
  have hw := wl_set hH.2 hi h9 hq0 he cnI_ne rfl
  rw [hw] at hP hD
  exact ⟨hP, hD⟩
theorem gq_put4_2 (C : Cq E p s m args meth c cc nL own) {i : Nat} (hi : i < eN E) (hk : kd i = 4) {index : Nat} {x : Int32} (w : Cond.fieldLink own index (TJ4 2).1 (TJ4 2).2.1 (TJ4 2).2.2.1 ∈ GW) (hn : narrow .boolean (.int x) = .int x) (hft : fits .boolean (.int x) = true) (hm : μ' = uI μ i 2 x) (d : decode cc pc = .ok (.putfield index, 3)) (kk : Gq E p l e R s m args below meth c k n nL Q (pc + 3) lv rest μ') : Gq E p l e R s m args below meth c k n nL Q pc lv (.int x :: .ref (eB E + i) :: rest) μ := by
  intro H locs ls hH hS hl
  have h9 : i ≠ 296 := by rintro rfl; exact absurd hk (by decide)
  obtain ⟨q, hq0⟩ := wl_get E μ hi h9
  have hq := hq0
  rw [cn_4 hk] at hq
  refine va_put (ci := 1) (C := RJ4) (T := TJ4) (N := 4) (ty := .boolean) C.1 C.2.1 C.2.2.2.2.1 inG_J4 tyJ4 tyJ4_ok nmJ4 C.2.2.2.1 C.2.2.2.2.2.2.1 hH.1 hH.2 hS q hq rfl 2 (by decide) (C.2.2.2.2.1 _ w) (fun _ h => h) rfl (by decide +kernel) hn hft (Nat.le_of_ble_eq_true rfl) d (fun H1 locs1 hP hD hS1 => kk H1 locs1 ls ?_ hS1 hl)
  subst hm
  have he : cn E (uI μ i 2 x) i = .inr (1, [.ref μ.2.2.1, .int (μ.1 i 1), .int (μ.1 i 2), .int (μ.1 i 3)].set 2 (.int x)) := by
    rw [cn_4 hk, uI_eq]
    first | rfl | simp [List.set]
  have hw := wl_set hH.2 hi h9 hq0 he cnI_ne rfl
  rw [hw] at hP hD
  exact ⟨hP, hD⟩
theorem gq_dup_x1 (C : Cq E p s m args meth c cc nL own) {x : Int32} {y : Nat} (d : decode cc pc = .ok (.dup_x1, 1)) (kk : Gq E p l e R s m args below meth c k n nL Q (pc + 1) lv (.int x :: .ref y :: .int x :: rest) μ) : Gq E p l e R s m args below meth c k n nL Q pc lv (.int x :: .ref y :: rest) μ := fun H locs ls hH hS hl => lv_dup_x1 C.1 C.2.1 d rfl rfl (kk H locs ls hH hS hl)
theorem sel_priv {y z : MethodName} {Cn : String} {s : State} {args : Array Value} (hz : (Cond.selects Cn z z).before args s = true) (hc : z.cls = y.cls) (hy : y.cls ≠ "java/lang/invoke/MethodHandle" ∧ y.cls ≠ "java/lang/invoke/VarHandle") (hpriv : (Cond.privateMethod y).before args s = true) (hinst : (Cond.instanceMethod y).before args s = true) : (Cond.selects Cn y y).before args s = true := by
  obtain ⟨c, r, m2, h1, -, h3, -, kP, hkP, hkPi⟩ := Cond.selects_spec hz
  obtain ⟨mk, methM, hnamed, hmethM, -, -⟩ := Cond.instanceMethod_spec hinst
  have hfound : s.methodFound? y.cls y.name y.desc = some mk := State.methodFound?_of_named hnamed hy
  have hcls : mk.cls = m2.cls := by
    have q1 := findClass_of_methodNamed hnamed
    have q2 := findClass_of_methodNamed h3
    rw [hc] at q2
    exact Option.some.inj (q1.symm.trans q2)
  have hsel : selectMethod {} s.vm c mk = .method mk := selectMethod_private hmethM (Cond.privateMethod_at hpriv mk methM hnamed hmethM)
  simp only [Cond.before, Cond.holds, Cond.value, h1, hfound, hnamed, hsel, hcls, hkP]
  simp; exact hkPi
end QB

