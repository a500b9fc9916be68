/-! ===== building: worlds that grow ===== -/
def bl (B n : Nat) (F : Nat → va_E) : va_W := (List.range n).map (fun i => (B + i, F i))
def bu (F : Nat → va_E) (i : Nat) (e : va_E) : Nat → va_E := fun j => if j = i then e else F j
theorem bl_len {B n : Nat} {F : Nat → va_E} : (bl B n F).length = n := by unfold bl; simp
theorem bl_get {B n i : Nat} {F : Nat → va_E} (h : i < n) : (bl B n F)[i]? = some (B + i, F i) := by
  unfold bl
  rw [List.getElem?_map, List.getElem?_range h]
  rfl
theorem bl_ex {B n k : Nat} {q : Nat × va_E} {F : Nat → va_E} (h : (bl B n F)[k]? = some q) : k < n ∧ q = (B + k, F k) := by
  have hk : k < n := by
    have := (List.getElem?_eq_some_iff.mp h).1
    rw [bl_len] at this
    exact this
  rw [bl_get hk] at h
  exact ⟨hk, (Option.some.inj h).symm⟩
theorem bl_set {B n i : Nat} {F : Nat → va_E} {e : va_E} (h : i < n) : (bl B n F).set i (B + i, e) = bl B n (bu F i e) := by
  apply List.ext_getElem?
  intro k
  rw [List.getElem?_set]
  by_cases e1 : i = k
  · subst e1
    rw [if_pos rfl, if_pos (by rw [bl_len]; exact h), bl_get h]
    unfold bu
    rw [if_pos rfl]
  · rw [if_neg e1]
    by_cases hk : k < n
    · rw [bl_get hk, bl_get hk]
      unfold bu
      rw [if_neg (fun z => e1 z.symm)]
    · rw [List.getElem?_eq_none (by rw [bl_len]; omega), List.getElem?_eq_none (by rw [bl_len]; omega)]
theorem bl_D {B n : Nat} {F : Nat → va_E} : va_D (fun q => B ≤ q) (bl B n F) := by
  refine ⟨fun i j p q hp hq e => ?_, fun k q hq => ?_⟩
  · obtain ⟨h1, rfl⟩ := bl_ex hp
    obtain ⟨h2, rfl⟩ := bl_ex hq
    have e : B + i = B + j := e
    omega
  · obtain ⟨h1, rfl⟩ := bl_ex hq
    exact Nat.le_add_right _ _
def Bp (E : Ev) (B n : Nat) (F : Nat → va_E) (H : Heap) : Prop := ∀ i, i < n → va_at E.1 vwCl (B + i, F i) H
theorem Bp.P {E : Ev} {B n : Nat} {F : Nat → va_E} {H : Heap} (h : Bp E B n F H) : va_P E.1 vwCl (bl B n F) H := fun k q hq => by
  obtain ⟨h1, rfl⟩ := bl_ex hq
  exact h k h1
theorem Bp.of {E : Ev} {B n : Nat} {F : Nat → va_E} {H : Heap} (h : va_P E.1 vwCl (bl B n F) H) : Bp E B n F H := fun i hi => h i _ (bl_get hi)
theorem bu_eq {F : Nat → va_E} {i : Nat} {e : va_E} : bu F i e i = e := if_pos rfl
theorem bu_ne {F : Nat → va_E} {i j : Nat} {e : va_E} (h : j ≠ i) : bu F i e j = F j := if_neg h
/-- a contract of a constructor: its world lies from b on, n cells; it makes n' of them -/
def qB (E : Ev) (b n : Nat) (F : Nat → va_E) (U : State) : Prop := Bp E b n F U.heap ∧ (U.heap.size = b + n ∧ (va_K E.1 vwCl (eTy E) U ∧ (eB E ≤ b ∧ (Old E U ∧ va_AO RX1 U))))
def qBQ (E : Ev) (b n : Nat) (G : Nat → va_E) : Array Value → State → Outcome → State → Prop := fun _ st oc t => oc = .returned none ∧ (Bp E b n G t.heap ∧ va_F (fun q => b ≤ q) st t)
def Cb (l : Launch) (E : Ev) (y : MethodName) (ws : List Cond) (rm : Room) (av : List Value) (b n : Nat) (F : Nat → va_E) (n' : Nat) (G : Nat → va_E) : Prop := Met l y ws rm (va_Pc av (qB E b n F)) (qBQ E b n' G) rm.cells rm.slots (fun q => b ≤ q)
section BLD
variable {E : Ev} {p : Program} {l : Launch} {e : Env} {R : Room} {s : State} {m : MethodId} {args : Array Value} {below : List Frame} {meth : Method} {c : Code} {k sl nL : Nat} {Q : State → Prop} {cc : ByteArray} {own : String} {pc : Nat} {lv lv' : List (Nat × Value)} {rest st : List Value} {B n : Nat} {F F' : Nat → va_E}
def Gb (E : Ev) (B n : Nat) (F : Nat → va_E) (p : Program) (l : Launch) (e : Env) (R : Room) (s : State) (m : MethodId) (args : Array Value) (below : List Frame) (meth : Method) (c : Code) (k sl nL : Nat) (Q : State → Prop) (pc : Nat) (lv : List (Nat × Value)) (st : List Value) : Prop :=
  ∀ (H : Heap) (locs : List Loc) (ls : Array Slot), Bp E B n F H → va_S (fun q => B ≤ q) s.heap H locs → lv_has ls nL lv → W p l e R s m args below meth c H locs k sl Q (F0 m pc ls st)
theorem gb_lv (h : lv = lv') (kk : Gb E B n F p l e R s m args below meth c k sl nL Q pc lv' st) : Gb E B n F p l e R s m args below meth c k sl nL Q pc lv st := h ▸ kk
theorem gb_F (h : ∀ i, i < n → F' i = F i) (kk : Gb E B n F' p l e R s m args below meth c k sl nL Q pc lv st) : Gb E B n F p l e R s m args below meth c k sl nL Q pc lv st := fun H locs ls hP hS hl => kk H locs ls (fun i hi => by rw [h i hi]; exact hP i hi) hS hl
theorem gb_at (h : ∀ (i : Nat) (H : Heap), i < n → va_at E.1 vwCl (B + i, F i) H → va_at E.1 vwCl (B + i, F' i) H) (kk : Gb E B n F' p l e R s m args below meth c k sl nL Q pc lv st) : Gb E B n F p l e R s m args below meth c k sl nL Q pc lv st := fun H locs ls hP hS hl => kk H locs ls (fun i hi => h i H hi (hP i hi)) hS hl
theorem gb_sz (hc : B + n = s.heap.size + k) (hn : 0 < n ∨ k = 0) (kk : ∀ (H : Heap) (locs : List Loc) (ls : Array Slot), Bp E B n F H → va_S (fun q => B ≤ q) s.heap H locs → lv_has ls nL lv → H.size = B + n → W p l e R s m args below meth c H locs k sl Q (F0 m pc ls st)) : Gb E B n F p l e R s m args below meth c k sl nL Q pc lv st := by
  intro H locs ls hP hS hl T hT X
  have h1 : H.size ≤ s.heap.size + k := hT ▸ X.heapSize
  have h2 : B + n ≤ H.size := by
    rcases hn with hn | hn
    · have h3 := (hP (n - 1) (by omega)).lt
      have h3 : B + (n - 1) < H.size := h3
      omega
    · have := hS.1
      omega
  exact kk H locs ls hP hS hl (by omega) T hT X
theorem gb_iconst (C : Cq E p s m args meth c cc nL own) {j : Int} {v : Int32} (d : decode cc pc = .ok (.iconst j, 1)) (hv : Int32.ofInt j = v) (kk : Gb E B n F p l e R s m args below meth c k sl nL Q (pc + 1) lv (.int v :: rest)) : Gb E B n F p l e R s m args below meth c k sl nL Q pc lv rest := fun H locs ls hH hS hl => lv_iconst C.1 C.2.1 d hv (kk H locs ls hH hS hl)
theorem gb_bipush (C : Cq E p s m args meth c cc nL own) {j : Int} {v : Int32} (d : decode cc pc = .ok (.bipush j, 2)) (hv : (Int8.ofInt j).toInt32 = v) (kk : Gb E B n F p l e R s m args below meth c k sl nL Q (pc + 2) lv (.int v :: rest)) : Gb E B n F p l e R s m args below meth c k sl nL Q pc lv rest := fun H locs ls hH hS hl => lv_bipush C.1 C.2.1 d hv (kk H locs ls hH hS hl)
theorem gb_sipush (C : Cq E p s m args meth c cc nL own) {j : Int} {v : Int32} (d : decode cc pc = .ok (.sipush j, 3)) (hv : (Int16.ofInt j).toInt32 = v) (kk : Gb E B n F p l e R s m args below meth c k sl nL Q (pc + 3) lv (.int v :: rest)) : Gb E B n F p l e R s m args below meth c k sl nL Q pc lv rest := fun H locs ls hH hS hl => lv_sipush C.1 C.2.1 d hv (kk H locs ls hH hS hl)
theorem gb_iload_n (C : Cq E p s m args meth c cc nL own) {j : Fin 4} {i : Nat} {x : Int32} (d : decode cc pc = .ok (.iload_n j, 1)) (hi : (j : Nat) = i) (q : Nat) (hk : lv[q]? = some (i, .int x)) (kk : Gb E B n F p l e R s m args below meth c k sl nL Q (pc + 1) lv (.int x :: rest)) : Gb E B n F p l e R s m args below meth c k sl nL Q pc lv rest := fun H locs ls hH hS hl => lv_iload_n C.1 C.2.1 d hi (lv_at hl q hk) (kk H locs ls hH hS hl)
theorem gb_aload_n (C : Cq E p s m args meth c cc nL own) {j : Fin 4} {i : Nat} {x : Nat} (d : decode cc pc = .ok (.aload_n j, 1)) (hi : (j : Nat) = i) (q : Nat) (hk : lv[q]? = some (i, .ref x)) (kk : Gb E B n F p l e R s m args below meth c k sl nL Q (pc + 1) lv (.ref x :: rest)) : Gb E B n F p l e R s m args below meth c k sl nL Q pc lv rest := fun H locs ls hH hS hl => lv_aload_n C.1 C.2.1 d hi (lv_at hl q hk) (kk H locs ls hH hS hl)
theorem gb_istore_n (C : Cq E p s m args meth c cc nL own) {j : Fin 4} {i : Nat} {x : Int32} (d : decode cc pc = .ok (.istore_n j, 1)) (hi : (j : Nat) = i) (hn : i < nL) (hl : (i, Value.int x) :: lv.filter (fun q => !(q.1 == i) && !(q.1 + 1 == i && q.2.category == 2)) = lv') (kk : Gb E B n F p l e R s m args below meth c k sl nL Q (pc + 1) lv' rest) : Gb E B n F p l e R s m args below meth c k sl nL Q pc lv (.int x :: rest) := fun H locs ls hH hS h => lv_istore_n C.1 C.2.1 d hi h hn hl (fun ls h => kk H locs ls hH hS h)
theorem gb_istore (C : Cq E p s m args meth c cc nL own) {i : Nat} {x : Int32} (d : decode cc pc = .ok (.istore i, 2)) (hn : i < nL) (hl : (i, Value.int x) :: lv.filter (fun q => !(q.1 == i) && !(q.1 + 1 == i && q.2.category == 2)) = lv') (kk : Gb E B n F p l e R s m args below meth c k sl nL Q (pc + 2) lv' rest) : Gb E B n F p l e R s m args below meth c k sl nL Q pc lv (.int x :: rest) := fun H locs ls hH hS h => lv_istore C.1 C.2.1 d h hn hl (fun ls h => kk H locs ls hH hS h)
theorem gb_astore_n (C : Cq E p s m args meth c cc nL own) {j : Fin 4} {i : Nat} {x : Nat} (d : decode cc pc = .ok (.astore_n j, 1)) (hi : (j : Nat) = i) (hn : i < nL) (hl : (i, Value.ref x) :: lv.filter (fun q => !(q.1 == i) && !(q.1 + 1 == i && q.2.category == 2)) = lv') (kk : Gb E B n F p l e R s m args below meth c k sl nL Q (pc + 1) lv' rest) : Gb E B n F p l e R s m args below meth c k sl nL Q pc lv (.ref x :: rest) := fun H locs ls hH hS h => lv_astore_n C.1 C.2.1 d hi h hn hl (fun ls h => kk H locs ls hH hS h)
theorem gb_iinc (C : Cq E p s m args meth c cc nL own) {i q : Nat} {j : Int} {x v : Int32} (d : decode cc pc = .ok (.iinc i j, 3)) (hk : lv[q]? = some (i, .int x)) (hv : x + Int32.ofInt j = v) (hn : i < nL) (hl : (i, Value.int v) :: lv.filter (fun q => !(q.1 == i) && !(q.1 + 1 == i && q.2.category == 2)) = lv') (kk : Gb E B n F p l e R s m args below meth c k sl nL Q (pc + 3) lv' rest) : Gb E B n F p l e R s m args below meth c k sl nL Q pc lv rest := fun H locs ls hH hS h => lv_iinc C.1 C.2.1 d h hk hv hn hl (fun ls h => kk H locs ls hH hS h)
theorem gb_iadd (C : Cq E p s m args meth c cc nL own) {x y v : Int32} (hv : x + y = v) (d : decode cc pc = .ok (.iadd, 1)) (kk : Gb E B n F p l e R s m args below meth c k sl nL Q (pc + 1) lv (.int v :: rest)) : Gb E B n F p l e R s m args below meth c k sl nL Q pc lv (.int y :: .int x :: rest) := by
  subst hv
  exact fun H locs ls hH hS hl => lv_iadd C.1 C.2.1 d (kk H locs ls hH hS hl)
theorem gb_imul (C : Cq E p s m args meth c cc nL own) {x y v : Int32} (hv : x * y = v) (d : decode cc pc = .ok (.imul, 1)) (kk : Gb E B n F p l e R s m args below meth c k sl nL Q (pc + 1) lv (.int v :: rest)) : Gb E B n F p l e R s m args below meth c k sl nL Q pc lv (.int y :: .int x :: rest) := by
  subst hv
  exact fun H locs ls hH hS hl => lv_imul C.1 C.2.1 d (kk H locs ls hH hS hl)
theorem gb_dup (C : Cq E p s m args meth c cc nL own) {x : Nat} (d : decode cc pc = .ok (.dup, 1)) (kk : Gb E B n F p l e R s m args below meth c k sl nL Q (pc + 1) lv (.ref x :: .ref x :: rest)) : Gb E B n F p l e R s m args below meth c k sl nL Q pc lv (.ref x :: rest) := fun H locs ls hH hS hl => lv_dup C.1 C.2.1 d rfl (kk H locs ls hH hS hl)
theorem gb_goto (C : Cq E p s m args meth c cc nL own) {off : Int} {tgt : Nat} (d : decode cc pc = .ok (.goto off, 3)) (ht : (pc : Int) + off = (tgt : Int)) (kk : Gb E B n F p l e R s m args below meth c k sl nL Q tgt lv rest) : Gb E B n F p l e R s m args below meth c k sl nL Q pc lv rest := fun H locs ls hH hS hl => lv_goto C.1 C.2.1 d ht (kk H locs ls hH hS hl)
theorem gb_icmp_ge_t (C : Cq E p s m args meth c cc nL own) {x y : Int32} {off : Int} {tgt : Nat} (d : decode cc pc = .ok (.if_icmp .ge off, 3)) (ht : (pc : Int) + off = (tgt : Int)) (hc : y ≤ x) (kk : Gb E B n F p l e R s m args below meth c k sl nL Q tgt lv rest) : Gb E B n F p l e R s m args below meth c k sl nL Q pc lv (.int y :: .int x :: rest) := fun H locs ls hH hS hl => lv_icmp_ge C.1 C.2.1 d ht (fun _ => kk H locs ls hH hS hl) (fun hn => absurd hc hn)
theorem gb_icmp_ge_f (C : Cq E p s m args meth c cc nL own) {x y : Int32} {off : Int} {tgt : Nat} (d : decode cc pc = .ok (.if_icmp .ge off, 3)) (ht : (pc : Int) + off = (tgt : Int)) (hc : ¬ y ≤ x) (kk : Gb E B n F p l e R s m args below meth c k sl nL Q (pc + 3) lv rest) : Gb E B n F p l e R s m args below meth c k sl nL Q pc lv (.int y :: .int x :: rest) := fun H locs ls hH hS hl => lv_icmp_ge C.1 C.2.1 d ht (fun hn => absurd hn hc) (fun _ => kk H locs ls hH hS hl)
theorem gb_if_eq_f (C : Cq E p s m args meth c cc nL own) {x : Int32} {off : Int} {tgt : Nat} (d : decode cc pc = .ok (.ifCond .eq off, 3)) (ht : (pc : Int) + off = (tgt : Int)) (hc : ¬ x = 0) (kk : Gb E B n F p l e R s m args below meth c k sl nL Q (pc + 3) lv rest) : Gb E B n F p l e R s m args below meth c k sl nL Q pc lv (.int x :: rest) := fun H locs ls hH hS hl => lv_if_eq C.1 C.2.1 d ht (fun hn => absurd hn hc) (fun _ => kk H locs ls hH hS hl)
theorem gb_obj (C : Cq E p s m args meth c cc nL own) {idx a : Nat} (w1 : Cond.methodLink own idx Lib.objectInit ∈ GW) (w2 : Cond.instanceMethod Lib.objectInit ∈ GW) (w3 : Cond.code Lib.objectInit ⟨#[0xb1]⟩ 1 none ∈ GW) (hR : 1 ≤ R.frames ∧ 12 ≤ R.locals) (d : decode cc pc = .ok (.invokespecial idx, 3)) (kk : Gb E B n F p l e R s m args below meth c k sl nL Q (pc + 3) lv []) : Gb E B n F p l e R s m args below meth c k sl nL Q pc lv [.ref a] := fun H locs ls hH hS hl => W.objInit C.1 C.2.1 C.2.2.2.1 (C.2.2.2.2.1 _ w1) (C.2.2.2.2.1 _ w2) (C.2.2.2.2.1 _ w3) rfl (hl.1.trans C.2.2.1.symm) rfl d hR.1 (by show 2 * 0 + 0 + 12 ≤ R.locals; omega) (kk H locs ls hH hS hl)
theorem gb_putF (C : Cq E p s m args meth c cc nL own) (hin2 : meth.name = "<init>") {ci N index : Nat} {Cn : String} {T : u_T} (inG : ∀ w ∈ u_ws Cn T N, w ∈ GW) (ty0 : Nat → FieldType) (hty : ∀ k, k < N → parseFieldDescriptor (T k).2.2.1 = some (ty0 k)) (hnm : ∀ a, a < N → ∀ b, b < N → a ≠ b → (T a).2.1 ≠ (T b).2.1) (i : Nat) (hi : i < n) {a : Nat} (ha : a = B + i) {fs : List Value} (he : F i = .inr (ci, fs)) (hc : vwCl[ci]? = some (Cn, T, N)) (f : Nat) (hf : f < N) (w : Cond.fieldLink own index (T f).1 (T f).2.1 (T f).2.2.1 ∈ GW) (hfin : (T f).2.2.2 = true) (hdecl : (T f).1 = own) {ty : FieldType} {v : Value} (hd : parseFieldDescriptor (T f).2.2.1 = some ty) (hnr : narrow ty v = v) (hfit : fits ty v = true) (hlen : f < fs.length) (d : decode cc pc = .ok (.putfield index, 3)) (kk : Gb E B n (bu F i (.inr (ci, fs.set f v))) p l e R s m args below meth c k sl nL Q (pc + 3) lv rest) : Gb E B n F p l e R s m args below meth c k sl nL Q pc lv (v :: .ref a :: rest) := by
  subst ha
  intro H locs ls hP hS hl
  refine va_putF C.1 C.2.1 C.2.2.2.2.1 inG ty0 hty hnm C.2.2.2.1 C.2.2.2.2.2.2.1 hP.P bl_D hS i ((bl_get hi).trans (by rw [he])) hc f hf (C.2.2.2.2.1 _ w) (fun _ h => h) hfin hin2 hdecl hd hnr hfit hlen d (fun H1 locs1 hP1 hD1 hS1 => kk H1 locs1 ls ?_ hS1 hl)
  rw [bl_set hi] at hP1
  exact Bp.of hP1
theorem gb_put (C : Cq E p s m args meth c cc nL own) {ci N index : Nat} {Cn : String} {T : u_T} (inG : ∀ w ∈ u_ws Cn T N, w ∈ GW) (ty0 : Nat → FieldType) (hty : ∀ k, k < N → parseFieldDescriptor (T k).2.2.1 = some (ty0 k)) (hnm : ∀ a, a < N → ∀ b, b < N → a ≠ b → (T a).2.1 ≠ (T b).2.1) (i : Nat) (hi : i < n) {a : Nat} (ha : a = B + i) {fs : List Value} (he : F i = .inr (ci, fs)) (hc : vwCl[ci]? = some (Cn, T, N)) (f : Nat) (hf : f < N) {ref : String} (w : Cond.fieldLink own index ref (T f).2.1 (T f).2.2.1 ∈ GW) (hsame : ref = (T f).1) (hfin : (T f).2.2.2 = false) {ty : FieldType} {v : Value} (hd : parseFieldDescriptor (T f).2.2.1 = some ty) (hnr : narrow ty v = v) (hfit : fits ty v = true) (hlen : f < fs.length) (d : decode cc pc = .ok (.putfield index, 3)) (kk : Gb E B n (bu F i (.inr (ci, fs.set f v))) p l e R s m args below meth c k sl nL Q (pc + 3) lv rest) : Gb E B n F p l e R s m args below meth c k sl nL Q pc lv (v :: .ref a :: rest) := by
  subst ha
  subst hsame
  intro H locs ls hP hS hl
  refine va_put C.1 C.2.1 C.2.2.2.2.1 inG ty0 hty hnm C.2.2.2.1 C.2.2.2.2.2.2.1 hP.P bl_D hS i ((bl_get hi).trans (by rw [he])) hc f hf (C.2.2.2.2.1 _ w) (fun _ h => h) hfin hd hnr hfit hlen d (fun H1 locs1 hP1 hD1 hS1 => kk H1 locs1 ls ?_ hS1 hl)
  rw [bl_set hi] at hP1
  exact Bp.of hP1
theorem gb_get (C : Cq E p s m args meth c cc nL own) {ci N index : Nat} {Cn : String} {T : u_T} (inG : ∀ w ∈ u_ws Cn T N, w ∈ GW) (i : Nat) (hi : i < n) {a : Nat} (ha : a = B + i) {fs : List Value} (he : F i = .inr (ci, fs)) (hc : vwCl[ci]? = some (Cn, T, N)) (f : Nat) (hf : f < N) (w : Cond.fieldLink own index (T f).1 (T f).2.1 (T f).2.2.1 ∈ GW) {v : Value} (hv : fs[f]? = some v) (d : decode cc pc = .ok (.getfield index, 3)) (kk : Gb E B n F p l e R s m args below meth c k sl nL Q (pc + 3) lv (v :: rest)) : Gb E B n F p l e R s m args below meth c k sl nL Q pc lv (.ref a :: rest) := by
  subst ha
  intro H locs ls hP hS hl
  exact va_get C.1 C.2.1 C.2.2.2.2.1 inG C.2.2.2.1 C.2.2.2.2.2.2.1 hP.P i ((bl_get hi).trans (by rw [he])) hc f hf (C.2.2.2.2.1 _ w) (fun _ h => h) hv d (kk H locs ls hP hS hl)
theorem bp_push {H H1 : Heap} {x : va_E} (hP : Bp E B n F H) (o1 : ∀ q, q < B + n → H1[q]? = H[q]?) (hx : va_at E.1 vwCl (B + n, x) H1) : Bp E B (n + 1) (bu F n x) H1 := by
  intro i hi
  by_cases e1 : i = n
  · subst e1
    rw [bu_eq]
    exact hx
  · rw [bu_ne e1]
    exact (hP i (by omega)).kept (o1 _ (by show B + i < B + n; omega))
theorem gb_new (C : Cq E p s m args meth c cc nL own) {ci N index : Nat} {Cn : String} {T : u_T} (inG : ∀ w ∈ u_ws Cn T N, w ∈ GW) (ty : Nat → FieldType) (hty : ∀ k, k < N → parseFieldDescriptor (T k).2.2.1 = some (ty k)) (w1 : Cond.classLink own index Cn ∈ GW) (w2 : Cond.instantiable Cn N ∈ GW) (w3 : Cond.initialized Cn ∈ GW) (hc : vwCl[ci]? = some (Cn, T, N)) {fs : List Value} (hfs : ∀ j, j < N → defaultValue (ty j) = vp_V fs j) (hcnt : B + n = s.heap.size + k) (hn : 0 < n ∨ k = 0) (hR : k + 1 ≤ R.cells ∧ sl + N ≤ R.slots) (d : decode cc pc = .ok (.new index, 3)) (kk : Gb E B (n + 1) (bu F n (.inr (ci, fs))) p l e R s m args below meth c (k + 1) (sl + N) nL Q (pc + 3) lv (.ref (B + n) :: rest)) : Gb E B n F p l e R s m args below meth c k sl nL Q pc lv rest := by
  refine gb_sz hcnt hn (fun H locs ls hP hS hl hz => ?_)
  have hKn := C.2.2.2.2.2.2.1.1 ci _ hc
  refine W.newcK C.1 C.2.1 C.2.2.2.1 (C.2.2.2.2.1 _ w1) (C.2.2.2.2.1 _ w2) (C.2.2.2.2.1 _ w3) rfl d hR.1 hR.2 hKn.2.1 hz fun H1 kC hkC e1 z1 o1 => ?_
  refine kk H1 locs ls (bp_push hP o1 ⟨_, hc, (u_born ty C.2.2.2.2.1 inG hKn hkC e1 hty).to hfs⟩) ⟨Nat.le_trans hS.1 (by omega), fun x h1 h2 => (o1 x (by rw [← hz]; exact Nat.lt_of_lt_of_le h1 hS.1)).trans (hS.2.1 x h1 h2), hS.2.2⟩ hl
theorem gb_newa (C : Cq E p s m args meth c cc nL own) {atype : ArrayType} {ty : FieldType} (w1 : Cond.arrayClass (newarray.typeOf atype) ∈ GW) (hty : newarray.typeOf atype = ty) (t : Nat) (ht : (eTy E)[t]? = some (eC E t, ty)) (hprim : ∀ (U : State) (cA : ClassId), va_RA U cA ty → U.vm.findClass ("[" ++ ty.toString) = some cA) {v : Int32} {N : Nat} {a0 : vp_A} (ha : ∀ cA : ClassId, vp_cell cA a0 = arrV cA N (fun _ => defaultValue ty)) (hv : ¬ v < 0) (hN : v.toNatClampNeg = N) (hby : N * componentBytes ty ≤ 536870912) (hcnt : B + n = s.heap.size + k) (hn : 0 < n ∨ k = 0) (hR : k + 1 ≤ R.cells ∧ sl + N ≤ R.slots) (d : decode cc pc = .ok (.newarray atype, 2)) (kk : Gb E B (n + 1) (bu F n (.inl (eC E t, a0))) p l e R s m args below meth c (k + 1) (sl + N) nL Q (pc + 2) lv (.ref (B + n) :: rest)) : Gb E B n F p l e R s m args below meth c k sl nL Q pc lv (.int v :: rest) := by
  subst hty
  refine gb_sz hcnt hn (fun H locs ls hP hS hl hz => ?_)
  refine va_newaK C.1 C.2.1 (C.2.2.2.2.1 _ w1) rfl d rfl hv hN hby hR.1 hR.2 hz fun H1 cA e1 z1 o1 hAr hNm => ?_
  have hcA : cA = eC E t := Option.some.inj (hNm.symm.trans (hprim s _ (C.2.2.2.2.2.2.1.2 t _ ht).2))
  subst hcA
  refine kk H1 locs ls (bp_push hP o1 ?_) ⟨Nat.le_trans hS.1 (by omega), fun x h1 h2 => (o1 x (by rw [← hz]; exact Nat.lt_of_lt_of_le h1 hS.1)).trans (hS.2.1 x h1 h2), hS.2.2⟩ hl
  show H1[B + n]? = some (vp_cell _ _)
  rw [ha]
  exact e1
theorem gb_newq (C : Cq E p s m args meth c cc nL own) (hAO : va_AO RX1 s) {index : Nat} (w1 : Cond.classLink own index RX1 ∈ GW) {v : Int32} {N : Nat} (hv : ¬ v < 0) (hN : v.toNatClampNeg = N) (hby : N * 4 ≤ 536870912) (hcnt : B + n = s.heap.size + k) (hn : 0 < n ∨ k = 0) (hR : k + 1 ≤ R.cells ∧ sl + N ≤ R.slots) (d : decode cc pc = .ok (.anewarray index, 3)) (kk : Gb E B (n + 1) (bu F n (.inl (eC E 4, N, .inr (.inr (.inr (.inr (fun _ => none))))))) p l e R s m args below meth c (k + 1) (sl + N) nL Q (pc + 3) lv (.ref (B + n) :: rest)) : Gb E B n F p l e R s m args below meth c k sl nL Q pc lv (.int v :: rest) := by
  subst hN
  refine gb_sz hcnt hn (fun H locs ls hP hS hl hz => ?_)
  refine W.anew C.1 C.2.1 C.2.2.2.1 (C.2.2.2.2.1 _ w1) (va_AO.use hAO) rfl d rfl hv hby hR.1 hR.2 fun cA kA comp f1 f2 f3 f4 => ?_
  obtain ⟨kA', comp', -, -, -, g4⟩ := (C.2.2.2.2.2.2.1.2 4 (eC E 4, .object RX1) rfl).2
  have hcA : cA = eC E 4 := Option.some.inj (f1.symm.trans g4)
  subst hcA
  rw [hz]
  generalize hH1 : H.push ({ cls := eC E 4, slots := Array.replicate v.toNatClampNeg .null, vm := .none } : Cell) = H1
  have z1 : H1.size = B + n + 1 := by rw [← hH1, Array.size_push, hz]
  have e1 : H1[B + n]? = some (arrV (eC E 4) v.toNatClampNeg (fun _ => .null)) := by rw [← hH1, ← hz, Array.getElem?_push_size, ← arrV_new]
  have o1 : ∀ q : Nat, q < B + n → H1[q]? = H[q]? := fun q hq => by rw [← hH1, Array.getElem?_push, if_neg (by omega)]
  refine kk H1 locs ls (bp_push hP o1 ?_) ⟨Nat.le_trans hS.1 (by omega), fun x h1 h2 => (o1 x (by rw [← hz]; exact Nat.lt_of_lt_of_le h1 hS.1)).trans (hS.2.1 x h1 h2), hS.2.2⟩ hl
  show H1[B + n]? = some (vp_cell _ _)
  rw [vp_cell_q]
  exact e1
theorem gb_aast (C : Cq E p s m args meth c cc nL own) (i i2 : Nat) (hi : i < n) (hi2 : i2 < n) {a a2 : Nat} (ha : a = B + i) (ha2 : a2 = B + i2) {N : Nat} {f : Nat → Option Nat} (he : F i = .inl (eC E 4, N, .inr (.inr (.inr (.inr f))))) {fs : List Value} (he2 : F i2 = .inr (3, fs)) {v : Int32} (hin : vp_in v N) (d : decode cc pc = .ok (.aastore, 1)) (kk : Gb E B n (bu F i (.inl (eC E 4, N, .inr (.inr (.inr (.inr (va_up f v.toNatClampNeg (some a2)))))))) p l e R s m args below meth c k sl nL Q (pc + 1) lv rest) : Gb E B n F p l e R s m args below meth c k sl nL Q pc lv (.ref a2 :: .int v :: .ref a :: rest) := by
  subst ha
  subst ha2
  intro H locs ls hP hS hl
  refine va_astq (r := (RX1, TX1, 19)) C.1 C.2.1 C.2.2.2.2.2.2.1 hP.P bl_D hS i 4 i2 3 ((bl_get hi).trans (by rw [he])) rfl ((bl_get hi2).trans (by rw [he2])) rfl hin d (fun H1 locs1 hP1 hD1 hS1 => kk H1 locs1 ls ?_ hS1 hl)
  rw [bl_set hi] at hP1
  exact Bp.of hP1
theorem va_S.eA {H0 H : Heap} {locs : List Loc} (hU : (eU E).1 = 0) (hB : eB E ≤ B) (hS : va_S (fun q => B ≤ q) H0 H locs) : va_S (eA E) H0 H locs := ⟨hS.1, fun q h1 h2 => hS.2.1 q h1 (fun z => h2 ⟨Nat.le_trans hB z, Or.inl hU⟩), fun q hq => ⟨Nat.le_trans hB (hS.2.2 q hq), Or.inl hU⟩⟩
theorem gb_gets (C : Cq E p s m args meth c cc nL own) (hU : (eU E).1 = 0) {Cn nm ds : String} {v : Value} {index : Nat} (hZ : va_Z Cn nm ds v (eA E) s s.heap) (hB : eB E ≤ B) (w : Cond.fieldLink own index Cn nm ds ∈ GW) (d : decode cc pc = .ok (.getstatic index, 3)) (kk : Gb E B n F p l e R s m args below meth c k sl nL Q (pc + 3) lv (v :: rest)) : Gb E B n F p l e R s m args below meth c k sl nL Q pc lv rest := fun H locs ls hH hS hl => va_gets (A := eA E) C.1 C.2.1 hZ (va_S.eA hU hB hS) C.2.2.2.1 (C.2.2.2.2.1 _ w) (fun _ h => h) d (kk H locs ls hH hS hl)
theorem gb_vret {a cnt mc ms : Nat} (C : Cq E p s m args meth c cc nL own) (hr : meth.sig.returnType = none) (d : decode cc pc = .ok (.return_, 1)) (h1 : k ≤ mc) (h2 : sl ≤ ms) : Gb E a cnt F p l e R s m args below meth c k sl nL (MQ below (qBQ E a cnt F) args s mc ms (fun q => a ≤ q)) pc lv [] := fun H locs ls hH hS hl => W.widen h1 h2 (W.vret C.1 C.2.1 hr (fun t ht _ => ⟨rfl, by rw [ht]; exact hH, hS.F ht⟩) hS.2.2 d (hlocks := C.2.2.2.2.2.1))
theorem cb_of {y : MethodName} {maxL : Nat} {rm : Room} {b n' : Nat} {av : List Value} {G : Nat → va_E} (hy : plainName y.cls = true) (hav : (lg_sl av).length ≤ maxL) (body : ∀ (p : Program) (e : Env) (s : State) (m : MethodId) (args : Array Value) (below : List Frame) (meth : Method) (c : Code), Cq E p s m args meth c cc maxL y.cls → meth.name = y.name → va_AO RX1 s → s.heap.size = b + n → eB E ≤ b → meth.sig.returnType = none → Gb E b n F p l e rm s m args below meth c 0 0 maxL (MQ below (qBQ E b n' G) args s rm.cells rm.slots (fun q => b ≤ q)) 0 (lv_args 0 av) []) : Cb l E y (Cond.code y cc maxL none :: GW) rm av b n F n' G := by
  refine Met.ofW (cc := cc) (maxL := maxL) (ret := none) hy rfl ?_
  intro p e s m args below meth c s₁ B hml hv
  obtain ⟨rfl, hx, hz, hK, hB, hO, hA⟩ := hv
  have hts := atoms_spec (ws := Cond.code y cc maxL none :: GW) B.pre
  rw [lg_entry_eq]
  exact body p e s m _ below meth c ⟨B.exec, B.bytes, hml, findClass_of_methodNamed B.named, fun w h => hts w (List.mem_cons_of_mem _ h), B.notSynchronized, hK, by omega, hO⟩ (name_of_methodNamed B.named B.method).1 hA hz hB B.returns s.heap [] _ hx va_S.rf (lv_entry av hav)
theorem qB_blind (E : Ev) (b n : Nat) (F : Nat → va_E) (av : List Value) : FrameBlind (va_Pc av (qB E b n F)) := fun v U g mk h => ⟨h.1, h.2.1, h.2.2.1, va_K.moved (u := U) (U := U.calling g mk v) (Vm.Alike.refl U.vm) h.2.2.2.1, h.2.2.2.2.1, Old.same (u := U) (U := U.calling g mk v) rfl rfl h.2.2.2.2.2.1, va_AO.moved (u := U) (U := U.calling g mk v) (Vm.Alike.refl U.vm) h.2.2.2.2.2.2⟩
/-- a constructor is called: its world lies last -/
theorem gb_ctor (C : Cq E p s m args meth c cc nL own) (hAO : va_AO RX1 s) (hU0 : (eU E).1 = 0) (hB : eB E ≤ B) {y : MethodName} {bytes : ByteArray} {maxL index i nb b n' : Nat} {rm : Room} {As : List Value} {a : Nat} {Fc G : Nat → va_E} {st0 : List Value} (hb : b = B + i) (hnb : 0 < nb) (hM : Cb l E y (Cond.code y bytes maxL none :: GW) rm (.ref a :: As) b nb Fc n' G) (w1 : Cond.methodLink own index y ∈ GW) (w2 : Cond.instanceMethod y ∈ GW) (w3 : Cond.initialized y.cls ∈ GW) (w5 : Cond.code y bytes maxL none ∈ GW) (hy : y.name = "<init>") (hd : y.cls ≠ "java/lang/invoke/MethodHandle" ∧ y.cls ≠ "java/lang/invoke/VarHandle" ∧ (parseMethodDescriptor y.desc).map (fun d => d.parameters.length) = some As.length) (hcnt : B + (i + nb) = s.heap.size + k) (hx : ∀ j, j < nb → F (i + j) = Fc j) (h1 : ∀ j, j < i → F' j = F j) (h2 : ∀ j, j < n' → F' (i + j) = G j) (hR : rm.frames + 1 ≤ R.frames ∧ 8 + (maxL + 11) + rm.locals ≤ R.locals) (hw : (rest.map fun v => v.category).sum ≤ 8) (hf : k + rm.cells ≤ R.cells ∧ sl + rm.slots ≤ R.slots) (d : decode cc pc = .ok (.invokespecial index, 3)) (hst0 : st0 = As.reverse ++ .ref a :: rest) (kk : Gb E B (i + n') F' p l e R s m args below meth c (k + rm.cells) (sl + rm.slots) nL Q (pc + 3) lv rest) : Gb E B (i + nb) F p l e R s m args below meth c k sl nL Q pc lv st0 := by
  subst hb
  refine gb_sz hcnt (Or.inl (by omega)) (fun H locs ls hP hS hl hz => ?_)
  have hPc : Bp E (B + i) nb Fc H := fun j hj => by
    rw [← hx j hj, Nat.add_assoc]
    exact hP (i + j) (by omega)
  have hr := va_runI (p := p) (l := l) (e := e) (R := R) (s := s) (m := m) (args := args) (below := below) (meth := meth) (c := c) (H := H) (locs := locs) (cells := k) (slots := sl) (g := F0 m pc ls st0) (As := As) (rest := rest) (b := a) ⟨C.1, C.2.1, C.2.2.1, C.2.2.2.1, C.2.2.2.2.1⟩ hM (cwI As.length C.2.2.2.2.1 (gw_in (gw_ws w5)) rfl rfl rfl (C.2.2.2.2.1 _ w3) (C.2.2.2.2.1 _ w1) (C.2.2.2.2.1 _ w2) hy hd hR) ⟨qB_blind E _ _ _ _, fun U hU hW => ⟨rfl, by rw [hU]; exact hPc, by rw [hU, hz]; omega, va_K.moved hW.alike C.2.2.2.2.2.2.1, by omega, Old.to hW (by rw [hU]; exact va_S.eA hU0 hB hS) C.2.2.2.2.2.2.2.2, va_AO.moved hW.alike hAO⟩⟩ rfl rfl hl.1 hst0 (lv_room hw) d hf
  intro T hT X
  obtain ⟨v, st₀, t, T', L, h0, X', hL, e1, e2, ⟨hv, hP', hF⟩, st⟩ := hr T hT X
  cases hv
  obtain ⟨k1, k2, k3⟩ := vx_keep (A0 := fun q => B ≤ q) (A1 := fun q => B + i ≤ q) h0 e1 hS (fun q _ h => Nat.le_trans (Nat.le_add_right _ _) h) (fun q h => Nat.le_trans (Nat.le_add_right _ _) h) hL hF
  have hBp : Bp E B (i + n') F' T'.heap := fun j hj => by
    by_cases e3 : j < i
    · rw [h1 j e3]
      exact (hP j (by omega)).kept (k2 _ (by show B + j < H.size; omega) (by show ¬ B + i ≤ B + j; omega))
    · obtain ⟨z, rfl⟩ : ∃ z, j = i + z := ⟨j - i, by omega⟩
      rw [h2 z (by omega), e1, show B + (i + z) = B + i + z by omega]
      exact hP' z (by omega)
  obtain ⟨t2, a1, b1⟩ := kk T'.heap (locs ++ L) ls hBp k3 hl T' rfl X'
  exact ⟨t2, st t2 a1, b1⟩
end BLD
theorem ra_b {U : State} {cA : ClassId} : va_RA U cA .byte → U.vm.findClass ("[" ++ FieldType.byte.toString) = some cA := fun h => h
theorem ra_i {U : State} {cA : ClassId} : va_RA U cA .int → U.vm.findClass ("[" ++ FieldType.int.toString) = some cA := fun h => h
theorem ra_l {U : State} {cA : ClassId} : va_RA U cA .long → U.vm.findClass ("[" ++ FieldType.long.toString) = some cA := fun h => h
theorem ra_z {U : State} {cA : ClassId} : va_RA U cA .boolean → U.vm.findClass ("[" ++ FieldType.boolean.toString) = some cA := fun h => h
