/-! ===== the law's level: worlds as lists; surroundings within; new cells ===== -/
theorem hw_iff {E : Ev} {ν : va_W} {H : Heap} : HW E ν H ↔ (∀ q, q ∈ ν → va_at E.1 vwCl q H) ∧ ((ν.map (fun z => z.1)).Nodup ∧ ∀ q, q ∈ ν → eA E q.1) := by
  constructor
  · rintro ⟨h1, h2, h3⟩
    refine ⟨fun q hq => ?_, ?_, fun q hq => ?_⟩
    · obtain ⟨k, hk⟩ := List.getElem?_of_mem hq
      exact h1 k q hk
    · refine List.pairwise_iff_getElem.mpr (fun i j hi hj hij e => ?_)
      rw [List.getElem_map, List.getElem_map] at e
      rw [List.length_map] at hi hj
      have := h2 i j ν[i] ν[j] (List.getElem?_eq_getElem hi) (List.getElem?_eq_getElem hj) e
      omega
    · obtain ⟨k, hk⟩ := List.getElem?_of_mem hq
      exact h3 k q hk
  · rintro ⟨h1, h2, h3⟩
    refine ⟨fun k q hk => h1 q (List.mem_of_getElem? hk), fun i j p q hp hq e => ?_, fun k q hk => h3 q (List.mem_of_getElem? hk)⟩
    have hi : (ν.map (fun z => z.1))[i]? = some p.1 := by rw [List.getElem?_map, hp]; rfl
    have hj : (ν.map (fun z => z.1))[j]? = some q.1 := by rw [List.getElem?_map, hq]; rfl
    exact (List.getElem?_inj (List.getElem?_eq_some_iff.mp hi).1 h2).mp (by rw [hi, hj, e])
theorem hw_perm {E : Ev} {ν ν' : va_W} {H : Heap} (hp : ν'.Perm ν) (h : HW E ν H) : HW E ν' H := by
  obtain ⟨h1, h2, h3⟩ := hw_iff.mp h
  exact hw_iff.mpr ⟨fun q hq => h1 q (hp.mem_iff.mp hq), (hp.map (fun z => z.1)).nodup_iff.mpr h2, fun q hq => h3 q (hp.mem_iff.mp hq)⟩
theorem hw_subl {E : Ev} {ν ν' : va_W} {H : Heap} (hp : List.Sublist ν' ν) (h : HW E ν H) : HW E ν' H := by
  obtain ⟨h1, h2, h3⟩ := hw_iff.mp h
  exact hw_iff.mpr ⟨fun q hq => h1 q (hp.subset hq), List.Nodup.sublist (hp.map (fun z => z.1)) h2, fun q hq => h3 q (hp.subset hq)⟩
theorem hw_push {E : Ev} {ν : va_W} {H H1 : Heap} {x : va_E} (h : HW E ν H) (hA : eA E H.size) (o1 : ∀ q : Nat, q < H.size → H1[q]? = H[q]?) (hx : va_at E.1 vwCl (H.size, x) H1) : HW E ((H.size, x) :: ν) H1 := by
  obtain ⟨h1, h2, h3⟩ := hw_iff.mp h
  refine hw_iff.mpr ⟨fun q hq => ?_, ?_, fun q hq => ?_⟩
  · rcases List.mem_cons.mp hq with rfl | hq
    · exact hx
    · exact (h1 q hq).kept (o1 _ (h1 q hq).lt)
  · rw [List.map_cons, List.nodup_cons]
    refine ⟨fun z => ?_, h2⟩
    obtain ⟨q, hq, e⟩ := List.mem_map.mp z
    have := (h1 q hq).lt
    have e : q.1 = H.size := e
    omega
  · rcases List.mem_cons.mp hq with rfl | hq
    · exact hA
    · exact h3 q hq
/-! surroundings -/
def eM (E : Ev) (B N : Nat) (u : Nat × Nat) : Ev := (E.1, (E.2.1, ((B, N), (E.2.2.2.1, (E.2.2.2.2.1, (u, E.2.2.2.2.2.2))))))
/-- the class' own, at B; with the builder behind it; while it is built -/
def eX (E : Ev) (B : Nat) : Ev := eM E B 295 (1, B + 295)
def eS (E : Ev) (B : Nat) : Ev := eM E B 296 (0, 0)
def eR (E : Ev) (B : Nat) : Ev := eM E B 295 (0, 0)
theorem Old.nar {E E1 : Ev} {U : State} (h : Old E U) (hK : eK E1 = eK E) (hV : eV E1 = eV E) (hD : eD E1 = eD E) (hA : ∀ q, eA E1 q → eA E q) : Old E1 U := by
  obtain ⟨h1, h2, h3, h4, h5, h6, h7, h8, h9, h10, h11, h12⟩ := h
  have hL : ∀ j, eLn E1 j = eLn E j := fun j => by unfold eLn; rw [hD]
  have hY : ∀ j, eBy E1 j = eBy E j := fun j => by unfold eBy; rw [hD]
  refine ⟨fun q hq => by rw [hK]; exact h1 q hq, fun j hj => ?_, vx_Zq.narrow h3 hA, vx_Zq.narrow h4 hA, va_Z.narrow h5 hA, ?_, ?_, ?_, ?_, h10, ?_, va_Zq.narrow h12 hA⟩
  · rw [hL, hY, hK, hV]
    exact vk_S.narrow (h2 j hj) hA
  · rw [hV]
    exact va_Z.narrow h6 hA
  · rw [hV]
    exact va_T.narrow h7 hA
  · rw [hV]
    exact va_Z.narrow h8 hA
  · rw [hV]
    exact va_T.narrow h9 hA
  · rw [hD]
    exact h11
theorem eM_A {E : Ev} {B N : Nat} {u : Nat × Nat} (hU : (eU E).1 = 0) (hB : eB E ≤ B) : ∀ q, eA (eM E B N u) q → eA E q := fun q h => ⟨Nat.le_trans hB h.1, Or.inl hU⟩
theorem eM_old {E : Ev} {B N : Nat} {u : Nat × Nat} (hU : (eU E).1 = 0) (hB : eB E ≤ B) {U : State} (h : Old E U) : Old (eM E B N u) U := h.nar rfl rfl rfl (eM_A hU hB)
theorem eM_inn {E : Ev} {B N : Nat} {u : Nat × Nat} (hU : (eU E).1 = 0) (hB : eB E ≤ B) : Inn E (eM E B N u) := ⟨rfl, rfl, eM_A hU hB, hB, fun _ h => eM_old hU hB h⟩
theorem rng_295 : (List.range 295).filter (fun i => i != 296) = List.range 295 := by decide +kernel
theorem rng_296 : (List.range 296).filter (fun i => i != 296) = List.range 296 := by decide +kernel
theorem wl_xl {E : Ev} {B : Nat} {μ : Mm} : wl (eX E B) μ = bl B 295 (fun i => cn (eX E B) μ i) := by
  unfold wl bl va_pl
  rw [show tx (eX E B) μ = [] from if_pos (Nat.le_refl 295), List.nil_append]
  unfold eL
  rw [show (List.range (eN (eX E B))).filter (fun i => i != 296) = List.range 295 from rng_295, List.map_map]
  apply List.map_congr_left
  intro i _
  show (B + i, cn (eX E B) μ (B + i - B)) = (B + i, cn (eX E B) μ i)
  rw [Nat.add_sub_cancel_left]
theorem wl_sl {E : Ev} {B : Nat} {μ : Mm} : wl (eS E B) μ = (μ.2.2.1, .inl (eC E 0, μ.2.2.2.1, .inl μ.2.2.2.2)) :: bl B 296 (fun i => cn (eX E B) μ i) := by
  unfold wl bl va_pl
  rw [show tx (eS E B) μ = [(μ.2.2.1, .inl (eC E 0, μ.2.2.2.1, .inl μ.2.2.2.2))] from if_neg (by show ¬ (296 : Nat) ≤ 295; decide)]
  unfold eL
  rw [show (List.range (eN (eS E B))).filter (fun i => i != 296) = List.range 296 from rng_296, List.map_map]
  show _ :: (List.map _ (List.range 296)) = _ :: (List.map _ (List.range 296))
  congr 1
  apply List.map_congr_left
  intro i _
  show (B + i, cn (eS E B) μ (B + i - B)) = (B + i, cn (eX E B) μ i)
  rw [Nat.add_sub_cancel_left]
  rfl
theorem bl_succ {B n : Nat} {F : Nat → va_E} : bl B (n + 1) F = bl B n F ++ [(B + n, F n)] := by
  unfold bl
  rw [List.range_succ, List.map_append]
  rfl
/-- the class' cells alone, out of those with the builder -/
theorem xl_sl {E : Ev} {B : Nat} {μ : Mm} : List.Sublist (wl (eX E B) μ) (wl (eS E B) μ) := by
  have e : bl B 296 (fun i => cn (eX E B) μ i) = bl B 295 (fun i => cn (eX E B) μ i) ++ [(B + 295, cn (eX E B) μ 295)] := bl_succ (n := 295)
  rw [wl_xl, wl_sl, e]
  exact List.Sublist.cons _ (List.sublist_append_left _ _)
theorem xl_lo {E : Ev} {B : Nat} {μ : Mm} {q : Nat × va_E} (h : q ∈ wl (eX E B) μ) : B ≤ q.1 ∧ q.1 < B + 295 := by
  rw [wl_xl] at h
  obtain ⟨k, hk⟩ := List.getElem?_of_mem h
  obtain ⟨h1, rfl⟩ := bl_ex hk
  exact ⟨Nat.le_add_right _ _, Nat.add_lt_add_left h1 _⟩
theorem xl_D {E : Ev} {B : Nat} {μ : Mm} : va_D (eA (eX E B)) (wl (eX E B) μ) := wl_D (E1 := eX E B) (Nat.le_refl 295) (Or.inr (Nat.le_refl _))
section GZ2
variable {E : Ev} {p : Program} {l : Launch} {e : Env} {R : Room} {s : State} {m : MethodId} {args : Array Value} {below : List Frame} {meth : Method} {c : Code} {k n nL : Nat} {Q : State → Prop} {cc : ByteArray} {own : String} {pc : Nat} {lv lv' : List (Nat × Value)} {rest st : List Value} {ν ν' : va_W}
theorem gz_hw (h : ∀ H, HW E ν H → HW E ν' H) (kk : Gz E p l e R s m args below meth c k n nL Q pc lv st ν') : Gz E p l e R s m args below meth c k n nL Q pc lv st ν := fun H locs ls hH hS hl => kk H locs ls (h H hH) hS hl
/-- the heap's size, by the cells that were counted -/
theorem gz_sz (hlo : (∃ x, x ∈ ν ∧ s.heap.size + k = x.1 + 1) ∨ k = 0) (kk : ∀ (H : Heap) (locs : List Loc) (ls : Array Slot), HW E ν H → va_S (eA E) s.heap H locs → lv_has ls nL lv → H.size = s.heap.size + k → W p l e R s m args below meth c H locs k n Q (F0 m pc ls st)) : Gz E p l e R s m args below meth c k n nL Q pc lv st ν := by
  intro H locs ls hH hS hl T hT X
  have h1 : H.size ≤ s.heap.size + k := hT ▸ X.heapSize
  have h2 : s.heap.size + k ≤ H.size := by
    rcases hlo with ⟨x, x1, x2⟩ | h0
    · have := ((hw_iff.mp hH).1 x x1).lt
      omega
    · have := hS.1
      omega
  exact kk H locs ls hH hS hl (by omega) T hT X
theorem gz_new (C : Cq E p s m args meth c cc nL own) (hU : (eU E).1 = 0) {ci N index : Nat} {Cn : String} {T : u_T} (inG : ∀ w ∈ u_ws Cn T N, w ∈ GW) (ty : Nat → FieldType) (hty : ∀ k, k < N → parseFieldDescriptor (T k).2.2.1 = some (ty k)) (w1 : Cond.classLink own index Cn ∈ GW) (w2 : Cond.instantiable Cn N ∈ GW) (w3 : Cond.initialized Cn ∈ GW) (hc : vwCl[ci]? = some (Cn, T, N)) {fs : List Value} (hfs : ∀ j, j < N → defaultValue (ty j) = vp_V fs j) (hR : k + 1 ≤ R.cells ∧ n + N ≤ R.slots) (d : decode cc pc = .ok (.new index, 3)) (kk : ∀ a, eB E ≤ a → (∀ q, q ∈ ν → q.1 < a) → s.heap.size ≤ a → Gz E p l e R s m args below meth c (k + 1) (n + N) nL Q (pc + 3) lv (.ref a :: rest) ((a, .inr (ci, fs)) :: ν)) : Gz E p l e R s m args below meth c k n nL Q pc lv rest ν := by
  intro H locs ls hH hS hl
  have hKn := C.2.2.2.2.2.2.1.1 ci _ hc
  have hB : eB E ≤ H.size := Nat.le_trans C.2.2.2.2.2.2.2.1 hS.1
  refine W.newcK C.1 C.2.1 C.2.2.2.1 (C.2.2.2.2.1 _ w1) (C.2.2.2.2.1 _ w2) (C.2.2.2.2.1 _ w3) rfl d hR.1 hR.2 hKn.2.1 rfl fun H1 kC hkC e1 z1 o1 => ?_
  exact kk H.size hB (fun q hq => ((hw_iff.mp hH).1 q hq).lt) hS.1 H1 locs ls (hw_push (x := .inr (ci, fs)) hH ⟨hB, Or.inl hU⟩ o1 ⟨_, hc, (u_born ty C.2.2.2.2.1 inG hKn hkC e1 hty).to hfs⟩) ⟨Nat.le_trans hS.1 (by omega), fun x h1 h2 => (o1 x (Nat.lt_of_lt_of_le h1 hS.1)).trans (hS.2.1 x h1 h2), hS.2.2⟩ hl
/-- .. where its address is known -/
theorem gz_newK (C : Cq E p s m args meth c cc nL own) (hU : (eU E).1 = 0) (hlo : (∃ x, x ∈ ν ∧ s.heap.size + k = x.1 + 1) ∨ k = 0) {a : Nat} (ha : s.heap.size + k = a) {ci N index : Nat} {Cn : String} {T : u_T} (inG : ∀ w ∈ u_ws Cn T N, w ∈ GW) (ty : Nat → FieldType) (hty : ∀ k, k < N → parseFieldDescriptor (T k).2.2.1 = some (ty k)) (w1 : Cond.classLink own index Cn ∈ GW) (w2 : Cond.instantiable Cn N ∈ GW) (w3 : Cond.initialized Cn ∈ GW) (hc : vwCl[ci]? = some (Cn, T, N)) {fs : List Value} (hfs : ∀ j, j < N → defaultValue (ty j) = vp_V fs j) (hR : k + 1 ≤ R.cells ∧ n + N ≤ R.slots) (d : decode cc pc = .ok (.new index, 3)) (kk : (∀ q, q ∈ ν → q.1 < a) → Gz E p l e R s m args below meth c (k + 1) (n + N) nL Q (pc + 3) lv (.ref a :: rest) ((a, .inr (ci, fs)) :: ν)) : Gz E p l e R s m args below meth c k n nL Q pc lv rest ν := by
  subst ha
  refine gz_sz hlo (fun H locs ls hH hS hl hz => ?_)
  have hKn := C.2.2.2.2.2.2.1.1 ci _ hc
  have hB : eB E ≤ H.size := Nat.le_trans C.2.2.2.2.2.2.2.1 hS.1
  refine W.newcK C.1 C.2.1 C.2.2.2.1 (C.2.2.2.2.1 _ w1) (C.2.2.2.2.1 _ w2) (C.2.2.2.2.1 _ w3) rfl d hR.1 hR.2 hKn.2.1 rfl fun H1 kC hkC e1 z1 o1 => ?_
  have hp := hw_push (x := .inr (ci, fs)) hH ⟨hB, Or.inl hU⟩ o1 ⟨_, hc, (u_born ty C.2.2.2.2.1 inG hKn hkC e1 hty).to hfs⟩
  have hlt : ∀ q, q ∈ ν → q.1 < H.size := fun q hq => ((hw_iff.mp hH).1 q hq).lt
  rw [hz] at hp hlt
  have hg := kk hlt H1 locs ls hp ⟨Nat.le_trans hS.1 (by omega), fun x h1 h2 => (o1 x (Nat.lt_of_lt_of_le h1 hS.1)).trans (hS.2.1 x h1 h2), hS.2.2⟩ hl
  rw [← hz] at hg
  exact hg
theorem gz_newa (C : Cq E p s m args meth c cc nL own) (hU : (eU E).1 = 0) {atype : ArrayType} {ty : FieldType} (w1 : Cond.arrayClass (newarray.typeOf atype) ∈ GW) (hty : newarray.typeOf atype = ty) (t : Nat) (ht : (eTy E)[t]? = some (eC E t, ty)) (hprim : ∀ (U : State) (cA : ClassId), va_RA U cA ty → U.vm.findClass ("[" ++ ty.toString) = some cA) {v : Int32} {N : Nat} {a0 : vp_A} (ha : ∀ cA : ClassId, vp_cell cA a0 = arrV cA N (fun _ => defaultValue ty)) (hv : ¬ v < 0) (hN : v.toNatClampNeg = N) (hby : N * componentBytes ty ≤ 536870912) (hR : k + 1 ≤ R.cells ∧ n + N ≤ R.slots) (d : decode cc pc = .ok (.newarray atype, 2)) (kk : ∀ a, eB E ≤ a → (∀ q, q ∈ ν → q.1 < a) → s.heap.size ≤ a → Gz E p l e R s m args below meth c (k + 1) (n + N) nL Q (pc + 2) lv (.ref a :: rest) ((a, .inl (eC E t, a0)) :: ν)) : Gz E p l e R s m args below meth c k n nL Q pc lv (.int v :: rest) ν := by
  subst hty
  intro H locs ls hH hS hl
  have hB : eB E ≤ H.size := Nat.le_trans C.2.2.2.2.2.2.2.1 hS.1
  refine va_newaK C.1 C.2.1 (C.2.2.2.2.1 _ w1) rfl d rfl hv hN hby hR.1 hR.2 rfl fun H1 cA e1 z1 o1 hAr hNm => ?_
  have hcA : cA = eC E t := Option.some.inj (hNm.symm.trans (hprim s _ (C.2.2.2.2.2.2.1.2 t _ ht).2))
  subst hcA
  refine kk H.size hB (fun q hq => ((hw_iff.mp hH).1 q hq).lt) hS.1 H1 locs ls (hw_push (x := .inl (eC E t, a0)) hH ⟨hB, Or.inl hU⟩ o1 ?_) ⟨Nat.le_trans hS.1 (by omega), fun x h1 h2 => (o1 x (Nat.lt_of_lt_of_le h1 hS.1)).trans (hS.2.1 x h1 h2), hS.2.2⟩ hl
  show H1[H.size]? = some (vp_cell _ _)
  rw [ha]
  exact e1
theorem gz_obj (C : Cq E p s m args meth c cc nL own) {idx a : Nat} (w1 : Cond.methodLink own idx Lib.objectInit ∈ GW) (w2 : Cond.instanceMethod Lib.objectInit ∈ GW) (w3 : Cond.code Lib.objectInit ⟨#[0xb1]⟩ 1 none ∈ GW) (hR : 1 ≤ R.frames ∧ 12 ≤ R.locals) (d : decode cc pc = .ok (.invokespecial idx, 3)) (kk : Gz E p l e R s m args below meth c k n nL Q (pc + 3) lv [] ν) : Gz E p l e R s m args below meth c k n nL Q pc lv [.ref a] ν := fun H locs ls hH hS hl => W.objInit C.1 C.2.1 C.2.2.2.1 (C.2.2.2.2.1 _ w1) (C.2.2.2.2.1 _ w2) (C.2.2.2.2.1 _ w3) rfl (hl.1.trans C.2.2.1.symm) rfl d hR.1 (by show 2 * 0 + 0 + 12 ≤ R.locals; omega) (kk H locs ls hH hS hl)
/-- a constructor is called -/
theorem gz_I (C : Cq E p s m args meth c cc nL own) {y : MethodName} {bytes : ByteArray} {maxL index a : Nat} {rm : Room} {As : List Value} {st0 : List Value} {P : Option Value → va_W → Prop} (hM : Cz l E y (Cond.code y bytes maxL none :: GW) rm (.ref a :: As) ν P) (w1 : Cond.methodLink own index y ∈ GW) (w2 : Cond.instanceMethod y ∈ GW) (w3 : Cond.initialized y.cls ∈ GW) (w5 : Cond.code y bytes maxL none ∈ GW) (hy : y.name = "<init>") (hd : y.cls ≠ "java/lang/invoke/MethodHandle" ∧ y.cls ≠ "java/lang/invoke/VarHandle" ∧ (parseMethodDescriptor y.desc).map (fun d => d.parameters.length) = some As.length) (hR : rm.frames + 1 ≤ R.frames ∧ 8 + (maxL + 11) + rm.locals ≤ R.locals) (hw : (rest.map fun v => v.category).sum ≤ 8) (hf : k + rm.cells ≤ R.cells ∧ n + rm.slots ≤ R.slots) (d : decode cc pc = .ok (.invokespecial index, 3)) (hst0 : st0 = As.reverse ++ .ref a :: rest)
    (kk : ∀ o ν', P o ν' → Gz E p l e R s m args below meth c (k + rm.cells) (n + rm.slots) nL Q (pc + 3) lv (o.toList ++ rest) ν') : Gz E p l e R s m args below meth c k n nL Q pc lv st0 ν :=
  gz_callS (fun H locs ls hH hS hl => va_runI (As := As) (rest := rest) (b := a) ⟨C.1, C.2.1, C.2.2.1, C.2.2.2.1, C.2.2.2.2.1⟩ hM (cwI As.length C.2.2.2.2.1 (gw_in (gw_ws w5)) rfl rfl rfl (C.2.2.2.2.1 _ w3) (C.2.2.2.2.1 _ w1) (C.2.2.2.2.1 _ w2) hy hd hR) ⟨qPz_blind E ν _, fun U hU hW => ⟨rfl, qPz_at hH hS C.2.2.2.2.2.2.1 C.2.2.2.2.2.2.2.1 C.2.2.2.2.2.2.2.2 hU hW⟩⟩ rfl rfl hl.1 hst0 (lv_room hw) d hf) kk
end GZ2
