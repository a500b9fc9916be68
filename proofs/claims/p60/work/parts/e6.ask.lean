/-! ===== the law asks the class ===== -/
section GZA
variable {E : Ev} {p : Program} {l : Launch} {e : Env} {R : Room} {s : State} {m : MethodId} {args : Array Value} {below : List Frame} {meth : Method} {c : Code} {k n nL : Nat} {Q : State → Prop} {cc : ByteArray} {own : String} {pc : Nat} {lv lv' : List (Nat × Value)} {rest st : List Value} {Y ν ν' : va_W} {B : Nat} {μ μ' : Mm}
theorem yx_D (h : va_D (eA E) (Y ++ wl (eX E B) μ)) : va_D (eA E) Y ∧ ∀ q, q ∈ Y → ¬ eA (eX E B) q.1 := by
  have lf : ∀ (i : Nat) (q : Nat × va_E), Y[i]? = some q → (Y ++ wl (eX E B) μ)[i]? = some q := fun i q hi => by
    rw [List.getElem?_append_left (List.getElem?_eq_some_iff.mp hi).1]
    exact hi
  refine ⟨⟨fun i j a b ha hb e => h.1 i j a b (lf i a ha) (lf j b hb) e, fun i q hi => h.2 i q (lf i q hi)⟩, fun q hq z => ?_⟩
  obtain ⟨i, hi⟩ := List.getElem?_of_mem hq
  have hil := (List.getElem?_eq_some_iff.mp hi).1
  obtain ⟨z1, z2⟩ := z
  have z1 : B ≤ q.1 := z1
  have z3 : q.1 < B + 295 := z2.elim (fun w => absurd (show (1 : Nat) = 0 from w) (by decide)) (fun w => w)
  have hj : (Y ++ wl (eX E B) μ)[Y.length + (q.1 - B)]? = some (B + (q.1 - B), cn (eX E B) μ (q.1 - B)) := by
    rw [List.getElem?_append_right (Nat.le_add_right _ _), Nat.add_sub_cancel_left, wl_xl]
    exact bl_get (by omega)
  have := h.1 i _ q _ (lf i q hi) hj (by show q.1 = B + (q.1 - B); omega)
  omega
def fsX (B : Nat) (μ : Mm) : List Value := [.ref (B + 1), .ref (B + 23), .ref (B + 45), .ref (B + 69), .ref (B + 70), .int (μ.1 0 5), .ref (B + 247), .ref (B + 292), .ref (B + 293)]
theorem yx_0 : (Y ++ wl (eX E B) μ)[Y.length]? = some (B, .inr (5, fsX B μ)) := by
  rw [List.getElem?_append_right (Nat.le_refl _), Nat.sub_self, wl_xl, bl_get (by decide)]
  show some (B, cn (eX E B) μ 0) = _
  rw [cn_0 (show kd 0 = 0 by decide)]
  rfl
theorem yx_Y {i : Nat} {q : Nat × va_E} (h : Y[i]? = some q) : (Y ++ wl (eX E B) μ)[i]? = some q := by
  rw [List.getElem?_append_left (List.getElem?_eq_some_iff.mp h).1]
  exact h
theorem yx_set {i : Nat} {q : Nat × va_E} (h : i < Y.length) : (Y ++ wl (eX E B) μ).set i q = Y.set i q ++ wl (eX E B) μ := List.set_append_left _ _ h
/-- a method of the exchange -/
theorem gz_ask (C : Cq E p s m args meth c cc nL own) (hU : (eU E).1 = 0) (hB : eB E ≤ B) {y : MethodName} {bytes : ByteArray} {maxL index : Nat} {ret : Option FieldType} {rm : Room} {As : List Value} {st0 st1 : List Value} {o : Option Value} (hM : Ct l (eX E B) y (Cond.code y bytes maxL ret :: GW) rm (.ref B :: As) μ o μ') (w1 : Cond.methodLink own index y ∈ GW) (w2 : Cond.instanceMethod y ∈ GW) (w3 : Cond.selects RX3 y y ∈ GW) (w4 : Cond.initialized RX3 ∈ GW) (w5 : Cond.code y bytes maxL ret ∈ GW) (hd : y.cls = RX3 ∧ y.cls ≠ "java/lang/invoke/MethodHandle" ∧ y.cls ≠ "java/lang/invoke/VarHandle" ∧ (parseMethodDescriptor y.desc).map (fun d => d.parameters.length) = some As.length) (hR : rm.frames + 1 ≤ R.frames ∧ 8 + (maxL + 11) + rm.locals ≤ R.locals) (hw : (rest.map fun v => v.category).sum ≤ 8) (hf : k + rm.cells ≤ R.cells ∧ n + rm.slots ≤ R.slots) (d : decode cc pc = .ok (.invokevirtual index, 3)) (hst0 : st0 = As.reverse ++ .ref B :: rest) (hst1 : o.toList ++ rest = st1)
    (kk : Gz E p l e R s m args below meth c (k + rm.cells) (n + rm.slots) nL Q (pc + 3) lv st1 (Y ++ wl (eX E B) μ')) : Gz E p l e R s m args below meth c k n nL Q pc lv st0 (Y ++ wl (eX E B) μ) := by
  intro H locs ls hH hS hl
  obtain ⟨y1, y2⟩ := yx_D hH.2
  refine gz_V (ci := 5) (T := TX3) (N := 9) (q := Y.length) (fs := fsX B μ) C (cz_ct hM (eM_inn hU hB) (show 0 < 295 by decide) y1 y2 xl_D) yx_0 rfl w1 w2 w3 w4 w5 hd hR hw hf d hst0 (fun o' ν' hP => ?_) H locs ls hH hS hl
  obtain ⟨rfl, rfl, -⟩ := hP
  subst hst1
  exact kk
theorem gz_getN (C : Cq E p s m args meth c cc nL own) {ci N index : Nat} {Cn host : String} {T : u_T} (inG : ∀ w ∈ u_ws Cn T N, w ∈ GW) (q : Nat) {a : Nat} {fs : List Value} (hq : ν[q]? = some (a, .inr (ci, fs))) (hc : vwCl[ci]? = some (Cn, T, N)) (f : Nat) (hf : f < N) (w : Cond.fieldLinkNest own index (T f).1 (T f).2.1 (T f).2.2.1 host ∈ NW) {v : Value} (hv : fs[f]? = some v) (d : decode cc pc = .ok (.getfield index, 3)) (kk : Gz E p l e R s m args below meth c k n nL Q (pc + 3) lv (v :: rest) ν) : Gz E p l e R s m args below meth c k n nL Q pc lv (.ref a :: rest) ν := fun H locs ls hH hS hl => va_getN (ci := ci) (C := Cn) (T := T) (N := N) C.1 C.2.1 C.2.2.2.2.1 inG C.2.2.2.1 C.2.2.2.2.2.2.1 hH.1 q hq hc f hf (va_Nw.use rfl (C.2.2.2.2.2.2.2.2.2.2.2.2.2.2.2.2.2.1 _ w)) (fun _ h => h) hv d (kk H locs ls hH hS hl)
/-- what Made holds -/
def fM (B : Nat) (v : Nat → Int32) : List Value := [.ref B, .int (v 1), .int (v 2), .int (v 3), .int (v 4), .int (v 5), .int (v 6)]
end GZA
