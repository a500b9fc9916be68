/-! ===== the law's helpers: a start with a table, a call that is caught ===== -/
section LHS
variable {E : Ev} {p : Program} {l : Launch} {e : Env} {R : Room} {s : State} {m : MethodId} {args : Array Value} {below : List Frame} {meth : Method} {c : Code} {k n nL : Nat} {Q : State → Prop} {cc : ByteArray} {own : String} {pc : Nat} {lv lv' : List (Nat × Value)} {rest st : List Value} {μ μ' : Mm}
theorem cth_of {y : MethodName} {maxL : Nat} {ret : Option FieldType} {hh : List (Nat × Nat × Nat × Nat)} {rm : Room} {av : List Value} {o : Option Value} (hy : plainName y.cls = true) (hav : (lg_sl av).length ≤ maxL) (body : ∀ (p : Program) (e : Env) (s : State) (m : MethodId) (args : Array Value) (below : List Frame) (meth : Method) (c : Code), Cq E p s m args meth c cc maxL y.cls → meth.sig.returnType = ret → c.exceptionTable.toList = tableOf hh → Gq E p l e rm s m args below meth c 0 0 maxL (MQ below (qQ E o μ') args s rm.cells rm.slots (eA E)) 0 (lv_args 0 av) [] μ) : Met l y (Cond.codeWith y cc maxL ret hh :: GW) rm (va_Pc av (qP E μ)) (qQ E o μ') rm.cells rm.slots (eA E) := by
  refine MetFree.of_bodyS (code := cc) (maxLocals := maxL) (ret := ret) hy ?_ ?_
  · intro args s m h hn
    obtain ⟨m9, meth, c, hn9, h1, h2, h3, h4, -, h5, h6, -⟩ := Cond.codeWith_spec (atoms_spec (ws := Cond.codeWith y cc maxL ret hh :: GW) h _ List.mem_cons_self)
    cases hn.symm.trans hn9
    exact ⟨meth, c, h1, h2, h3, h4, h5, h6⟩
  · intro p e s m args below meth c s₁ B hml hv _
    have hh0 : s₁.heap = s.heap := by rw [B.state]; rfl
    obtain ⟨rfl, hH, hK, hB, hO⟩ := hv
    have hts := atoms_spec (ws := Cond.codeWith y cc maxL ret hh :: GW) B.pre
    have ht := vx_table (x := y) B (hts _ List.mem_cons_self)
    have W9 := body p e s m av.toArray below meth c ⟨B.exec, B.bytes, hml, findClass_of_methodNamed B.named, fun w h => hts w (List.mem_cons_of_mem _ h), B.notSynchronized, hK, hB, hO⟩ B.returns ht s.heap [] _ hH va_S.rf (lv_entry av hav)
    rw [← lg_entry_eq] at W9
    obtain ⟨t, a1, o9, b1, b2, b3⟩ := W9 s₁ hh0 (Stand.of_body B)
    exact ⟨t, o9, a1, b1, b2, ⟨b3.1, b3.2⟩⟩
theorem gh_call {mc ms ec : Nat} {o : Option Value} {a : Array Value} {st0 st1 : List Value} {name : String} (C : Cq E p s m args meth c cc nL own) (hst : o.toList ++ rest = st1)
    (hr : ∀ (H : Heap) (locs : List Loc) (ls : Array Slot), Hd E μ H → va_S (eA E) s.heap H locs → lv_has ls nL lv → vx_Run p l e R s m args below meth c H locs k n mc ms (F0 m pc ls st0) rest (qQx E ec o μ' a) (qX E ec μ') (eA E))
    (kk : ec = 0 → Gq E p l e R s m args below meth c (k + mc) (n + ms) nL Q (pc + 3) lv st1 μ')
    (pre : List ExceptionTableEntry) (x : ExceptionTableEntry) (suf : List ExceptionTableEntry) (hx : ec ≠ 0 → c.exceptionTable.toList = pre ++ x :: suf ∧ ((∀ z ∈ pre, covers z pc = false ∨ (z.catchType ≠ 0 ∧ ∃ nm : String, Cond.classLink own z.catchType nm ∈ GW ∧ (XN ec, nm) ∈ qNC)) ∧ (covers x pc = true ∧ (x.catchType ≠ 0 ∧ (Cond.classLink own x.catchType name ∈ GW ∧ Cond.castable (XN ec) name ∈ NW)))))
    (kx : ec ≠ 0 → ∀ q : Nat, Gq E p l e R s m args below meth c (k + mc) (n + ms) nL Q x.handlerPc lv [.ref q] μ') : Gq E p l e R s m args below meth c k n nL Q pc lv st0 μ := by
  intro H locs ls hH hS hl T hT X
  rcases hr H locs ls hH hS hl T hT X with ⟨v, st₀, t, T', L, h0, X', hL, e1, e2, ⟨hec, hv, hH', hF⟩, st⟩ | ⟨q, st₀, t, T', L, Ex, ce, h0, X', hL, e1, e2, ⟨⟨hec, hEx⟩, hH', hF⟩, hce, hcv, hcl2, st⟩
  · cases hv
    subst hst
    obtain ⟨k1, k2, k3⟩ := vx_keep h0 e1 hS (fun _ _ h => h) (fun _ h => h) hL hF
    obtain ⟨t2, a1, b1⟩ := kk hec T'.heap (locs ++ L) ls (hH'.sameH e1) k3 hl T' rfl X'
    exact ⟨t2, st t2 a1, b1⟩
  · obtain ⟨k1, k2, k3⟩ := vx_keep h0 e1 hS (fun _ _ h => h) (fun _ h => h) hL hF
    obtain ⟨x1, x2, x3, x4, x5, x6⟩ := hx hec
    subst hEx
    obtain ⟨t2, a1, b1⟩ := vx_catch (own := own) (name := name) (E := XN ec) (ce := ce) (q := q) (pc := pc) (ls := ls) (rest := rest) C.2.2.2.1 pre x suf x1 (fun z hz => (x2 z hz).imp id (fun h => ⟨h.1, h.2.choose, C.2.2.2.2.1 _ h.2.choose_spec.1, C.2.2.2.2.2.2.2.2.2.2.2.2.2.2.2.2.2.2.1 (XN ec, h.2.choose) h.2.choose_spec.2⟩)) x3 x4 (C.2.2.2.2.1 _ x5) (va_Nw.use (nw_tab (List.mem_filter.mp x6).2) (C.2.2.2.2.2.2.2.2.2.2.2.2.2.2.2.2.2.1 _ x6)) (by rw [e1]; exact hce) hcv hcl2 (kx hec q T'.heap (locs ++ L) ls (hH'.sameH e1) k3 hl) T' rfl X'
    exact ⟨t2, st.trans a1, b1⟩
end LHS
