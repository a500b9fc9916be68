/-! ===== a new array of bytes ===== -/
def XW (E : Ev) (μ : Mm) (a q : Nat) (f : Nat → Int32) : va_W := wl E μ ++ [(a, .inl (eC E 0, q, .inl f))]
def HX (E : Ev) (μ : Mm) (a q : Nat) (f : Nat → Int32) (H : Heap) : Prop := va_P E.1 vwCl (XW E μ a q f) H ∧ va_D (eA E) (XW E μ a q f)
def Fitb (f : Nat → Int32) : Prop := ∀ k, fits .byte (.int (f k)) = true
def qC (E : Ev) (μ : Mm) (q : Nat) : Array Value → State → Outcome → State → Prop := fun _ st oc t => ∃ (a : Nat) (f : Nat → Int32), (oc = .returned (some (.ref a)) ∧ ((∀ k, k < μ.2.2.2.1 → f k = μ.2.2.2.2 k) ∧ Fitb f)) ∧ (HX E μ a q f t.heap ∧ va_F (eA E) st t)
theorem xw_n {E : Ev} {μ : Mm} {a q : Nat} {f : Nat → Int32} : (XW E μ a q f)[(wl E μ).length]? = some (a, .inl (eC E 0, q, .inl f)) := by unfold XW; simp
theorem xw_l {E : Ev} {μ : Mm} {a q : Nat} {f : Nat → Int32} {k : Nat} (h : k < (wl E μ).length) : (XW E μ a q f)[k]? = (wl E μ)[k]? := by unfold XW; exact List.getElem?_append_left h
theorem xw_0 {E : Ev} {μ : Mm} {a q : Nat} {f : Nat → Int32} (h : 295 < eN E) : (XW E μ a q f)[0]? = some (μ.2.2.1, .inl (eC E 0, μ.2.2.2.1, .inl μ.2.2.2.2)) := (xw_l (List.getElem?_eq_some_iff.mp (wl_b0 (m := μ) h)).1).trans (wl_b0 h)
theorem xw_set {E : Ev} {μ : Mm} {a q : Nat} {f g : Nat → Int32} : (XW E μ a q f).set (wl E μ).length (a, .inl (eC E 0, q, .inl g)) = XW E μ a q g := by unfold XW; simp
section QN
variable {E : Ev} {p : Program} {l : Launch} {e : Env} {R : Room} {s : State} {m : MethodId} {args : Array Value} {below : List Frame} {meth : Method} {c : Code} {k n nL : Nat} {Q : State → Prop} {cc : ByteArray} {own : String} {pc : Nat} {lv lv' : List (Nat × Value)} {rest st : List Value} {μ μ' : Mm} {P : Option Value → Mm → Prop} {Qc : Array Value → State → Outcome → State → Prop}
theorem met_of {y : MethodName} {maxL : Nat} {ret : Option FieldType} {rm : Room} {av : List Value} (hy : plainName y.cls = true) (hav : (lg_sl av).length ≤ maxL) (body : ∀ (p : Program) (e : Env) (s : State) (m : MethodId) (args : Array Value) (below : List Frame) (meth : Method) (c : Code), Cq E p s m args meth c cc maxL y.cls → meth.sig.returnType = ret → Gq E p l e rm s m args below meth c 0 0 maxL (MQ below Qc args s rm.cells rm.slots (eA E)) 0 (lv_args 0 av) [] μ) : Met l y (Cond.code y cc maxL ret :: GW) rm (va_Pc av (qP E μ)) Qc rm.cells rm.slots (eA E) := by
  refine Met.ofW (cc := cc) (maxL := maxL) (ret := ret) hy rfl ?_
  intro p e s m args below meth c s₁ B hml hv
  obtain ⟨rfl, hH, hK, hB, hO⟩ := hv
  have hts := atoms_spec (ws := Cond.code y cc maxL ret :: GW) B.pre
  rw [lg_entry_eq]
  exact body p e s m av.toArray below meth c ⟨B.exec, B.bytes, hml, findClass_of_methodNamed B.named, fun w h => hts w (List.mem_cons_of_mem _ h), B.notSynchronized, hK, hB, hO⟩ B.returns s.heap [] _ hH va_S.rf (lv_entry av hav)
theorem gq_callC {mc ms q : Nat} {a : Array Value} {st0 : List Value} (hr : ∀ (H : Heap) (locs : List Loc) (ls : Array Slot), Hd E μ H → va_S (eA E) s.heap H locs → lv_has ls nL lv → va_Run p l e R s m args below meth c H locs k n mc ms (F0 m pc ls st0) rest (qC E μ q a) (eA E))
    (kk : ∀ b f, (∀ k, k < μ.2.2.2.1 → f k = μ.2.2.2.2 k) → Fitb f → ∀ (H : Heap) (locs : List Loc) (ls : Array Slot), HX E μ b q f H → va_S (eA E) s.heap H locs → lv_has ls nL lv → W p l e R s m args below meth c H locs (k + mc) (n + ms) Q (F0 m (pc + 3) ls (.ref b :: rest))) : Gq E p l e R s m args below meth c k n nL Q pc lv st0 μ := by
  intro H locs ls hH hS hl T hT X
  obtain ⟨v, st₀, t, T', L, h0, X', hL, e1, e2, ⟨b, f, ⟨hv, hf1, hf2⟩, hH', hF⟩, st⟩ := hr H locs ls hH hS hl T hT X
  cases hv
  obtain ⟨k1, k2, k3⟩ := vx_keep h0 e1 hS (fun _ _ h => h) (fun _ h => h) hL hF
  obtain ⟨t2, a1, b1⟩ := kk b f hf1 hf2 T'.heap (locs ++ L) ls (by rw [e1]; exact hH') k3 hl T' rfl X'
  exact ⟨t2, st t2 a1, b1⟩
end QN
section SBC
variable {l : Launch} {E : Ev} {μ : Mm}
theorem fit_0 : fits .byte (.int 0) = true := by decide
theorem c_byte {s : State} {cA : ClassId} {tys : List (ClassId × FieldType)} (hK : va_K E.1 vwCl (eTy E) s) (hK1 : va_K E.1 vwCl (eTy E ++ [(cA, .byte)]) s) : cA = eC E 0 := by
  have h1 : va_RA s (eC E 0) .byte := (hK.2 0 (eC E 0, .byte) rfl).2
  have h2 : va_RA s cA .byte := (hK1.2 5 (cA, .byte) rfl).2
  exact Option.some.inj (h2.symm.trans h1)
set_option maxHeartbeats 4000000 in
set_option maxRecDepth 100000 in
theorem c_J7_copyOf_9075b {q : Nat} (hN : 295 < eN E) (hU : (eU E).1 = 0) (hq : q < 2 ^ 27) (hm : μ.2.2.2.1 < q) (hf : Fitb μ.2.2.2.2) : Met l yJ7_copyOf_9075b (Cond.code yJ7_copyOf_9075b cJ7_copyOf_9075b 3 (some (.array .byte)) :: GW) { frames := 1, cells := 1, slots := q, locals := 80 } (va_Pc [.ref μ.2.2.1, .int (nI q)] (qP E μ)) (qC E μ q) 1 q (eA E) := by
  refine met_of (rm := { frames := 1, cells := 1, slots := q, locals := 80 }) (by decide) (Nat.le_of_ble_eq_true rfl) (fun p e s m args below meth c C hr => ?_)
  have C : Cq E p s m args meth c cJ7_copyOf_9075b 3 RJ7 := C
  refine gq_lv (lv' := [(0, .ref μ.2.2.1), (1, .int (nI q))]) rfl ?_
  refine gq_iload_n (i := 1) C dJ7_copyOf_9075b_0 rfl 1 rfl ?_
  refine gq_aload_n (i := 0) C dJ7_copyOf_9075b_1 rfl 0 rfl ?_
  refine gq_sblen (v := nI μ.2.2.2.1) C hN rfl dJ7_copyOf_9075b_2 ?_
  refine gq_icmp_ne_t (tgt := 14) C dJ7_copyOf_9075b_3 (by decide) (fun z => by have := nI_inj (by omega) (by omega) z; omega) ?_
  refine gq_iload_n (i := 1) C dJ7_copyOf_9075b_14 rfl 1 rfl ?_
  intro H locs ls hH hS hl
  refine va_newa (atype := .byte) (ty := .byte) (a0 := (q, .inl (fun _ => 0))) (N' := q) C.1 C.2.1 (C.2.2.2.2.1 _ wk_1_100) rfl C.2.2.2.2.2.2.1 hH.1 hH.2 hS (fun z hz => ⟨Nat.le_trans C.2.2.2.2.2.2.2.1 hz, Or.inl hU⟩) (fun _ => rfl) (nI_pos (by omega)) (nI_clamp (by omega)) (by show q * 1 ≤ 536870912; omega) (Nat.le_refl _) (by show 0 + q ≤ q; omega) dJ7_copyOf_9075b_15 (fun a cA H1 hK1 hP1 hD1 hS1 => ?_)
  obtain rfl : cA = eC E 0 := c_byte (tys := []) C.2.2.2.2.2.2.1 hK1
  refine lv_astore_n (i := 2) C.1 C.2.1 dJ7_copyOf_9075b_17 rfl hl (by decide) rfl (fun ls1 hl1 => ?_)
  refine lv_aload_n (i := 0) C.1 C.2.1 dJ7_copyOf_9075b_18 rfl (lv_at hl1 1 rfl) ?_
  refine lv_iconst (v := 0) C.1 C.2.1 dJ7_copyOf_9075b_19 (by decide) ?_
  refine lv_aload_n (i := 2) C.1 C.2.1 dJ7_copyOf_9075b_20 rfl (lv_at hl1 0 rfl) ?_
  refine lv_iconst (v := 0) C.1 C.2.1 dJ7_copyOf_9075b_21 (by decide) ?_
  refine lv_aload_n (i := 0) C.1 C.2.1 dJ7_copyOf_9075b_22 rfl (lv_at hl1 1 rfl) ?_
  refine va_alen (v := nI μ.2.2.2.1) C.1 C.2.1 C.2.2.2.2.2.2.1 hP1 0 0 (xw_0 (f := fun _ => 0) hN) rfl rfl dJ7_copyOf_9075b_23 ?_
  refine lv_iload_n (i := 1) C.1 C.2.1 dJ7_copyOf_9075b_24 rfl (lv_at hl1 2 rfl) ?_
  refine va_mmin C.1 C.2.1 (C.2.2.1.trans hl1.1.symm) C.2.2.2.1 (C.2.2.2.2.1 _ wk_3_156) (C.2.2.2.2.1 _ wk_2_33) (C.2.2.2.2.1 _ wk_1_12) (C.2.2.2.2.1 _ wk_2_34) (Nat.le_of_ble_eq_true rfl) (Nat.le_of_ble_eq_true rfl) (Nat.le_refl _) (by show 0 + q ≤ q; omega) dJ7_copyOf_9075b_25 ?_
  rw [if_neg (show ¬ nI q < nI μ.2.2.2.1 from nI_nlt (by omega) (by omega))]
  refine va_copyi C.1 C.2.1 (C.2.2.1.trans hl1.1.symm) C.2.2.2.1 (C.2.2.2.2.1 _ wk_3_157) (C.2.2.2.2.1 _ wk_1_231) (C.2.2.2.2.1 _ wk_1_230) (C.2.2.2.2.1 _ wk_1_14) C.2.2.2.2.2.2.1 hP1 hD1 hS1 0 (wl E μ).length 0 0 (xw_0 (f := fun _ => 0) hN) (xw_n (f := fun _ => 0)) rfl rfl rfl (by decide) (by decide) (nI_pos (by omega)) (by rw [nI_clamp (by omega)]; show 0 + μ.2.2.2.1 ≤ μ.2.2.2.1; omega) (by rw [nI_clamp (by omega)]; show 0 + μ.2.2.2.1 ≤ q; omega) (fun i _ => hf _) (Nat.le_of_ble_eq_true rfl) (Nat.le_of_ble_eq_true rfl) dJ7_copyOf_9075b_28 (fun H2 locs2 hP2 hD2 hS2 => ?_)
  refine lv_aload_n (i := 2) C.1 C.2.1 dJ7_copyOf_9075b_31 rfl (lv_at hl1 0 rfl) ?_
  rw [nI_clamp (by omega)] at hP2 hD2
  have es : ∀ g, (XW E μ a q (fun _ => 0)).set (wl E μ).length (a, .inl (eC E 0, q, .inl g)) = XW E μ a q g := fun g => xw_set
  have hP3 : va_P E.1 vwCl (XW E μ a q (va_cpy μ.2.2.2.2 (fun _ => 0) 0 0 μ.2.2.2.1)) H2 := by rw [← es]; exact hP2
  have hD3 : va_D (eA E) (XW E μ a q (va_cpy μ.2.2.2.2 (fun _ => 0) 0 0 μ.2.2.2.1)) := by rw [← es]; exact hD2
  refine W.widen (Nat.le_refl _) (show 0 + q ≤ q by omega) (W.aret C.1 C.2.1 hr (Or.inr ⟨_, rfl⟩) (Or.inr ⟨a, rfl⟩) (fun t ht _ => ?_) hS2.2.2 dJ7_copyOf_9075b_32 (hlocks := C.2.2.2.2.2.1))
  refine ⟨a, _, ⟨rfl, fun k hk => ?_, fun k => ?_⟩, ⟨by rw [ht]; exact hP3, hD3⟩, hS2.F ht⟩
  · show (if 0 ≤ k ∧ k < 0 + μ.2.2.2.1 then μ.2.2.2.2 (0 + (k - 0)) else 0) = _
    rw [if_pos (by omega), show 0 + (k - 0) = k by omega]
  · show fits .byte (.int (if 0 ≤ k ∧ k < 0 + μ.2.2.2.1 then μ.2.2.2.2 (0 + (k - 0)) else 0)) = true
    split
    · exact hf _
    · exact fit_0
end SBC

