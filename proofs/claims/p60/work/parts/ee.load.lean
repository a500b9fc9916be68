/-! ===== the text that was made; it is laid into the exchange ===== -/
theorem wk_4_104 : Cond.methodLink "WaterExchangeLaw$Made" (88 : Nat) ({ cls := "WaterExchange", name := "append", desc := "(IIIII)I" } : MethodName) ∈ GW := gw_4 (List.mem_of_getElem? (i := 104) rfl) rfl
theorem wk_4_105 : Cond.instanceMethod ({ cls := "WaterExchange", name := "append", desc := "(IIIII)I" } : MethodName) ∈ GW := gw_4 (List.mem_of_getElem? (i := 105) rfl) rfl
theorem wk_4_106 : Cond.selects "WaterExchange" ({ cls := "WaterExchange", name := "append", desc := "(IIIII)I" } : MethodName) ({ cls := "WaterExchange", name := "append", desc := "(IIIII)I" } : MethodName) ∈ GW := gw_4 (List.mem_of_getElem? (i := 106) rfl) rfl
theorem wk_4_107 : Cond.code ({ cls := "WaterExchange", name := "append", desc := "(IIIII)I" } : MethodName) prog_1_method_2_code (6 : Nat) (Option.some Jvm.ClassFile.FieldType.int) ∈ GW := gw_4 (List.mem_of_getElem? (i := 107) rfl) rfl
theorem wk_4_220 : Cond.fieldLink "WaterExchangeLaw$Made" (10 : Nat) "WaterExchangeLaw$Made" "x" "LWaterExchange;" ∈ GW := gw_4 (List.mem_of_getElem? (i := 220) rfl) rfl
theorem wk_4_79 : Cond.methodLink "WaterExchangeLaw$Made" (78 : Nat) ({ cls := "java/lang/String", name := "length", desc := "()I" } : MethodName) ∈ GW := gw_4 (List.mem_of_getElem? (i := 79) rfl) rfl
theorem wk_4_80 : Cond.methodLink "WaterExchangeLaw$Made" (84 : Nat) ({ cls := "java/lang/String", name := "charAt", desc := "(I)C" } : MethodName) ∈ GW := gw_4 (List.mem_of_getElem? (i := 80) rfl) rfl
/-! ===== the text that was made: its bytes; the surroundings that know it ===== -/
theorem lit_as : ∀ w, w < 10 → ∀ x, x ∈ qByt.getD w [] → x = nI x.toNatClampNeg ∧ x.toNatClampNeg < 128 := by decide +kernel
theorem dG_as : ∀ v, v < 1000 → ∀ x, x ∈ dG v → x = nI x.toNatClampNeg ∧ x.toNatClampNeg < 128 := by decide +kernel
def AS (l : List Int32) : Prop := ∀ x, x ∈ l → x = nI x.toNatClampNeg ∧ x.toNatClampNeg < 128
theorem as_32 : (32 : Int32) = nI (32 : Int32).toNatClampNeg ∧ (32 : Int32).toNatClampNeg < 128 := by decide
theorem as_59 : (59 : Int32) = nI (59 : Int32).toNatClampNeg ∧ (59 : Int32).toNatClampNeg < 128 := by decide
theorem ren_as : ∀ (L : List Tok) (b : Bool), (∀ k, k ∈ L → tOk k) → AS (ren b L) := by
  intro L
  induction L with
  | nil => intro b _ x hx; cases hx
  | cons k L ih =>
    intro b hk x hx
    have hx : x ∈ sep b k ++ (tB k ++ ren (aft k) L) := hx
    rcases List.mem_append.mp hx with h | h
    · unfold sep at h
      split at h
      · cases h
      · obtain rfl := List.mem_singleton.mp h
        exact as_32
    · rcases List.mem_append.mp h with h | h
      · unfold tB at h
        split at h
        · rename_i e
          rcases hk k List.mem_cons_self with z | z | z
          · exact lit_as _ z.2 x h
          · have := z.1
            omega
          · omega
        · split at h
          · rename_i e2
            rcases hk k List.mem_cons_self with z | z | z
            · have := z.1
              omega
            · have := z.2
              exact dG_as _ (by omega) x h
            · omega
          · obtain rfl := List.mem_singleton.mp h
            exact as_59
      · exact ih _ (fun q hq => hk q (List.mem_cons_of_mem _ hq)) x h
def fB (l : List Int32) (k : Nat) : Nat := (l.getD k 0).toNatClampNeg
theorem fb_lt {l : List Int32} (h : AS l) (k : Nat) : fB l k < 128 := by
  unfold fB
  rcases Nat.lt_or_ge k l.length with e | e
  · exact (h _ (getD_mem e)).2
  · rw [List.getD_eq_getElem?_getD, List.getElem?_eq_none e]
    decide
theorem fb_eq {l : List Int32} (h : AS l) {k : Nat} (hk : k < l.length) : l.getD k 0 = nI (fB l k) := (h _ (getD_mem hk)).1
theorem by_nI : ∀ c, c < 128 → nI c = (nI c).toInt8.toInt32 := by decide +kernel
/-- the surroundings that know the text l at xx, its bytes at y; nothing is written there -/
def eT (E : Ev) (xx y : Nat) (l : List Int32) : Ev := (E.1, (E.2.1, ((eB E, 0), ((fun j => if j = 22 then xx else eK E j), ((fun j => if j = 22 then y else eV E j), ((1, 0), l))))))
theorem of_w {E : Ev} {U : State} {H H0 : Heap} {A A0 : Nat → Prop} {xx x0 ci N place : Nat} {Cn nm ds : String} {T : u_T} {fs : List Value} {v v0 : Value} (hK : va_K E.1 vwCl (eTy E) U) (hc : vwCl[ci]? = some (Cn, T, N)) (hp : place < N) (h1 : (T place).1 = Cn) (h2 : (T place).2.1 = nm) (h3 : (T place).2.2.1 = ds) (hx : va_at E.1 vwCl (xx, .inr (ci, fs)) H) (h0 : va_OF Cn nm ds v0 x0 A0 U H0) (hv : vp_V fs place = v) (hA : ¬ A xx) : va_OF Cn nm ds v xx A U H := by
  obtain ⟨cf, k, i, f, cell0, a1, a2, -⟩ := h0
  obtain ⟨cf', kf', fi', fd, b1, b2⟩ := (hK.1 ci _ hc).1 place hp
  have b1 : U.fieldFound? (T place).1 (T place).2.1 (T place).2.2.1 = some (cf', kf', fi', fd) := b1
  rw [h1, h2, h3, a1] at b1
  obtain ⟨rfl, rfl, rfl, rfl⟩ : cf = cf' ∧ k = kf' ∧ i = fi' ∧ f = fd := by
    have := Option.some.inj b1
    simp only [Prod.mk.injEq] at this
    exact this
  obtain ⟨r, c1, cell, c2, c3, c4, c5⟩ := hx
  have c1 : vwCl[ci]? = some r := c1
  rw [hc] at c1
  cases c1
  exact ⟨cf, k, i, f, cell, a1, a2, c2, fun z => (by rw [c4] at z; cases z), (by rw [b2, ← hv]; exact c5 place hp), hA⟩
theorem o_w {E : Ev} {U : State} {H : Heap} {A : Nat → Prop} {xx ci N : Nat} {Cn : String} {T : u_T} {fs : List Value} (hK : va_K E.1 vwCl (eTy E) U) (hc : vwCl[ci]? = some (Cn, T, N)) (hx : va_at E.1 vwCl (xx, .inr (ci, fs)) H) (hA : ¬ A xx) : va_O Cn xx A U H := by
  obtain ⟨r, c1, cell, c2, c3, c4, -⟩ := hx
  exact ⟨cell, c2, by rw [c4]; rfl, by rw [c3]; exact (hK.1 ci _ hc).2.1, hA⟩
theorem ta_w {E : Ev} {U : State} {H : Heap} {A : Nat → Prop} {y n : Nat} {gg : Nat → Int32} {f : Nat → Value} (hK : va_K E.1 vwCl (eTy E) U) (hy : va_at E.1 vwCl (y, .inl (eC E 0, n, .inl gg)) H) (hg : ∀ k, k < n → f k = .int (gg k)) (hA : ¬ A y) : va_T .byte y n f A U H := by
  have hz : (vp_cell (eC E 0) (n, .inl gg)).slots.size = n := arrV_size _ _ _
  exact ⟨vp_cell (eC E 0) (n, .inl gg), hy, (hK.2 0 (eC E 0, .byte) rfl).1 n _, fun z => (by cases z), Nat.le_of_eq hz.symm, congrArg Nat.toInt32 hz, fun j hj => (arrV_read _ _ hj).trans (by rw [hg j hj]), hA⟩
theorem qL_22 : ∀ q ∈ qLits, q.2.2.2 ≠ 22 := by decide +kernel
theorem eT_no {E : Ev} {xx y : Nat} {t : List Int32} : ∀ q, ¬ eA (eT E xx y t) q := fun q z => by
  rcases z.2 with w | w
  · exact absurd (show (1 : Nat) = 0 from w) (by decide)
  · exact absurd w (Nat.not_lt_zero q)
theorem old_T {E : Ev} {U : State} {xx y : Nat} {t : List Int32} {gg : Nat → Int32} (hO : Old (eE E) U) (hK : va_K E.1 vwCl (eTy E) U) (hx : va_at E.1 vwCl (xx, .inr (0, [.ref y, .int 0, .int 0, .int 0])) U.heap) (hy : va_at E.1 vwCl (y, .inl (eC E 0, t.length, .inl gg)) U.heap) (hg : ∀ k, k < t.length → gg k = t.getD k 0) (ht : t.length < 1000) (hb : ∀ b, b ∈ t → ∃ c, c < 128 ∧ b = nI c) : Old (eT E xx y t) U := by
  obtain ⟨h1, h2, h3, h4, h5, h6, h7, h8, h9, h10, h11, h12⟩ := hO
  have hA : ∀ q, eA (eT E xx y t) q → eA (eE E) q := fun q z => absurd z (eT_no q)
  refine ⟨fun q hq => ?_, fun j hj => ?_, vx_Zq.narrow h3 hA, vx_Zq.narrow h4 hA, va_Z.narrow h5 hA, va_Z.narrow h6 hA, va_T.narrow h7 hA, va_Z.narrow h8 hA, va_T.narrow h9 hA, h10, ⟨ht, hb⟩, va_Zq.narrow h12 hA⟩
  · have e : eK (eT E xx y t) q.2.2.2 = eK (eE E) q.2.2.2 := if_neg (qL_22 q hq)
    rw [e]
    exact h1 q hq
  · by_cases e : j = 22
    · subst e
      have e1 : eLn (eT E xx y t) 22 = t.length := if_pos rfl
      have e2 : eBy (eT E xx y t) 22 = t := if_pos rfl
      have e3 : eK (eT E xx y t) 22 = xx := show (if (22 : Nat) = 22 then xx else eK E 22) = xx from if_pos rfl
      have e4 : eV (eT E xx y t) 22 = y := show (if (22 : Nat) = 22 then y else eV E 22) = y from if_pos rfl
      rw [e1, e2, e3, e4]
      obtain ⟨-, g2, g3, -⟩ := (h2 0 (by decide)).1 0 (by decide)
      refine ⟨fun i hi => ?_, fun i j hi hj _ => by omega⟩
      obtain rfl : i = 0 := by omega
      exact ⟨o_w hK (ci := 0) rfl hx (eT_no xx), of_w hK (ci := 0) (place := 1) rfl (by decide) rfl rfl rfl hx g2 rfl (eT_no xx), of_w hK (ci := 0) (place := 0) rfl (by decide) rfl rfl rfl hx g3 rfl (eT_no xx), ta_w hK hy (fun k hk => by rw [hg k hk]; rfl) (eT_no y)⟩
    · have e1 : eLn (eT E xx y t) j = eLn (eE E) j := by
        unfold eLn
        rw [if_neg e, if_neg e]
      have e2 : eBy (eT E xx y t) j = eBy (eE E) j := by
        unfold eBy
        rw [if_neg e, if_neg e]
      have e3 : eK (eT E xx y t) j = eK (eE E) j := if_neg e
      have e4 : eV (eT E xx y t) j = eV (eE E) j := if_neg e
      rw [e1, e2, e3, e4]
      exact vk_S.narrow (h2 j hj) hA
theorem eat_T {E : Ev} {xx y : Nat} {t : List Int32} {k : Nat} (hk : k < t.length) (ht : t.length < 1000) : eAt (eT E xx y t) 22 (nI k) = some (t.getD k 0) := by
  have e1 : eLn (eT E xx y t) 22 = t.length := if_pos rfl
  have e2 : eBy (eT E xx y t) 22 = t := if_pos rfl
  unfold eAt
  rw [e1, e2, if_pos (inb_nI hk (by omega)), nI_clamp (by omega)]
section EER
variable {E : Ev} {p : Program} {l : Launch} {e : Env} {R : Room} {s : State} {m : MethodId} {args : Array Value} {below : List Frame} {meth : Method} {c : Code} {k n nL : Nat} {Q : State → Prop} {cc : ByteArray} {own : String} {pc : Nat} {lv lv' : List (Nat × Value)} {rest st : List Value} {ν ν' : va_W}
theorem gz_VM {μ : Mm} (C : Cq E p s m args meth c cc nL own) (hU : (eU E).1 = 0) {y : MethodName} {bytes : ByteArray} {maxL index q qy xx yy : Nat} {t : List Int32} {gg : Nat → Int32} (hq : ν[q]? = some (xx, .inr (0, [.ref yy, .int 0, .int 0, .int 0]))) (hqy : ν[qy]? = some (yy, .inl (eC E 0, t.length, .inl gg))) (hg : ∀ k, k < t.length → gg k = t.getD k 0) (ht : t.length < 1000) (hb : AS t) {ret : Option FieldType} {rm : Room} {As : List Value} {o : Option Value} {st0 st1 : List Value} (hM : Ct l (eT E xx yy t) y (Cond.code y bytes maxL ret :: GW) rm (.ref xx :: As) μ o μ) (w1 : Cond.methodLink own index y ∈ GW) (w2 : Cond.instanceMethod y ∈ GW) (w3 : Cond.selects "java/lang/String" y y ∈ GW) (w4 : Cond.initialized "java/lang/String" ∈ GW) (w5 : Cond.code y bytes maxL ret ∈ GW) (hd : y.cls = "java/lang/String" ∧ y.cls ≠ "java/lang/invoke/MethodHandle" ∧ y.cls ≠ "java/lang/invoke/VarHandle" ∧ (parseMethodDescriptor y.desc).map (fun d => d.parameters.length) = some As.length) (hR : rm.frames + 1 ≤ R.frames ∧ 8 + (maxL + 11) + rm.locals ≤ R.locals) (hw : (rest.map fun v => v.category).sum ≤ 8) (hf : k + rm.cells ≤ R.cells ∧ n + rm.slots ≤ R.slots) (d : decode cc pc = .ok (.invokevirtual index, 3)) (hst0 : st0 = As.reverse ++ .ref xx :: rest) (hst1 : o.toList ++ rest = st1)
    (kk : Gz E p l e R s m args below meth c (k + rm.cells) (n + rm.slots) nL Q (pc + 3) lv st1 ν) : Gz E p l e R s m args below meth c k n nL Q pc lv st0 ν :=
  gz_VE (E1 := eT E xx yy t) C ⟨rfl, rfl, rfl, rfl, rfl⟩ hM (fun H locs hH hS U hU2 hW => old_T (eM_old hU (Nat.le_refl _) (Old.to hW (by rw [hU2]; exact hS) C.2.2.2.2.2.2.2.2)) (va_K.moved hW.alike C.2.2.2.2.2.2.1) (by rw [hU2]; exact hH.1 q _ hq) (by rw [hU2]; exact hH.1 qy _ hqy) hg ht (fun b hb2 => ⟨_, (hb b hb2).2, (hb b hb2).1⟩)) (fun H locs hH hS => va_recv C.2.2.2.2.2.2.1 hH.1 (ci := 0) rfl hq) w1 w2 w3 w4 w5 hd hR hw hf d hst0 hst1 kk
end EER
theorem dv4 : ∀ j, j < 20 → nI j / 4 = nI (j / 4) := by decide +kernel
/-- the world: the text, the object, the draws -/
def yT (E : Ev) (t : List Int32) (gg : Nat → Int32) (yy xx m0 r0 : Nat) (fm : List Value) (v : Int32) : va_W := [(yy, .inl (eC E 0, t.length, .inl gg)), (xx, .inr (0, [.ref yy, .int 0, .int 0, .int 0])), (m0, .inr (6, fm)), (r0, .inr (7, [.int v]))]
/-- the bytes below i are laid -/
def AP (t : List Int32) (μs μ : Mm) (i : Nat) : Prop := μ.1 45 2 = nI i ∧ ((∀ k, k < i → k < t.length → μ.1 46 k = t.getD k 0) ∧ Fs (fun a => a = 45 ∨ a = 46) μs μ)
theorem wv_0 {f : Nat → Nat} : (fun q => nI (wv f 0 q)) = fun _ => (0 : Int32) := by
  funext q
  unfold wv wd4
  rw [if_neg (by omega), if_neg (by omega), if_neg (by omega), if_neg (by omega)]
  rfl
theorem w5_eq {F : Nat → Int32} {q : Nat} (hq : q < 5) : w5 (F 0) (F 1) (F 2) (F 3) (F 4) q = F q := by
  rcases (show q = 0 ∨ q = 1 ∨ q = 2 ∨ q = 3 ∨ q = 4 by omega) with rfl | rfl | rfl | rfl | rfl <;> rfl
section EEL
variable {E : Ev} {p : Program} {l : Launch} {e : Env} {u : State} {m : MethodId} {args : Array Value} {below : List Frame} {meth : Method} {c : Code} {Q : State → Prop} {B m0 r0 xx yy w0 : Nat} {μ μs : Mm} {fm : List Value} {v st : Int32} {t : List Int32} {gg : Nat → Int32}
set_option maxHeartbeats 4000000 in
set_option maxRecDepth 100000 in
theorem ld_in (C : Cq E p u m args meth c cX4_init 8 RX4) (hU : (eU E).1 = 0) (hB : eB E ≤ B) (hg : ∀ k, k < t.length → gg k = t.getD k 0) (ht : t.length ≤ 890) (hb : AS t) {f : Nat → Nat} {i e0 k n : Nat} (hf : ∀ q, f q < 128) (hfl : ∀ q, i + q < t.length → t.getD (i + q) 0 = nI (f q)) (he1 : e0 ≤ 20) (he2 : i + e0 ≤ t.length) (he3 : e0 = 20 ∨ i + e0 = t.length) (hi : i < 1000) (hk : k ≤ 1000) (hn : n ≤ 700000) (kk : Gz E p l e rm_made u m args below meth c k n 8 Q 756 [(7, .int (nI e0)), (6, .ref w0), (5, .int (nI i)), (4, .ref xx), (3, .int st), (2, .ref (B + 295)), (1, .ref r0), (0, .ref m0)] [] ((w0, .inl (eC E 1, 5, .inl (fun q => nI (wv f e0 q)))) :: (yT E t gg yy xx m0 r0 fm v ++ wl (eX E B) μ))) : ∀ (d j : Nat), j + d = e0 → Gz E p l e rm_made u m args below meth c k n 8 Q 699 [(7, .int (nI j)), (6, .ref w0), (5, .int (nI i)), (4, .ref xx), (3, .int st), (2, .ref (B + 295)), (1, .ref r0), (0, .ref m0)] [] ((w0, .inl (eC E 1, 5, .inl (fun q => nI (wv f j q)))) :: (yT E t gg yy xx m0 r0 fm v ++ wl (eX E B) μ)) := by
  intro d
  induction d with
  | zero =>
    intro j hj
    obtain rfl : j = e0 := by omega
    refine gz_iload C dX4_init_699 0 rfl ?_
    refine gz_bipush (v := 20) C dX4_init_701 (by decide) ?_
    by_cases e9 : j = 20
    · refine gz_icmp_ge_t (tgt := 756) C dX4_init_703 (by decide) (show (20 : Int32) ≤ nI j by rw [e9]; decide) ?_
      exact kk
    · refine gz_icmp_ge_f (tgt := 756) C dX4_init_703 (by decide) (show ¬ (20 : Int32) ≤ nI j from nI_ge (b := 20) (by omega) (by decide)) ?_
      refine gz_iload C dX4_init_706 2 rfl ?_
      refine gz_iload C dX4_init_708 0 rfl ?_
      refine gz_iadd C dX4_init_710 ?_
      rw [nI_add]
      refine gz_aload C dX4_init_711 3 rfl ?_
      refine gz_VM (t := t) (xx := xx) (yy := yy) (gg := gg) (q := 2) (qy := 1) (μ := mZ E) (As := []) (rest := [.int (nI (i + j))]) C hU rfl rfl hg (by omega) hb (c_J0_length_8abf5 (E := eT E xx yy t) (w := 22) (by decide)) wk_4_79 wk_3_103 wk_3_104 wk_1_9 wk_3_105 hd_J0_length_8abf5 ⟨(Nat.le_of_ble_eq_true rfl), (Nat.le_of_ble_eq_true rfl)⟩ (Nat.le_of_ble_eq_true rfl) ⟨by show k + 0 ≤ 1000; omega, by show n + 0 ≤ 700000; omega⟩ dX4_init_713 rfl rfl ?_
      rw [show eLn (eT E xx yy t) 22 = t.length from if_pos rfl]
      refine gz_icmp_ge_t (tgt := 756) C dX4_init_716 (by decide) (nI_le (by omega) (by omega)) ?_
      exact kk
  | succ d ih =>
    intro j hj
    have hj20 : j < 20 := by omega
    have hjl : i + j < t.length := by omega
    refine gz_iload C dX4_init_699 0 rfl ?_
    refine gz_bipush (v := 20) C dX4_init_701 (by decide) ?_
    refine gz_icmp_ge_f (tgt := 756) C dX4_init_703 (by decide) (show ¬ (20 : Int32) ≤ nI j from nI_ge (b := 20) (by omega) (by decide)) ?_
    refine gz_iload C dX4_init_706 2 rfl ?_
    refine gz_iload C dX4_init_708 0 rfl ?_
    refine gz_iadd C dX4_init_710 ?_
    rw [nI_add]
    refine gz_aload C dX4_init_711 3 rfl ?_
    refine gz_VM (t := t) (xx := xx) (yy := yy) (gg := gg) (q := 2) (qy := 1) (μ := mZ E) (As := []) (rest := [.int (nI (i + j))]) C hU rfl rfl hg (by omega) hb (c_J0_length_8abf5 (E := eT E xx yy t) (w := 22) (by decide)) wk_4_79 wk_3_103 wk_3_104 wk_1_9 wk_3_105 hd_J0_length_8abf5 ⟨(Nat.le_of_ble_eq_true rfl), (Nat.le_of_ble_eq_true rfl)⟩ (Nat.le_of_ble_eq_true rfl) ⟨by show k + 0 ≤ 1000; omega, by show n + 0 ≤ 700000; omega⟩ dX4_init_713 rfl rfl ?_
    rw [show eLn (eT E xx yy t) 22 = t.length from if_pos rfl]
    refine gz_icmp_ge_f (tgt := 756) C dX4_init_716 (by decide) (nI_ge (by omega) (by omega)) ?_
    refine gz_aload C dX4_init_719 1 rfl ?_
    refine gz_iload C dX4_init_721 0 rfl ?_
    refine gz_iconst (v := 4) C dX4_init_723 (by decide) ?_
    refine gz_idiv C dX4_init_724 (by decide) ?_
    rw [dv4 j hj20]
    refine gz_dup2 C dX4_init_725 ?_
    refine gz_iald (x := nI (wv f j (j / 4))) C 0 rfl (nI_in (by omega) (by decide)) (by rw [nI_clamp (by omega)]) dX4_init_726 ?_
    refine gz_aload C dX4_init_727 3 rfl ?_
    refine gz_iload C dX4_init_729 2 rfl ?_
    refine gz_iload C dX4_init_731 0 rfl ?_
    refine gz_iadd C dX4_init_733 ?_
    rw [nI_add]
    refine gz_VM (t := t) (xx := xx) (yy := yy) (gg := gg) (q := 2) (qy := 1) (μ := mZ E) (As := [.int (nI (i + j))]) (rest := [.int (nI (wv f j (j / 4))), .int (nI (j / 4)), .ref w0]) C hU rfl rfl hg (by omega) hb (c_J0_charAt_5068e (E := eT E xx yy t) (w := 22) (by decide) ((eat_T hjl (by omega)).trans (by rw [hfl j hjl]))) wk_4_80 wk_4_81 wk_4_82 wk_1_9 wk_4_83 hd_J0_charAt_5068e ⟨(Nat.le_of_ble_eq_true rfl), (Nat.le_of_ble_eq_true rfl)⟩ (Nat.le_of_ble_eq_true rfl) ⟨by show k + 0 + 0 ≤ 1000; omega, by show n + 0 + 0 ≤ 700000; omega⟩ dX4_init_734 rfl rfl ?_
    refine gz_bipush (v := 24) C dX4_init_737 (by decide) ?_
    refine gz_bipush (v := 8) C dX4_init_739 (by decide) ?_
    refine gz_iload C dX4_init_741 0 rfl ?_
    refine gz_iconst (v := 4) C dX4_init_743 (by decide) ?_
    refine gz_irem C dX4_init_744 (by decide) ?_
    refine gz_imul C dX4_init_745 ?_
    refine gz_isub C dX4_init_746 ?_
    refine gz_ishl C dX4_init_747 ?_
    refine gz_ior C dX4_init_748 ?_
    rw [wv_step hj20 (hf j)]
    refine gz_iast (ν' := (w0, .inl (eC E 1, 5, .inl (fun q => nI (wv f (j + 1) q)))) :: (yT E t gg yy xx m0 r0 fm v ++ wl (eX E B) μ)) C 0 rfl (nI_in (by omega) (by decide)) ?_ dX4_init_749 ?_
    · rw [nI_clamp (by omega)]
      have e1 : upd (fun q => nI (wv f j q)) (j / 4) (nI (wv f (j + 1) (j / 4))) = fun q => nI (wv f (j + 1) q) := by
        funext q
        unfold upd
        by_cases e : q = j / 4
        · rw [if_pos e, e]
        · rw [if_neg e, wv_oth e]
      rw [← e1]
      rfl
    · refine gz_iinc (i := 7) (q := 0) (v := (nI (j + 1))) C dX4_init_750 rfl (nI_add _ 1) (by decide) rfl ?_
      refine gz_goto (tgt := 699) C dX4_init_753 (by decide) ?_
      exact ih (j + 1) (by omega)
set_option maxHeartbeats 4000000 in
set_option maxRecDepth 100000 in
theorem ld_out (C : Cq E p u m args meth c cX4_init 8 RX4) (hU : (eU E).1 = 0) (hB : eB E ≤ B) (hg : ∀ k, k < t.length → gg k = t.getD k 0) (ht : t.length ≤ 890) (hb : AS t) (hfm : fm[0]? = some (.ref B)) {K N : Nat} (hK : K ≤ 1000) (hN : N ≤ 700000) (kk : ∀ (k n G : Nat) (μ : Mm), k ≤ K → n ≤ N → t.length ≤ 20 * G → 20 * G ≤ 900 → AP t μs μ (20 * G) → Gz E p l e rm_made u m args below meth c k n 8 Q 791 [(5, .int (nI (20 * G))), (4, .ref xx), (3, .int st), (2, .ref (B + 295)), (1, .ref r0), (0, .ref m0)] [] (yT E t gg yy xx m0 r0 fm v ++ wl (eX E B) μ)) : ∀ (d g k n : Nat) (μ : Mm), t.length ≤ 20 * (g + d) → 20 * g < t.length + 20 → k + d ≤ K → n + 5 * d ≤ N → AP t μs μ (20 * g) → Gz E p l e rm_made u m args below meth c k n 8 Q 681 [(5, .int (nI (20 * g))), (4, .ref xx), (3, .int st), (2, .ref (B + 295)), (1, .ref r0), (0, .ref m0)] [] (yT E t gg yy xx m0 r0 fm v ++ wl (eX E B) μ) := by
  have fin : ∀ (g k n : Nat) (μ : Mm), t.length ≤ 20 * g → 20 * g < t.length + 20 → k ≤ K → n ≤ N → AP t μs μ (20 * g) → Gz E p l e rm_made u m args below meth c k n 8 Q 681 [(5, .int (nI (20 * g))), (4, .ref xx), (3, .int st), (2, .ref (B + 295)), (1, .ref r0), (0, .ref m0)] [] (yT E t gg yy xx m0 r0 fm v ++ wl (eX E B) μ) := by
    intro g k n μ h1 h2 hk hn hA
    refine gz_iload C dX4_init_681 0 rfl ?_
    refine gz_aload C dX4_init_683 1 rfl ?_
    refine gz_VM (t := t) (xx := xx) (yy := yy) (gg := gg) (q := 1) (qy := 0) (μ := mZ E) (As := []) (rest := [.int (nI (20 * g))]) C hU rfl rfl hg (by omega) hb (c_J0_length_8abf5 (E := eT E xx yy t) (w := 22) (by decide)) wk_4_79 wk_3_103 wk_3_104 wk_1_9 wk_3_105 hd_J0_length_8abf5 ⟨(Nat.le_of_ble_eq_true rfl), (Nat.le_of_ble_eq_true rfl)⟩ (Nat.le_of_ble_eq_true rfl) ⟨by show k + 0 ≤ 1000; omega, by show n + 0 ≤ 700000; omega⟩ dX4_init_685 rfl rfl ?_
    rw [show eLn (eT E xx yy t) 22 = t.length from if_pos rfl]
    refine gz_icmp_ge_t (tgt := 791) C dX4_init_688 (by decide) (nI_le h1 (by omega)) ?_
    exact kk _ _ g μ (by show k + 0 ≤ K; omega) (by show n + 0 ≤ N; omega) h1 (by omega) hA
  intro d
  induction d with
  | zero => intro g k n μ h1 h2 hk hn hA; exact fin g k n μ h1 h2 (by omega) (by omega) hA
  | succ d ih =>
    intro g k n μ h1 h2 hk hn hA
    by_cases h9 : t.length ≤ 20 * g
    · exact fin g k n μ h9 h2 (by omega) (by omega) hA
    have hlt : 20 * g < t.length := by omega
    obtain ⟨a1, a2, a3⟩ := hA
    have hf : ∀ q, fB t (20 * g + q) < 128 := fun q => fb_lt hb _
    have hfl : ∀ q, 20 * g + q < t.length → t.getD (20 * g + q) 0 = nI (fB t (20 * g + q)) := fun q hq => fb_eq hb hq
    generalize hF : (fun q => fB t (20 * g + q)) = f at *
    have hf : ∀ q, f q < 128 := fun q => by rw [← hF]; exact fb_lt hb _
    have hfl : ∀ q, 20 * g + q < t.length → t.getD (20 * g + q) 0 = nI (f q) := fun q hq => by rw [← hF]; exact fb_eq hb hq
    obtain ⟨e0, he0⟩ : ∃ e0, e0 = min 20 (t.length - 20 * g) := ⟨_, rfl⟩
    obtain ⟨⟨r, μ1⟩, c1, c2, c3, c4, c5, c6⟩ := c_app (μ := μ) (p1 := nI (wv f e0 0)) (p2 := nI (wv f e0 1)) (p3 := nI (wv f e0 2)) (p4 := nI (wv f e0 3)) (p5 := nI (wv f e0 4)) (n := 20 * g) (by omega) a1
    have c2 : r = nI (20 * g + 20) := c2
    have hA1 : AP t μs μ1 (20 * (g + 1)) := by
      refine ⟨by rw [show 20 * (g + 1) = 20 * g + 20 by omega]; exact c3, fun q h1 h2 => ?_, a3.tr c6⟩
      have c5 : μ1.1 46 q = if 20 * g ≤ q ∧ q < 20 * g + 20 then wB (w5 (nI (wv f e0 0)) (nI (wv f e0 1)) (nI (wv f e0 2)) (nI (wv f e0 3)) (nI (wv f e0 4)) ((q - 20 * g) / 4)) ((q - 20 * g) % 4) else μ.1 46 q := c5 q
      rw [c5]
      by_cases h3 : 20 * g ≤ q
      · have hm : (q - 20 * g) % 4 < 4 := Nat.mod_lt _ (by decide)
        rw [if_pos (by omega), w5_eq (F := fun q => nI (wv f e0 q)) (by omega), wv_B hf hm (by omega), show 4 * ((q - 20 * g) / 4) + (q - 20 * g) % 4 = q - 20 * g by omega, ← hfl (q - 20 * g) (by omega), show 20 * g + (q - 20 * g) = q by omega]
      · rw [if_neg (by omega)]
        exact a2 q (by omega) h2
    refine gz_iload C dX4_init_681 0 rfl ?_
    refine gz_aload C dX4_init_683 1 rfl ?_
    refine gz_VM (t := t) (xx := xx) (yy := yy) (gg := gg) (q := 1) (qy := 0) (μ := mZ E) (As := []) (rest := [.int (nI (20 * g))]) C hU rfl rfl hg (by omega) hb (c_J0_length_8abf5 (E := eT E xx yy t) (w := 22) (by decide)) wk_4_79 wk_3_103 wk_3_104 wk_1_9 wk_3_105 hd_J0_length_8abf5 ⟨(Nat.le_of_ble_eq_true rfl), (Nat.le_of_ble_eq_true rfl)⟩ (Nat.le_of_ble_eq_true rfl) ⟨by show k + 0 ≤ 1000; omega, by show n + 0 ≤ 700000; omega⟩ dX4_init_685 rfl rfl ?_
    rw [show eLn (eT E xx yy t) 22 = t.length from if_pos rfl]
    refine gz_icmp_ge_f (tgt := 791) C dX4_init_688 (by decide) (nI_ge hlt (by omega)) ?_
    refine gz_iconst (v := 5) C dX4_init_691 (by decide) ?_
    refine gz_newa (atype := .int) (ty := .int) (a0 := (5, .inl (fun _ => 0))) (N := 5) C hU wk_2_149 rfl 1 rfl (fun _ _ h => h) (fun _ => rfl) (by decide) (by decide) (by decide) ⟨by show k + 0 + 1 ≤ 1000; omega, by show n + 0 + 5 ≤ 700000; omega⟩ dX4_init_692 (fun w0 _ _ _ => ?_)
    refine gz_astore (i := 6) C dX4_init_694 (by decide) rfl ?_
    refine gz_iconst (v := 0) C dX4_init_696 (by decide) ?_
    refine gz_istore (i := 7) C dX4_init_697 (by decide) rfl ?_
    rw [← wv_0 (f := f)]
    refine gz_lv (lv' := [(7, .int (nI 0)), (6, .ref w0), (5, .int (nI (20 * g))), (4, .ref xx), (3, .int st), (2, .ref (B + 295)), (1, .ref r0), (0, .ref m0)]) rfl ?_
    refine ld_in C hU hB hg ht hb (f := f) (i := 20 * g) (e0 := e0) hf hfl (by omega) (by omega) (by omega) (by omega) (by show k + 0 + 1 ≤ 1000; omega) (by show n + 0 + 5 ≤ 700000; omega) ?_ e0 0 (by omega)
    refine gz_aload_n C dX4_init_756 rfl 7 rfl ?_
    refine gz_get (ci := 6) (N := 7) (T := TX4) C inG_X4 3 rfl rfl 0 (by decide) wk_4_220 hfm dX4_init_757 ?_
    refine gz_aload C dX4_init_760 1 rfl ?_
    refine gz_iconst (v := 0) C dX4_init_762 (by decide) ?_
    refine gz_iald (x := nI (wv f e0 0)) C 0 rfl (by unfold vp_in; decide) rfl dX4_init_763 ?_
    refine gz_aload C dX4_init_764 1 rfl ?_
    refine gz_iconst (v := 1) C dX4_init_766 (by decide) ?_
    refine gz_iald (x := nI (wv f e0 1)) C 0 rfl (by unfold vp_in; decide) rfl dX4_init_767 ?_
    refine gz_aload C dX4_init_768 1 rfl ?_
    refine gz_iconst (v := 2) C dX4_init_770 (by decide) ?_
    refine gz_iald (x := nI (wv f e0 2)) C 0 rfl (by unfold vp_in; decide) rfl dX4_init_771 ?_
    refine gz_aload C dX4_init_772 1 rfl ?_
    refine gz_iconst (v := 3) C dX4_init_774 (by decide) ?_
    refine gz_iald (x := nI (wv f e0 3)) C 0 rfl (by unfold vp_in; decide) rfl dX4_init_775 ?_
    refine gz_aload C dX4_init_776 1 rfl ?_
    refine gz_iconst (v := 4) C dX4_init_778 (by decide) ?_
    refine gz_iald (x := nI (wv f e0 4)) C 0 rfl (by unfold vp_in; decide) rfl dX4_init_779 ?_
    refine gz_hw (fun H h => hw_subl (List.sublist_cons_self _ _) h) ?_
    refine gz_ask (As := [.int (nI (wv f e0 0)), .int (nI (wv f e0 1)), .int (nI (wv f e0 2)), .int (nI (wv f e0 3)), .int (nI (wv f e0 4))]) (rest := []) C hU hB (c_X3_append (E := eX E B) (Nat.le_refl 295) c1) wk_4_104 wk_4_105 wk_4_106 wk_1_3 wk_4_107 hd_X3_append ⟨(Nat.le_of_ble_eq_true rfl), (Nat.le_of_ble_eq_true rfl)⟩ (Nat.le_of_ble_eq_true rfl) ⟨by show k + 0 + 1 + 0 ≤ 1000; omega, by show n + 0 + 5 + 0 ≤ 700000; omega⟩ dX4_init_780 rfl rfl ?_
    refine gz_istore (i := 7) C dX4_init_783 (by decide) rfl ?_
    refine gz_iinc (i := 5) (q := 2) (v := nI (20 * g + 20)) C dX4_init_785 rfl (nI_add _ 20) (by decide) rfl ?_
    refine gz_goto (tgt := 681) C dX4_init_788 (by decide) ?_
    refine gz_sub [0, 3, 4, 5, 6, 7] (lv' := [(5, .int (nI (20 * g + 20))), (4, .ref xx), (3, .int st), (2, .ref (B + 295)), (1, .ref r0), (0, .ref m0)]) rfl ?_
    rw [show 20 * g + 20 = 20 * (g + 1) by omega]
    exact ih (g + 1) _ _ μ1 (by omega) (by omega) (by show k + 0 + 1 + 0 + d ≤ K; omega) (by show n + 0 + 5 + 0 + 5 * d ≤ N; omega) hA1
end EEL
