/-! ===== Made's constructor, joined ===== -/
theorem wk_4_19 : Cond.methodLink "WaterExchangeLaw$Made" (74 : Nat) ({ cls := "java/lang/StringBuilder", name := "toString", desc := "()Ljava/lang/String;" } : MethodName) ∈ GW := gw_4 (List.mem_of_getElem? (i := 19) rfl) rfl
theorem wk_4_20 : Cond.instanceMethod ({ cls := "java/lang/StringBuilder", name := "toString", desc := "()Ljava/lang/String;" } : MethodName) ∈ GW := gw_4 (List.mem_of_getElem? (i := 20) rfl) rfl
theorem wk_4_21 : Cond.selects "java/lang/StringBuilder" ({ cls := "java/lang/StringBuilder", name := "toString", desc := "()Ljava/lang/String;" } : MethodName) ({ cls := "java/lang/StringBuilder", name := "toString", desc := "()Ljava/lang/String;" } : MethodName) ∈ GW := gw_4 (List.mem_of_getElem? (i := 21) rfl) rfl
theorem wk_4_22 : Cond.code ({ cls := "java/lang/StringBuilder", name := "toString", desc := "()Ljava/lang/String;" } : MethodName) prog_24_method_42_code (1 : Nat) (Option.some (Jvm.ClassFile.FieldType.object "java/lang/String")) ∈ GW := gw_4 (List.mem_of_getElem? (i := 22) rfl) rfl
theorem hd_J4_ts : yJ4_toString_0e30d.cls = RJ4 ∧ yJ4_toString_0e30d.cls ≠ "java/lang/invoke/MethodHandle" ∧ yJ4_toString_0e30d.cls ≠ "java/lang/invoke/VarHandle" ∧ (parseMethodDescriptor yJ4_toString_0e30d.desc).map (fun d => d.parameters.length) = some 0 := by decide +kernel
/-! ===== Made's constructor, joined ===== -/
/-- the head's state -/
def hdS (A lo : Nat) (V W : List Nat) : Nat → Int32 := seaS (yeaS (upd (upd sE 1 (nI A)) 6 (nI lo)) 0 V) 0 W
theorem tnum_ok {V : List Nat} (hV : ∀ x, x ∈ V → x ≤ 200) : ∀ k, k ∈ tnum V → tOk k := fun k hk => by
  unfold tnum at hk
  obtain ⟨x, hx, rfl⟩ := List.mem_map.mp hk
  exact Or.inr (Or.inl ⟨rfl, by have := hV x hx; show x ≤ 999; omega⟩)
theorem head_mb {A lo : Nat} {V W : List Nat} (hA : 1 ≤ A ∧ A ≤ 5) (hlo : lo ≤ 50) (hV1 : 1 ≤ V.length ∧ V.length ≤ 5) (hW1 : 1 ≤ W.length ∧ W.length ≤ 12) (hV : ∀ x, x ∈ V → x ≤ 200) (hW : ∀ x, x ∈ W → x ≤ 200) : MB [[(1, 4), (2, A)], [(1, 3), (2, lo)], (1, 2) :: tnum V, (1, 1) :: tnum W] (hdS A lo V W) ∧ CS (hdS A lo V W) 0 A 0 0 0 := by
  obtain ⟨v, V, rfl⟩ : ∃ v V', V = v :: V' := by
    cases V with
    | nil => exact absurd hV1.1 (Nat.not_succ_le_zero 0)
    | cons v V => exact ⟨v, V, rfl⟩
  obtain ⟨w, W, rfl⟩ : ∃ w W', W = w :: W' := by
    cases W with
    | nil => exact absurd hW1.1 (Nat.not_succ_le_zero 0)
    | cons w W => exact ⟨w, W, rfl⟩
  rw [List.length_cons] at hV1 hW1
  have m0 : MB [] sE := ⟨rfl, fun k hk => by cases hk⟩
  have c1 : CS (upd sE 1 (nI A)) 0 A 0 0 0 := cs_E.acc hA.2
  have m1 := m0.snoc (K := [(1, 4), (2, A)]) (ln_acc hA.1 hA.2 cs_E.c2) (fun k hk => by
    rcases List.mem_cons.mp hk with rfl | hk
    · exact Or.inl ⟨rfl, by decide⟩
    · obtain rfl := List.mem_singleton.mp hk
      exact Or.inr (Or.inl ⟨rfl, by show A ≤ 999; omega⟩))
  have m2 := m1.snoc (K := [(1, 3), (2, lo)]) (ln_loss hlo) (fun k hk => by
    rcases List.mem_cons.mp hk with rfl | hk
    · exact Or.inl ⟨rfl, by decide⟩
    · obtain rfl := List.mem_singleton.mp hk
      exact Or.inr (Or.inl ⟨rfl, by show lo ≤ 999; omega⟩))
  have m3 := m2.snoc (K := (1, 2) :: tnum (v :: V)) (ln_yea (by omega) hV) (fun k hk => by
    rcases List.mem_cons.mp hk with rfl | hk
    · exact Or.inl ⟨rfl, by decide⟩
    · exact tnum_ok hV k hk)
  have m4 := m3.snoc (K := (1, 1) :: tnum (w :: W)) (ln_sea (by omega) hW) (fun k hk => by
    rcases List.mem_cons.mp hk with rfl | hk
    · exact Or.inl ⟨rfl, by decide⟩
    · exact tnum_ok hW k hk)
  exact ⟨m4, c1.of (fun j hj => by unfold hdS; rw [seaS_n _ _ _ _ hj, yeaS_n _ _ _ _ hj, pk_un (by omega)])⟩
section EGM
variable {E : Ev} {p : Program} {l : Launch} {e : Env} {u : State} {m : MethodId} {args : Array Value} {below : List Frame} {meth : Method} {c : Code} {Q : State → Prop} {B m0 r0 : Nat} {μ0 : Mm} {R0 A0 N0 L0 : Nat}
set_option maxHeartbeats 4000000 in
set_option maxRecDepth 100000 in
theorem mk_f1 (C : Cq E p u m args meth c cX4_init 8 RX4) (hPx : Px args u) (hnm : meth.name = "<init>") (hr : meth.sig.returnType = none) (hU : (eU E).1 = 0) (hB : eB E ≤ B) (hl9 : l.stackTraces = false) (hs : m0 < B ∧ r0 < B) (hZ : MZ μ0) (hR0 : 1 ≤ R0 ∧ R0 ≤ 6) (hA0 : 1 ≤ A0 ∧ A0 ≤ 5) (hN0 : 1 ≤ N0 ∧ N0 ≤ 8) (hL0 : L0 ≤ 4) {st op i k n : Nat} {μ : Mm} {v : Int32} {T : List (List Tok)} {s : Nat → Int32} (hk : k ≤ 620) (hn : n ≤ 650000) (hM : MB T s) (hC : CS s R0 A0 N0 L0 op) (hl : (ren true (flat T)).length ≤ 890) (hT : SBw E B μ (ren true (flat T))) (hG : GR μ0 μ) : Gz E p l e rm_made u m args below meth c k n 8 (MQ below (qSz E (qMd E m0)) args u rm_made.cells rm_made.slots (eA E)) 672 [(4, .int (nI i)), (3, .int (nI st)), (2, .ref (B + 295)), (1, .ref r0), (0, .ref m0)] [] (yM m0 r0 (fdM B R0 A0 N0 L0 op 0) v ++ wl (eS E B) μ) := by
  have hAs : AS (ren true (flat T)) := ren_as (flat T) true hM.2
  obtain ⟨tT, htT⟩ : ∃ t, t = ren true (flat T) := ⟨_, rfl⟩
  rw [← htT] at hT hl hAs
  obtain ⟨⟨b1, b3, bc, bm, bf, bk⟩, bD⟩ := hT
  have hq1 : (yM m0 r0 (fdM B R0 A0 N0 L0 op 0) v ++ wl (eS E B) μ)[2 + 296]? = some (B + 295, .inr (1, [.ref μ.2.2.1, .int 0, .int (μ.1 295 2), .int (nI tT.length)])) := by
    have := ys_b (E := E) (Y := yM m0 r0 (fdM B R0 A0 N0 L0 op 0) v) (B := B) (μ := μ)
    rw [b1, b3] at this
    exact this
  have hq2 : (yM m0 r0 (fdM B R0 A0 N0 L0 op 0) v ++ wl (eS E B) μ)[2]? = some (μ.2.2.1, .inl (eC E 0, μ.2.2.2.1, .inl μ.2.2.2.2)) := by
    rw [wl_sl]
    rfl
  refine gz_aload_n C dX4_init_672 rfl 2 rfl ?_
  refine gz_V (ci := 1) (T := TJ4) (N := 4) (q := 2 + 296) (As := []) (rest := []) C (z_toString (q1 := 2 + 296) (q2 := 2) hU hq1 hq2 bc bm bf) hq1 rfl wk_4_19 wk_4_20 wk_4_21 wk_1_8 wk_4_22 hd_J4_ts ⟨(Nat.le_of_ble_eq_true rfl), (Nat.le_of_ble_eq_true rfl)⟩ (Nat.le_of_ble_eq_true rfl) ⟨by show k + 2 ≤ 1000; omega, by show n + (tT.length + 4) ≤ 700000; omega⟩ dX4_init_673 rfl (fun o ν' hP => ?_)
  obtain ⟨xx, y, gg, rfl, g1, g2, rfl⟩ := hP
  refine gz_widen (k' := 622) (n' := 650894) (by show k + 2 ≤ 622; omega) (by show n + (tT.length + 4) ≤ 650894; omega) ?_
  refine gz_hw (ν' := yT E tT gg y xx m0 r0 (fdM B R0 A0 N0 L0 op 0) v ++ wl (eX E B) μ) (fun H h => hw_subl (show List.Sublist (yT E tT gg y xx m0 r0 (fdM B R0 A0 N0 L0 op 0) v ++ wl (eX E B) μ) _ from List.Sublist.cons_cons _ (List.Sublist.cons_cons _ (List.Sublist.append (List.Sublist.refl (yM m0 r0 (fdM B R0 A0 N0 L0 op 0) v)) xl_sl))) h) ?_
  refine gz_astore (i := 4) C dX4_init_676 (by decide) rfl ?_
  refine gz_iconst (v := 0) C dX4_init_678 (by decide) ?_
  refine gz_istore (i := 5) C dX4_init_679 (by decide) rfl ?_
  refine gz_sub [0, 1, 2, 3, 4, 5] (lv' := [(5, .int (nI (20 * 0))), (4, .ref xx), (3, .int (nI st)), (2, .ref (B + 295)), (1, .ref r0), (0, .ref m0)]) rfl ?_
  have hgg : ∀ k, k < tT.length → gg k = tT.getD k 0 := fun k hk => (g1 k hk).trans (bk k hk)
  have hA0 : AP tT μ μ (20 * 0) := ⟨by rw [hG.1 45 (by decide)]; exact hZ.2.2.1, fun k h1 => absurd h1 (Nat.not_lt_zero k), Fs.rf⟩
  refine ld_out (μs := μ) (K := 700) (N := 652000) C hU hB hgg hl hAs rfl (by decide) (by decide) (fun k2 n2 G μ2 hk2 hn2 h1 h2 hA => ?_) 45 0 622 650894 μ (by omega) (by omega) (by decide) (by decide) hA0
  exact ld_end (T := T) (s := s) (μ0 := μ0) C hnm hr hU hB hl9 hR0.1 hN0.2 htT hgg hl hAs hM hC hZ hG h1 h2 hA (by omega) (by omega)
set_option maxHeartbeats 4000000 in
set_option maxRecDepth 100000 in
theorem mk_f2 (C : Cq E p u m args meth c cX4_init 8 RX4) (hPx : Px args u) (hnm : meth.name = "<init>") (hr : meth.sig.returnType = none) (hU : (eU E).1 = 0) (hB : eB E ≤ B) (hl9 : l.stackTraces = false) (hs : m0 < B ∧ r0 < B) (hZ : MZ μ0) (hR0 : 1 ≤ R0 ∧ R0 ≤ 6) (hA0 : 1 ≤ A0 ∧ A0 ≤ 5) (hN0 : 1 ≤ N0 ∧ N0 ≤ 8) (hL0 : L0 ≤ 4) {k n : Nat} {μ : Mm} {v : Int32} {T : List (List Tok)} {s : Nat → Int32} (hk : k ≤ 361) (hn : n ≤ 136000) (hM : MB T s) (hC : CS s R0 A0 0 0 0) (hl : (ren true (flat T)).length ≤ 174) (hT : SBw E B μ (ren true (flat T))) (hG : GR μ0 μ) : Gz E p l e rm_made u m args below meth c k n 8 (MQ below (qSz E (qMd E m0)) args u rm_made.cells rm_made.slots (eA E)) 233 [(3, .int (nI R0)), (2, .ref (B + 295)), (1, .ref r0), (0, .ref m0)] [] (yM m0 r0 (fdM B R0 A0 N0 L0 0 0) v ++ wl (eS E B) μ) := by
  refine gz_iconst (v := 1) C dX4_init_233 (by decide) ?_
  refine gz_aload_n C dX4_init_234 rfl 2 rfl ?_
  refine gz_bipush (v := 9) C dX4_init_235 (by decide) ?_
  refine gz_next (q := 9) (rest := [.int 1]) C wk_3_89 (by decide) (by decide) ⟨(Nat.le_of_ble_eq_true rfl), (Nat.le_of_ble_eq_true rfl)⟩ (Nat.le_of_ble_eq_true rfl) ⟨by show _ ≤ 1000; omega, by show _ ≤ 700000; omega⟩ dX4_init_237 (fun j v1 hj => ?_)
  refine gz_iadd C dX4_init_240 ?_
  rw [one_add]
  refine gz_istore_n (i := 3) C dX4_init_241 rfl (by decide) rfl ?_
  refine gz_iconst (v := 0) C dX4_init_242 (by decide) ?_
  refine gz_istore (i := 4) C dX4_init_243 (by decide) rfl ?_
  refine gz_sub [0, 1, 2, 3, 4] (lv' := [(4, .int (nI 0)), (3, .int (nI (1 + j))), (2, .ref (B + 295)), (1, .ref r0), (0, .ref m0)]) rfl ?_
  refine mk_right (st := 1 + j) (K := 481) (N := 382000) C hPx hU hB hs hR0 hA0 hN0.2 (by omega) (by decide) (by decide) (fun k2 n2 μ2 v2 T2 s2 hk2 hn2 hM2 hC2 _ hl2 hT2 hG2 => ?_) N0 0 k n μ v1 T s (Nat.zero_add _) (by omega) (by omega) hM hC (fun q hq => absurd hq (Nat.not_lt_zero q)) hl hT hG
  refine gz_iconst (v := 0) C dX4_init_412 (by decide) ?_
  refine gz_istore (i := 4) C dX4_init_413 (by decide) rfl ?_
  refine gz_sub [0, 1, 2, 3, 4] (lv' := [(4, .int (nI 0)), (3, .int (nI (1 + j))), (2, .ref (B + 295)), (1, .ref r0), (0, .ref m0)]) rfl ?_
  refine mk_lease (st := 1 + j) (K := 533) (N := 489000) C hPx hU hB hs hR0 hA0 hN0 hL0 (by decide) (by decide) (fun k3 n3 μ3 v3 T3 s3 hk3 hn3 hM3 hC3 hl3 hT3 hG3 => ?_) L0 0 k2 n2 μ2 v2 T2 s2 (Nat.zero_add _) (by omega) (by omega) hM2 hC2 (by omega) hT2 hG2
  refine gz_iconst (v := 0) C dX4_init_532 (by decide) ?_
  refine gz_istore (i := 4) C dX4_init_533 (by decide) rfl ?_
  refine gz_sub [0, 1, 2, 3, 4] (lv' := [(4, .int (nI 0)), (3, .int (nI (1 + j))), (2, .ref (B + 295)), (1, .ref r0), (0, .ref m0)]) rfl ?_
  refine mk_opt (st := 1 + j) (K := 611) (N := 649000) C hPx hU hB hs hR0 hA0 hN0 (by decide) (by decide) (fun k4 n4 μ4 v4 T4 s4 op i hk4 hn4 hM4 hC4 _ hl4 hT4 hG4 => ?_) 6 0 k3 n3 μ3 v3 T3 s3 0 (by decide) (by omega) (by omega) hM3 hC3 (fun q hq => absurd hq (Nat.not_lt_zero q)) (Nat.le_refl 0) (by omega) hT3 hG3
  exact mk_f1 C hPx hnm hr hU hB hl9 hs hZ hR0 hA0 hN0 hL0 (by omega) (by omega) hM4 hC4 hl4 hT4 hG4
set_option maxHeartbeats 4000000 in
set_option maxRecDepth 100000 in
theorem mk_f3 (C : Cq E p u m args meth c cX4_init 8 RX4) (hPx : Px args u) (hnm : meth.name = "<init>") (hr : meth.sig.returnType = none) (hU : (eU E).1 = 0) (hB : eB E ≤ B) (hl9 : l.stackTraces = false) (hs : m0 < B ∧ r0 < B) (hZ : MZ μ0) (hR0 : 1 ≤ R0 ∧ R0 ≤ 6) (hA0 : 1 ≤ A0 ∧ A0 ≤ 5) (hN0 : 1 ≤ N0 ∧ N0 ≤ 8) (hL0 : L0 ≤ 4) {lo j k n : Nat} {μ : Mm} {v : Int32} (hlo : lo ≤ 50) (hj : 1 ≤ j ∧ j ≤ 4) (hk : k ≤ 305) (hn : n ≤ 21000) (hT : SBw E B μ ((((lt 10 ++ dG A0) ++ lt 11) ++ dG lo) ++ lt 12)) (hG : GR μ0 μ) : Gz E p l e rm_made u m args below meth c k n 8 (MQ below (qSz E (qMd E m0)) args u rm_made.cells rm_made.slots (eA E)) 105 [(3, .int (nI j)), (2, .ref (B + 295)), (1, .ref r0), (0, .ref m0)] [] (yM m0 r0 (fdM B R0 A0 N0 L0 0 0) v ++ wl (eS E B) μ) := by
  have z10 : (lt 10).length = 9 := rfl
  have z11 : (lt 11).length = 6 := rfl
  have z12 : (lt 12).length = 6 := rfl
  have z14 : (lt 14).length = 7 := rfl
  have z15 : (lt 15).length = 1 := rfl
  have dA := (dG_len A0).2
  have dl := (dG_len lo).2
  have hlen : ((((lt 10 ++ dG A0) ++ lt 11) ++ dG lo) ++ lt 12).length ≤ 27 := by
    simp only [List.length_append]
    omega
  have hT0 : SBw E B μ (((((lt 10 ++ dG A0) ++ lt 11) ++ dG lo) ++ lt 12) ++ nb []) := by
    rw [show nb [] = [] from rfl, List.append_nil]
    exact hT
  refine mk_years (l0 := (((lt 10 ++ dG A0) ++ lt 11) ++ dG lo) ++ lt 12) (tot := j) (K := 313) (N := 37400) C hPx hU hB hs (by omega) (by decide) (by decide) (fun k1 n1 μ1 v1 V hk1 hn1 hVl hV hT1 hG1 => ?_) j k n μ v [] (Nat.zero_add _) (by omega) (by omega) (fun x hx => by cases hx) hT0 hG
  have nV := nb_len V
  refine gz_aload_n C dX4_init_132 rfl 1 rfl ?_
  refine gz_ldcS (index := 55) (j := 14) (tx := ";season") C (by decide +kernel) dX4_init_133 ?_
  refine gz_apS (Y := yM m0 r0 (fdM B R0 A0 N0 L0 0 0) v1) (index := 48) C hPx hU hB (fun q hq => by rcases List.mem_cons.mp hq with rfl | hq; exact hs.1; rcases List.mem_cons.mp hq with rfl | hq; exact hs.2; cases hq) hT1 (show 14 < 22 by decide) (by rw [List.length_append]; omega) wk_4_8 ⟨(Nat.le_of_ble_eq_true rfl), (Nat.le_of_ble_eq_true rfl)⟩ (Nat.le_of_ble_eq_true rfl) ⟨by show _ ≤ 1000; omega, by show _ ≤ 700000; omega⟩ dX4_init_135 (fun μ11 h11 g11 => ?_)
  have g11 := hG1.tr g11
  refine gz_popr C dX4_init_138 ?_
  refine gz_aload_n C dX4_init_139 rfl 2 rfl ?_
  refine gz_bipush (v := 8) C dX4_init_140 (by decide) ?_
  refine gz_next (q := 8) (rest := []) C wk_3_89 (by decide) (by decide) ⟨(Nat.le_of_ble_eq_true rfl), (Nat.le_of_ble_eq_true rfl)⟩ (Nat.le_of_ble_eq_true rfl) ⟨by show _ ≤ 1000; omega, by show _ ≤ 700000; omega⟩ dX4_init_142 (fun w v12 hw => ?_)
  refine gz_istore_n (i := 3) C dX4_init_145 rfl (by decide) rfl ?_
  rw [show nI w = nI (w + 1) - 1 from (nI_pred w).symm]
  refine gz_sub [0, 1, 2, 3] (lv' := [(3, .int (nI (w + 1) - 1)), (2, .ref (B + 295)), (1, .ref r0), (0, .ref m0)]) rfl ?_
  have hT2 : SBw E B μ11 (((((((lt 10 ++ dG A0) ++ lt 11) ++ dG lo) ++ lt 12) ++ nb V) ++ lt 14) ++ nb []) := by
    rw [show nb [] = [] from rfl, List.append_nil]
    exact h11
  have hlen2 : ((((((lt 10 ++ dG A0) ++ lt 11) ++ dG lo) ++ lt 12) ++ nb V) ++ lt 14).length ≤ 50 := by
    rw [List.length_append, List.length_append]
    omega
  refine mk_season (l0 := ((((((lt 10 ++ dG A0) ++ lt 11) ++ dG lo) ++ lt 12) ++ nb V) ++ lt 14)) (tot := w + 1) (K := 330) (N := 72300) C hPx hU hB hs (by omega) (by decide) (by decide) (fun k2 n2 μ2 v2 V2 hk2 hn2 hV2l hV2 hT3 hG3 => ?_) (w + 1) _ _ μ11 v12 [] (Nat.zero_add _) (by show k1 + 1 + 2 * (w + 1) ≤ 330; omega) (by show n1 + 2048 + 4096 * (w + 1) ≤ 72300; omega) (fun x hx => by cases hx) hT2 g11
  have nV2 := nb_len V2
  refine gz_aload_n C dX4_init_173 rfl 1 rfl ?_
  refine gz_ldcS (index := 57) (j := 15) (tx := ";") C (by decide +kernel) dX4_init_174 ?_
  refine gz_apS (Y := yM m0 r0 (fdM B R0 A0 N0 L0 0 0) v2) (index := 48) C hPx hU hB (fun q hq => by rcases List.mem_cons.mp hq with rfl | hq; exact hs.1; rcases List.mem_cons.mp hq with rfl | hq; exact hs.2; cases hq) hT3 (show 15 < 22 by decide) (by rw [List.length_append]; omega) wk_4_8 ⟨(Nat.le_of_ble_eq_true rfl), (Nat.le_of_ble_eq_true rfl)⟩ (Nat.le_of_ble_eq_true rfl) ⟨by show _ ≤ 1000; omega, by show _ ≤ 700000; omega⟩ dX4_init_176 (fun μ21 h21 g21 => ?_)
  have g21 := hG3.tr g21
  refine gz_popr C dX4_init_179 ?_
  refine gz_iconst (v := 0) C dX4_init_180 (by decide) ?_
  refine gz_istore_n (i := 3) C dX4_init_181 rfl (by decide) rfl ?_
  refine gz_sub [0, 1, 2, 3] (lv' := [(3, .int (nI 0)), (2, .ref (B + 295)), (1, .ref r0), (0, .ref m0)]) rfl ?_
  rw [tx_head] at h21
  obtain ⟨hM, hC⟩ := head_mb (V := V) (W := V2) hA0 hlo (by omega) (by omega) hV hV2
  have hlen3 : (ren true (flat [[(1, 4), (2, A0)], [(1, 3), (2, lo)], (1, 2) :: tnum V, (1, 1) :: tnum V2])).length ≤ 90 := by
    rw [← tx_head, List.length_append, List.length_append]
    omega
  refine mk_reach (A1 := A0) (K := 361) (N := 136000) C hPx hU hB hs hR0.2 hA0.2 (by decide) (by decide) (fun k3 n3 μ3 v3 T s hk3 hn3 hM3 hC3 hl3 hT3 hG3 => ?_) R0 0 _ _ μ21 v2 _ _ (Nat.zero_add _) (by show k2 + 1 + 5 * R0 ≤ 361; omega) (by show n2 + 2048 + 10240 * R0 ≤ 136000; omega) hM hC hlen3 h21 g21
  exact mk_f2 C hPx hnm hr hU hB hl9 hs hZ hR0 hA0 hN0 hL0 hk3 hn3 hM3 hC3 (by omega) hT3 hG3
end EGM
set_option maxHeartbeats 4000000 in
set_option maxRecDepth 100000 in
theorem qMp_blind (E : Ev) (ν : va_W) (av : List Value) : FrameBlind (va_Pc av (fun U => qPz E ν U ∧ va_AO RX1 U)) := fun a U g mk h => ⟨h.1, ⟨h.2.1.1, va_K.moved (u := U) (U := U.calling g mk a) (Vm.Alike.refl U.vm) h.2.1.2.1, h.2.1.2.2.1, Old.same (u := U) (U := U.calling g mk a) rfl rfl h.2.1.2.2.2⟩, va_AO.moved (u := U) (U := U.calling g mk a) (Vm.Alike.refl U.vm) h.2.2⟩
set_option maxHeartbeats 4000000 in
set_option maxRecDepth 100000 in
theorem c_X4_init {l : Launch} {E : Ev} {m0 r0 : Nat} {v : Int32} (hU : (eU E).1 = 0) (hl9 : l.stackTraces = false) : Met l yX4_init (Cond.code yX4_init cX4_init 8 none :: GP) rm_made (va_Pc [.ref m0, .ref r0] (fun U => qPz E (yM m0 r0 [.null, .int 0, .int 0, .int 0, .int 0, .int 0, .int 0] v) U ∧ va_AO RX1 U)) (qSz E (qMd E m0)) rm_made.cells rm_made.slots (eA E) := by
  refine Met.ofW (cc := cX4_init) (maxL := 8) (ret := none) (by decide) rfl ?_
  intro p e s m args below meth c s₁ B0 hml hv
  obtain ⟨rfl, ⟨hH, hK, hBs, hO⟩, hAO⟩ := hv
  have hts := atoms_spec (ws := Cond.code yX4_init cX4_init 8 none :: GP) B0.pre
  rw [lg_entry_eq]
  have C : Cq E p s m #[Value.ref m0, Value.ref r0] meth c cX4_init 8 RX4 := ⟨B0.exec, B0.bytes, hml, findClass_of_methodNamed B0.named, fun w h => hts w (List.mem_cons_of_mem _ (gp_w h)), B0.notSynchronized, hK, hBs, hO⟩
  have hPx : Px #[Value.ref m0, Value.ref r0] s := fun w h => hts w (List.mem_cons_of_mem _ h)
  have hr := B0.returns
  have hnm : meth.name = "<init>" := (name_of_methodNamed B0.named B0.method).1
  obtain ⟨μ0, hme, hZ⟩ := mk_mem (E := E)
  have key : Gz E p l e rm_made s m #[Value.ref m0, Value.ref r0] below meth c 0 0 8 (MQ below (qSz E (qMd E m0)) #[Value.ref m0, Value.ref r0] s rm_made.cells rm_made.slots (eA E)) 0 (lv_args 0 [.ref m0, .ref r0]) [] (yM m0 r0 [.null, .int 0, .int 0, .int 0, .int 0, .int 0, .int 0] v) := by
    refine gz_lv (lv' := [(0, .ref m0), (1, .ref r0)]) rfl ?_
    exact mk_head C hPx hnm hU hAO hme (fun R0 A0 N0 L0 lo j k n μ v1 hR hA hN hL hlo hj hs hk hn hT hG => mk_f3 C hPx hnm hr hU hBs hl9 hs hZ hR hA hN hL hlo hj hk hn hT hG)
  exact key s.heap [] _ hH va_S.rf (lv_entry [.ref m0, .ref r0] (Nat.le_of_ble_eq_true rfl))
