/-! ===== Made: its loops (1) ===== -/
theorem wk_1_1 : Cond.initialized "WaterExchangeLaw$Random" ∈ GW := gw_1 (List.mem_of_getElem? (i := 1) rfl) rfl
theorem wk_3_222 : Cond.methodLink "WaterExchangeLaw$Made" (42 : Nat) ({ cls := "java/lang/StringBuilder", name := "append", desc := "(I)Ljava/lang/StringBuilder;" } : MethodName) ∈ GW := gw_3 (List.mem_of_getElem? (i := 222) rfl) rfl
theorem wk_3_89 : Cond.methodLink "WaterExchangeLaw$Made" (16 : Nat) ({ cls := "WaterExchangeLaw$Random", name := "next", desc := "(I)I" } : MethodName) ∈ GW := gw_3 (List.mem_of_getElem? (i := 89) rfl) rfl
theorem wk_3_90 : Cond.instanceMethod ({ cls := "WaterExchangeLaw$Random", name := "next", desc := "(I)I" } : MethodName) ∈ GW := gw_3 (List.mem_of_getElem? (i := 90) rfl) rfl
theorem wk_3_91 : Cond.selects "WaterExchangeLaw$Random" ({ cls := "WaterExchangeLaw$Random", name := "next", desc := "(I)I" } : MethodName) ({ cls := "WaterExchangeLaw$Random", name := "next", desc := "(I)I" } : MethodName) ∈ GW := gw_3 (List.mem_of_getElem? (i := 91) rfl) rfl
theorem wk_3_92 : Cond.code ({ cls := "WaterExchangeLaw$Random", name := "next", desc := "(I)I" } : MethodName) prog_7_method_2_code (2 : Nat) (Option.some Jvm.ClassFile.FieldType.int) ∈ GW := gw_3 (List.mem_of_getElem? (i := 92) rfl) rfl
theorem wk_4_222 : Cond.fieldLink "WaterExchangeLaw$Made" (22 : Nat) "WaterExchangeLaw$Made" "reaches" "I" ∈ GW := gw_4 (List.mem_of_getElem? (i := 222) rfl) rfl
theorem wk_4_8 : Cond.methodLink "WaterExchangeLaw$Made" (48 : Nat) ({ cls := "java/lang/StringBuilder", name := "append", desc := "(Ljava/lang/String;)Ljava/lang/StringBuilder;" } : MethodName) ∈ GW := gw_4 (List.mem_of_getElem? (i := 8) rfl) rfl
abbrev rm_made : Room := { frames := 12, cells := 1000, slots := 700000, locals := 430 }
def yM (m0 r0 : Nat) (fm : List Value) (v : Int32) : va_W := [(m0, .inr (6, fm)), (r0, .inr (7, [.int v]))]
def fdM (B R0 A0 N0 L0 op : Nat) (gd : Int32) : List Value := [.ref B, .int (nI R0), .int (nI A0), .int (nI N0), .int (nI L0), .int (nI op), .int gd]
theorem one_add (j : Nat) : (1 : Int32) + nI j = nI (1 + j) := nI_add 1 j
section ECR
variable {E : Ev} {p : Program} {l : Launch} {e : Env} {R : Room} {s : State} {m : MethodId} {args : Array Value} {below : List Frame} {meth : Method} {c : Code} {k n nL : Nat} {Q : State → Prop} {cc : ByteArray} {own : String} {pc : Nat} {lv : List (Nat × Value)} {rest : List Value} {m0 r0 : Nat} {fm : List Value} {v : Int32} {X : va_W}
theorem gz_next (C : Cq E p s m args meth c cc nL own) {q index : Nat} (w1 : Cond.methodLink own index yX5_next ∈ GW) (h0 : 0 < q) (h1 : q < 32768) (hR : 3 ≤ R.frames ∧ 60 ≤ R.locals) (hw : (rest.map fun v => v.category).sum ≤ 8) (hf : k ≤ R.cells ∧ n ≤ R.slots) (d : decode cc pc = .ok (.invokevirtual index, 3)) (kk : ∀ (j : Nat) (v' : Int32), j < q → Gz E p l e R s m args below meth c k n nL Q (pc + 3) lv (.int (nI j) :: rest) (yM m0 r0 fm v' ++ X)) : Gz E p l e R s m args below meth c k n nL Q pc lv (.int (nI q) :: .ref r0 :: rest) (yM m0 r0 fm v ++ X) := by
  refine gz_V (ci := 7) (T := TX5) (N := 1) (q := 1) (fs := [.int v]) (As := [.int (nI q)]) (rest := rest) C (c_X5_next (i := 1) rfl h0 h1) rfl rfl w1 wk_3_90 wk_3_91 wk_1_1 wk_3_92 hd_X5_next ⟨by have := hR.1; show 1 + 1 ≤ R.frames; omega, by have := hR.2; show 8 + (2 + 11) + 20 ≤ R.locals; omega⟩ hw hf d rfl (fun o ν' hP => ?_)
  obtain ⟨j, v', hj, rfl, rfl⟩ := hP
  exact kk j v' hj
end ECR
section MKL
variable {E : Ev} {p : Program} {l : Launch} {e : Env} {u : State} {m : MethodId} {args : Array Value} {below : List Frame} {meth : Method} {c : Code} {Q : State → Prop} {B m0 r0 : Nat} {μ0 : Mm} {R0 A0 N0 L0 : Nat}
theorem nI_m1 (j : Nat) : nI (j + 1) + Int32.ofInt (-1) = nI j := by
  rw [show Int32.ofInt (-1) = -1 from by decide, ← Int32.sub_eq_add_neg]
  exact nI_pred j
theorem nb_len : ∀ V : List Nat, (nb V).length ≤ 4 * V.length := by
  intro V
  induction V with
  | nil => exact Nat.zero_le _
  | cons v V ih =>
    have := (dG_len v).2
    show (32 :: (dG v ++ nb V)).length ≤ 4 * (V.length + 1)
    rw [List.length_cons, List.length_append]
    omega
set_option maxHeartbeats 4000000 in
set_option maxRecDepth 100000 in
theorem mk_years (C : Cq E p u m args meth c cX4_init 8 RX4) (hPx : Px args u) (hU : (eU E).1 = 0) (hB : eB E ≤ B) (hs : m0 < B ∧ r0 < B) {l0 : List Int32} {tot K N : Nat} (hl0 : l0.length + 4 * tot ≤ 900) (hK : K ≤ 900) (hN : N ≤ 690000) (kk : ∀ (k n : Nat) (μ : Mm) (v : Int32) (V : List Nat), k ≤ K → n ≤ N → V.length = tot → (∀ x, x ∈ V → x ≤ 200) → SBw E B μ (l0 ++ nb V) → GR μ0 μ → Gz E p l e rm_made u m args below meth c k n 8 Q 132 [(3, .int (nI 0)), (2, .ref (B + 295)), (1, .ref r0), (0, .ref m0)] [] (yM m0 r0 (fdM B R0 A0 N0 L0 0 0) v ++ wl (eS E B) μ)) : ∀ (j k n : Nat) (μ : Mm) (v : Int32) (V : List Nat), V.length + j = tot → k + 2 * j ≤ K → n + 4096 * j ≤ N → (∀ x, x ∈ V → x ≤ 200) → SBw E B μ (l0 ++ nb V) → GR μ0 μ → Gz E p l e rm_made u m args below meth c k n 8 Q 105 [(3, .int (nI j)), (2, .ref (B + 295)), (1, .ref r0), (0, .ref m0)] [] (yM m0 r0 (fdM B R0 A0 N0 L0 0 0) v ++ wl (eS E B) μ) := by
  intro j
  induction j with
  | zero =>
    intro k n μ v V hj hk hn hV hT hG
    refine gz_iload_n C dX4_init_105 rfl 0 rfl ?_
    refine gz_if_le_t (tgt := 132) C dX4_init_106 (by decide) (by decide) ?_
    exact kk k n μ v V (by omega) (by omega) (by omega) hV hT hG
  | succ j ih =>
    intro k n μ v V hj hk hn hV hT hG
    have hlen := nb_len V
    have hl : (l0 ++ nb V).length + 4 ≤ 900 := by rw [List.length_append]; omega
    refine gz_iload_n C dX4_init_105 rfl 0 rfl ?_
    refine gz_if_le_f (tgt := 132) C dX4_init_106 (by decide) (nI_nle (by omega) (by omega)) ?_
    refine gz_aload_n C dX4_init_109 rfl 1 rfl ?_
    refine gz_ldcS (index := 53) (j := 13) (tx := " ") C (by decide +kernel) dX4_init_110 ?_
    refine gz_apS (Y := yM m0 r0 (fdM B R0 A0 N0 L0 0 0) v) (index := 48) C hPx hU hB (fun q hq => by rcases List.mem_cons.mp hq with rfl | hq; exact hs.1; rcases List.mem_cons.mp hq with rfl | hq; exact hs.2; cases hq) hT (show 13 < 22 by decide) (by show (l0 ++ nb V).length + 1 ≤ 1000; omega) wk_4_8 ⟨(Nat.le_of_ble_eq_true rfl), (Nat.le_of_ble_eq_true rfl)⟩ (Nat.le_of_ble_eq_true rfl) ⟨by show _ ≤ 1000; omega, by show _ ≤ 700000; omega⟩ dX4_init_112 (fun μ1 h1 g1 => ?_)
    have g1 := hG.tr g1
    refine gz_aload_n C dX4_init_115 rfl 2 rfl ?_
    refine gz_sipush (v := 160) C dX4_init_116 (by decide) ?_
    refine gz_next (q := 160) (rest := [.ref (B + 295)]) C wk_3_89 (by decide) (by decide) ⟨(Nat.le_of_ble_eq_true rfl), (Nat.le_of_ble_eq_true rfl)⟩ (Nat.le_of_ble_eq_true rfl) ⟨by show _ ≤ 1000; omega, by show _ ≤ 700000; omega⟩ dX4_init_119 (fun x v2 hx => ?_)
    refine gz_apI (Y := yM m0 r0 (fdM B R0 A0 N0 L0 0 0) v2) (index := 42) C hPx hU hB (fun q hq => by rcases List.mem_cons.mp hq with rfl | hq; exact hs.1; rcases List.mem_cons.mp hq with rfl | hq; exact hs.2; cases hq) h1 (by rw [List.length_append]; show (l0 ++ nb V).length + 1 + 3 ≤ 1000; omega) (by omega) wk_3_222 ⟨(Nat.le_of_ble_eq_true rfl), (Nat.le_of_ble_eq_true rfl)⟩ (Nat.le_of_ble_eq_true rfl) ⟨by show _ ≤ 1000; omega, by show _ ≤ 700000; omega⟩ dX4_init_122 (fun μ3 h3 g3 => ?_)
    have g3 := g1.tr g3
    refine gz_popr C dX4_init_125 ?_
    refine gz_iinc (i := 3) (q := 0) (v := nI j) C dX4_init_126 rfl (nI_m1 j) (by decide) rfl ?_
    refine gz_goto (tgt := 105) C dX4_init_129 (by decide) ?_
    have e8 : (l0 ++ nb V) ++ lt 13 ++ dG x = l0 ++ nb (V ++ [x]) := by
      rw [nb_snoc, show lt 13 = [32] from rfl]
      simp only [List.append_assoc, List.cons_append, List.nil_append]
    rw [e8] at h3
    refine ih (k + 1 + 1) (n + 2048 + 2048) μ3 v2 (V ++ [x]) (by rw [List.length_append]; show V.length + 1 + j = tot; omega) (by omega) (by omega) (fun y hy => ?_) h3 g3
    rcases List.mem_append.mp hy with hy | hy
    · exact hV y hy
    · obtain rfl := List.mem_singleton.mp hy
      omega
set_option maxHeartbeats 4000000 in
set_option maxRecDepth 100000 in
theorem mk_season (C : Cq E p u m args meth c cX4_init 8 RX4) (hPx : Px args u) (hU : (eU E).1 = 0) (hB : eB E ≤ B) (hs : m0 < B ∧ r0 < B) {l0 : List Int32} {tot K N : Nat} (hl0 : l0.length + 4 * tot ≤ 900) (hK : K ≤ 900) (hN : N ≤ 690000) (kk : ∀ (k n : Nat) (μ : Mm) (v : Int32) (V : List Nat), k ≤ K → n ≤ N → V.length = tot → (∀ x, x ∈ V → x ≤ 200) → SBw E B μ (l0 ++ nb V) → GR μ0 μ → Gz E p l e rm_made u m args below meth c k n 8 Q 173 [(3, .int (nI 0 - 1)), (2, .ref (B + 295)), (1, .ref r0), (0, .ref m0)] [] (yM m0 r0 (fdM B R0 A0 N0 L0 0 0) v ++ wl (eS E B) μ)) : ∀ (j k n : Nat) (μ : Mm) (v : Int32) (V : List Nat), V.length + j = tot → k + 2 * j ≤ K → n + 4096 * j ≤ N → (∀ x, x ∈ V → x ≤ 200) → SBw E B μ (l0 ++ nb V) → GR μ0 μ → Gz E p l e rm_made u m args below meth c k n 8 Q 146 [(3, .int (nI j - 1)), (2, .ref (B + 295)), (1, .ref r0), (0, .ref m0)] [] (yM m0 r0 (fdM B R0 A0 N0 L0 0 0) v ++ wl (eS E B) μ) := by
  intro j
  induction j with
  | zero =>
    intro k n μ v V hj hk hn hV hT hG
    refine gz_iload_n C dX4_init_146 rfl 0 rfl ?_
    refine gz_if_lt_t (tgt := 173) C dX4_init_147 (by decide) (by decide) ?_
    exact kk k n μ v V (by omega) (by omega) (by omega) hV hT hG
  | succ j ih =>
    intro k n μ v V hj hk hn hV hT hG
    have hlen := nb_len V
    have hl : (l0 ++ nb V).length + 4 ≤ 900 := by rw [List.length_append]; omega
    have e9 : nI (j + 1) - 1 = nI j := nI_pred j
    rw [e9]
    refine gz_iload_n C dX4_init_146 rfl 0 rfl ?_
    refine gz_if_lt_f (tgt := 173) C dX4_init_147 (by decide) (nI_pos (by omega)) ?_
    refine gz_aload_n C dX4_init_150 rfl 1 rfl ?_
    refine gz_ldcS (index := 53) (j := 13) (tx := " ") C (by decide +kernel) dX4_init_151 ?_
    refine gz_apS (Y := yM m0 r0 (fdM B R0 A0 N0 L0 0 0) v) (index := 48) C hPx hU hB (fun q hq => by rcases List.mem_cons.mp hq with rfl | hq; exact hs.1; rcases List.mem_cons.mp hq with rfl | hq; exact hs.2; cases hq) hT (show 13 < 22 by decide) (by show (l0 ++ nb V).length + 1 ≤ 1000; omega) wk_4_8 ⟨(Nat.le_of_ble_eq_true rfl), (Nat.le_of_ble_eq_true rfl)⟩ (Nat.le_of_ble_eq_true rfl) ⟨by show _ ≤ 1000; omega, by show _ ≤ 700000; omega⟩ dX4_init_153 (fun μ1 h1 g1 => ?_)
    have g1 := hG.tr g1
    refine gz_aload_n C dX4_init_156 rfl 2 rfl ?_
    refine gz_sipush (v := 201) C dX4_init_157 (by decide) ?_
    refine gz_next (q := 201) (rest := [.ref (B + 295)]) C wk_3_89 (by decide) (by decide) ⟨(Nat.le_of_ble_eq_true rfl), (Nat.le_of_ble_eq_true rfl)⟩ (Nat.le_of_ble_eq_true rfl) ⟨by show _ ≤ 1000; omega, by show _ ≤ 700000; omega⟩ dX4_init_160 (fun x v2 hx => ?_)
    refine gz_apI (Y := yM m0 r0 (fdM B R0 A0 N0 L0 0 0) v2) (index := 42) C hPx hU hB (fun q hq => by rcases List.mem_cons.mp hq with rfl | hq; exact hs.1; rcases List.mem_cons.mp hq with rfl | hq; exact hs.2; cases hq) h1 (by rw [List.length_append]; show (l0 ++ nb V).length + 1 + 3 ≤ 1000; omega) (by omega) wk_3_222 ⟨(Nat.le_of_ble_eq_true rfl), (Nat.le_of_ble_eq_true rfl)⟩ (Nat.le_of_ble_eq_true rfl) ⟨by show _ ≤ 1000; omega, by show _ ≤ 700000; omega⟩ dX4_init_163 (fun μ3 h3 g3 => ?_)
    have g3 := g1.tr g3
    refine gz_popr C dX4_init_166 ?_
    refine gz_iinc (i := 3) (q := 0) (v := nI j - 1) C dX4_init_167 rfl (by rw [show Int32.ofInt (-1) = -1 from by decide, ← Int32.sub_eq_add_neg]) (by decide) rfl ?_
    refine gz_goto (tgt := 146) C dX4_init_170 (by decide) ?_
    have e8 : (l0 ++ nb V) ++ lt 13 ++ dG x = l0 ++ nb (V ++ [x]) := by
      rw [nb_snoc, show lt 13 = [32] from rfl]
      simp only [List.append_assoc, List.cons_append, List.nil_append]
    rw [e8] at h3
    refine ih (k + 1 + 1) (n + 2048 + 2048) μ3 v2 (V ++ [x]) (by rw [List.length_append]; show V.length + 1 + j = tot; omega) (by omega) (by omega) (fun y hy => ?_) h3 g3
    rcases List.mem_append.mp hy with hy | hy
    · exact hV y hy
    · obtain rfl := List.mem_singleton.mp hy
      omega
theorem tx_len (T : List (List Tok)) (K : List Tok) : (ren true (flat (T ++ [K]))).length = (ren true (flat T)).length + (ren true (K ++ [(3, 0)])).length := by rw [ren_snoc, List.length_append]
set_option maxHeartbeats 4000000 in
set_option maxRecDepth 100000 in
theorem mk_reach (C : Cq E p u m args meth c cX4_init 8 RX4) (hPx : Px args u) (hU : (eU E).1 = 0) (hB : eB E ≤ B) (hs : m0 < B ∧ r0 < B) {A1 K N : Nat} (hR0 : R0 ≤ 6) (hA1 : A1 ≤ 5) (hK : K ≤ 900) (hN : N ≤ 690000) (kk : ∀ (k n : Nat) (μ : Mm) (v : Int32) (T : List (List Tok)) (s : Nat → Int32), k ≤ K → n ≤ N → MB T s → CS s R0 A1 0 0 0 → (ren true (flat T)).length ≤ 90 + 14 * R0 → SBw E B μ (ren true (flat T)) → GR μ0 μ → Gz E p l e rm_made u m args below meth c k n 8 Q 233 [(3, .int (nI R0)), (2, .ref (B + 295)), (1, .ref r0), (0, .ref m0)] [] (yM m0 r0 (fdM B R0 A0 N0 L0 0 0) v ++ wl (eS E B) μ)) : ∀ (d i k n : Nat) (μ : Mm) (v : Int32) (T : List (List Tok)) (s : Nat → Int32), i + d = R0 → k + 5 * d ≤ K → n + 10240 * d ≤ N → MB T s → CS s i A1 0 0 0 → (ren true (flat T)).length ≤ 90 + 14 * i → SBw E B μ (ren true (flat T)) → GR μ0 μ → Gz E p l e rm_made u m args below meth c k n 8 Q 182 [(3, .int (nI i)), (2, .ref (B + 295)), (1, .ref r0), (0, .ref m0)] [] (yM m0 r0 (fdM B R0 A0 N0 L0 0 0) v ++ wl (eS E B) μ) := by
  intro d
  induction d with
  | zero =>
    intro i k n μ v T s hi hk hn hM hC hl hT hG
    obtain rfl : i = R0 := by omega
    refine gz_iload_n C dX4_init_182 rfl 0 rfl ?_
    refine gz_aload_n C dX4_init_183 rfl 3 rfl ?_
    refine gz_get (ci := 6) (N := 7) (T := TX4) C inG_X4 0 rfl rfl 1 (by decide) wk_4_222 rfl dX4_init_184 ?_
    refine gz_icmp_ge_t (tgt := 233) C dX4_init_187 (by decide) (nI_le (Nat.le_refl _) (by omega)) ?_
    exact kk k n μ v T s (by omega) (by omega) hM hC hl hT hG
  | succ d ih =>
    intro i k n μ v T s hi hk hn hM hC hl hT hG
    have hi6 : i < R0 := by omega
    generalize hl0 : ren true (flat T) = l0 at *
    refine gz_iload_n C dX4_init_182 rfl 0 rfl ?_
    refine gz_aload_n C dX4_init_183 rfl 3 rfl ?_
    refine gz_get (ci := 6) (N := 7) (T := TX4) C inG_X4 0 rfl rfl 1 (by decide) wk_4_222 rfl dX4_init_184 ?_
    refine gz_icmp_ge_f (tgt := 233) C dX4_init_187 (by decide) (nI_ge hi6 (by omega)) ?_
    refine gz_aload_n C dX4_init_190 rfl 1 rfl ?_
    refine gz_ldcS (index := 59) (j := 16) (tx := "reach ") C (by decide +kernel) dX4_init_191 ?_
    refine gz_apS (Y := yM m0 r0 (fdM B R0 A0 N0 L0 0 0) v) (index := 48) C hPx hU hB (fun q hq => by rcases List.mem_cons.mp hq with rfl | hq; exact hs.1; rcases List.mem_cons.mp hq with rfl | hq; exact hs.2; cases hq) hT (show 16 < 22 by decide) (by (try simp only [List.length_append]); have z16 : (lt 16).length = 6 := rfl; omega) wk_4_8 ⟨(Nat.le_of_ble_eq_true rfl), (Nat.le_of_ble_eq_true rfl)⟩ (Nat.le_of_ble_eq_true rfl) ⟨by show _ ≤ 1000; omega, by show _ ≤ 700000; omega⟩ dX4_init_193 (fun μ1 h1 g1 => ?_)
    have g1 := hG.tr g1
    refine gz_aload_n C dX4_init_196 rfl 2 rfl ?_
    refine gz_sipush (v := 400) C dX4_init_197 (by decide) ?_
    refine gz_next (q := 400) (rest := [.ref (B + 295)]) C wk_3_89 (by decide) (by decide) ⟨(Nat.le_of_ble_eq_true rfl), (Nat.le_of_ble_eq_true rfl)⟩ (Nat.le_of_ble_eq_true rfl) ⟨by show _ ≤ 1000; omega, by show _ ≤ 700000; omega⟩ dX4_init_200 (fun x v2 hx => ?_)
    refine gz_apI (Y := yM m0 r0 (fdM B R0 A0 N0 L0 0 0) v2) (index := 42) C hPx hU hB (fun q hq => by rcases List.mem_cons.mp hq with rfl | hq; exact hs.1; rcases List.mem_cons.mp hq with rfl | hq; exact hs.2; cases hq) h1 (by (try simp only [List.length_append]); have z16 : (lt 16).length = 6 := rfl; omega) (by omega) wk_3_222 ⟨(Nat.le_of_ble_eq_true rfl), (Nat.le_of_ble_eq_true rfl)⟩ (Nat.le_of_ble_eq_true rfl) ⟨by show _ ≤ 1000; omega, by show _ ≤ 700000; omega⟩ dX4_init_203 (fun μ3 h3 g3 => ?_)
    have g3 := g1.tr g3
    refine gz_ldcS (index := 53) (j := 13) (tx := " ") C (by decide +kernel) dX4_init_206 ?_
    refine gz_apS (Y := yM m0 r0 (fdM B R0 A0 N0 L0 0 0) v2) (index := 48) C hPx hU hB (fun q hq => by rcases List.mem_cons.mp hq with rfl | hq; exact hs.1; rcases List.mem_cons.mp hq with rfl | hq; exact hs.2; cases hq) h3 (show 13 < 22 by decide) (by (try simp only [List.length_append]); have d0 := (dG_len x).2; have z13 : (lt 13).length = 1 := rfl; have z16 : (lt 16).length = 6 := rfl; omega) wk_4_8 ⟨(Nat.le_of_ble_eq_true rfl), (Nat.le_of_ble_eq_true rfl)⟩ (Nat.le_of_ble_eq_true rfl) ⟨by show _ ≤ 1000; omega, by show _ ≤ 700000; omega⟩ dX4_init_208 (fun μ4 h4 g4 => ?_)
    have g4 := g3.tr g4
    refine gz_aload_n C dX4_init_211 rfl 2 rfl ?_
    refine gz_sipush (v := 200) C dX4_init_212 (by decide) ?_
    refine gz_next (q := 200) (rest := [.ref (B + 295)]) C wk_3_89 (by decide) (by decide) ⟨(Nat.le_of_ble_eq_true rfl), (Nat.le_of_ble_eq_true rfl)⟩ (Nat.le_of_ble_eq_true rfl) ⟨by show _ ≤ 1000; omega, by show _ ≤ 700000; omega⟩ dX4_init_215 (fun y v5 hy => ?_)
    refine gz_apI (Y := yM m0 r0 (fdM B R0 A0 N0 L0 0 0) v5) (index := 42) C hPx hU hB (fun q hq => by rcases List.mem_cons.mp hq with rfl | hq; exact hs.1; rcases List.mem_cons.mp hq with rfl | hq; exact hs.2; cases hq) h4 (by (try simp only [List.length_append]); have d0 := (dG_len x).2; have z13 : (lt 13).length = 1 := rfl; have z16 : (lt 16).length = 6 := rfl; omega) (by omega) wk_3_222 ⟨(Nat.le_of_ble_eq_true rfl), (Nat.le_of_ble_eq_true rfl)⟩ (Nat.le_of_ble_eq_true rfl) ⟨by show _ ≤ 1000; omega, by show _ ≤ 700000; omega⟩ dX4_init_218 (fun μ6 h6 g6 => ?_)
    have g6 := g4.tr g6
    refine gz_ldcS (index := 57) (j := 15) (tx := ";") C (by decide +kernel) dX4_init_221 ?_
    refine gz_apS (Y := yM m0 r0 (fdM B R0 A0 N0 L0 0 0) v5) (index := 48) C hPx hU hB (fun q hq => by rcases List.mem_cons.mp hq with rfl | hq; exact hs.1; rcases List.mem_cons.mp hq with rfl | hq; exact hs.2; cases hq) h6 (show 15 < 22 by decide) (by (try simp only [List.length_append]); have d0 := (dG_len x).2; have d1 := (dG_len y).2; have z13 : (lt 13).length = 1 := rfl; have z15 : (lt 15).length = 1 := rfl; have z16 : (lt 16).length = 6 := rfl; omega) wk_4_8 ⟨(Nat.le_of_ble_eq_true rfl), (Nat.le_of_ble_eq_true rfl)⟩ (Nat.le_of_ble_eq_true rfl) ⟨by show _ ≤ 1000; omega, by show _ ≤ 700000; omega⟩ dX4_init_223 (fun μ7 h7 g7 => ?_)
    have g7 := g6.tr g7
    refine gz_popr C dX4_init_226 ?_
    refine gz_iinc (i := 3) (q := 0) (v := (nI (i + 1))) C dX4_init_227 rfl (nI_add _ 1) (by decide) rfl ?_
    refine gz_goto (tgt := 182) C dX4_init_230 (by decide) ?_
    rw [tx_reach, ← hl0, ← ren_snoc] at h7
    have hc0 := hC.c0
    refine ih (i + 1) (k + 1 + 1 + 1 + 1 + 1) (n + 2048 + 2048 + 2048 + 2048 + 2048) μ7 v5 (T ++ [[(1, 0), (2, x), (2, y)]]) (reS2 s (nI x) (nI y)) (by omega) (by omega) (by omega) (hM.snoc (ln_reach (by omega) (by omega) (by rw [hc0]; omega)) (fun k hk => ?_)) (hC.reach (by omega)) ?_ h7 g7
    · rcases List.mem_cons.mp hk with rfl | hk; exact Or.inl ⟨rfl, by decide⟩
      rcases List.mem_cons.mp hk with rfl | hk; exact Or.inr (Or.inl ⟨rfl, by show x ≤ 999; omega⟩)
      rcases List.mem_cons.mp hk with rfl | hk; exact Or.inr (Or.inl ⟨rfl, by show y ≤ 999; omega⟩)
      cases hk
    · have d1 := (dG_len x).2
      have d2 := (dG_len y).2
      rw [tx_len, hl0, show (ren true ([(1, 0), (2, x), (2, y)] ++ [(3, 0)])) = lt 0 ++ (32 :: (dG x ++ (32 :: (dG y ++ [59])))) from rfl]
      simp only [List.length_append, List.length_cons, List.length_nil]
      have z0 : (lt 0).length = 5 := rfl
      omega
end MKL
