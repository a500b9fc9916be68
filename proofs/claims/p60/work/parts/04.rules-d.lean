/-! ===== rules of memory, calls, ends ===== -/
theorem gw_t {w : Cond} (h : w ∈ lw_tbl) (hg : goodWord w = true) : w ∈ GW := List.mem_filter.mpr ⟨h, hg⟩
theorem gw_good {w : Cond} (h : w ∈ GW) : (w.onTables && w.keeps) = true ∨ ∃ ty, w = .arrayClass ty := good_of_word (List.mem_filter.mp h).2
theorem gw_in {Ts : List Cond} (h : ∀ w ∈ Ts, w ∈ GW) : GoodIn GW Ts := fun w hw => ⟨h w hw, gw_good (h w hw)⟩
theorem gw_tbl1 {w : Cond} (h : w ∈ tables_1) : w ∈ lw_tbl := List.mem_append_right _ h
theorem gw_sel {y : MethodName} {n : Nat} (h : (y, n) ∈ lw_privs) : Cond.selects y.cls y y ∈ lw_tbl := List.mem_append_left _ (List.mem_map.mpr ⟨(y, n), h, rfl⟩)
theorem gw_cons {c : Cond} {Ts : List Cond} {P : Cond → Prop} (h : P c) (t : ∀ w ∈ Ts, P w) : ∀ w ∈ c :: Ts, P w := fun w hw => (List.mem_cons.mp hw).elim (fun e => e ▸ h) (t w)
theorem gw_nil {P : Cond → Prop} : ∀ w ∈ ([] : List Cond), P w := fun _ h => nomatch h

theorem gw_1 {w : Cond} (h : w ∈ tables_1_1) (hg : goodWord w = true) : w ∈ GW := gw_t (gw_tbl1 (List.mem_append_left _ h)) hg
theorem gn_1 {w : Cond} (h : w ∈ tables_1_1) (hg : nwOk w = true) : w ∈ NW := List.mem_filter.mpr ⟨gw_tbl1 (List.mem_append_left _ h), hg⟩
theorem gw_2 {w : Cond} (h : w ∈ tables_1_2) (hg : goodWord w = true) : w ∈ GW := gw_t (gw_tbl1 (List.mem_append_right _ (List.mem_append_left _ h))) hg
theorem gn_2 {w : Cond} (h : w ∈ tables_1_2) (hg : nwOk w = true) : w ∈ NW := List.mem_filter.mpr ⟨gw_tbl1 (List.mem_append_right _ (List.mem_append_left _ h)), hg⟩
theorem gw_3 {w : Cond} (h : w ∈ tables_1_3) (hg : goodWord w = true) : w ∈ GW := gw_t (gw_tbl1 (List.mem_append_right _ (List.mem_append_right _ (List.mem_append_left _ h)))) hg
theorem gn_3 {w : Cond} (h : w ∈ tables_1_3) (hg : nwOk w = true) : w ∈ NW := List.mem_filter.mpr ⟨gw_tbl1 (List.mem_append_right _ (List.mem_append_right _ (List.mem_append_left _ h))), hg⟩
theorem gw_4 {w : Cond} (h : w ∈ tables_1_4) (hg : goodWord w = true) : w ∈ GW := gw_t (gw_tbl1 (List.mem_append_right _ (List.mem_append_right _ (List.mem_append_right _ (List.mem_append_left _ h))))) hg
theorem gn_4 {w : Cond} (h : w ∈ tables_1_4) (hg : nwOk w = true) : w ∈ NW := List.mem_filter.mpr ⟨gw_tbl1 (List.mem_append_right _ (List.mem_append_right _ (List.mem_append_right _ (List.mem_append_left _ h)))), hg⟩
theorem gw_5 {w : Cond} (h : w ∈ tables_1_5) (hg : goodWord w = true) : w ∈ GW := gw_t (gw_tbl1 (List.mem_append_right _ (List.mem_append_right _ (List.mem_append_right _ (List.mem_append_right _ h))))) hg
theorem gn_5 {w : Cond} (h : w ∈ tables_1_5) (hg : nwOk w = true) : w ∈ NW := List.mem_filter.mpr ⟨gw_tbl1 (List.mem_append_right _ (List.mem_append_right _ (List.mem_append_right _ (List.mem_append_right _ h)))), hg⟩
set_option maxRecDepth 100000 in
theorem inG_X0 : ∀ w ∈ u_ws RX0 TX0 8, w ∈ GW := fun w hw => gw_t ((show ∀ w ∈ u_ws RX0 TX0 8, w ∈ lw_tbl by decide +kernel) w hw) ((show ∀ w ∈ u_ws RX0 TX0 8, goodWord w = true by decide +kernel) w hw)
set_option maxRecDepth 100000 in
theorem inG_X1 : ∀ w ∈ u_ws RX1 TX1 19, w ∈ GW := fun w hw => gw_t ((show ∀ w ∈ u_ws RX1 TX1 19, w ∈ lw_tbl by decide +kernel) w hw) ((show ∀ w ∈ u_ws RX1 TX1 19, goodWord w = true by decide +kernel) w hw)
set_option maxRecDepth 100000 in
theorem inG_X2 : ∀ w ∈ u_ws RX2 TX2 3, w ∈ GW := fun w hw => gw_t ((show ∀ w ∈ u_ws RX2 TX2 3, w ∈ lw_tbl by decide +kernel) w hw) ((show ∀ w ∈ u_ws RX2 TX2 3, goodWord w = true by decide +kernel) w hw)
set_option maxRecDepth 100000 in
theorem inG_X3 : ∀ w ∈ u_ws RX3 TX3 9, w ∈ GW := fun w hw => gw_t ((show ∀ w ∈ u_ws RX3 TX3 9, w ∈ lw_tbl by decide +kernel) w hw) ((show ∀ w ∈ u_ws RX3 TX3 9, goodWord w = true by decide +kernel) w hw)
set_option maxRecDepth 100000 in
theorem inG_X4 : ∀ w ∈ u_ws RX4 TX4 7, w ∈ GW := fun w hw => gw_t ((show ∀ w ∈ u_ws RX4 TX4 7, w ∈ lw_tbl by decide +kernel) w hw) ((show ∀ w ∈ u_ws RX4 TX4 7, goodWord w = true by decide +kernel) w hw)
set_option maxRecDepth 100000 in
theorem inG_X5 : ∀ w ∈ u_ws RX5 TX5 1, w ∈ GW := fun w hw => gw_t ((show ∀ w ∈ u_ws RX5 TX5 1, w ∈ lw_tbl by decide +kernel) w hw) ((show ∀ w ∈ u_ws RX5 TX5 1, goodWord w = true by decide +kernel) w hw)
set_option maxRecDepth 100000 in
theorem inG_J4 : ∀ w ∈ u_ws RJ4 TJ4 4, w ∈ GW := fun w hw => gw_t ((show ∀ w ∈ u_ws RJ4 TJ4 4, w ∈ lw_tbl by decide +kernel) w hw) ((show ∀ w ∈ u_ws RJ4 TJ4 4, goodWord w = true by decide +kernel) w hw)
set_option maxRecDepth 100000 in
theorem inG_J0 : ∀ w ∈ u_ws RJ0 TJ0 4, w ∈ GW := fun w hw => gw_t ((show ∀ w ∈ u_ws RJ0 TJ0 4, w ∈ lw_tbl by decide +kernel) w hw) ((show ∀ w ∈ u_ws RJ0 TJ0 4, goodWord w = true by decide +kernel) w hw)
theorem gw_V {own Cn : String} {idx : Nat} {y : MethodName} {ws : List Cond} (h1 : Cond.methodLink own idx y ∈ GW) (h2 : Cond.instanceMethod y ∈ GW) (h3 : Cond.selects Cn y y ∈ GW) (h4 : Cond.initialized Cn ∈ GW) (h5 : ∀ w ∈ ws, w ∈ GW) : GoodIn GW (wsV own idx Cn y ws) := gw_in (by
  intro w hw
  rcases List.mem_append.mp hw with h | h
  · exact gw_cons (P := fun w => w ∈ GW) h1 (gw_cons h2 (gw_cons h3 (gw_cons h4 gw_nil))) w h
  · exact h5 w h)
theorem gw_S {own : String} {idx : Nat} {y : MethodName} {ws : List Cond} (h1 : Cond.methodLink own idx y ∈ GW) (h2 : Cond.static y ∈ GW) (h4 : Cond.initialized own ∈ GW) (h5 : ∀ w ∈ ws, w ∈ GW) : GoodIn GW (wsS own idx y ws) := gw_in (by
  intro w hw
  rcases List.mem_append.mp hw with h | h
  · exact gw_cons (P := fun w => w ∈ GW) h1 (gw_cons h2 (gw_cons h4 gw_nil)) w h
  · exact h5 w h)
theorem gw_ws {c : Cond} (h : c ∈ GW) : ∀ w ∈ c :: GW, w ∈ GW := gw_cons (P := fun w => w ∈ GW) h (fun _ h => h)
/-- words that are good, or told apart -/
theorem qw_all {E : Ev} {p : Program} {s : State} {m : MethodId} {args : Array Value} {meth : Method} {c : Code} {nL : Nat} {cc : ByteArray} {own : String} (C : Cq E p s m args meth c cc nL own) {ws : List Cond} (h : ∀ w ∈ ws, w ∈ lw_tbl ∧ (goodWord w = true ∨ nwOk w = true)) : ∀ w ∈ ws, w.before args s = true := fun w hw => (h w hw).2.elim (fun g => C.2.2.2.2.1 _ (gw_t (h w hw).1 g)) (fun g => va_Nw.use (nw_tab g) (C.2.2.2.2.2.2.2.2.2.2.2.2.2.2.2.2.2.1 _ (List.mem_filter.mpr ⟨(h w hw).1, g⟩)))
section QR
variable {E : Ev} {p : Program} {l : Launch} {e : Env} {R : Room} {s : State} {m : MethodId} {args : Array Value} {below : List Frame} {meth : Method} {c : Code} {k n nL : Nat} {Q : State → Prop} {cc : ByteArray} {own : String} {pc : Nat} {lv lv' : List (Nat × Value)} {rest st : List Value} {μ μ' : Mm}

theorem gq_get0 (C : Cq E p s m args meth c cc nL own) {i : Nat} (hi : i < eN E) (hk : kd i = 0) (f : Nat) {index : Nat} {v : Value} (hf : f < 9) (w : Cond.fieldLink own index (TX3 f).1 (TX3 f).2.1 (TX3 f).2.2.1 ∈ GW) (hv : [.ref (eB E + 1), .ref (eB E + 23), .ref (eB E + 45), .ref (eB E + 69), .ref (eB E + 70), .int (μ.1 i 5), .ref (eB E + 247), .ref (eB E + 292), .ref (eB E + 293)][f]? = some v) (d : decode cc pc = .ok (.getfield index, 3)) (kk : Gq E p l e R s m args below meth c k n nL Q (pc + 3) lv (v :: rest) μ) : Gq E p l e R s m args below meth c k n nL Q pc lv (.ref (eB E + i) :: rest) μ := by
  intro H locs ls hH hS hl
  obtain ⟨q, hq⟩ := wl_get E μ hi (by rintro rfl; exact absurd hk (by decide))
  rw [cn_0 hk] at hq
  exact va_get (ci := 5) (C := RX3) (T := TX3) (N := 9) C.1 C.2.1 C.2.2.2.2.1 inG_X3 C.2.2.2.1 C.2.2.2.2.2.2.1 hH.1 q hq rfl f hf (C.2.2.2.2.1 _ w) (fun _ h => h) hv d (kk H locs ls hH hS hl)
theorem gq_put0_5 (C : Cq E p s m args meth c cc nL own) {i : Nat} (hi : i < eN E) (hk : kd i = 0) {index : Nat} {x : Int32} (w : Cond.fieldLink own index (TX3 5).1 (TX3 5).2.1 (TX3 5).2.2.1 ∈ GW) (hm : μ' = uI μ i 5 x) (d : decode cc pc = .ok (.putfield index, 3)) (kk : Gq E p l e R s m args below meth c k n nL Q (pc + 3) lv rest μ') : Gq E p l e R s m args below meth c k n nL Q pc lv (.int x :: .ref (eB E + i) :: rest) μ := by
  intro H locs ls hH hS hl
  have h9 : i ≠ 296 := by rintro rfl; exact absurd hk (by decide)
  obtain ⟨q, hq0⟩ := wl_get E μ hi h9
  have hq := hq0
  rw [cn_0 hk] at hq
  refine va_put (ci := 5) (C := RX3) (T := TX3) (N := 9) (ty := .int) C.1 C.2.1 C.2.2.2.2.1 inG_X3 tyX3 tyX3_ok nmX3 C.2.2.2.1 C.2.2.2.2.2.2.1 hH.1 hH.2 hS q hq rfl 5 (by decide) (C.2.2.2.2.1 _ w) (fun _ h => h) rfl (by decide +kernel) rfl rfl (Nat.le_of_ble_eq_true rfl) d (fun H1 locs1 hP hD hS1 => kk H1 locs1 ls ?_ hS1 hl)
  subst hm
  have he : cn E (uI μ i 5 x) i = .inr (5, [.ref (eB E + 1), .ref (eB E + 23), .ref (eB E + 45), .ref (eB E + 69), .ref (eB E + 70), .int (μ.1 i 5), .ref (eB E + 247), .ref (eB E + 292), .ref (eB E + 293)].set 5 (.int x)) := by
    rw [cn_0 hk, uI_eq]
    first | rfl | simp [List.set]
  have hw := wl_set hH.2 hi h9 hq0 he cnI_ne rfl
  rw [hw] at hP hD
  exact ⟨hP, hD⟩
theorem gq_get0N (C : Cq E p s m args meth c cc nL own) {i : Nat} (hi : i < eN E) (hk : kd i = 0) (f : Nat) {index : Nat} {host : String} {v : Value} (hf : f < 9) (w : Cond.fieldLinkNest own index (TX3 f).1 (TX3 f).2.1 (TX3 f).2.2.1 host ∈ NW) (hv : [.ref (eB E + 1), .ref (eB E + 23), .ref (eB E + 45), .ref (eB E + 69), .ref (eB E + 70), .int (μ.1 i 5), .ref (eB E + 247), .ref (eB E + 292), .ref (eB E + 293)][f]? = some v) (d : decode cc pc = .ok (.getfield index, 3)) (kk : Gq E p l e R s m args below meth c k n nL Q (pc + 3) lv (v :: rest) μ) : Gq E p l e R s m args below meth c k n nL Q pc lv (.ref (eB E + i) :: rest) μ := by
  intro H locs ls hH hS hl
  obtain ⟨q, hq⟩ := wl_get E μ hi (by rintro rfl; exact absurd hk (by decide))
  rw [cn_0 hk] at hq
  exact va_getN (ci := 5) (C := RX3) (T := TX3) (N := 9) C.1 C.2.1 C.2.2.2.2.1 inG_X3 C.2.2.2.1 C.2.2.2.2.2.2.1 hH.1 q hq rfl f hf (va_Nw.use rfl (C.2.2.2.2.2.2.2.2.2.2.2.2.2.2.2.2.2.1 _ w)) (fun _ h => h) hv d (kk H locs ls hH hS hl)
theorem gq_put0_5N (C : Cq E p s m args meth c cc nL own) {i : Nat} (hi : i < eN E) (hk : kd i = 0) {index : Nat} {host : String} {x : Int32} (w : Cond.fieldLinkNest own index (TX3 5).1 (TX3 5).2.1 (TX3 5).2.2.1 host ∈ NW) (hm : μ' = uI μ i 5 x) (d : decode cc pc = .ok (.putfield index, 3)) (kk : Gq E p l e R s m args below meth c k n nL Q (pc + 3) lv rest μ') : Gq E p l e R s m args below meth c k n nL Q pc lv (.int x :: .ref (eB E + i) :: rest) μ := by
  intro H locs ls hH hS hl
  have h9 : i ≠ 296 := by rintro rfl; exact absurd hk (by decide)
  obtain ⟨q, hq0⟩ := wl_get E μ hi h9
  have hq := hq0
  rw [cn_0 hk] at hq
  refine va_putN (ci := 5) (C := RX3) (T := TX3) (N := 9) (ty := .int) C.1 C.2.1 C.2.2.2.2.1 inG_X3 tyX3 tyX3_ok nmX3 C.2.2.2.1 C.2.2.2.2.2.2.1 hH.1 hH.2 hS q hq rfl 5 (by decide) (va_Nw.use rfl (C.2.2.2.2.2.2.2.2.2.2.2.2.2.2.2.2.2.1 _ w)) (fun _ h => h) rfl (by decide +kernel) rfl rfl (Nat.le_of_ble_eq_true rfl) d (fun H1 locs1 hP hD hS1 => kk H1 locs1 ls ?_ hS1 hl)
  subst hm
  have he : cn E (uI μ i 5 x) i = .inr (5, [.ref (eB E + 1), .ref (eB E + 23), .ref (eB E + 45), .ref (eB E + 69), .ref (eB E + 70), .int (μ.1 i 5), .ref (eB E + 247), .ref (eB E + 292), .ref (eB E + 293)].set 5 (.int x)) := by
    rw [cn_0 hk, uI_eq]
    first | rfl | simp [List.set]
  have hw := wl_set hH.2 hi h9 hq0 he cnI_ne rfl
  rw [hw] at hP hD
  exact ⟨hP, hD⟩
theorem gq_get1 (C : Cq E p s m args meth c cc nL own) {i : Nat} (hi : i < eN E) (hk : kd i = 1) (f : Nat) {index : Nat} {v : Value} (hf : f < 19) (w : Cond.fieldLink own index (TX1 f).1 (TX1 f).2.1 (TX1 f).2.2.1 ∈ GW) (hv : [.ref (eB E + (i + 1)), .ref (eB E + (i + 3)), .ref (eB E + (i + 4)), .int (μ.1 i 3), .ref (eB E + (i + 5)), .ref (eB E + (i + 7)), .ref (eB E + (i + 8)), .ref (eB E + (i + 10)), .ref (eB E + (i + 11)), .ref (eB E + (i + 12)), .ref (eB E + (i + 14)), .ref (eB E + (i + 16)), .ref (eB E + (i + 18)), .ref (eB E + (i + 20)), .int (μ.1 i 14), .int (μ.1 i 15), .int (μ.1 i 16), .int (μ.1 i 17), .int (μ.1 i 18)][f]? = some v) (d : decode cc pc = .ok (.getfield index, 3)) (kk : Gq E p l e R s m args below meth c k n nL Q (pc + 3) lv (v :: rest) μ) : Gq E p l e R s m args below meth c k n nL Q pc lv (.ref (eB E + i) :: rest) μ := by
  intro H locs ls hH hS hl
  obtain ⟨q, hq⟩ := wl_get E μ hi (by rintro rfl; exact absurd hk (by decide))
  rw [cn_1 hk] at hq
  exact va_get (ci := 3) (C := RX1) (T := TX1) (N := 19) C.1 C.2.1 C.2.2.2.2.1 inG_X1 C.2.2.2.1 C.2.2.2.2.2.2.1 hH.1 q hq rfl f hf (C.2.2.2.2.1 _ w) (fun _ h => h) hv d (kk H locs ls hH hS hl)
theorem gq_put1_3 (C : Cq E p s m args meth c cc nL own) {i : Nat} (hi : i < eN E) (hk : kd i = 1) {index : Nat} {x : Int32} (w : Cond.fieldLink own index (TX1 3).1 (TX1 3).2.1 (TX1 3).2.2.1 ∈ GW) (hm : μ' = uI μ i 3 x) (d : decode cc pc = .ok (.putfield index, 3)) (kk : Gq E p l e R s m args below meth c k n nL Q (pc + 3) lv rest μ') : Gq E p l e R s m args below meth c k n nL Q pc lv (.int x :: .ref (eB E + i) :: rest) μ := by
  intro H locs ls hH hS hl
  have h9 : i ≠ 296 := by rintro rfl; exact absurd hk (by decide)
  obtain ⟨q, hq0⟩ := wl_get E μ hi h9
  have hq := hq0
  rw [cn_1 hk] at hq
  refine va_put (ci := 3) (C := RX1) (T := TX1) (N := 19) (ty := .int) C.1 C.2.1 C.2.2.2.2.1 inG_X1 tyX1 tyX1_ok nmX1 C.2.2.2.1 C.2.2.2.2.2.2.1 hH.1 hH.2 hS q hq rfl 3 (by decide) (C.2.2.2.2.1 _ w) (fun _ h => h) rfl (by decide +kernel) rfl rfl (Nat.le_of_ble_eq_true rfl) d (fun H1 locs1 hP hD hS1 => kk H1 locs1 ls ?_ hS1 hl)
  subst hm
  have he : cn E (uI μ i 3 x) i = .inr (3, [.ref (eB E + (i + 1)), .ref (eB E + (i + 3)), .ref (eB E + (i + 4)), .int (μ.1 i 3), .ref (eB E + (i + 5)), .ref (eB E + (i + 7)), .ref (eB E + (i + 8)), .ref (eB E + (i + 10)), .ref (eB E + (i + 11)), .ref (eB E + (i + 12)), .ref (eB E + (i + 14)), .ref (eB E + (i + 16)), .ref (eB E + (i + 18)), .ref (eB E + (i + 20)), .int (μ.1 i 14), .int (μ.1 i 15), .int (μ.1 i 16), .int (μ.1 i 17), .int (μ.1 i 18)].set 3 (.int x)) := by
    rw [cn_1 hk, uI_eq]
    first | rfl | simp [List.set]
  have hw := wl_set hH.2 hi h9 hq0 he cnI_ne rfl
  rw [hw] at hP hD
  exact ⟨hP, hD⟩
theorem gq_put1_14 (C : Cq E p s m args meth c cc nL own) {i : Nat} (hi : i < eN E) (hk : kd i = 1) {index : Nat} {x : Int32} (w : Cond.fieldLink own index (TX1 14).1 (TX1 14).2.1 (TX1 14).2.2.1 ∈ GW) (hm : μ' = uI μ i 14 x) (d : decode cc pc = .ok (.putfield index, 3)) (kk : Gq E p l e R s m args below meth c k n nL Q (pc + 3) lv rest μ') : Gq E p l e R s m args below meth c k n nL Q pc lv (.int x :: .ref (eB E + i) :: rest) μ := by
  intro H locs ls hH hS hl
  have h9 : i ≠ 296 := by rintro rfl; exact absurd hk (by decide)
  obtain ⟨q, hq0⟩ := wl_get E μ hi h9
  have hq := hq0
  rw [cn_1 hk] at hq
  refine va_put (ci := 3) (C := RX1) (T := TX1) (N := 19) (ty := .int) C.1 C.2.1 C.2.2.2.2.1 inG_X1 tyX1 tyX1_ok nmX1 C.2.2.2.1 C.2.2.2.2.2.2.1 hH.1 hH.2 hS q hq rfl 14 (by decide) (C.2.2.2.2.1 _ w) (fun _ h => h) rfl (by decide +kernel) rfl rfl (Nat.le_of_ble_eq_true rfl) d (fun H1 locs1 hP hD hS1 => kk H1 locs1 ls ?_ hS1 hl)
  subst hm
  have he : cn E (uI μ i 14 x) i = .inr (3, [.ref (eB E + (i + 1)), .ref (eB E + (i + 3)), .ref (eB E + (i + 4)), .int (μ.1 i 3), .ref (eB E + (i + 5)), .ref (eB E + (i + 7)), .ref (eB E + (i + 8)), .ref (eB E + (i + 10)), .ref (eB E + (i + 11)), .ref (eB E + (i + 12)), .ref (eB E + (i + 14)), .ref (eB E + (i + 16)), .ref (eB E + (i + 18)), .ref (eB E + (i + 20)), .int (μ.1 i 14), .int (μ.1 i 15), .int (μ.1 i 16), .int (μ.1 i 17), .int (μ.1 i 18)].set 14 (.int x)) := by
    rw [cn_1 hk, uI_eq]
    first | rfl | simp [List.set]
  have hw := wl_set hH.2 hi h9 hq0 he cnI_ne rfl
  rw [hw] at hP hD
  exact ⟨hP, hD⟩
theorem gq_put1_15 (C : Cq E p s m args meth c cc nL own) {i : Nat} (hi : i < eN E) (hk : kd i = 1) {index : Nat} {x : Int32} (w : Cond.fieldLink own index (TX1 15).1 (TX1 15).2.1 (TX1 15).2.2.1 ∈ GW) (hm : μ' = uI μ i 15 x) (d : decode cc pc = .ok (.putfield index, 3)) (kk : Gq E p l e R s m args below meth c k n nL Q (pc + 3) lv rest μ') : Gq E p l e R s m args below meth c k n nL Q pc lv (.int x :: .ref (eB E + i) :: rest) μ := by
  intro H locs ls hH hS hl
  have h9 : i ≠ 296 := by rintro rfl; exact absurd hk (by decide)
  obtain ⟨q, hq0⟩ := wl_get E μ hi h9
  have hq := hq0
  rw [cn_1 hk] at hq
  refine va_put (ci := 3) (C := RX1) (T := TX1) (N := 19) (ty := .int) C.1 C.2.1 C.2.2.2.2.1 inG_X1 tyX1 tyX1_ok nmX1 C.2.2.2.1 C.2.2.2.2.2.2.1 hH.1 hH.2 hS q hq rfl 15 (by decide) (C.2.2.2.2.1 _ w) (fun _ h => h) rfl (by decide +kernel) rfl rfl (Nat.le_of_ble_eq_true rfl) d (fun H1 locs1 hP hD hS1 => kk H1 locs1 ls ?_ hS1 hl)
  subst hm
  have he : cn E (uI μ i 15 x) i = .inr (3, [.ref (eB E + (i + 1)), .ref (eB E + (i + 3)), .ref (eB E + (i + 4)), .int (μ.1 i 3), .ref (eB E + (i + 5)), .ref (eB E + (i + 7)), .ref (eB E + (i + 8)), .ref (eB E + (i + 10)), .ref (eB E + (i + 11)), .ref (eB E + (i + 12)), .ref (eB E + (i + 14)), .ref (eB E + (i + 16)), .ref (eB E + (i + 18)), .ref (eB E + (i + 20)), .int (μ.1 i 14), .int (μ.1 i 15), .int (μ.1 i 16), .int (μ.1 i 17), .int (μ.1 i 18)].set 15 (.int x)) := by
    rw [cn_1 hk, uI_eq]
    first | rfl | simp [List.set]
  have hw := wl_set hH.2 hi h9 hq0 he cnI_ne rfl
  rw [hw] at hP hD
  exact ⟨hP, hD⟩
theorem gq_put1_16 (C : Cq E p s m args meth c cc nL own) {i : Nat} (hi : i < eN E) (hk : kd i = 1) {index : Nat} {x : Int32} (w : Cond.fieldLink own index (TX1 16).1 (TX1 16).2.1 (TX1 16).2.2.1 ∈ GW) (hm : μ' = uI μ i 16 x) (d : decode cc pc = .ok (.putfield index, 3)) (kk : Gq E p l e R s m args below meth c k n nL Q (pc + 3) lv rest μ') : Gq E p l e R s m args below meth c k n nL Q pc lv (.int x :: .ref (eB E + i) :: rest) μ := by
  intro H locs ls hH hS hl
  have h9 : i ≠ 296 := by rintro rfl; exact absurd hk (by decide)
  obtain ⟨q, hq0⟩ := wl_get E μ hi h9
  have hq := hq0
  rw [cn_1 hk] at hq
  refine va_put (ci := 3) (C := RX1) (T := TX1) (N := 19) (ty := .int) C.1 C.2.1 C.2.2.2.2.1 inG_X1 tyX1 tyX1_ok nmX1 C.2.2.2.1 C.2.2.2.2.2.2.1 hH.1 hH.2 hS q hq rfl 16 (by decide) (C.2.2.2.2.1 _ w) (fun _ h => h) rfl (by decide +kernel) rfl rfl (Nat.le_of_ble_eq_true rfl) d (fun H1 locs1 hP hD hS1 => kk H1 locs1 ls ?_ hS1 hl)
  subst hm
  have he : cn E (uI μ i 16 x) i = .inr (3, [.ref (eB E + (i + 1)), .ref (eB E + (i + 3)), .ref (eB E + (i + 4)), .int (μ.1 i 3), .ref (eB E + (i + 5)), .ref (eB E + (i + 7)), .ref (eB E + (i + 8)), .ref (eB E + (i + 10)), .ref (eB E + (i + 11)), .ref (eB E + (i + 12)), .ref (eB E + (i + 14)), .ref (eB E + (i + 16)), .ref (eB E + (i + 18)), .ref (eB E + (i + 20)), .int (μ.1 i 14), .int (μ.1 i 15), .int (μ.1 i 16), .int (μ.1 i 17), .int (μ.1 i 18)].set 16 (.int x)) := by
    rw [cn_1 hk, uI_eq]
    first | rfl | simp [List.set]
  have hw := wl_set hH.2 hi h9 hq0 he cnI_ne rfl
  rw [hw] at hP hD
  exact ⟨hP, hD⟩
theorem gq_put1_17 (C : Cq E p s m args meth c cc nL own) {i : Nat} (hi : i < eN E) (hk : kd i = 1) {index : Nat} {x : Int32} (w : Cond.fieldLink own index (TX1 17).1 (TX1 17).2.1 (TX1 17).2.2.1 ∈ GW) (hm : μ' = uI μ i 17 x) (d : decode cc pc = .ok (.putfield index, 3)) (kk : Gq E p l e R s m args below meth c k n nL Q (pc + 3) lv rest μ') : Gq E p l e R s m args below meth c k n nL Q pc lv (.int x :: .ref (eB E + i) :: rest) μ := by
  intro H locs ls hH hS hl
  have h9 : i ≠ 296 := by rintro rfl; exact absurd hk (by decide)
  obtain ⟨q, hq0⟩ := wl_get E μ hi h9
  have hq := hq0
  rw [cn_1 hk] at hq
  refine va_put (ci := 3) (C := RX1) (T := TX1) (N := 19) (ty := .int) C.1 C.2.1 C.2.2.2.2.1 inG_X1 tyX1 tyX1_ok nmX1 C.2.2.2.1 C.2.2.2.2.2.2.1 hH.1 hH.2 hS q hq rfl 17 (by decide) (C.2.2.2.2.1 _ w) (fun _ h => h) rfl (by decide +kernel) rfl rfl (Nat.le_of_ble_eq_true rfl) d (fun H1 locs1 hP hD hS1 => kk H1 locs1 ls ?_ hS1 hl)
  subst hm
  have he : cn E (uI μ i 17 x) i = .inr (3, [.ref (eB E + (i + 1)), .ref (eB E + (i + 3)), .ref (eB E + (i + 4)), .int (μ.1 i 3), .ref (eB E + (i + 5)), .ref (eB E + (i + 7)), .ref (eB E + (i + 8)), .ref (eB E + (i + 10)), .ref (eB E + (i + 11)), .ref (eB E + (i + 12)), .ref (eB E + (i + 14)), .ref (eB E + (i + 16)), .ref (eB E + (i + 18)), .ref (eB E + (i + 20)), .int (μ.1 i 14), .int (μ.1 i 15), .int (μ.1 i 16), .int (μ.1 i 17), .int (μ.1 i 18)].set 17 (.int x)) := by
    rw [cn_1 hk, uI_eq]
    first | rfl | simp [List.set]
  have hw := wl_set hH.2 hi h9 hq0 he cnI_ne rfl
  rw [hw] at hP hD
  exact ⟨hP, hD⟩
theorem gq_put1_18 (C : Cq E p s m args meth c cc nL own) {i : Nat} (hi : i < eN E) (hk : kd i = 1) {index : Nat} {x : Int32} (w : Cond.fieldLink own index (TX1 18).1 (TX1 18).2.1 (TX1 18).2.2.1 ∈ GW) (hm : μ' = uI μ i 18 x) (d : decode cc pc = .ok (.putfield index, 3)) (kk : Gq E p l e R s m args below meth c k n nL Q (pc + 3) lv rest μ') : Gq E p l e R s m args below meth c k n nL Q pc lv (.int x :: .ref (eB E + i) :: rest) μ := by
  intro H locs ls hH hS hl
  have h9 : i ≠ 296 := by rintro rfl; exact absurd hk (by decide)
  obtain ⟨q, hq0⟩ := wl_get E μ hi h9
  have hq := hq0
  rw [cn_1 hk] at hq
  refine va_put (ci := 3) (C := RX1) (T := TX1) (N := 19) (ty := .int) C.1 C.2.1 C.2.2.2.2.1 inG_X1 tyX1 tyX1_ok nmX1 C.2.2.2.1 C.2.2.2.2.2.2.1 hH.1 hH.2 hS q hq rfl 18 (by decide) (C.2.2.2.2.1 _ w) (fun _ h => h) rfl (by decide +kernel) rfl rfl (Nat.le_of_ble_eq_true rfl) d (fun H1 locs1 hP hD hS1 => kk H1 locs1 ls ?_ hS1 hl)
  subst hm
  have he : cn E (uI μ i 18 x) i = .inr (3, [.ref (eB E + (i + 1)), .ref (eB E + (i + 3)), .ref (eB E + (i + 4)), .int (μ.1 i 3), .ref (eB E + (i + 5)), .ref (eB E + (i + 7)), .ref (eB E + (i + 8)), .ref (eB E + (i + 10)), .ref (eB E + (i + 11)), .ref (eB E + (i + 12)), .ref (eB E + (i + 14)), .ref (eB E + (i + 16)), .ref (eB E + (i + 18)), .ref (eB E + (i + 20)), .int (μ.1 i 14), .int (μ.1 i 15), .int (μ.1 i 16), .int (μ.1 i 17), .int (μ.1 i 18)].set 18 (.int x)) := by
    rw [cn_1 hk, uI_eq]
    first | rfl | simp [List.set]
  have hw := wl_set hH.2 hi h9 hq0 he cnI_ne rfl
  rw [hw] at hP hD
  exact ⟨hP, hD⟩
theorem gq_get1N (C : Cq E p s m args meth c cc nL own) {i : Nat} (hi : i < eN E) (hk : kd i = 1) (f : Nat) {index : Nat} {host : String} {v : Value} (hf : f < 19) (w : Cond.fieldLinkNest own index (TX1 f).1 (TX1 f).2.1 (TX1 f).2.2.1 host ∈ NW) (hv : [.ref (eB E + (i + 1)), .ref (eB E + (i + 3)), .ref (eB E + (i + 4)), .int (μ.1 i 3), .ref (eB E + (i + 5)), .ref (eB E + (i + 7)), .ref (eB E + (i + 8)), .ref (eB E + (i + 10)), .ref (eB E + (i + 11)), .ref (eB E + (i + 12)), .ref (eB E + (i + 14)), .ref (eB E + (i + 16)), .ref (eB E + (i + 18)), .ref (eB E + (i + 20)), .int (μ.1 i 14), .int (μ.1 i 15), .int (μ.1 i 16), .int (μ.1 i 17), .int (μ.1 i 18)][f]? = some v) (d : decode cc pc = .ok (.getfield index, 3)) (kk : Gq E p l e R s m args below meth c k n nL Q (pc + 3) lv (v :: rest) μ) : Gq E p l e R s m args below meth c k n nL Q pc lv (.ref (eB E + i) :: rest) μ := by
  intro H locs ls hH hS hl
  obtain ⟨q, hq⟩ := wl_get E μ hi (by rintro rfl; exact absurd hk (by decide))
  rw [cn_1 hk] at hq
  exact va_getN (ci := 3) (C := RX1) (T := TX1) (N := 19) C.1 C.2.1 C.2.2.2.2.1 inG_X1 C.2.2.2.1 C.2.2.2.2.2.2.1 hH.1 q hq rfl f hf (va_Nw.use rfl (C.2.2.2.2.2.2.2.2.2.2.2.2.2.2.2.2.2.1 _ w)) (fun _ h => h) hv d (kk H locs ls hH hS hl)
theorem gq_put1_3N (C : Cq E p s m args meth c cc nL own) {i : Nat} (hi : i < eN E) (hk : kd i = 1) {index : Nat} {host : String} {x : Int32} (w : Cond.fieldLinkNest own index (TX1 3).1 (TX1 3).2.1 (TX1 3).2.2.1 host ∈ NW) (hm : μ' = uI μ i 3 x) (d : decode cc pc = .ok (.putfield index, 3)) (kk : Gq E p l e R s m args below meth c k n nL Q (pc + 3) lv rest μ') : Gq E p l e R s m args below meth c k n nL Q pc lv (.int x :: .ref (eB E + i) :: rest) μ := by
  intro H locs ls hH hS hl
  have h9 : i ≠ 296 := by rintro rfl; exact absurd hk (by decide)
  obtain ⟨q, hq0⟩ := wl_get E μ hi h9
  have hq := hq0
  rw [cn_1 hk] at hq
  refine va_putN (ci := 3) (C := RX1) (T := TX1) (N := 19) (ty := .int) C.1 C.2.1 C.2.2.2.2.1 inG_X1 tyX1 tyX1_ok nmX1 C.2.2.2.1 C.2.2.2.2.2.2.1 hH.1 hH.2 hS q hq rfl 3 (by decide) (va_Nw.use rfl (C.2.2.2.2.2.2.2.2.2.2.2.2.2.2.2.2.2.1 _ w)) (fun _ h => h) rfl (by decide +kernel) rfl rfl (Nat.le_of_ble_eq_true rfl) d (fun H1 locs1 hP hD hS1 => kk H1 locs1 ls ?_ hS1 hl)
  subst hm
  have he : cn E (uI μ i 3 x) i = .inr (3, [.ref (eB E + (i + 1)), .ref (eB E + (i + 3)), .ref (eB E + (i + 4)), .int (μ.1 i 3), .ref (eB E + (i + 5)), .ref (eB E + (i + 7)), .ref (eB E + (i + 8)), .ref (eB E + (i + 10)), .ref (eB E + (i + 11)), .ref (eB E + (i + 12)), .ref (eB E + (i + 14)), .ref (eB E + (i + 16)), .ref (eB E + (i + 18)), .ref (eB E + (i + 20)), .int (μ.1 i 14), .int (μ.1 i 15), .int (μ.1 i 16), .int (μ.1 i 17), .int (μ.1 i 18)].set 3 (.int x)) := by
    rw [cn_1 hk, uI_eq]
    first | rfl | simp [List.set]
  have hw := wl_set hH.2 hi h9 hq0 he cnI_ne rfl
  rw [hw] at hP hD
  exact ⟨hP, hD⟩
theorem gq_put1_14N (C : Cq E p s m args meth c cc nL own) {i : Nat} (hi : i < eN E) (hk : kd i = 1) {index : Nat} {host : String} {x : Int32} (w : Cond.fieldLinkNest own index (TX1 14).1 (TX1 14).2.1 (TX1 14).2.2.1 host ∈ NW) (hm : μ' = uI μ i 14 x) (d : decode cc pc = .ok (.putfield index, 3)) (kk : Gq E p l e R s m args below meth c k n nL Q (pc + 3) lv rest μ') : Gq E p l e R s m args below meth c k n nL Q pc lv (.int x :: .ref (eB E + i) :: rest) μ := by
  intro H locs ls hH hS hl
  have h9 : i ≠ 296 := by rintro rfl; exact absurd hk (by decide)
  obtain ⟨q, hq0⟩ := wl_get E μ hi h9
  have hq := hq0
  rw [cn_1 hk] at hq
  refine va_putN (ci := 3) (C := RX1) (T := TX1) (N := 19) (ty := .int) C.1 C.2.1 C.2.2.2.2.1 inG_X1 tyX1 tyX1_ok nmX1 C.2.2.2.1 C.2.2.2.2.2.2.1 hH.1 hH.2 hS q hq rfl 14 (by decide) (va_Nw.use rfl (C.2.2.2.2.2.2.2.2.2.2.2.2.2.2.2.2.2.1 _ w)) (fun _ h => h) rfl (by decide +kernel) rfl rfl (Nat.le_of_ble_eq_true rfl) d (fun H1 locs1 hP hD hS1 => kk H1 locs1 ls ?_ hS1 hl)
  subst hm
  have he : cn E (uI μ i 14 x) i = .inr (3, [.ref (eB E + (i + 1)), .ref (eB E + (i + 3)), .ref (eB E + (i + 4)), .int (μ.1 i 3), .ref (eB E + (i + 5)), .ref (eB E + (i + 7)), .ref (eB E + (i + 8)), .ref (eB E + (i + 10)), .ref (eB E + (i + 11)), .ref (eB E + (i + 12)), .ref (eB E + (i + 14)), .ref (eB E + (i + 16)), .ref (eB E + (i + 18)), .ref (eB E + (i + 20)), .int (μ.1 i 14), .int (μ.1 i 15), .int (μ.1 i 16), .int (μ.1 i 17), .int (μ.1 i 18)].set 14 (.int x)) := by
    rw [cn_1 hk, uI_eq]
    first | rfl | simp [List.set]
  have hw := wl_set hH.2 hi h9 hq0 he cnI_ne rfl
  rw [hw] at hP hD
  exact ⟨hP, hD⟩
theorem gq_put1_15N (C : Cq E p s m args meth c cc nL own) {i : Nat} (hi : i < eN E) (hk : kd i = 1) {index : Nat} {host : String} {x : Int32} (w : Cond.fieldLinkNest own index (TX1 15).1 (TX1 15).2.1 (TX1 15).2.2.1 host ∈ NW) (hm : μ' = uI μ i 15 x) (d : decode cc pc = .ok (.putfield index, 3)) (kk : Gq E p l e R s m args below meth c k n nL Q (pc + 3) lv rest μ') : Gq E p l e R s m args below meth c k n nL Q pc lv (.int x :: .ref (eB E + i) :: rest) μ := by
  intro H locs ls hH hS hl
  have h9 : i ≠ 296 := by rintro rfl; exact absurd hk (by decide)
  obtain ⟨q, hq0⟩ := wl_get E μ hi h9
  have hq := hq0
  rw [cn_1 hk] at hq
  refine va_putN (ci := 3) (C := RX1) (T := TX1) (N := 19) (ty := .int) C.1 C.2.1 C.2.2.2.2.1 inG_X1 tyX1 tyX1_ok nmX1 C.2.2.2.1 C.2.2.2.2.2.2.1 hH.1 hH.2 hS q hq rfl 15 (by decide) (va_Nw.use rfl (C.2.2.2.2.2.2.2.2.2.2.2.2.2.2.2.2.2.1 _ w)) (fun _ h => h) rfl (by decide +kernel) rfl rfl (Nat.le_of_ble_eq_true rfl) d (fun H1 locs1 hP hD hS1 => kk H1 locs1 ls ?_ hS1 hl)
  subst hm
  have he : cn E (uI μ i 15 x) i = .inr (3, [.ref (eB E + (i + 1)), .ref (eB E + (i + 3)), .ref (eB E + (i + 4)), .int (μ.1 i 3), .ref (eB E + (i + 5)), .ref (eB E + (i + 7)), .ref (eB E + (i + 8)), .ref (eB E + (i + 10)), .ref (eB E + (i + 11)), .ref (eB E + (i + 12)), .ref (eB E + (i + 14)), .ref (eB E + (i + 16)), .ref (eB E + (i + 18)), .ref (eB E + (i + 20)), .int (μ.1 i 14), .int (μ.1 i 15), .int (μ.1 i 16), .int (μ.1 i 17), .int (μ.1 i 18)].set 15 (.int x)) := by
    rw [cn_1 hk, uI_eq]
    first | rfl | simp [List.set]
  have hw := wl_set hH.2 hi h9 hq0 he cnI_ne rfl
  rw [hw] at hP hD
  exact ⟨hP, hD⟩
theorem gq_put1_16N (C : Cq E p s m args meth c cc nL own) {i : Nat} (hi : i < eN E) (hk : kd i = 1) {index : Nat} {host : String} {x : Int32} (w : Cond.fieldLinkNest own index (TX1 16).1 (TX1 16).2.1 (TX1 16).2.2.1 host ∈ NW) (hm : μ' = uI μ i 16 x) (d : decode cc pc = .ok (.putfield index, 3)) (kk : Gq E p l e R s m args below meth c k n nL Q (pc + 3) lv rest μ') : Gq E p l e R s m args below meth c k n nL Q pc lv (.int x :: .ref (eB E + i) :: rest) μ := by
  intro H locs ls hH hS hl
  have h9 : i ≠ 296 := by rintro rfl; exact absurd hk (by decide)
  obtain ⟨q, hq0⟩ := wl_get E μ hi h9
  have hq := hq0
  rw [cn_1 hk] at hq
  refine va_putN (ci := 3) (C := RX1) (T := TX1) (N := 19) (ty := .int) C.1 C.2.1 C.2.2.2.2.1 inG_X1 tyX1 tyX1_ok nmX1 C.2.2.2.1 C.2.2.2.2.2.2.1 hH.1 hH.2 hS q hq rfl 16 (by decide) (va_Nw.use rfl (C.2.2.2.2.2.2.2.2.2.2.2.2.2.2.2.2.2.1 _ w)) (fun _ h => h) rfl (by decide +kernel) rfl rfl (Nat.le_of_ble_eq_true rfl) d (fun H1 locs1 hP hD hS1 => kk H1 locs1 ls ?_ hS1 hl)
  subst hm
  have he : cn E (uI μ i 16 x) i = .inr (3, [.ref (eB E + (i + 1)), .ref (eB E + (i + 3)), .ref (eB E + (i + 4)), .int (μ.1 i 3), .ref (eB E + (i + 5)), .ref (eB E + (i + 7)), .ref (eB E + (i + 8)), .ref (eB E + (i + 10)), .ref (eB E + (i + 11)), .ref (eB E + (i + 12)), .ref (eB E + (i + 14)), .ref (eB E + (i + 16)), .ref (eB E + (i + 18)), .ref (eB E + (i + 20)), .int (μ.1 i 14), .int (μ.1 i 15), .int (μ.1 i 16), .int (μ.1 i 17), .int (μ.1 i 18)].set 16 (.int x)) := by
    rw [cn_1 hk, uI_eq]
    first | rfl | simp [List.set]
  have hw := wl_set hH.2 hi h9 hq0 he cnI_ne rfl
  rw [hw] at hP hD
  exact ⟨hP, hD⟩
theorem gq_put1_17N (C : Cq E p s m args meth c cc nL own) {i : Nat} (hi : i < eN E) (hk : kd i = 1) {index : Nat} {host : String} {x : Int32} (w : Cond.fieldLinkNest own index (TX1 17).1 (TX1 17).2.1 (TX1 17).2.2.1 host ∈ NW) (hm : μ' = uI μ i 17 x) (d : decode cc pc = .ok (.putfield index, 3)) (kk : Gq E p l e R s m args below meth c k n nL Q (pc + 3) lv rest μ') : Gq E p l e R s m args below meth c k n nL Q pc lv (.int x :: .ref (eB E + i) :: rest) μ := by
  intro H locs ls hH hS hl
  have h9 : i ≠ 296 := by rintro rfl; exact absurd hk (by decide)
  obtain ⟨q, hq0⟩ := wl_get E μ hi h9
  have hq := hq0
  rw [cn_1 hk] at hq
  refine va_putN (ci := 3) (C := RX1) (T := TX1) (N := 19) (ty := .int) C.1 C.2.1 C.2.2.2.2.1 inG_X1 tyX1 tyX1_ok nmX1 C.2.2.2.1 C.2.2.2.2.2.2.1 hH.1 hH.2 hS q hq rfl 17 (by decide) (va_Nw.use rfl (C.2.2.2.2.2.2.2.2.2.2.2.2.2.2.2.2.2.1 _ w)) (fun _ h => h) rfl (by decide +kernel) rfl rfl (Nat.le_of_ble_eq_true rfl) d (fun H1 locs1 hP hD hS1 => kk H1 locs1 ls ?_ hS1 hl)
  subst hm
  have he : cn E (uI μ i 17 x) i = .inr (3, [.ref (eB E + (i + 1)), .ref (eB E + (i + 3)), .ref (eB E + (i + 4)), .int (μ.1 i 3), .ref (eB E + (i + 5)), .ref (eB E + (i + 7)), .ref (eB E + (i + 8)), .ref (eB E + (i + 10)), .ref (eB E + (i + 11)), .ref (eB E + (i + 12)), .ref (eB E + (i + 14)), .ref (eB E + (i + 16)), .ref (eB E + (i + 18)), .ref (eB E + (i + 20)), .int (μ.1 i 14), .int (μ.1 i 15), .int (μ.1 i 16), .int (μ.1 i 17), .int (μ.1 i 18)].set 17 (.int x)) := by
    rw [cn_1 hk, uI_eq]
    first | rfl | simp [List.set]
  have hw := wl_set hH.2 hi h9 hq0 he cnI_ne rfl
  rw [hw] at hP hD
  exact ⟨hP, hD⟩
theorem gq_put1_18N (C : Cq E p s m args meth c cc nL own) {i : Nat} (hi : i < eN E) (hk : kd i = 1) {index : Nat} {host : String} {x : Int32} (w : Cond.fieldLinkNest own index (TX1 18).1 (TX1 18).2.1 (TX1 18).2.2.1 host ∈ NW) (hm : μ' = uI μ i 18 x) (d : decode cc pc = .ok (.putfield index, 3)) (kk : Gq E p l e R s m args below meth c k n nL Q (pc + 3) lv rest μ') : Gq E p l e R s m args below meth c k n nL Q pc lv (.int x :: .ref (eB E + i) :: rest) μ := by
  intro H locs ls hH hS hl
  have h9 : i ≠ 296 := by rintro rfl; exact absurd hk (by decide)
  obtain ⟨q, hq0⟩ := wl_get E μ hi h9
  have hq := hq0
  rw [cn_1 hk] at hq
  refine va_putN (ci := 3) (C := RX1) (T := TX1) (N := 19) (ty := .int) C.1 C.2.1 C.2.2.2.2.1 inG_X1 tyX1 tyX1_ok nmX1 C.2.2.2.1 C.2.2.2.2.2.2.1 hH.1 hH.2 hS q hq rfl 18 (by decide) (va_Nw.use rfl (C.2.2.2.2.2.2.2.2.2.2.2.2.2.2.2.2.2.1 _ w)) (fun _ h => h) rfl (by decide +kernel) rfl rfl (Nat.le_of_ble_eq_true rfl) d (fun H1 locs1 hP hD hS1 => kk H1 locs1 ls ?_ hS1 hl)
  subst hm
  have he : cn E (uI μ i 18 x) i = .inr (3, [.ref (eB E + (i + 1)), .ref (eB E + (i + 3)), .ref (eB E + (i + 4)), .int (μ.1 i 3), .ref (eB E + (i + 5)), .ref (eB E + (i + 7)), .ref (eB E + (i + 8)), .ref (eB E + (i + 10)), .ref (eB E + (i + 11)), .ref (eB E + (i + 12)), .ref (eB E + (i + 14)), .ref (eB E + (i + 16)), .ref (eB E + (i + 18)), .ref (eB E + (i + 20)), .int (μ.1 i 14), .int (μ.1 i 15), .int (μ.1 i 16), .int (μ.1 i 17), .int (μ.1 i 18)].set 18 (.int x)) := by
    rw [cn_1 hk, uI_eq]
    first | rfl | simp [List.set]
  have hw := wl_set hH.2 hi h9 hq0 he cnI_ne rfl
  rw [hw] at hP hD
  exact ⟨hP, hD⟩
theorem gq_get2 (C : Cq E p s m args meth c cc nL own) {i : Nat} (hi : i < eN E) (hk : kd i = 2) (f : Nat) {index : Nat} {v : Value} (hf : f < 3) (w : Cond.fieldLink own index (TX2 f).1 (TX2 f).2.1 (TX2 f).2.2.1 ∈ GW) (hv : [.int (μ.1 i 0), .ref (eB E + (i + 1)), .int (μ.1 i 2)][f]? = some v) (d : decode cc pc = .ok (.getfield index, 3)) (kk : Gq E p l e R s m args below meth c k n nL Q (pc + 3) lv (v :: rest) μ) : Gq E p l e R s m args below meth c k n nL Q pc lv (.ref (eB E + i) :: rest) μ := by
  intro H locs ls hH hS hl
  obtain ⟨q, hq⟩ := wl_get E μ hi (by rintro rfl; exact absurd hk (by decide))
  rw [cn_2 hk] at hq
  exact va_get (ci := 4) (C := RX2) (T := TX2) (N := 3) C.1 C.2.1 C.2.2.2.2.1 inG_X2 C.2.2.2.1 C.2.2.2.2.2.2.1 hH.1 q hq rfl f hf (C.2.2.2.2.1 _ w) (fun _ h => h) hv d (kk H locs ls hH hS hl)
theorem gq_put2_2 (C : Cq E p s m args meth c cc nL own) {i : Nat} (hi : i < eN E) (hk : kd i = 2) {index : Nat} {x : Int32} (w : Cond.fieldLink own index (TX2 2).1 (TX2 2).2.1 (TX2 2).2.2.1 ∈ GW) (hm : μ' = uI μ i 2 x) (d : decode cc pc = .ok (.putfield index, 3)) (kk : Gq E p l e R s m args below meth c k n nL Q (pc + 3) lv rest μ') : Gq E p l e R s m args below meth c k n nL Q pc lv (.int x :: .ref (eB E + i) :: rest) μ := by
  intro H locs ls hH hS hl
  have h9 : i ≠ 296 := by rintro rfl; exact absurd hk (by decide)
  obtain ⟨q, hq0⟩ := wl_get E μ hi h9
  have hq := hq0
  rw [cn_2 hk] at hq
  refine va_put (ci := 4) (C := RX2) (T := TX2) (N := 3) (ty := .int) C.1 C.2.1 C.2.2.2.2.1 inG_X2 tyX2 tyX2_ok nmX2 C.2.2.2.1 C.2.2.2.2.2.2.1 hH.1 hH.2 hS q hq rfl 2 (by decide) (C.2.2.2.2.1 _ w) (fun _ h => h) rfl (by decide +kernel) rfl rfl (Nat.le_of_ble_eq_true rfl) d (fun H1 locs1 hP hD hS1 => kk H1 locs1 ls ?_ hS1 hl)
  subst hm
  have he : cn E (uI μ i 2 x) i = .inr (4, [.int (μ.1 i 0), .ref (eB E + (i + 1)), .int (μ.1 i 2)].set 2 (.int x)) := by
    rw [cn_2 hk, uI_eq]
    first | rfl | simp [List.set]
  have hw := wl_set hH.2 hi h9 hq0 he cnI_ne rfl
  rw [hw] at hP hD
  exact ⟨hP, hD⟩
theorem gq_get2N (C : Cq E p s m args meth c cc nL own) {i : Nat} (hi : i < eN E) (hk : kd i = 2) (f : Nat) {index : Nat} {host : String} {v : Value} (hf : f < 3) (w : Cond.fieldLinkNest own index (TX2 f).1 (TX2 f).2.1 (TX2 f).2.2.1 host ∈ NW) (hv : [.int (μ.1 i 0), .ref (eB E + (i + 1)), .int (μ.1 i 2)][f]? = some v) (d : decode cc pc = .ok (.getfield index, 3)) (kk : Gq E p l e R s m args below meth c k n nL Q (pc + 3) lv (v :: rest) μ) : Gq E p l e R s m args below meth c k n nL Q pc lv (.ref (eB E + i) :: rest) μ := by
  intro H locs ls hH hS hl
  obtain ⟨q, hq⟩ := wl_get E μ hi (by rintro rfl; exact absurd hk (by decide))
  rw [cn_2 hk] at hq
  exact va_getN (ci := 4) (C := RX2) (T := TX2) (N := 3) C.1 C.2.1 C.2.2.2.2.1 inG_X2 C.2.2.2.1 C.2.2.2.2.2.2.1 hH.1 q hq rfl f hf (va_Nw.use rfl (C.2.2.2.2.2.2.2.2.2.2.2.2.2.2.2.2.2.1 _ w)) (fun _ h => h) hv d (kk H locs ls hH hS hl)
theorem gq_put2_2N (C : Cq E p s m args meth c cc nL own) {i : Nat} (hi : i < eN E) (hk : kd i = 2) {index : Nat} {host : String} {x : Int32} (w : Cond.fieldLinkNest own index (TX2 2).1 (TX2 2).2.1 (TX2 2).2.2.1 host ∈ NW) (hm : μ' = uI μ i 2 x) (d : decode cc pc = .ok (.putfield index, 3)) (kk : Gq E p l e R s m args below meth c k n nL Q (pc + 3) lv rest μ') : Gq E p l e R s m args below meth c k n nL Q pc lv (.int x :: .ref (eB E + i) :: rest) μ := by
  intro H locs ls hH hS hl
  have h9 : i ≠ 296 := by rintro rfl; exact absurd hk (by decide)
  obtain ⟨q, hq0⟩ := wl_get E μ hi h9
  have hq := hq0
  rw [cn_2 hk] at hq
  refine va_putN (ci := 4) (C := RX2) (T := TX2) (N := 3) (ty := .int) C.1 C.2.1 C.2.2.2.2.1 inG_X2 tyX2 tyX2_ok nmX2 C.2.2.2.1 C.2.2.2.2.2.2.1 hH.1 hH.2 hS q hq rfl 2 (by decide) (va_Nw.use rfl (C.2.2.2.2.2.2.2.2.2.2.2.2.2.2.2.2.2.1 _ w)) (fun _ h => h) rfl (by decide +kernel) rfl rfl (Nat.le_of_ble_eq_true rfl) d (fun H1 locs1 hP hD hS1 => kk H1 locs1 ls ?_ hS1 hl)
  subst hm
  have he : cn E (uI μ i 2 x) i = .inr (4, [.int (μ.1 i 0), .ref (eB E + (i + 1)), .int (μ.1 i 2)].set 2 (.int x)) := by
    rw [cn_2 hk, uI_eq]
    first | rfl | simp [List.set]
  have hw := wl_set hH.2 hi h9 hq0 he cnI_ne rfl
  rw [hw] at hP hD
  exact ⟨hP, hD⟩
theorem gq_get3 (C : Cq E p s m args meth c cc nL own) {i : Nat} (hi : i < eN E) (hk : kd i = 3) (f : Nat) {index : Nat} {v : Value} (hf : f < 8) (w : Cond.fieldLink own index (TX0 f).1 (TX0 f).2.1 (TX0 f).2.2.1 ∈ GW) (hv : [.ref (eB E + 46), .ref (eB E + 47), .int (μ.1 i 2), .int (μ.1 i 3), .int (μ.1 i 4), .int (μ.1 i 5), .int (μ.1 i 6), .int (μ.1 i 7)][f]? = some v) (d : decode cc pc = .ok (.getfield index, 3)) (kk : Gq E p l e R s m args below meth c k n nL Q (pc + 3) lv (v :: rest) μ) : Gq E p l e R s m args below meth c k n nL Q pc lv (.ref (eB E + i) :: rest) μ := by
  intro H locs ls hH hS hl
  obtain ⟨q, hq⟩ := wl_get E μ hi (by rintro rfl; exact absurd hk (by decide))
  rw [cn_3 hk] at hq
  exact va_get (ci := 2) (C := RX0) (T := TX0) (N := 8) C.1 C.2.1 C.2.2.2.2.1 inG_X0 C.2.2.2.1 C.2.2.2.2.2.2.1 hH.1 q hq rfl f hf (C.2.2.2.2.1 _ w) (fun _ h => h) hv d (kk H locs ls hH hS hl)
theorem gq_put3_2 (C : Cq E p s m args meth c cc nL own) {i : Nat} (hi : i < eN E) (hk : kd i = 3) {index : Nat} {x : Int32} (w : Cond.fieldLink own index (TX0 2).1 (TX0 2).2.1 (TX0 2).2.2.1 ∈ GW) (hm : μ' = uI μ i 2 x) (d : decode cc pc = .ok (.putfield index, 3)) (kk : Gq E p l e R s m args below meth c k n nL Q (pc + 3) lv rest μ') : Gq E p l e R s m args below meth c k n nL Q pc lv (.int x :: .ref (eB E + i) :: rest) μ := by
  intro H locs ls hH hS hl
  have h9 : i ≠ 296 := by rintro rfl; exact absurd hk (by decide)
  obtain ⟨q, hq0⟩ := wl_get E μ hi h9
  have hq := hq0
  rw [cn_3 hk] at hq
  refine va_put (ci := 2) (C := RX0) (T := TX0) (N := 8) (ty := .int) C.1 C.2.1 C.2.2.2.2.1 inG_X0 tyX0 tyX0_ok nmX0 C.2.2.2.1 C.2.2.2.2.2.2.1 hH.1 hH.2 hS q hq rfl 2 (by decide) (C.2.2.2.2.1 _ w) (fun _ h => h) rfl (by decide +kernel) rfl rfl (Nat.le_of_ble_eq_true rfl) d (fun H1 locs1 hP hD hS1 => kk H1 locs1 ls ?_ hS1 hl)
  subst hm
  have he : cn E (uI μ i 2 x) i = .inr (2, [.ref (eB E + 46), .ref (eB E + 47), .int (μ.1 i 2), .int (μ.1 i 3), .int (μ.1 i 4), .int (μ.1 i 5), .int (μ.1 i 6), .int (μ.1 i 7)].set 2 (.int x)) := by
    rw [cn_3 hk, uI_eq]
    first | rfl | simp [List.set]
  have hw := wl_set hH.2 hi h9 hq0 he cnI_ne rfl
  rw [hw] at hP hD
  exact ⟨hP, hD⟩
theorem gq_put3_3 (C : Cq E p s m args meth c cc nL own) {i : Nat} (hi : i < eN E) (hk : kd i = 3) {index : Nat} {x : Int32} (w : Cond.fieldLink own index (TX0 3).1 (TX0 3).2.1 (TX0 3).2.2.1 ∈ GW) (hm : μ' = uI μ i 3 x) (d : decode cc pc = .ok (.putfield index, 3)) (kk : Gq E p l e R s m args below meth c k n nL Q (pc + 3) lv rest μ') : Gq E p l e R s m args below meth c k n nL Q pc lv (.int x :: .ref (eB E + i) :: rest) μ := by
  intro H locs ls hH hS hl
  have h9 : i ≠ 296 := by rintro rfl; exact absurd hk (by decide)
  obtain ⟨q, hq0⟩ := wl_get E μ hi h9
  have hq := hq0
  rw [cn_3 hk] at hq
  refine va_put (ci := 2) (C := RX0) (T := TX0) (N := 8) (ty := .int) C.1 C.2.1 C.2.2.2.2.1 inG_X0 tyX0 tyX0_ok nmX0 C.2.2.2.1 C.2.2.2.2.2.2.1 hH.1 hH.2 hS q hq rfl 3 (by decide) (C.2.2.2.2.1 _ w) (fun _ h => h) rfl (by decide +kernel) rfl rfl (Nat.le_of_ble_eq_true rfl) d (fun H1 locs1 hP hD hS1 => kk H1 locs1 ls ?_ hS1 hl)
  subst hm
  have he : cn E (uI μ i 3 x) i = .inr (2, [.ref (eB E + 46), .ref (eB E + 47), .int (μ.1 i 2), .int (μ.1 i 3), .int (μ.1 i 4), .int (μ.1 i 5), .int (μ.1 i 6), .int (μ.1 i 7)].set 3 (.int x)) := by
    rw [cn_3 hk, uI_eq]
    first | rfl | simp [List.set]
  have hw := wl_set hH.2 hi h9 hq0 he cnI_ne rfl
  rw [hw] at hP hD
  exact ⟨hP, hD⟩
theorem gq_put3_4 (C : Cq E p s m args meth c cc nL own) {i : Nat} (hi : i < eN E) (hk : kd i = 3) {index : Nat} {x : Int32} (w : Cond.fieldLink own index (TX0 4).1 (TX0 4).2.1 (TX0 4).2.2.1 ∈ GW) (hm : μ' = uI μ i 4 x) (d : decode cc pc = .ok (.putfield index, 3)) (kk : Gq E p l e R s m args below meth c k n nL Q (pc + 3) lv rest μ') : Gq E p l e R s m args below meth c k n nL Q pc lv (.int x :: .ref (eB E + i) :: rest) μ := by
  intro H locs ls hH hS hl
  have h9 : i ≠ 296 := by rintro rfl; exact absurd hk (by decide)
  obtain ⟨q, hq0⟩ := wl_get E μ hi h9
  have hq := hq0
  rw [cn_3 hk] at hq
  refine va_put (ci := 2) (C := RX0) (T := TX0) (N := 8) (ty := .int) C.1 C.2.1 C.2.2.2.2.1 inG_X0 tyX0 tyX0_ok nmX0 C.2.2.2.1 C.2.2.2.2.2.2.1 hH.1 hH.2 hS q hq rfl 4 (by decide) (C.2.2.2.2.1 _ w) (fun _ h => h) rfl (by decide +kernel) rfl rfl (Nat.le_of_ble_eq_true rfl) d (fun H1 locs1 hP hD hS1 => kk H1 locs1 ls ?_ hS1 hl)
  subst hm
  have he : cn E (uI μ i 4 x) i = .inr (2, [.ref (eB E + 46), .ref (eB E + 47), .int (μ.1 i 2), .int (μ.1 i 3), .int (μ.1 i 4), .int (μ.1 i 5), .int (μ.1 i 6), .int (μ.1 i 7)].set 4 (.int x)) := by
    rw [cn_3 hk, uI_eq]
    first | rfl | simp [List.set]
  have hw := wl_set hH.2 hi h9 hq0 he cnI_ne rfl
  rw [hw] at hP hD
  exact ⟨hP, hD⟩
theorem gq_put3_5 (C : Cq E p s m args meth c cc nL own) {i : Nat} (hi : i < eN E) (hk : kd i = 3) {index : Nat} {x : Int32} (w : Cond.fieldLink own index (TX0 5).1 (TX0 5).2.1 (TX0 5).2.2.1 ∈ GW) (hm : μ' = uI μ i 5 x) (d : decode cc pc = .ok (.putfield index, 3)) (kk : Gq E p l e R s m args below meth c k n nL Q (pc + 3) lv rest μ') : Gq E p l e R s m args below meth c k n nL Q pc lv (.int x :: .ref (eB E + i) :: rest) μ := by
  intro H locs ls hH hS hl
  have h9 : i ≠ 296 := by rintro rfl; exact absurd hk (by decide)
  obtain ⟨q, hq0⟩ := wl_get E μ hi h9
  have hq := hq0
  rw [cn_3 hk] at hq
  refine va_put (ci := 2) (C := RX0) (T := TX0) (N := 8) (ty := .int) C.1 C.2.1 C.2.2.2.2.1 inG_X0 tyX0 tyX0_ok nmX0 C.2.2.2.1 C.2.2.2.2.2.2.1 hH.1 hH.2 hS q hq rfl 5 (by decide) (C.2.2.2.2.1 _ w) (fun _ h => h) rfl (by decide +kernel) rfl rfl (Nat.le_of_ble_eq_true rfl) d (fun H1 locs1 hP hD hS1 => kk H1 locs1 ls ?_ hS1 hl)
  subst hm
  have he : cn E (uI μ i 5 x) i = .inr (2, [.ref (eB E + 46), .ref (eB E + 47), .int (μ.1 i 2), .int (μ.1 i 3), .int (μ.1 i 4), .int (μ.1 i 5), .int (μ.1 i 6), .int (μ.1 i 7)].set 5 (.int x)) := by
    rw [cn_3 hk, uI_eq]
    first | rfl | simp [List.set]
  have hw := wl_set hH.2 hi h9 hq0 he cnI_ne rfl
  rw [hw] at hP hD
  exact ⟨hP, hD⟩
theorem gq_put3_6 (C : Cq E p s m args meth c cc nL own) {i : Nat} (hi : i < eN E) (hk : kd i = 3) {index : Nat} {x : Int32} (w : Cond.fieldLink own index (TX0 6).1 (TX0 6).2.1 (TX0 6).2.2.1 ∈ GW) (hm : μ' = uI μ i 6 x) (d : decode cc pc = .ok (.putfield index, 3)) (kk : Gq E p l e R s m args below meth c k n nL Q (pc + 3) lv rest μ') : Gq E p l e R s m args below meth c k n nL Q pc lv (.int x :: .ref (eB E + i) :: rest) μ := by
  intro H locs ls hH hS hl
  have h9 : i ≠ 296 := by rintro rfl; exact absurd hk (by decide)
  obtain ⟨q, hq0⟩ := wl_get E μ hi h9
  have hq := hq0
  rw [cn_3 hk] at hq
  refine va_put (ci := 2) (C := RX0) (T := TX0) (N := 8) (ty := .int) C.1 C.2.1 C.2.2.2.2.1 inG_X0 tyX0 tyX0_ok nmX0 C.2.2.2.1 C.2.2.2.2.2.2.1 hH.1 hH.2 hS q hq rfl 6 (by decide) (C.2.2.2.2.1 _ w) (fun _ h => h) rfl (by decide +kernel) rfl rfl (Nat.le_of_ble_eq_true rfl) d (fun H1 locs1 hP hD hS1 => kk H1 locs1 ls ?_ hS1 hl)
  subst hm
  have he : cn E (uI μ i 6 x) i = .inr (2, [.ref (eB E + 46), .ref (eB E + 47), .int (μ.1 i 2), .int (μ.1 i 3), .int (μ.1 i 4), .int (μ.1 i 5), .int (μ.1 i 6), .int (μ.1 i 7)].set 6 (.int x)) := by
    rw [cn_3 hk, uI_eq]
    first | rfl | simp [List.set]
  have hw := wl_set hH.2 hi h9 hq0 he cnI_ne rfl
  rw [hw] at hP hD
  exact ⟨hP, hD⟩
theorem gq_put3_7 (C : Cq E p s m args meth c cc nL own) {i : Nat} (hi : i < eN E) (hk : kd i = 3) {index : Nat} {x : Int32} (w : Cond.fieldLink own index (TX0 7).1 (TX0 7).2.1 (TX0 7).2.2.1 ∈ GW) (hm : μ' = uI μ i 7 x) (d : decode cc pc = .ok (.putfield index, 3)) (kk : Gq E p l e R s m args below meth c k n nL Q (pc + 3) lv rest μ') : Gq E p l e R s m args below meth c k n nL Q pc lv (.int x :: .ref (eB E + i) :: rest) μ := by
  intro H locs ls hH hS hl
  have h9 : i ≠ 296 := by rintro rfl; exact absurd hk (by decide)
  obtain ⟨q, hq0⟩ := wl_get E μ hi h9
  have hq := hq0
  rw [cn_3 hk] at hq
  refine va_put (ci := 2) (C := RX0) (T := TX0) (N := 8) (ty := .int) C.1 C.2.1 C.2.2.2.2.1 inG_X0 tyX0 tyX0_ok nmX0 C.2.2.2.1 C.2.2.2.2.2.2.1 hH.1 hH.2 hS q hq rfl 7 (by decide) (C.2.2.2.2.1 _ w) (fun _ h => h) rfl (by decide +kernel) rfl rfl (Nat.le_of_ble_eq_true rfl) d (fun H1 locs1 hP hD hS1 => kk H1 locs1 ls ?_ hS1 hl)
  subst hm
  have he : cn E (uI μ i 7 x) i = .inr (2, [.ref (eB E + 46), .ref (eB E + 47), .int (μ.1 i 2), .int (μ.1 i 3), .int (μ.1 i 4), .int (μ.1 i 5), .int (μ.1 i 6), .int (μ.1 i 7)].set 7 (.int x)) := by
    rw [cn_3 hk, uI_eq]
    first | rfl | simp [List.set]
  have hw := wl_set hH.2 hi h9 hq0 he cnI_ne rfl
  rw [hw] at hP hD
  exact ⟨hP, hD⟩
theorem gq_get3N (C : Cq E p s m args meth c cc nL own) {i : Nat} (hi : i < eN E) (hk : kd i = 3) (f : Nat) {index : Nat} {host : String} {v : Value} (hf : f < 8) (w : Cond.fieldLinkNest own index (TX0 f).1 (TX0 f).2.1 (TX0 f).2.2.1 host ∈ NW) (hv : [.ref (eB E + 46), .ref (eB E + 47), .int (μ.1 i 2), .int (μ.1 i 3), .int (μ.1 i 4), .int (μ.1 i 5), .int (μ.1 i 6), .int (μ.1 i 7)][f]? = some v) (d : decode cc pc = .ok (.getfield index, 3)) (kk : Gq E p l e R s m args below meth c k n nL Q (pc + 3) lv (v :: rest) μ) : Gq E p l e R s m args below meth c k n nL Q pc lv (.ref (eB E + i) :: rest) μ := by
  intro H locs ls hH hS hl
  obtain ⟨q, hq⟩ := wl_get E μ hi (by rintro rfl; exact absurd hk (by decide))
  rw [cn_3 hk] at hq
  exact va_getN (ci := 2) (C := RX0) (T := TX0) (N := 8) C.1 C.2.1 C.2.2.2.2.1 inG_X0 C.2.2.2.1 C.2.2.2.2.2.2.1 hH.1 q hq rfl f hf (va_Nw.use rfl (C.2.2.2.2.2.2.2.2.2.2.2.2.2.2.2.2.2.1 _ w)) (fun _ h => h) hv d (kk H locs ls hH hS hl)
theorem gq_put3_2N (C : Cq E p s m args meth c cc nL own) {i : Nat} (hi : i < eN E) (hk : kd i = 3) {index : Nat} {host : String} {x : Int32} (w : Cond.fieldLinkNest own index (TX0 2).1 (TX0 2).2.1 (TX0 2).2.2.1 host ∈ NW) (hm : μ' = uI μ i 2 x) (d : decode cc pc = .ok (.putfield index, 3)) (kk : Gq E p l e R s m args below meth c k n nL Q (pc + 3) lv rest μ') : Gq E p l e R s m args below meth c k n nL Q pc lv (.int x :: .ref (eB E + i) :: rest) μ := by
  intro H locs ls hH hS hl
  have h9 : i ≠ 296 := by rintro rfl; exact absurd hk (by decide)
  obtain ⟨q, hq0⟩ := wl_get E μ hi h9
  have hq := hq0
  rw [cn_3 hk] at hq
  refine va_putN (ci := 2) (C := RX0) (T := TX0) (N := 8) (ty := .int) C.1 C.2.1 C.2.2.2.2.1 inG_X0 tyX0 tyX0_ok nmX0 C.2.2.2.1 C.2.2.2.2.2.2.1 hH.1 hH.2 hS q hq rfl 2 (by decide) (va_Nw.use rfl (C.2.2.2.2.2.2.2.2.2.2.2.2.2.2.2.2.2.1 _ w)) (fun _ h => h) rfl (by decide +kernel) rfl rfl (Nat.le_of_ble_eq_true rfl) d (fun H1 locs1 hP hD hS1 => kk H1 locs1 ls ?_ hS1 hl)
  subst hm
  have he : cn E (uI μ i 2 x) i = .inr (2, [.ref (eB E + 46), .ref (eB E + 47), .int (μ.1 i 2), .int (μ.1 i 3), .int (μ.1 i 4), .int (μ.1 i 5), .int (μ.1 i 6), .int (μ.1 i 7)].set 2 (.int x)) := by
    rw [cn_3 hk, uI_eq]
    first | rfl | simp [List.set]
  have hw := wl_set hH.2 hi h9 hq0 he cnI_ne rfl
  rw [hw] at hP hD
  exact ⟨hP, hD⟩
theorem gq_put3_3N (C : Cq E p s m args meth c cc nL own) {i : Nat} (hi : i < eN E) (hk : kd i = 3) {index : Nat} {host : String} {x : Int32} (w : Cond.fieldLinkNest own index (TX0 3).1 (TX0 3).2.1 (TX0 3).2.2.1 host ∈ NW) (hm : μ' = uI μ i 3 x) (d : decode cc pc = .ok (.putfield index, 3)) (kk : Gq E p l e R s m args below meth c k n nL Q (pc + 3) lv rest μ') : Gq E p l e R s m args below meth c k n nL Q pc lv (.int x :: .ref (eB E + i) :: rest) μ := by
  intro H locs ls hH hS hl
  have h9 : i ≠ 296 := by rintro rfl; exact absurd hk (by decide)
  obtain ⟨q, hq0⟩ := wl_get E μ hi h9
  have hq := hq0
  rw [cn_3 hk] at hq
  refine va_putN (ci := 2) (C := RX0) (T := TX0) (N := 8) (ty := .int) C.1 C.2.1 C.2.2.2.2.1 inG_X0 tyX0 tyX0_ok nmX0 C.2.2.2.1 C.2.2.2.2.2.2.1 hH.1 hH.2 hS q hq rfl 3 (by decide) (va_Nw.use rfl (C.2.2.2.2.2.2.2.2.2.2.2.2.2.2.2.2.2.1 _ w)) (fun _ h => h) rfl (by decide +kernel) rfl rfl (Nat.le_of_ble_eq_true rfl) d (fun H1 locs1 hP hD hS1 => kk H1 locs1 ls ?_ hS1 hl)
  subst hm
  have he : cn E (uI μ i 3 x) i = .inr (2, [.ref (eB E + 46), .ref (eB E + 47), .int (μ.1 i 2), .int (μ.1 i 3), .int (μ.1 i 4), .int (μ.1 i 5), .int (μ.1 i 6), .int (μ.1 i 7)].set 3 (.int x)) := by
    rw [cn_3 hk, uI_eq]
    first | rfl | simp [List.set]
  have hw := wl_set hH.2 hi h9 hq0 he cnI_ne rfl
  rw [hw] at hP hD
  exact ⟨hP, hD⟩
theorem gq_put3_4N (C : Cq E p s m args meth c cc nL own) {i : Nat} (hi : i < eN E) (hk : kd i = 3) {index : Nat} {host : String} {x : Int32} (w : Cond.fieldLinkNest own index (TX0 4).1 (TX0 4).2.1 (TX0 4).2.2.1 host ∈ NW) (hm : μ' = uI μ i 4 x) (d : decode cc pc = .ok (.putfield index, 3)) (kk : Gq E p l e R s m args below meth c k n nL Q (pc + 3) lv rest μ') : Gq E p l e R s m args below meth c k n nL Q pc lv (.int x :: .ref (eB E + i) :: rest) μ := by
  intro H locs ls hH hS hl
  have h9 : i ≠ 296 := by rintro rfl; exact absurd hk (by decide)
  obtain ⟨q, hq0⟩ := wl_get E μ hi h9
  have hq := hq0
  rw [cn_3 hk] at hq
  refine va_putN (ci := 2) (C := RX0) (T := TX0) (N := 8) (ty := .int) C.1 C.2.1 C.2.2.2.2.1 inG_X0 tyX0 tyX0_ok nmX0 C.2.2.2.1 C.2.2.2.2.2.2.1 hH.1 hH.2 hS q hq rfl 4 (by decide) (va_Nw.use rfl (C.2.2.2.2.2.2.2.2.2.2.2.2.2.2.2.2.2.1 _ w)) (fun _ h => h) rfl (by decide +kernel) rfl rfl (Nat.le_of_ble_eq_true rfl) d (fun H1 locs1 hP hD hS1 => kk H1 locs1 ls ?_ hS1 hl)
  subst hm
  have he : cn E (uI μ i 4 x) i = .inr (2, [.ref (eB E + 46), .ref (eB E + 47), .int (μ.1 i 2), .int (μ.1 i 3), .int (μ.1 i 4), .int (μ.1 i 5), .int (μ.1 i 6), .int (μ.1 i 7)].set 4 (.int x)) := by
    rw [cn_3 hk, uI_eq]
    first | rfl | simp [List.set]
  have hw := wl_set hH.2 hi h9 hq0 he cnI_ne rfl
  rw [hw] at hP hD
  exact ⟨hP, hD⟩
theorem gq_put3_5N (C : Cq E p s m args meth c cc nL own) {i : Nat} (hi : i < eN E) (hk : kd i = 3) {index : Nat} {host : String} {x : Int32} (w : Cond.fieldLinkNest own index (TX0 5).1 (TX0 5).2.1 (TX0 5).2.2.1 host ∈ NW) (hm : μ' = uI μ i 5 x) (d : decode cc pc = .ok (.putfield index, 3)) (kk : Gq E p l e R s m args below meth c k n nL Q (pc + 3) lv rest μ') : Gq E p l e R s m args below meth c k n nL Q pc lv (.int x :: .ref (eB E + i) :: rest) μ := by
  intro H locs ls hH hS hl
  have h9 : i ≠ 296 := by rintro rfl; exact absurd hk (by decide)
  obtain ⟨q, hq0⟩ := wl_get E μ hi h9
  have hq := hq0
  rw [cn_3 hk] at hq
  refine va_putN (ci := 2) (C := RX0) (T := TX0) (N := 8) (ty := .int) C.1 C.2.1 C.2.2.2.2.1 inG_X0 tyX0 tyX0_ok nmX0 C.2.2.2.1 C.2.2.2.2.2.2.1 hH.1 hH.2 hS q hq rfl 5 (by decide) (va_Nw.use rfl (C.2.2.2.2.2.2.2.2.2.2.2.2.2.2.2.2.2.1 _ w)) (fun _ h => h) rfl (by decide +kernel) rfl rfl (Nat.le_of_ble_eq_true rfl) d (fun H1 locs1 hP hD hS1 => kk H1 locs1 ls ?_ hS1 hl)
  subst hm
  have he : cn E (uI μ i 5 x) i = .inr (2, [.ref (eB E + 46), .ref (eB E + 47), .int (μ.1 i 2), .int (μ.1 i 3), .int (μ.1 i 4), .int (μ.1 i 5), .int (μ.1 i 6), .int (μ.1 i 7)].set 5 (.int x)) := by
    rw [cn_3 hk, uI_eq]
    first | rfl | simp [List.set]
  have hw := wl_set hH.2 hi h9 hq0 he cnI_ne rfl
  rw [hw] at hP hD
  exact ⟨hP, hD⟩
theorem gq_put3_6N (C : Cq E p s m args meth c cc nL own) {i : Nat} (hi : i < eN E) (hk : kd i = 3) {index : Nat} {host : String} {x : Int32} (w : Cond.fieldLinkNest own index (TX0 6).1 (TX0 6).2.1 (TX0 6).2.2.1 host ∈ NW) (hm : μ' = uI μ i 6 x) (d : decode cc pc = .ok (.putfield index, 3)) (kk : Gq E p l e R s m args below meth c k n nL Q (pc + 3) lv rest μ') : Gq E p l e R s m args below meth c k n nL Q pc lv (.int x :: .ref (eB E + i) :: rest) μ := by
  intro H locs ls hH hS hl
  have h9 : i ≠ 296 := by rintro rfl; exact absurd hk (by decide)
  obtain ⟨q, hq0⟩ := wl_get E μ hi h9
  have hq := hq0
  rw [cn_3 hk] at hq
  refine va_putN (ci := 2) (C := RX0) (T := TX0) (N := 8) (ty := .int) C.1 C.2.1 C.2.2.2.2.1 inG_X0 tyX0 tyX0_ok nmX0 C.2.2.2.1 C.2.2.2.2.2.2.1 hH.1 hH.2 hS q hq rfl 6 (by decide) (va_Nw.use rfl (C.2.2.2.2.2.2.2.2.2.2.2.2.2.2.2.2.2.1 _ w)) (fun _ h => h) rfl (by decide +kernel) rfl rfl (Nat.le_of_ble_eq_true rfl) d (fun H1 locs1 hP hD hS1 => kk H1 locs1 ls ?_ hS1 hl)
  subst hm
  have he : cn E (uI μ i 6 x) i = .inr (2, [.ref (eB E + 46), .ref (eB E + 47), .int (μ.1 i 2), .int (μ.1 i 3), .int (μ.1 i 4), .int (μ.1 i 5), .int (μ.1 i 6), .int (μ.1 i 7)].set 6 (.int x)) := by
    rw [cn_3 hk, uI_eq]
    first | rfl | simp [List.set]
  have hw := wl_set hH.2 hi h9 hq0 he cnI_ne rfl
  rw [hw] at hP hD
  exact ⟨hP, hD⟩
theorem gq_put3_7N (C : Cq E p s m args meth c cc nL own) {i : Nat} (hi : i < eN E) (hk : kd i = 3) {index : Nat} {host : String} {x : Int32} (w : Cond.fieldLinkNest own index (TX0 7).1 (TX0 7).2.1 (TX0 7).2.2.1 host ∈ NW) (hm : μ' = uI μ i 7 x) (d : decode cc pc = .ok (.putfield index, 3)) (kk : Gq E p l e R s m args below meth c k n nL Q (pc + 3) lv rest μ') : Gq E p l e R s m args below meth c k n nL Q pc lv (.int x :: .ref (eB E + i) :: rest) μ := by
  intro H locs ls hH hS hl
  have h9 : i ≠ 296 := by rintro rfl; exact absurd hk (by decide)
  obtain ⟨q, hq0⟩ := wl_get E μ hi h9
  have hq := hq0
  rw [cn_3 hk] at hq
  refine va_putN (ci := 2) (C := RX0) (T := TX0) (N := 8) (ty := .int) C.1 C.2.1 C.2.2.2.2.1 inG_X0 tyX0 tyX0_ok nmX0 C.2.2.2.1 C.2.2.2.2.2.2.1 hH.1 hH.2 hS q hq rfl 7 (by decide) (va_Nw.use rfl (C.2.2.2.2.2.2.2.2.2.2.2.2.2.2.2.2.2.1 _ w)) (fun _ h => h) rfl (by decide +kernel) rfl rfl (Nat.le_of_ble_eq_true rfl) d (fun H1 locs1 hP hD hS1 => kk H1 locs1 ls ?_ hS1 hl)
  subst hm
  have he : cn E (uI μ i 7 x) i = .inr (2, [.ref (eB E + 46), .ref (eB E + 47), .int (μ.1 i 2), .int (μ.1 i 3), .int (μ.1 i 4), .int (μ.1 i 5), .int (μ.1 i 6), .int (μ.1 i 7)].set 7 (.int x)) := by
    rw [cn_3 hk, uI_eq]
    first | rfl | simp [List.set]
  have hw := wl_set hH.2 hi h9 hq0 he cnI_ne rfl
  rw [hw] at hP hD
  exact ⟨hP, hD⟩
end QR
