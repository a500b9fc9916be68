/-! ===== Made: its loops (2) ===== -/
theorem wk_4_224 : Cond.fieldLink "WaterExchangeLaw$Made" (26 : Nat) "WaterExchangeLaw$Made" "accounts" "I" ∈ GW := gw_4 (List.mem_of_getElem? (i := 224) rfl) rfl
theorem wk_4_225 : Cond.fieldLink "WaterExchangeLaw$Made" (29 : Nat) "WaterExchangeLaw$Made" "rights" "I" ∈ GW := gw_4 (List.mem_of_getElem? (i := 225) rfl) rfl
theorem wk_4_226 : Cond.fieldLink "WaterExchangeLaw$Made" (32 : Nat) "WaterExchangeLaw$Made" "leases" "I" ∈ GW := gw_4 (List.mem_of_getElem? (i := 226) rfl) rfl
theorem wk_4_227 : Cond.fieldLink "WaterExchangeLaw$Made" (69 : Nat) "WaterExchangeLaw$Made" "options" "I" ∈ GW := gw_4 (List.mem_of_getElem? (i := 227) rfl) rfl
section MKM
variable {E : Ev} {p : Program} {l : Launch} {e : Env} {u : State} {m : MethodId} {args : Array Value} {below : List Frame} {meth : Method} {c : Code} {Q : State → Prop} {B m0 r0 : Nat} {μ0 : Mm} {R0 A0 N0 L0 : Nat}
set_option maxHeartbeats 4000000 in
set_option maxRecDepth 100000 in
theorem mk_right (C : Cq E p u m args meth c cX4_init 8 RX4) (hPx : Px args u) (hU : (eU E).1 = 0) (hB : eB E ≤ B) (hs : m0 < B ∧ r0 < B) {st K N : Nat} (hR0 : 1 ≤ R0 ∧ R0 ≤ 6) (hA0 : 1 ≤ A0 ∧ A0 ≤ 5) (hN0 : N0 ≤ 8) (hst : 1 ≤ st ∧ st ≤ 9) (hK : K ≤ 900) (hN : N ≤ 690000) (kk : ∀ (k n : Nat) (μ : Mm) (v : Int32) (T : List (List Tok)) (s : Nat → Int32), k ≤ K → n ≤ N → MB T s → CS s R0 A0 N0 0 0 → PRs s N0 st → (ren true (flat T)).length ≤ 174 + 50 * N0 → SBw E B μ (ren true (flat T)) → GR μ0 μ → Gz E p l e rm_made u m args below meth c k n 8 Q 412 [(4, .int (nI N0)), (3, .int (nI st)), (2, .ref (B + 295)), (1, .ref r0), (0, .ref m0)] [] (yM m0 r0 (fdM B R0 A0 N0 L0 0 0) v ++ wl (eS E B) μ)) : ∀ (d i k n : Nat) (μ : Mm) (v : Int32) (T : List (List Tok)) (s : Nat → Int32), i + d = N0 → k + 15 * d ≤ K → n + 30720 * d ≤ N → MB T s → CS s R0 A0 i 0 0 → PRs s i st → (ren true (flat T)).length ≤ 174 + 50 * i → SBw E B μ (ren true (flat T)) → GR μ0 μ → Gz E p l e rm_made u m args below meth c k n 8 Q 245 [(4, .int (nI i)), (3, .int (nI st)), (2, .ref (B + 295)), (1, .ref r0), (0, .ref m0)] [] (yM m0 r0 (fdM B R0 A0 N0 L0 0 0) v ++ wl (eS E B) μ) := by
  intro d
  induction d with
  | zero =>
    intro i k n μ v T s hi hk hn hM hC hP hl hT hG
    obtain rfl : i = N0 := by omega
    refine gz_iload C dX4_init_245 0 rfl ?_
    refine gz_aload_n C dX4_init_247 rfl 4 rfl ?_
    refine gz_get (ci := 6) (N := 7) (T := TX4) C inG_X4 0 rfl rfl 3 (by decide) wk_4_225 rfl dX4_init_248 ?_
    refine gz_icmp_ge_t (tgt := 412) C dX4_init_251 (by decide) (nI_le (Nat.le_refl _) (by omega)) ?_
    exact kk k n μ v T s (by omega) (by omega) hM hC hP hl hT hG
  | succ d ih =>
    intro i k n μ v T s hi hk hn hM hC hP hl hT hG
    have hi8 : i < N0 := by omega
    have hc0 := hC.c0
    have hc1 := hC.c1
    have hc2 := hC.c2
    generalize hl0 : ren true (flat T) = l0 at *
    refine gz_iload C dX4_init_245 0 rfl ?_
    refine gz_aload_n C dX4_init_247 rfl 4 rfl ?_
    refine gz_get (ci := 6) (N := 7) (T := TX4) C inG_X4 0 rfl rfl 3 (by decide) wk_4_225 rfl dX4_init_248 ?_
    refine gz_icmp_ge_f (tgt := 412) C dX4_init_251 (by decide) (nI_ge hi8 (by omega)) ?_
    refine gz_aload_n C dX4_init_254 rfl 3 rfl ?_
    refine gz_aload_n C dX4_init_255 rfl 4 rfl ?_
    refine gz_get (ci := 6) (N := 7) (T := TX4) C inG_X4 0 rfl rfl 1 (by decide) wk_4_222 rfl dX4_init_256 ?_
    refine gz_next (q := R0) (rest := []) C wk_3_89 (by omega) (by omega) ⟨(Nat.le_of_ble_eq_true rfl), (Nat.le_of_ble_eq_true rfl)⟩ (Nat.le_of_ble_eq_true rfl) ⟨by show _ ≤ 1000; omega, by show _ ≤ 700000; omega⟩ dX4_init_259 (fun rr v1 hrr => ?_)
    refine gz_istore (i := 5) C dX4_init_262 (by decide) rfl ?_
    refine gz_aload_n C dX4_init_264 rfl 3 rfl ?_
    refine gz_ldcS (index := 61) (j := 17) (tx := "right ") C (by decide +kernel) dX4_init_265 ?_
    refine gz_apS (Y := yM m0 r0 (fdM B R0 A0 N0 L0 0 0) v1) (index := 48) C hPx hU hB (fun q hq => by rcases List.mem_cons.mp hq with rfl | hq; exact hs.1; rcases List.mem_cons.mp hq with rfl | hq; exact hs.2; cases hq) hT (show 17 < 22 by decide) (by (try simp only [List.length_append]); have z17 : (lt 17).length = 6 := rfl; omega) wk_4_8 ⟨(Nat.le_of_ble_eq_true rfl), (Nat.le_of_ble_eq_true rfl)⟩ (Nat.le_of_ble_eq_true rfl) ⟨by show _ ≤ 1000; omega, by show _ ≤ 700000; omega⟩ dX4_init_267 (fun μ2 h2 g2 => ?_)
    have g2 := hG.tr g2
    refine gz_aload_n C dX4_init_270 rfl 4 rfl ?_
    refine gz_aload_n C dX4_init_271 rfl 5 rfl ?_
    refine gz_get (ci := 6) (N := 7) (T := TX4) C inG_X4 0 rfl rfl 2 (by decide) wk_4_224 rfl dX4_init_272 ?_
    refine gz_next (q := A0) (rest := [.ref (B + 295)]) C wk_3_89 (by omega) (by omega) ⟨(Nat.le_of_ble_eq_true rfl), (Nat.le_of_ble_eq_true rfl)⟩ (Nat.le_of_ble_eq_true rfl) ⟨by show _ ≤ 1000; omega, by show _ ≤ 700000; omega⟩ dX4_init_275 (fun ac v3 hac => ?_)
    refine gz_apI (Y := yM m0 r0 (fdM B R0 A0 N0 L0 0 0) v3) (index := 42) C hPx hU hB (fun q hq => by rcases List.mem_cons.mp hq with rfl | hq; exact hs.1; rcases List.mem_cons.mp hq with rfl | hq; exact hs.2; cases hq) h2 (by (try simp only [List.length_append]); have z17 : (lt 17).length = 6 := rfl; omega) (by omega) wk_3_222 ⟨(Nat.le_of_ble_eq_true rfl), (Nat.le_of_ble_eq_true rfl)⟩ (Nat.le_of_ble_eq_true rfl) ⟨by show _ ≤ 1000; omega, by show _ ≤ 700000; omega⟩ dX4_init_278 (fun μ4 h4 g4 => ?_)
    have g4 := g2.tr g4
    refine gz_ldcS (index := 53) (j := 13) (tx := " ") C (by decide +kernel) dX4_init_281 ?_
    refine gz_apS (Y := yM m0 r0 (fdM B R0 A0 N0 L0 0 0) v3) (index := 48) C hPx hU hB (fun q hq => by rcases List.mem_cons.mp hq with rfl | hq; exact hs.1; rcases List.mem_cons.mp hq with rfl | hq; exact hs.2; cases hq) h4 (show 13 < 22 by decide) (by (try simp only [List.length_append]); have d0 := (dG_len ac).2; have z13 : (lt 13).length = 1 := rfl; have z17 : (lt 17).length = 6 := rfl; omega) wk_4_8 ⟨(Nat.le_of_ble_eq_true rfl), (Nat.le_of_ble_eq_true rfl)⟩ (Nat.le_of_ble_eq_true rfl) ⟨by show _ ≤ 1000; omega, by show _ ≤ 700000; omega⟩ dX4_init_283 (fun μ5 h5 g5 => ?_)
    have g5 := g4.tr g5
    refine gz_iload C dX4_init_286 0 rfl ?_
    refine gz_apI (Y := yM m0 r0 (fdM B R0 A0 N0 L0 0 0) v3) (index := 42) C hPx hU hB (fun q hq => by rcases List.mem_cons.mp hq with rfl | hq; exact hs.1; rcases List.mem_cons.mp hq with rfl | hq; exact hs.2; cases hq) h5 (by (try simp only [List.length_append]); have d0 := (dG_len ac).2; have z13 : (lt 13).length = 1 := rfl; have z17 : (lt 17).length = 6 := rfl; omega) (by omega) wk_3_222 ⟨(Nat.le_of_ble_eq_true rfl), (Nat.le_of_ble_eq_true rfl)⟩ (Nat.le_of_ble_eq_true rfl) ⟨by show _ ≤ 1000; omega, by show _ ≤ 700000; omega⟩ dX4_init_288 (fun μ6 h6 g6 => ?_)
    have g6 := g5.tr g6
    refine gz_ldcS (index := 53) (j := 13) (tx := " ") C (by decide +kernel) dX4_init_291 ?_
    refine gz_apS (Y := yM m0 r0 (fdM B R0 A0 N0 L0 0 0) v3) (index := 48) C hPx hU hB (fun q hq => by rcases List.mem_cons.mp hq with rfl | hq; exact hs.1; rcases List.mem_cons.mp hq with rfl | hq; exact hs.2; cases hq) h6 (show 13 < 22 by decide) (by (try simp only [List.length_append]); have d0 := (dG_len ac).2; have d1 := (dG_len rr).2; have z13 : (lt 13).length = 1 := rfl; have z17 : (lt 17).length = 6 := rfl; omega) wk_4_8 ⟨(Nat.le_of_ble_eq_true rfl), (Nat.le_of_ble_eq_true rfl)⟩ (Nat.le_of_ble_eq_true rfl) ⟨by show _ ≤ 1000; omega, by show _ ≤ 700000; omega⟩ dX4_init_293 (fun μ7 h7 g7 => ?_)
    have g7 := g6.tr g7
    refine gz_iconst (v := 1) C dX4_init_296 (by decide) ?_
    refine gz_iload C dX4_init_297 1 rfl ?_
    refine gz_bipush (v := 11) C dX4_init_299 (by decide) ?_
    refine gz_imul C dX4_init_301 ?_
    refine gz_iload_n C dX4_init_302 rfl 2 rfl ?_
    refine gz_iadd C dX4_init_303 ?_
    refine gz_bipush (v := 97) C dX4_init_304 (by decide) ?_
    have e11 : nI i * 11 + nI st = nI (i * 11 + st) := by
      rw [show nI i * 11 = nI (i * 11) from pk_mul i 11, nI_add]
    rw [e11]
    refine gz_irem C dX4_init_306 (by decide) ?_
    rw [show nI (i * 11 + st) - nI (i * 11 + st) / 97 * 97 = nI ((i * 11 + st) % 97) from pk_rem (d := 97) (by omega) (by decide) (by decide)]
    refine gz_iadd C dX4_init_307 ?_
    rw [one_add]
    have hp9 : 1 + (i * 11 + st) % 97 ≤ 97 := by omega
    have hpP := hP.no (show i < 8 by omega) hst
    have ePr : PRs s i st := hP
    generalize hpr : 1 + (i * 11 + st) % 97 = pr at *
    refine gz_apI (Y := yM m0 r0 (fdM B R0 A0 N0 L0 0 0) v3) (index := 42) C hPx hU hB (fun q hq => by rcases List.mem_cons.mp hq with rfl | hq; exact hs.1; rcases List.mem_cons.mp hq with rfl | hq; exact hs.2; cases hq) h7 (by (try simp only [List.length_append]); have d0 := (dG_len ac).2; have d1 := (dG_len rr).2; have z13 : (lt 13).length = 1 := rfl; have z17 : (lt 17).length = 6 := rfl; omega) (by omega) wk_3_222 ⟨(Nat.le_of_ble_eq_true rfl), (Nat.le_of_ble_eq_true rfl)⟩ (Nat.le_of_ble_eq_true rfl) ⟨by show _ ≤ 1000; omega, by show _ ≤ 700000; omega⟩ dX4_init_308 (fun μ8 h8 g8 => ?_)
    have g8 := g7.tr g8
    refine gz_ldcS (index := 53) (j := 13) (tx := " ") C (by decide +kernel) dX4_init_311 ?_
    refine gz_apS (Y := yM m0 r0 (fdM B R0 A0 N0 L0 0 0) v3) (index := 48) C hPx hU hB (fun q hq => by rcases List.mem_cons.mp hq with rfl | hq; exact hs.1; rcases List.mem_cons.mp hq with rfl | hq; exact hs.2; cases hq) h8 (show 13 < 22 by decide) (by (try simp only [List.length_append]); have d0 := (dG_len ac).2; have d1 := (dG_len rr).2; have d2 := (dG_len pr).2; have z13 : (lt 13).length = 1 := rfl; have z17 : (lt 17).length = 6 := rfl; omega) wk_4_8 ⟨(Nat.le_of_ble_eq_true rfl), (Nat.le_of_ble_eq_true rfl)⟩ (Nat.le_of_ble_eq_true rfl) ⟨by show _ ≤ 1000; omega, by show _ ≤ 700000; omega⟩ dX4_init_313 (fun μ9 h9 g9 => ?_)
    have g9 := g8.tr g9
    refine gz_iconst (v := 1) C dX4_init_316 (by decide) ?_
    refine gz_aload_n C dX4_init_317 rfl 4 rfl ?_
    refine gz_sipush (v := 300) C dX4_init_318 (by decide) ?_
    refine gz_next (q := 300) (rest := [.int 1, .ref (B + 295)]) C wk_3_89 (by decide) (by decide) ⟨(Nat.le_of_ble_eq_true rfl), (Nat.le_of_ble_eq_true rfl)⟩ (Nat.le_of_ble_eq_true rfl) ⟨by show _ ≤ 1000; omega, by show _ ≤ 700000; omega⟩ dX4_init_321 (fun am v10 ham => ?_)
    refine gz_iadd C dX4_init_324 ?_
    rw [one_add]
    refine gz_apI (Y := yM m0 r0 (fdM B R0 A0 N0 L0 0 0) v10) (index := 42) C hPx hU hB (fun q hq => by rcases List.mem_cons.mp hq with rfl | hq; exact hs.1; rcases List.mem_cons.mp hq with rfl | hq; exact hs.2; cases hq) h9 (by (try simp only [List.length_append]); have d0 := (dG_len ac).2; have d1 := (dG_len rr).2; have d2 := (dG_len pr).2; have z13 : (lt 13).length = 1 := rfl; have z17 : (lt 17).length = 6 := rfl; omega) (by omega) wk_3_222 ⟨(Nat.le_of_ble_eq_true rfl), (Nat.le_of_ble_eq_true rfl)⟩ (Nat.le_of_ble_eq_true rfl) ⟨by show _ ≤ 1000; omega, by show _ ≤ 700000; omega⟩ dX4_init_325 (fun μ11 h11 g11 => ?_)
    have g11 := g9.tr g11
    refine gz_popr C dX4_init_328 ?_
    refine gz_aload_n C dX4_init_329 rfl 4 rfl ?_
    refine gz_iconst (v := 2) C dX4_init_330 (by decide) ?_
    refine gz_next (q := 2) (rest := []) C wk_3_89 (by decide) (by decide) ⟨(Nat.le_of_ble_eq_true rfl), (Nat.le_of_ble_eq_true rfl)⟩ (Nat.le_of_ble_eq_true rfl) ⟨by show _ ≤ 1000; omega, by show _ ≤ 700000; omega⟩ dX4_init_331 (fun b1 v12 hb1 => ?_)
    by_cases hb1 : b1 = 0
    · refine gz_if_ne_f (tgt := 375) C dX4_init_334 (by decide) (by rw [hb1]; rfl) ?_
      refine gz_aload_n C dX4_init_337 rfl 3 rfl ?_
      refine gz_ldcS (index := 63) (j := 18) (tx := " returns ") C (by decide +kernel) dX4_init_338 ?_
      refine gz_apS (Y := yM m0 r0 (fdM B R0 A0 N0 L0 0 0) v12) (index := 48) C hPx hU hB (fun q hq => by rcases List.mem_cons.mp hq with rfl | hq; exact hs.1; rcases List.mem_cons.mp hq with rfl | hq; exact hs.2; cases hq) h11 (show 18 < 22 by decide) (by (try simp only [List.length_append]); have d0 := (dG_len ac).2; have d1 := (dG_len rr).2; have d2 := (dG_len pr).2; have d3 := (dG_len (1 + am)).2; have z13 : (lt 13).length = 1 := rfl; have z17 : (lt 17).length = 6 := rfl; have z18 : (lt 18).length = 9 := rfl; omega) wk_4_8 ⟨(Nat.le_of_ble_eq_true rfl), (Nat.le_of_ble_eq_true rfl)⟩ (Nat.le_of_ble_eq_true rfl) ⟨by show _ ≤ 1000; omega, by show _ ≤ 700000; omega⟩ dX4_init_340 (fun μ13 h13 g13 => ?_)
      have g13 := g11.tr g13
      refine gz_aload_n C dX4_init_343 rfl 4 rfl ?_
      refine gz_bipush (v := 91) C dX4_init_344 (by decide) ?_
      refine gz_next (q := 91) (rest := [.ref (B + 295)]) C wk_3_89 (by decide) (by decide) ⟨(Nat.le_of_ble_eq_true rfl), (Nat.le_of_ble_eq_true rfl)⟩ (Nat.le_of_ble_eq_true rfl) ⟨by show _ ≤ 1000; omega, by show _ ≤ 700000; omega⟩ dX4_init_346 (fun x v14 hx => ?_)
      refine gz_apI (Y := yM m0 r0 (fdM B R0 A0 N0 L0 0 0) v14) (index := 42) C hPx hU hB (fun q hq => by rcases List.mem_cons.mp hq with rfl | hq; exact hs.1; rcases List.mem_cons.mp hq with rfl | hq; exact hs.2; cases hq) h13 (by (try simp only [List.length_append]); have d0 := (dG_len ac).2; have d1 := (dG_len rr).2; have d2 := (dG_len pr).2; have d3 := (dG_len (1 + am)).2; have z13 : (lt 13).length = 1 := rfl; have z17 : (lt 17).length = 6 := rfl; have z18 : (lt 18).length = 9 := rfl; omega) (by omega) wk_3_222 ⟨(Nat.le_of_ble_eq_true rfl), (Nat.le_of_ble_eq_true rfl)⟩ (Nat.le_of_ble_eq_true rfl) ⟨by show _ ≤ 1000; omega, by show _ ≤ 700000; omega⟩ dX4_init_349 (fun μ15 h15 g15 => ?_)
      have g15 := g13.tr g15
      refine gz_ldcS (index := 53) (j := 13) (tx := " ") C (by decide +kernel) dX4_init_352 ?_
      refine gz_apS (Y := yM m0 r0 (fdM B R0 A0 N0 L0 0 0) v14) (index := 48) C hPx hU hB (fun q hq => by rcases List.mem_cons.mp hq with rfl | hq; exact hs.1; rcases List.mem_cons.mp hq with rfl | hq; exact hs.2; cases hq) h15 (show 13 < 22 by decide) (by (try simp only [List.length_append]); have d0 := (dG_len ac).2; have d1 := (dG_len rr).2; have d2 := (dG_len pr).2; have d3 := (dG_len (1 + am)).2; have d4 := (dG_len x).2; have z13 : (lt 13).length = 1 := rfl; have z17 : (lt 17).length = 6 := rfl; have z18 : (lt 18).length = 9 := rfl; omega) wk_4_8 ⟨(Nat.le_of_ble_eq_true rfl), (Nat.le_of_ble_eq_true rfl)⟩ (Nat.le_of_ble_eq_true rfl) ⟨by show _ ≤ 1000; omega, by show _ ≤ 700000; omega⟩ dX4_init_354 (fun μ16 h16 g16 => ?_)
      have g16 := g15.tr g16
      refine gz_iload C dX4_init_357 0 rfl ?_
      refine gz_aload_n C dX4_init_359 rfl 4 rfl ?_
      refine gz_aload_n C dX4_init_360 rfl 5 rfl ?_
      refine gz_get (ci := 6) (N := 7) (T := TX4) C inG_X4 0 rfl rfl 1 (by decide) wk_4_222 rfl dX4_init_361 ?_
      refine gz_iload C dX4_init_364 0 rfl ?_
      refine gz_isub C dX4_init_366 ?_
      rw [show nI R0 - nI rr = nI (R0 - rr) from pk_sub (by omega)]
      refine gz_next (q := (R0 - rr)) (rest := [.int (nI rr), .ref (B + 295)]) C wk_3_89 (by omega) (by omega) ⟨(Nat.le_of_ble_eq_true rfl), (Nat.le_of_ble_eq_true rfl)⟩ (Nat.le_of_ble_eq_true rfl) ⟨by show _ ≤ 1000; omega, by show _ ≤ 700000; omega⟩ dX4_init_367 (fun y v17 hy => ?_)
      refine gz_iadd C dX4_init_370 ?_
      rw [nI_add]
      refine gz_apI (Y := yM m0 r0 (fdM B R0 A0 N0 L0 0 0) v17) (index := 42) C hPx hU hB (fun q hq => by rcases List.mem_cons.mp hq with rfl | hq; exact hs.1; rcases List.mem_cons.mp hq with rfl | hq; exact hs.2; cases hq) h16 (by (try simp only [List.length_append]); have d0 := (dG_len ac).2; have d1 := (dG_len rr).2; have d2 := (dG_len pr).2; have d3 := (dG_len (1 + am)).2; have d4 := (dG_len x).2; have z13 : (lt 13).length = 1 := rfl; have z17 : (lt 17).length = 6 := rfl; have z18 : (lt 18).length = 9 := rfl; omega) (by omega) wk_3_222 ⟨(Nat.le_of_ble_eq_true rfl), (Nat.le_of_ble_eq_true rfl)⟩ (Nat.le_of_ble_eq_true rfl) ⟨by show _ ≤ 1000; omega, by show _ ≤ 700000; omega⟩ dX4_init_371 (fun μ18 h18 g18 => ?_)
      have g18 := g16.tr g18
      refine gz_popr C dX4_init_374 ?_
      refine gz_aload_n C dX4_init_375 rfl 4 rfl ?_
      refine gz_iconst (v := 2) C dX4_init_376 (by decide) ?_
      refine gz_next (q := 2) (rest := []) C wk_3_89 (by decide) (by decide) ⟨(Nat.le_of_ble_eq_true rfl), (Nat.le_of_ble_eq_true rfl)⟩ (Nat.le_of_ble_eq_true rfl) ⟨by show _ ≤ 1000; omega, by show _ ≤ 700000; omega⟩ dX4_init_377 (fun b2 v19 hb2 => ?_)
      by_cases hb2 : b2 = 0
      · refine gz_if_ne_f (tgt := 399) C dX4_init_380 (by decide) (by rw [hb2]; rfl) ?_
        refine gz_aload_n C dX4_init_383 rfl 3 rfl ?_
        refine gz_ldcS (index := 65) (j := 19) (tx := " keeps ") C (by decide +kernel) dX4_init_384 ?_
        refine gz_apS (Y := yM m0 r0 (fdM B R0 A0 N0 L0 0 0) v19) (index := 48) C hPx hU hB (fun q hq => by rcases List.mem_cons.mp hq with rfl | hq; exact hs.1; rcases List.mem_cons.mp hq with rfl | hq; exact hs.2; cases hq) h18 (show 19 < 22 by decide) (by (try simp only [List.length_append]); have d0 := (dG_len ac).2; have d1 := (dG_len rr).2; have d2 := (dG_len pr).2; have d3 := (dG_len (1 + am)).2; have d4 := (dG_len x).2; have d5 := (dG_len (rr + y)).2; have z13 : (lt 13).length = 1 := rfl; have z17 : (lt 17).length = 6 := rfl; have z18 : (lt 18).length = 9 := rfl; have z19 : (lt 19).length = 7 := rfl; omega) wk_4_8 ⟨(Nat.le_of_ble_eq_true rfl), (Nat.le_of_ble_eq_true rfl)⟩ (Nat.le_of_ble_eq_true rfl) ⟨by show _ ≤ 1000; omega, by show _ ≤ 700000; omega⟩ dX4_init_386 (fun μ20 h20 g20 => ?_)
        have g20 := g18.tr g20
        refine gz_aload_n C dX4_init_389 rfl 4 rfl ?_
        refine gz_bipush (v := 101) C dX4_init_390 (by decide) ?_
        refine gz_next (q := 101) (rest := [.ref (B + 295)]) C wk_3_89 (by decide) (by decide) ⟨(Nat.le_of_ble_eq_true rfl), (Nat.le_of_ble_eq_true rfl)⟩ (Nat.le_of_ble_eq_true rfl) ⟨by show _ ≤ 1000; omega, by show _ ≤ 700000; omega⟩ dX4_init_392 (fun kp v21 hkp => ?_)
        refine gz_apI (Y := yM m0 r0 (fdM B R0 A0 N0 L0 0 0) v21) (index := 42) C hPx hU hB (fun q hq => by rcases List.mem_cons.mp hq with rfl | hq; exact hs.1; rcases List.mem_cons.mp hq with rfl | hq; exact hs.2; cases hq) h20 (by (try simp only [List.length_append]); have d0 := (dG_len ac).2; have d1 := (dG_len rr).2; have d2 := (dG_len pr).2; have d3 := (dG_len (1 + am)).2; have d4 := (dG_len x).2; have d5 := (dG_len (rr + y)).2; have z13 : (lt 13).length = 1 := rfl; have z17 : (lt 17).length = 6 := rfl; have z18 : (lt 18).length = 9 := rfl; have z19 : (lt 19).length = 7 := rfl; omega) (by omega) wk_3_222 ⟨(Nat.le_of_ble_eq_true rfl), (Nat.le_of_ble_eq_true rfl)⟩ (Nat.le_of_ble_eq_true rfl) ⟨by show _ ≤ 1000; omega, by show _ ≤ 700000; omega⟩ dX4_init_395 (fun μ22 h22 g22 => ?_)
        have g22 := g20.tr g22
        refine gz_popr C dX4_init_398 ?_
        refine gz_aload_n C dX4_init_399 rfl 3 rfl ?_
        refine gz_ldcS (index := 57) (j := 15) (tx := ";") C (by decide +kernel) dX4_init_400 ?_
        refine gz_apS (Y := yM m0 r0 (fdM B R0 A0 N0 L0 0 0) v21) (index := 48) C hPx hU hB (fun q hq => by rcases List.mem_cons.mp hq with rfl | hq; exact hs.1; rcases List.mem_cons.mp hq with rfl | hq; exact hs.2; cases hq) h22 (show 15 < 22 by decide) (by (try simp only [List.length_append]); have d0 := (dG_len ac).2; have d1 := (dG_len rr).2; have d2 := (dG_len pr).2; have d3 := (dG_len (1 + am)).2; have d4 := (dG_len x).2; have d5 := (dG_len (rr + y)).2; have d6 := (dG_len kp).2; have z13 : (lt 13).length = 1 := rfl; have z15 : (lt 15).length = 1 := rfl; have z17 : (lt 17).length = 6 := rfl; have z18 : (lt 18).length = 9 := rfl; have z19 : (lt 19).length = 7 := rfl; omega) wk_4_8 ⟨(Nat.le_of_ble_eq_true rfl), (Nat.le_of_ble_eq_true rfl)⟩ (Nat.le_of_ble_eq_true rfl) ⟨by show _ ≤ 1000; omega, by show _ ≤ 700000; omega⟩ dX4_init_402 (fun μ23 h23 g23 => ?_)
        have g23 := g22.tr g23
        refine gz_popr C dX4_init_405 ?_
        refine gz_iinc (i := 4) (q := 1) (v := (nI (i + 1))) C dX4_init_406 rfl (nI_add _ 1) (by decide) rfl ?_
        refine gz_goto (tgt := 245) C dX4_init_409 (by decide) ?_
        have eT : ((((((((((((((l0 ++ lt 17) ++ dG ac) ++ lt 13) ++ dG rr) ++ lt 13) ++ dG pr) ++ lt 13) ++ dG (1 + am)) ++ lt 18) ++ dG x) ++ lt 13) ++ dG (rr + y)) ++ lt 19) ++ dG kp) ++ lt 15 = (((((((((((l0 ++ lt 17) ++ dG ac) ++ lt 13) ++ dG rr) ++ lt 13) ++ dG pr) ++ lt 13) ++ dG (1 + am)) ++ rtx (some (x, rr + y))) ++ ktx (some kp)) ++ lt 15) := by
          unfold rtx ktx
          simp only [List.append_assoc, List.append_nil, List.nil_append]
        rw [eT, tx_right, ← hl0, ← ren_snoc] at h23
        have hz : retO s rr (some (x, rr + y)) := fun q hq => by cases hq; exact ⟨by show x ≤ 90; omega, by show rr ≤ rr + y; omega, by show rr + y < ct s 0; omega⟩
        have hk9 : kepO (some kp) := fun q hq => by cases hq; omega
        refine gz_sub [0, 2, 3, 4, 5] (lv' := [(4, .int (nI (i + 1))), (3, .int (nI st)), (2, .ref (B + 295)), (1, .ref r0), (0, .ref m0)]) rfl ?_
        refine ih (i + 1) (k + 1 + 1 + 1 + 1 + 1 + 1 + 1 + 1 + 1 + 1 + 1 + 1 + 1 + 1 + 1) (n + 2048 + 2048 + 2048 + 2048 + 2048 + 2048 + 2048 + 2048 + 2048 + 2048 + 2048 + 2048 + 2048 + 2048 + 2048) μ23 v21 _ (rigS s ac rr pr (1 + am) (some (x, rr + y)) (some kp)) (by omega) (by omega) (by omega) (hM.snoc (ln_right (by rw [hc2]; omega) (by rw [hc1]; omega) (by rw [hc0]; omega) ⟨by omega, by omega⟩ ⟨by omega, by omega⟩ hz hk9 (fun q hq => hpP q (by rw [hc2] at hq; exact hq))) (fun k hk => ?_)) (hC.right (by omega)) (PRs.right ePr hC (by rw [hpr]; rfl)) ?_ h23 g23
        · rcases List.mem_cons.mp hk with rfl | hk; exact Or.inl ⟨rfl, by decide⟩
          rcases List.mem_cons.mp hk with rfl | hk; exact Or.inr (Or.inl ⟨rfl, by show ac ≤ 999; omega⟩)
          rcases List.mem_cons.mp hk with rfl | hk; exact Or.inr (Or.inl ⟨rfl, by show rr ≤ 999; omega⟩)
          rcases List.mem_cons.mp hk with rfl | hk; exact Or.inr (Or.inl ⟨rfl, by show pr ≤ 999; omega⟩)
          rcases List.mem_cons.mp hk with rfl | hk; exact Or.inr (Or.inl ⟨rfl, by show (1 + am) ≤ 999; omega⟩)
          rcases List.mem_append.mp hk with hk | hk
          · rcases List.mem_cons.mp hk with rfl | hk; exact Or.inl ⟨rfl, by decide⟩
            rcases List.mem_cons.mp hk with rfl | hk; exact Or.inr (Or.inl ⟨rfl, by show x ≤ 999; omega⟩)
            rcases List.mem_cons.mp hk with rfl | hk; exact Or.inr (Or.inl ⟨rfl, by show (rr + y) ≤ 999; omega⟩)
            cases hk
          · rcases List.mem_cons.mp hk with rfl | hk; exact Or.inl ⟨rfl, by decide⟩
            rcases List.mem_cons.mp hk with rfl | hk; exact Or.inr (Or.inl ⟨rfl, by show kp ≤ 999; omega⟩)
            cases hk
        · have := congrArg List.length (tx_right l0 ac rr pr (1 + am) (some (x, rr + y)) (some kp))
          rw [tx_len, hl0]
          unfold rtx ktx at this
          simp only [List.length_append, List.length_nil] at this ⊢
          have d0 := (dG_len ac).2
          have d1 := (dG_len rr).2
          have d2 := (dG_len pr).2
          have d3 := (dG_len (1 + am)).2
          have d4 := (dG_len x).2
          have d5 := (dG_len (rr + y)).2
          have d6 := (dG_len kp).2
          have z13 : (lt 13).length = 1 := rfl
          have z15 : (lt 15).length = 1 := rfl
          have z17 : (lt 17).length = 6 := rfl
          have z18 : (lt 18).length = 9 := rfl
          have z19 : (lt 19).length = 7 := rfl
          omega
      · refine gz_if_ne_t (tgt := 399) C dX4_init_380 (by decide) (nI_ne0 (by omega) (by omega)) ?_
        refine gz_aload_n C dX4_init_399 rfl 3 rfl ?_
        refine gz_ldcS (index := 57) (j := 15) (tx := ";") C (by decide +kernel) dX4_init_400 ?_
        refine gz_apS (Y := yM m0 r0 (fdM B R0 A0 N0 L0 0 0) v19) (index := 48) C hPx hU hB (fun q hq => by rcases List.mem_cons.mp hq with rfl | hq; exact hs.1; rcases List.mem_cons.mp hq with rfl | hq; exact hs.2; cases hq) h18 (show 15 < 22 by decide) (by (try simp only [List.length_append]); have d0 := (dG_len ac).2; have d1 := (dG_len rr).2; have d2 := (dG_len pr).2; have d3 := (dG_len (1 + am)).2; have d4 := (dG_len x).2; have d5 := (dG_len (rr + y)).2; have z13 : (lt 13).length = 1 := rfl; have z15 : (lt 15).length = 1 := rfl; have z17 : (lt 17).length = 6 := rfl; have z18 : (lt 18).length = 9 := rfl; omega) wk_4_8 ⟨(Nat.le_of_ble_eq_true rfl), (Nat.le_of_ble_eq_true rfl)⟩ (Nat.le_of_ble_eq_true rfl) ⟨by show _ ≤ 1000; omega, by show _ ≤ 700000; omega⟩ dX4_init_402 (fun μ20 h20 g20 => ?_)
        have g20 := g18.tr g20
        refine gz_popr C dX4_init_405 ?_
        refine gz_iinc (i := 4) (q := 1) (v := (nI (i + 1))) C dX4_init_406 rfl (nI_add _ 1) (by decide) rfl ?_
        refine gz_goto (tgt := 245) C dX4_init_409 (by decide) ?_
        have eT : ((((((((((((l0 ++ lt 17) ++ dG ac) ++ lt 13) ++ dG rr) ++ lt 13) ++ dG pr) ++ lt 13) ++ dG (1 + am)) ++ lt 18) ++ dG x) ++ lt 13) ++ dG (rr + y)) ++ lt 15 = (((((((((((l0 ++ lt 17) ++ dG ac) ++ lt 13) ++ dG rr) ++ lt 13) ++ dG pr) ++ lt 13) ++ dG (1 + am)) ++ rtx (some (x, rr + y))) ++ ktx none) ++ lt 15) := by
          unfold rtx ktx
          simp only [List.append_assoc, List.append_nil, List.nil_append]
        rw [eT, tx_right, ← hl0, ← ren_snoc] at h20
        have hz : retO s rr (some (x, rr + y)) := fun q hq => by cases hq; exact ⟨by show x ≤ 90; omega, by show rr ≤ rr + y; omega, by show rr + y < ct s 0; omega⟩
        have hk9 : kepO none := fun q hq => by cases hq
        refine gz_sub [0, 2, 3, 4, 5] (lv' := [(4, .int (nI (i + 1))), (3, .int (nI st)), (2, .ref (B + 295)), (1, .ref r0), (0, .ref m0)]) rfl ?_
        refine ih (i + 1) (k + 1 + 1 + 1 + 1 + 1 + 1 + 1 + 1 + 1 + 1 + 1 + 1 + 1) (n + 2048 + 2048 + 2048 + 2048 + 2048 + 2048 + 2048 + 2048 + 2048 + 2048 + 2048 + 2048 + 2048) μ20 v19 _ (rigS s ac rr pr (1 + am) (some (x, rr + y)) none) (by omega) (by omega) (by omega) (hM.snoc (ln_right (by rw [hc2]; omega) (by rw [hc1]; omega) (by rw [hc0]; omega) ⟨by omega, by omega⟩ ⟨by omega, by omega⟩ hz hk9 (fun q hq => hpP q (by rw [hc2] at hq; exact hq))) (fun k hk => ?_)) (hC.right (by omega)) (PRs.right ePr hC (by rw [hpr]; rfl)) ?_ h20 g20
        · rcases List.mem_cons.mp hk with rfl | hk; exact Or.inl ⟨rfl, by decide⟩
          rcases List.mem_cons.mp hk with rfl | hk; exact Or.inr (Or.inl ⟨rfl, by show ac ≤ 999; omega⟩)
          rcases List.mem_cons.mp hk with rfl | hk; exact Or.inr (Or.inl ⟨rfl, by show rr ≤ 999; omega⟩)
          rcases List.mem_cons.mp hk with rfl | hk; exact Or.inr (Or.inl ⟨rfl, by show pr ≤ 999; omega⟩)
          rcases List.mem_cons.mp hk with rfl | hk; exact Or.inr (Or.inl ⟨rfl, by show (1 + am) ≤ 999; omega⟩)
          rcases List.mem_append.mp hk with hk | hk
          · rcases List.mem_cons.mp hk with rfl | hk; exact Or.inl ⟨rfl, by decide⟩
            rcases List.mem_cons.mp hk with rfl | hk; exact Or.inr (Or.inl ⟨rfl, by show x ≤ 999; omega⟩)
            rcases List.mem_cons.mp hk with rfl | hk; exact Or.inr (Or.inl ⟨rfl, by show (rr + y) ≤ 999; omega⟩)
            cases hk
          · cases hk
        · have := congrArg List.length (tx_right l0 ac rr pr (1 + am) (some (x, rr + y)) none)
          rw [tx_len, hl0]
          unfold rtx ktx at this
          simp only [List.length_append, List.length_nil] at this ⊢
          have d0 := (dG_len ac).2
          have d1 := (dG_len rr).2
          have d2 := (dG_len pr).2
          have d3 := (dG_len (1 + am)).2
          have d4 := (dG_len x).2
          have d5 := (dG_len (rr + y)).2
          have z13 : (lt 13).length = 1 := rfl
          have z15 : (lt 15).length = 1 := rfl
          have z17 : (lt 17).length = 6 := rfl
          have z18 : (lt 18).length = 9 := rfl
          omega
    · refine gz_if_ne_t (tgt := 375) C dX4_init_334 (by decide) (nI_ne0 (by omega) (by omega)) ?_
      refine gz_aload_n C dX4_init_375 rfl 4 rfl ?_
      refine gz_iconst (v := 2) C dX4_init_376 (by decide) ?_
      refine gz_next (q := 2) (rest := []) C wk_3_89 (by decide) (by decide) ⟨(Nat.le_of_ble_eq_true rfl), (Nat.le_of_ble_eq_true rfl)⟩ (Nat.le_of_ble_eq_true rfl) ⟨by show _ ≤ 1000; omega, by show _ ≤ 700000; omega⟩ dX4_init_377 (fun b2 v13 hb2 => ?_)
      by_cases hb2 : b2 = 0
      · refine gz_if_ne_f (tgt := 399) C dX4_init_380 (by decide) (by rw [hb2]; rfl) ?_
        refine gz_aload_n C dX4_init_383 rfl 3 rfl ?_
        refine gz_ldcS (index := 65) (j := 19) (tx := " keeps ") C (by decide +kernel) dX4_init_384 ?_
        refine gz_apS (Y := yM m0 r0 (fdM B R0 A0 N0 L0 0 0) v13) (index := 48) C hPx hU hB (fun q hq => by rcases List.mem_cons.mp hq with rfl | hq; exact hs.1; rcases List.mem_cons.mp hq with rfl | hq; exact hs.2; cases hq) h11 (show 19 < 22 by decide) (by (try simp only [List.length_append]); have d0 := (dG_len ac).2; have d1 := (dG_len rr).2; have d2 := (dG_len pr).2; have d3 := (dG_len (1 + am)).2; have z13 : (lt 13).length = 1 := rfl; have z17 : (lt 17).length = 6 := rfl; have z19 : (lt 19).length = 7 := rfl; omega) wk_4_8 ⟨(Nat.le_of_ble_eq_true rfl), (Nat.le_of_ble_eq_true rfl)⟩ (Nat.le_of_ble_eq_true rfl) ⟨by show _ ≤ 1000; omega, by show _ ≤ 700000; omega⟩ dX4_init_386 (fun μ14 h14 g14 => ?_)
        have g14 := g11.tr g14
        refine gz_aload_n C dX4_init_389 rfl 4 rfl ?_
        refine gz_bipush (v := 101) C dX4_init_390 (by decide) ?_
        refine gz_next (q := 101) (rest := [.ref (B + 295)]) C wk_3_89 (by decide) (by decide) ⟨(Nat.le_of_ble_eq_true rfl), (Nat.le_of_ble_eq_true rfl)⟩ (Nat.le_of_ble_eq_true rfl) ⟨by show _ ≤ 1000; omega, by show _ ≤ 700000; omega⟩ dX4_init_392 (fun kp v15 hkp => ?_)
        refine gz_apI (Y := yM m0 r0 (fdM B R0 A0 N0 L0 0 0) v15) (index := 42) C hPx hU hB (fun q hq => by rcases List.mem_cons.mp hq with rfl | hq; exact hs.1; rcases List.mem_cons.mp hq with rfl | hq; exact hs.2; cases hq) h14 (by (try simp only [List.length_append]); have d0 := (dG_len ac).2; have d1 := (dG_len rr).2; have d2 := (dG_len pr).2; have d3 := (dG_len (1 + am)).2; have z13 : (lt 13).length = 1 := rfl; have z17 : (lt 17).length = 6 := rfl; have z19 : (lt 19).length = 7 := rfl; omega) (by omega) wk_3_222 ⟨(Nat.le_of_ble_eq_true rfl), (Nat.le_of_ble_eq_true rfl)⟩ (Nat.le_of_ble_eq_true rfl) ⟨by show _ ≤ 1000; omega, by show _ ≤ 700000; omega⟩ dX4_init_395 (fun μ16 h16 g16 => ?_)
        have g16 := g14.tr g16
        refine gz_popr C dX4_init_398 ?_
        refine gz_aload_n C dX4_init_399 rfl 3 rfl ?_
        refine gz_ldcS (index := 57) (j := 15) (tx := ";") C (by decide +kernel) dX4_init_400 ?_
        refine gz_apS (Y := yM m0 r0 (fdM B R0 A0 N0 L0 0 0) v15) (index := 48) C hPx hU hB (fun q hq => by rcases List.mem_cons.mp hq with rfl | hq; exact hs.1; rcases List.mem_cons.mp hq with rfl | hq; exact hs.2; cases hq) h16 (show 15 < 22 by decide) (by (try simp only [List.length_append]); have d0 := (dG_len ac).2; have d1 := (dG_len rr).2; have d2 := (dG_len pr).2; have d3 := (dG_len (1 + am)).2; have d4 := (dG_len kp).2; have z13 : (lt 13).length = 1 := rfl; have z15 : (lt 15).length = 1 := rfl; have z17 : (lt 17).length = 6 := rfl; have z19 : (lt 19).length = 7 := rfl; omega) wk_4_8 ⟨(Nat.le_of_ble_eq_true rfl), (Nat.le_of_ble_eq_true rfl)⟩ (Nat.le_of_ble_eq_true rfl) ⟨by show _ ≤ 1000; omega, by show _ ≤ 700000; omega⟩ dX4_init_402 (fun μ17 h17 g17 => ?_)
        have g17 := g16.tr g17
        refine gz_popr C dX4_init_405 ?_
        refine gz_iinc (i := 4) (q := 1) (v := (nI (i + 1))) C dX4_init_406 rfl (nI_add _ 1) (by decide) rfl ?_
        refine gz_goto (tgt := 245) C dX4_init_409 (by decide) ?_
        have eT : ((((((((((l0 ++ lt 17) ++ dG ac) ++ lt 13) ++ dG rr) ++ lt 13) ++ dG pr) ++ lt 13) ++ dG (1 + am)) ++ lt 19) ++ dG kp) ++ lt 15 = (((((((((((l0 ++ lt 17) ++ dG ac) ++ lt 13) ++ dG rr) ++ lt 13) ++ dG pr) ++ lt 13) ++ dG (1 + am)) ++ rtx none) ++ ktx (some kp)) ++ lt 15) := by
          unfold rtx ktx
          simp only [List.append_assoc, List.append_nil, List.nil_append]
        rw [eT, tx_right, ← hl0, ← ren_snoc] at h17
        have hz : retO s rr none := fun q hq => by cases hq
        have hk9 : kepO (some kp) := fun q hq => by cases hq; omega
        refine gz_sub [0, 2, 3, 4, 5] (lv' := [(4, .int (nI (i + 1))), (3, .int (nI st)), (2, .ref (B + 295)), (1, .ref r0), (0, .ref m0)]) rfl ?_
        refine ih (i + 1) (k + 1 + 1 + 1 + 1 + 1 + 1 + 1 + 1 + 1 + 1 + 1) (n + 2048 + 2048 + 2048 + 2048 + 2048 + 2048 + 2048 + 2048 + 2048 + 2048 + 2048) μ17 v15 _ (rigS s ac rr pr (1 + am) none (some kp)) (by omega) (by omega) (by omega) (hM.snoc (ln_right (by rw [hc2]; omega) (by rw [hc1]; omega) (by rw [hc0]; omega) ⟨by omega, by omega⟩ ⟨by omega, by omega⟩ hz hk9 (fun q hq => hpP q (by rw [hc2] at hq; exact hq))) (fun k hk => ?_)) (hC.right (by omega)) (PRs.right ePr hC (by rw [hpr]; rfl)) ?_ h17 g17
        · rcases List.mem_cons.mp hk with rfl | hk; exact Or.inl ⟨rfl, by decide⟩
          rcases List.mem_cons.mp hk with rfl | hk; exact Or.inr (Or.inl ⟨rfl, by show ac ≤ 999; omega⟩)
          rcases List.mem_cons.mp hk with rfl | hk; exact Or.inr (Or.inl ⟨rfl, by show rr ≤ 999; omega⟩)
          rcases List.mem_cons.mp hk with rfl | hk; exact Or.inr (Or.inl ⟨rfl, by show pr ≤ 999; omega⟩)
          rcases List.mem_cons.mp hk with rfl | hk; exact Or.inr (Or.inl ⟨rfl, by show (1 + am) ≤ 999; omega⟩)
          rcases List.mem_append.mp hk with hk | hk
          · cases hk
          · rcases List.mem_cons.mp hk with rfl | hk; exact Or.inl ⟨rfl, by decide⟩
            rcases List.mem_cons.mp hk with rfl | hk; exact Or.inr (Or.inl ⟨rfl, by show kp ≤ 999; omega⟩)
            cases hk
        · have := congrArg List.length (tx_right l0 ac rr pr (1 + am) none (some kp))
          rw [tx_len, hl0]
          unfold rtx ktx at this
          simp only [List.length_append, List.length_nil] at this ⊢
          have d0 := (dG_len ac).2
          have d1 := (dG_len rr).2
          have d2 := (dG_len pr).2
          have d3 := (dG_len (1 + am)).2
          have d4 := (dG_len kp).2
          have z13 : (lt 13).length = 1 := rfl
          have z15 : (lt 15).length = 1 := rfl
          have z17 : (lt 17).length = 6 := rfl
          have z19 : (lt 19).length = 7 := rfl
          omega
      · refine gz_if_ne_t (tgt := 399) C dX4_init_380 (by decide) (nI_ne0 (by omega) (by omega)) ?_
        refine gz_aload_n C dX4_init_399 rfl 3 rfl ?_
        refine gz_ldcS (index := 57) (j := 15) (tx := ";") C (by decide +kernel) dX4_init_400 ?_
        refine gz_apS (Y := yM m0 r0 (fdM B R0 A0 N0 L0 0 0) v13) (index := 48) C hPx hU hB (fun q hq => by rcases List.mem_cons.mp hq with rfl | hq; exact hs.1; rcases List.mem_cons.mp hq with rfl | hq; exact hs.2; cases hq) h11 (show 15 < 22 by decide) (by (try simp only [List.length_append]); have d0 := (dG_len ac).2; have d1 := (dG_len rr).2; have d2 := (dG_len pr).2; have d3 := (dG_len (1 + am)).2; have z13 : (lt 13).length = 1 := rfl; have z15 : (lt 15).length = 1 := rfl; have z17 : (lt 17).length = 6 := rfl; omega) wk_4_8 ⟨(Nat.le_of_ble_eq_true rfl), (Nat.le_of_ble_eq_true rfl)⟩ (Nat.le_of_ble_eq_true rfl) ⟨by show _ ≤ 1000; omega, by show _ ≤ 700000; omega⟩ dX4_init_402 (fun μ14 h14 g14 => ?_)
        have g14 := g11.tr g14
        refine gz_popr C dX4_init_405 ?_
        refine gz_iinc (i := 4) (q := 1) (v := (nI (i + 1))) C dX4_init_406 rfl (nI_add _ 1) (by decide) rfl ?_
        refine gz_goto (tgt := 245) C dX4_init_409 (by decide) ?_
        have eT : ((((((((l0 ++ lt 17) ++ dG ac) ++ lt 13) ++ dG rr) ++ lt 13) ++ dG pr) ++ lt 13) ++ dG (1 + am)) ++ lt 15 = (((((((((((l0 ++ lt 17) ++ dG ac) ++ lt 13) ++ dG rr) ++ lt 13) ++ dG pr) ++ lt 13) ++ dG (1 + am)) ++ rtx none) ++ ktx none) ++ lt 15) := by
          unfold rtx ktx
          simp only [List.append_assoc, List.append_nil, List.nil_append]
        rw [eT, tx_right, ← hl0, ← ren_snoc] at h14
        have hz : retO s rr none := fun q hq => by cases hq
        have hk9 : kepO none := fun q hq => by cases hq
        refine gz_sub [0, 2, 3, 4, 5] (lv' := [(4, .int (nI (i + 1))), (3, .int (nI st)), (2, .ref (B + 295)), (1, .ref r0), (0, .ref m0)]) rfl ?_
        refine ih (i + 1) (k + 1 + 1 + 1 + 1 + 1 + 1 + 1 + 1 + 1) (n + 2048 + 2048 + 2048 + 2048 + 2048 + 2048 + 2048 + 2048 + 2048) μ14 v13 _ (rigS s ac rr pr (1 + am) none none) (by omega) (by omega) (by omega) (hM.snoc (ln_right (by rw [hc2]; omega) (by rw [hc1]; omega) (by rw [hc0]; omega) ⟨by omega, by omega⟩ ⟨by omega, by omega⟩ hz hk9 (fun q hq => hpP q (by rw [hc2] at hq; exact hq))) (fun k hk => ?_)) (hC.right (by omega)) (PRs.right ePr hC (by rw [hpr]; rfl)) ?_ h14 g14
        · rcases List.mem_cons.mp hk with rfl | hk; exact Or.inl ⟨rfl, by decide⟩
          rcases List.mem_cons.mp hk with rfl | hk; exact Or.inr (Or.inl ⟨rfl, by show ac ≤ 999; omega⟩)
          rcases List.mem_cons.mp hk with rfl | hk; exact Or.inr (Or.inl ⟨rfl, by show rr ≤ 999; omega⟩)
          rcases List.mem_cons.mp hk with rfl | hk; exact Or.inr (Or.inl ⟨rfl, by show pr ≤ 999; omega⟩)
          rcases List.mem_cons.mp hk with rfl | hk; exact Or.inr (Or.inl ⟨rfl, by show (1 + am) ≤ 999; omega⟩)
          rcases List.mem_append.mp hk with hk | hk
          · cases hk
          · cases hk
        · have := congrArg List.length (tx_right l0 ac rr pr (1 + am) none none)
          rw [tx_len, hl0]
          unfold rtx ktx at this
          simp only [List.length_append, List.length_nil] at this ⊢
          have d0 := (dG_len ac).2
          have d1 := (dG_len rr).2
          have d2 := (dG_len pr).2
          have d3 := (dG_len (1 + am)).2
          have z13 : (lt 13).length = 1 := rfl
          have z15 : (lt 15).length = 1 := rfl
          have z17 : (lt 17).length = 6 := rfl
          omega
set_option maxHeartbeats 4000000 in
set_option maxRecDepth 100000 in
theorem mk_lease (C : Cq E p u m args meth c cX4_init 8 RX4) (hPx : Px args u) (hU : (eU E).1 = 0) (hB : eB E ≤ B) (hs : m0 < B ∧ r0 < B) {st K N : Nat} (hR0 : 1 ≤ R0 ∧ R0 ≤ 6) (hA0 : 1 ≤ A0 ∧ A0 ≤ 5) (hN0 : 1 ≤ N0 ∧ N0 ≤ 8) (hL0 : L0 ≤ 4) (hK : K ≤ 900) (hN : N ≤ 690000) (kk : ∀ (k n : Nat) (μ : Mm) (v : Int32) (T : List (List Tok)) (s : Nat → Int32), k ≤ K → n ≤ N → MB T s → CS s R0 A0 N0 L0 0 → (ren true (flat T)).length ≤ 574 + 31 * L0 → SBw E B μ (ren true (flat T)) → GR μ0 μ → Gz E p l e rm_made u m args below meth c k n 8 Q 532 [(4, .int (nI L0)), (3, .int (nI st)), (2, .ref (B + 295)), (1, .ref r0), (0, .ref m0)] [] (yM m0 r0 (fdM B R0 A0 N0 L0 0 0) v ++ wl (eS E B) μ)) : ∀ (d i k n : Nat) (μ : Mm) (v : Int32) (T : List (List Tok)) (s : Nat → Int32), i + d = L0 → k + 13 * d ≤ K → n + 26624 * d ≤ N → MB T s → CS s R0 A0 N0 i 0 → (ren true (flat T)).length ≤ 574 + 31 * i → SBw E B μ (ren true (flat T)) → GR μ0 μ → Gz E p l e rm_made u m args below meth c k n 8 Q 415 [(4, .int (nI i)), (3, .int (nI st)), (2, .ref (B + 295)), (1, .ref r0), (0, .ref m0)] [] (yM m0 r0 (fdM B R0 A0 N0 L0 0 0) v ++ wl (eS E B) μ) := by
  intro d
  induction d with
  | zero =>
    intro i k n μ v T s hi hk hn hM hC hl hT hG
    obtain rfl : i = L0 := by omega
    refine gz_iload C dX4_init_415 0 rfl ?_
    refine gz_aload_n C dX4_init_417 rfl 4 rfl ?_
    refine gz_get (ci := 6) (N := 7) (T := TX4) C inG_X4 0 rfl rfl 4 (by decide) wk_4_226 rfl dX4_init_418 ?_
    refine gz_icmp_ge_t (tgt := 532) C dX4_init_421 (by decide) (nI_le (Nat.le_refl _) (by omega)) ?_
    exact kk k n μ v T s (by omega) (by omega) hM hC hl hT hG
  | succ d ih =>
    intro i k n μ v T s hi hk hn hM hC hl hT hG
    have hi8 : i < L0 := by omega
    have hc0 := hC.c0
    have hc1 := hC.c1
    have hc2 := hC.c2
    have hc3 := hC.c3
    generalize hl0 : ren true (flat T) = l0 at *
    refine gz_iload C dX4_init_415 0 rfl ?_
    refine gz_aload_n C dX4_init_417 rfl 4 rfl ?_
    refine gz_get (ci := 6) (N := 7) (T := TX4) C inG_X4 0 rfl rfl 4 (by decide) wk_4_226 rfl dX4_init_418 ?_
    refine gz_icmp_ge_f (tgt := 532) C dX4_init_421 (by decide) (nI_ge hi8 (by omega)) ?_
    refine gz_aload_n C dX4_init_424 rfl 2 rfl ?_
    refine gz_ldcS (index := 67) (j := 20) (tx := "lease ") C (by decide +kernel) dX4_init_425 ?_
    refine gz_apS (Y := yM m0 r0 (fdM B R0 A0 N0 L0 0 0) v) (index := 48) C hPx hU hB (fun q hq => by rcases List.mem_cons.mp hq with rfl | hq; exact hs.1; rcases List.mem_cons.mp hq with rfl | hq; exact hs.2; cases hq) hT (show 20 < 22 by decide) (by (try simp only [List.length_append]); have z20 : (lt 20).length = 6 := rfl; omega) wk_4_8 ⟨(Nat.le_of_ble_eq_true rfl), (Nat.le_of_ble_eq_true rfl)⟩ (Nat.le_of_ble_eq_true rfl) ⟨by show _ ≤ 1000; omega, by show _ ≤ 700000; omega⟩ dX4_init_427 (fun μ1 h1 g1 => ?_)
    have g1 := hG.tr g1
    refine gz_aload_n C dX4_init_430 rfl 3 rfl ?_
    refine gz_aload_n C dX4_init_431 rfl 4 rfl ?_
    refine gz_get (ci := 6) (N := 7) (T := TX4) C inG_X4 0 rfl rfl 3 (by decide) wk_4_225 rfl dX4_init_432 ?_
    refine gz_next (q := N0) (rest := [.ref (B + 295)]) C wk_3_89 (by omega) (by omega) ⟨(Nat.le_of_ble_eq_true rfl), (Nat.le_of_ble_eq_true rfl)⟩ (Nat.le_of_ble_eq_true rfl) ⟨by show _ ≤ 1000; omega, by show _ ≤ 700000; omega⟩ dX4_init_435 (fun ri v2 hri => ?_)
    refine gz_apI (Y := yM m0 r0 (fdM B R0 A0 N0 L0 0 0) v2) (index := 42) C hPx hU hB (fun q hq => by rcases List.mem_cons.mp hq with rfl | hq; exact hs.1; rcases List.mem_cons.mp hq with rfl | hq; exact hs.2; cases hq) h1 (by (try simp only [List.length_append]); have z20 : (lt 20).length = 6 := rfl; omega) (by omega) wk_3_222 ⟨(Nat.le_of_ble_eq_true rfl), (Nat.le_of_ble_eq_true rfl)⟩ (Nat.le_of_ble_eq_true rfl) ⟨by show _ ≤ 1000; omega, by show _ ≤ 700000; omega⟩ dX4_init_438 (fun μ3 h3 g3 => ?_)
    have g3 := g1.tr g3
    refine gz_ldcS (index := 53) (j := 13) (tx := " ") C (by decide +kernel) dX4_init_441 ?_
    refine gz_apS (Y := yM m0 r0 (fdM B R0 A0 N0 L0 0 0) v2) (index := 48) C hPx hU hB (fun q hq => by rcases List.mem_cons.mp hq with rfl | hq; exact hs.1; rcases List.mem_cons.mp hq with rfl | hq; exact hs.2; cases hq) h3 (show 13 < 22 by decide) (by (try simp only [List.length_append]); have d0 := (dG_len ri).2; have z13 : (lt 13).length = 1 := rfl; have z20 : (lt 20).length = 6 := rfl; omega) wk_4_8 ⟨(Nat.le_of_ble_eq_true rfl), (Nat.le_of_ble_eq_true rfl)⟩ (Nat.le_of_ble_eq_true rfl) ⟨by show _ ≤ 1000; omega, by show _ ≤ 700000; omega⟩ dX4_init_443 (fun μ4 h4 g4 => ?_)
    have g4 := g3.tr g4
    refine gz_aload_n C dX4_init_446 rfl 3 rfl ?_
    refine gz_aload_n C dX4_init_447 rfl 4 rfl ?_
    refine gz_get (ci := 6) (N := 7) (T := TX4) C inG_X4 0 rfl rfl 2 (by decide) wk_4_224 rfl dX4_init_448 ?_
    refine gz_next (q := A0) (rest := [.ref (B + 295)]) C wk_3_89 (by omega) (by omega) ⟨(Nat.le_of_ble_eq_true rfl), (Nat.le_of_ble_eq_true rfl)⟩ (Nat.le_of_ble_eq_true rfl) ⟨by show _ ≤ 1000; omega, by show _ ≤ 700000; omega⟩ dX4_init_451 (fun ac v5 hac => ?_)
    refine gz_apI (Y := yM m0 r0 (fdM B R0 A0 N0 L0 0 0) v5) (index := 42) C hPx hU hB (fun q hq => by rcases List.mem_cons.mp hq with rfl | hq; exact hs.1; rcases List.mem_cons.mp hq with rfl | hq; exact hs.2; cases hq) h4 (by (try simp only [List.length_append]); have d0 := (dG_len ri).2; have z13 : (lt 13).length = 1 := rfl; have z20 : (lt 20).length = 6 := rfl; omega) (by omega) wk_3_222 ⟨(Nat.le_of_ble_eq_true rfl), (Nat.le_of_ble_eq_true rfl)⟩ (Nat.le_of_ble_eq_true rfl) ⟨by show _ ≤ 1000; omega, by show _ ≤ 700000; omega⟩ dX4_init_454 (fun μ6 h6 g6 => ?_)
    have g6 := g4.tr g6
    refine gz_ldcS (index := 53) (j := 13) (tx := " ") C (by decide +kernel) dX4_init_457 ?_
    refine gz_apS (Y := yM m0 r0 (fdM B R0 A0 N0 L0 0 0) v5) (index := 48) C hPx hU hB (fun q hq => by rcases List.mem_cons.mp hq with rfl | hq; exact hs.1; rcases List.mem_cons.mp hq with rfl | hq; exact hs.2; cases hq) h6 (show 13 < 22 by decide) (by (try simp only [List.length_append]); have d0 := (dG_len ri).2; have d1 := (dG_len ac).2; have z13 : (lt 13).length = 1 := rfl; have z20 : (lt 20).length = 6 := rfl; omega) wk_4_8 ⟨(Nat.le_of_ble_eq_true rfl), (Nat.le_of_ble_eq_true rfl)⟩ (Nat.le_of_ble_eq_true rfl) ⟨by show _ ≤ 1000; omega, by show _ ≤ 700000; omega⟩ dX4_init_459 (fun μ7 h7 g7 => ?_)
    have g7 := g6.tr g7
    refine gz_aload_n C dX4_init_462 rfl 3 rfl ?_
    refine gz_aload_n C dX4_init_463 rfl 4 rfl ?_
    refine gz_get (ci := 6) (N := 7) (T := TX4) C inG_X4 0 rfl rfl 1 (by decide) wk_4_222 rfl dX4_init_464 ?_
    refine gz_next (q := R0) (rest := [.ref (B + 295)]) C wk_3_89 (by omega) (by omega) ⟨(Nat.le_of_ble_eq_true rfl), (Nat.le_of_ble_eq_true rfl)⟩ (Nat.le_of_ble_eq_true rfl) ⟨by show _ ≤ 1000; omega, by show _ ≤ 700000; omega⟩ dX4_init_467 (fun rr v8 hrr => ?_)
    refine gz_apI (Y := yM m0 r0 (fdM B R0 A0 N0 L0 0 0) v8) (index := 42) C hPx hU hB (fun q hq => by rcases List.mem_cons.mp hq with rfl | hq; exact hs.1; rcases List.mem_cons.mp hq with rfl | hq; exact hs.2; cases hq) h7 (by (try simp only [List.length_append]); have d0 := (dG_len ri).2; have d1 := (dG_len ac).2; have z13 : (lt 13).length = 1 := rfl; have z20 : (lt 20).length = 6 := rfl; omega) (by omega) wk_3_222 ⟨(Nat.le_of_ble_eq_true rfl), (Nat.le_of_ble_eq_true rfl)⟩ (Nat.le_of_ble_eq_true rfl) ⟨by show _ ≤ 1000; omega, by show _ ≤ 700000; omega⟩ dX4_init_470 (fun μ9 h9 g9 => ?_)
    have g9 := g7.tr g9
    refine gz_ldcS (index := 53) (j := 13) (tx := " ") C (by decide +kernel) dX4_init_473 ?_
    refine gz_apS (Y := yM m0 r0 (fdM B R0 A0 N0 L0 0 0) v8) (index := 48) C hPx hU hB (fun q hq => by rcases List.mem_cons.mp hq with rfl | hq; exact hs.1; rcases List.mem_cons.mp hq with rfl | hq; exact hs.2; cases hq) h9 (show 13 < 22 by decide) (by (try simp only [List.length_append]); have d0 := (dG_len ri).2; have d1 := (dG_len ac).2; have d2 := (dG_len rr).2; have z13 : (lt 13).length = 1 := rfl; have z20 : (lt 20).length = 6 := rfl; omega) wk_4_8 ⟨(Nat.le_of_ble_eq_true rfl), (Nat.le_of_ble_eq_true rfl)⟩ (Nat.le_of_ble_eq_true rfl) ⟨by show _ ≤ 1000; omega, by show _ ≤ 700000; omega⟩ dX4_init_475 (fun μ10 h10 g10 => ?_)
    have g10 := g9.tr g10
    refine gz_iconst (v := 1) C dX4_init_478 (by decide) ?_
    refine gz_aload_n C dX4_init_479 rfl 3 rfl ?_
    refine gz_sipush (v := 200) C dX4_init_480 (by decide) ?_
    refine gz_next (q := 200) (rest := [.int 1, .ref (B + 295)]) C wk_3_89 (by decide) (by decide) ⟨(Nat.le_of_ble_eq_true rfl), (Nat.le_of_ble_eq_true rfl)⟩ (Nat.le_of_ble_eq_true rfl) ⟨by show _ ≤ 1000; omega, by show _ ≤ 700000; omega⟩ dX4_init_483 (fun vo v11 hvo => ?_)
    refine gz_iadd C dX4_init_486 ?_
    rw [one_add]
    refine gz_apI (Y := yM m0 r0 (fdM B R0 A0 N0 L0 0 0) v11) (index := 42) C hPx hU hB (fun q hq => by rcases List.mem_cons.mp hq with rfl | hq; exact hs.1; rcases List.mem_cons.mp hq with rfl | hq; exact hs.2; cases hq) h10 (by (try simp only [List.length_append]); have d0 := (dG_len ri).2; have d1 := (dG_len ac).2; have d2 := (dG_len rr).2; have z13 : (lt 13).length = 1 := rfl; have z20 : (lt 20).length = 6 := rfl; omega) (by omega) wk_3_222 ⟨(Nat.le_of_ble_eq_true rfl), (Nat.le_of_ble_eq_true rfl)⟩ (Nat.le_of_ble_eq_true rfl) ⟨by show _ ≤ 1000; omega, by show _ ≤ 700000; omega⟩ dX4_init_487 (fun μ12 h12 g12 => ?_)
    have g12 := g10.tr g12
    refine gz_ldcS (index := 53) (j := 13) (tx := " ") C (by decide +kernel) dX4_init_490 ?_
    refine gz_apS (Y := yM m0 r0 (fdM B R0 A0 N0 L0 0 0) v11) (index := 48) C hPx hU hB (fun q hq => by rcases List.mem_cons.mp hq with rfl | hq; exact hs.1; rcases List.mem_cons.mp hq with rfl | hq; exact hs.2; cases hq) h12 (show 13 < 22 by decide) (by (try simp only [List.length_append]); have d0 := (dG_len ri).2; have d1 := (dG_len ac).2; have d2 := (dG_len rr).2; have d3 := (dG_len (1 + vo)).2; have z13 : (lt 13).length = 1 := rfl; have z20 : (lt 20).length = 6 := rfl; omega) wk_4_8 ⟨(Nat.le_of_ble_eq_true rfl), (Nat.le_of_ble_eq_true rfl)⟩ (Nat.le_of_ble_eq_true rfl) ⟨by show _ ≤ 1000; omega, by show _ ≤ 700000; omega⟩ dX4_init_492 (fun μ13 h13 g13 => ?_)
    have g13 := g12.tr g13
    refine gz_aload_n C dX4_init_495 rfl 3 rfl ?_
    refine gz_bipush (v := 30) C dX4_init_496 (by decide) ?_
    refine gz_next (q := 30) (rest := [.ref (B + 295)]) C wk_3_89 (by decide) (by decide) ⟨(Nat.le_of_ble_eq_true rfl), (Nat.le_of_ble_eq_true rfl)⟩ (Nat.le_of_ble_eq_true rfl) ⟨by show _ ≤ 1000; omega, by show _ ≤ 700000; omega⟩ dX4_init_498 (fun pr v14 hpr => ?_)
    refine gz_apI (Y := yM m0 r0 (fdM B R0 A0 N0 L0 0 0) v14) (index := 42) C hPx hU hB (fun q hq => by rcases List.mem_cons.mp hq with rfl | hq; exact hs.1; rcases List.mem_cons.mp hq with rfl | hq; exact hs.2; cases hq) h13 (by (try simp only [List.length_append]); have d0 := (dG_len ri).2; have d1 := (dG_len ac).2; have d2 := (dG_len rr).2; have d3 := (dG_len (1 + vo)).2; have z13 : (lt 13).length = 1 := rfl; have z20 : (lt 20).length = 6 := rfl; omega) (by omega) wk_3_222 ⟨(Nat.le_of_ble_eq_true rfl), (Nat.le_of_ble_eq_true rfl)⟩ (Nat.le_of_ble_eq_true rfl) ⟨by show _ ≤ 1000; omega, by show _ ≤ 700000; omega⟩ dX4_init_501 (fun μ15 h15 g15 => ?_)
    have g15 := g13.tr g15
    refine gz_ldcS (index := 53) (j := 13) (tx := " ") C (by decide +kernel) dX4_init_504 ?_
    refine gz_apS (Y := yM m0 r0 (fdM B R0 A0 N0 L0 0 0) v14) (index := 48) C hPx hU hB (fun q hq => by rcases List.mem_cons.mp hq with rfl | hq; exact hs.1; rcases List.mem_cons.mp hq with rfl | hq; exact hs.2; cases hq) h15 (show 13 < 22 by decide) (by (try simp only [List.length_append]); have d0 := (dG_len ri).2; have d1 := (dG_len ac).2; have d2 := (dG_len rr).2; have d3 := (dG_len (1 + vo)).2; have d4 := (dG_len pr).2; have z13 : (lt 13).length = 1 := rfl; have z20 : (lt 20).length = 6 := rfl; omega) wk_4_8 ⟨(Nat.le_of_ble_eq_true rfl), (Nat.le_of_ble_eq_true rfl)⟩ (Nat.le_of_ble_eq_true rfl) ⟨by show _ ≤ 1000; omega, by show _ ≤ 700000; omega⟩ dX4_init_506 (fun μ16 h16 g16 => ?_)
    have g16 := g15.tr g16
    refine gz_iconst (v := 1) C dX4_init_509 (by decide) ?_
    refine gz_aload_n C dX4_init_510 rfl 3 rfl ?_
    refine gz_bipush (v := 20) C dX4_init_511 (by decide) ?_
    refine gz_next (q := 20) (rest := [.int 1, .ref (B + 295)]) C wk_3_89 (by decide) (by decide) ⟨(Nat.le_of_ble_eq_true rfl), (Nat.le_of_ble_eq_true rfl)⟩ (Nat.le_of_ble_eq_true rfl) ⟨by show _ ≤ 1000; omega, by show _ ≤ 700000; omega⟩ dX4_init_513 (fun mo v17 hmo => ?_)
    refine gz_iadd C dX4_init_516 ?_
    rw [one_add]
    refine gz_apI (Y := yM m0 r0 (fdM B R0 A0 N0 L0 0 0) v17) (index := 42) C hPx hU hB (fun q hq => by rcases List.mem_cons.mp hq with rfl | hq; exact hs.1; rcases List.mem_cons.mp hq with rfl | hq; exact hs.2; cases hq) h16 (by (try simp only [List.length_append]); have d0 := (dG_len ri).2; have d1 := (dG_len ac).2; have d2 := (dG_len rr).2; have d3 := (dG_len (1 + vo)).2; have d4 := (dG_len pr).2; have z13 : (lt 13).length = 1 := rfl; have z20 : (lt 20).length = 6 := rfl; omega) (by omega) wk_3_222 ⟨(Nat.le_of_ble_eq_true rfl), (Nat.le_of_ble_eq_true rfl)⟩ (Nat.le_of_ble_eq_true rfl) ⟨by show _ ≤ 1000; omega, by show _ ≤ 700000; omega⟩ dX4_init_517 (fun μ18 h18 g18 => ?_)
    have g18 := g16.tr g18
    refine gz_ldcS (index := 57) (j := 15) (tx := ";") C (by decide +kernel) dX4_init_520 ?_
    refine gz_apS (Y := yM m0 r0 (fdM B R0 A0 N0 L0 0 0) v17) (index := 48) C hPx hU hB (fun q hq => by rcases List.mem_cons.mp hq with rfl | hq; exact hs.1; rcases List.mem_cons.mp hq with rfl | hq; exact hs.2; cases hq) h18 (show 15 < 22 by decide) (by (try simp only [List.length_append]); have d0 := (dG_len ri).2; have d1 := (dG_len ac).2; have d2 := (dG_len rr).2; have d3 := (dG_len (1 + vo)).2; have d4 := (dG_len pr).2; have d5 := (dG_len (1 + mo)).2; have z13 : (lt 13).length = 1 := rfl; have z15 : (lt 15).length = 1 := rfl; have z20 : (lt 20).length = 6 := rfl; omega) wk_4_8 ⟨(Nat.le_of_ble_eq_true rfl), (Nat.le_of_ble_eq_true rfl)⟩ (Nat.le_of_ble_eq_true rfl) ⟨by show _ ≤ 1000; omega, by show _ ≤ 700000; omega⟩ dX4_init_522 (fun μ19 h19 g19 => ?_)
    have g19 := g18.tr g19
    refine gz_popr C dX4_init_525 ?_
    refine gz_iinc (i := 4) (q := 0) (v := (nI (i + 1))) C dX4_init_526 rfl (nI_add _ 1) (by decide) rfl ?_
    refine gz_goto (tgt := 415) C dX4_init_529 (by decide) ?_
    rw [tx_six l0 (Or.inl ⟨rfl, rfl⟩), ← hl0, ← ren_snoc] at h19
    refine ih (i + 1) (k + 1 + 1 + 1 + 1 + 1 + 1 + 1 + 1 + 1 + 1 + 1 + 1 + 1) (n + 2048 + 2048 + 2048 + 2048 + 2048 + 2048 + 2048 + 2048 + 2048 + 2048 + 2048 + 2048 + 2048) μ19 v17 _ (leaS s ri ac rr (1 + vo) pr (1 + mo)) (by omega) (by omega) (by omega) (hM.snoc (ln_lease (by rw [hc3]; omega) (by rw [hc2]; omega) (by rw [hc1]; omega) (by rw [hc0]; omega) ⟨by omega, by omega⟩ (by omega) ⟨by omega, by omega⟩) (fun k hk => ?_)) (hC.lea (by omega)) ?_ h19 g19
    · rcases List.mem_cons.mp hk with rfl | hk; exact Or.inl ⟨rfl, by decide⟩
      rcases List.mem_cons.mp hk with rfl | hk; exact Or.inr (Or.inl ⟨rfl, by show ri ≤ 999; omega⟩)
      rcases List.mem_cons.mp hk with rfl | hk; exact Or.inr (Or.inl ⟨rfl, by show ac ≤ 999; omega⟩)
      rcases List.mem_cons.mp hk with rfl | hk; exact Or.inr (Or.inl ⟨rfl, by show rr ≤ 999; omega⟩)
      rcases List.mem_cons.mp hk with rfl | hk; exact Or.inr (Or.inl ⟨rfl, by show (1 + vo) ≤ 999; omega⟩)
      rcases List.mem_cons.mp hk with rfl | hk; exact Or.inr (Or.inl ⟨rfl, by show pr ≤ 999; omega⟩)
      rcases List.mem_cons.mp hk with rfl | hk; exact Or.inr (Or.inl ⟨rfl, by show (1 + mo) ≤ 999; omega⟩)
      cases hk
    · have := congrArg List.length (tx_six l0 (w := 20) (u := 8) (Or.inl ⟨rfl, rfl⟩) ri ac rr (1 + vo) pr (1 + mo))
      rw [tx_len, hl0]
      simp only [List.length_append] at this ⊢
      have d0 := (dG_len ri).2
      have d1 := (dG_len ac).2
      have d2 := (dG_len rr).2
      have d3 := (dG_len (1 + vo)).2
      have d4 := (dG_len pr).2
      have d5 := (dG_len (1 + mo)).2
      have z13 : (lt 13).length = 1 := rfl
      have z15 : (lt 15).length = 1 := rfl
      have z20 : (lt 20).length = 6 := rfl
      omega
set_option maxHeartbeats 4000000 in
set_option maxRecDepth 100000 in
theorem mk_opt (C : Cq E p u m args meth c cX4_init 8 RX4) (hPx : Px args u) (hU : (eU E).1 = 0) (hB : eB E ≤ B) (hs : m0 < B ∧ r0 < B) {st K N : Nat} (hR0 : 1 ≤ R0 ∧ R0 ≤ 6) (hA0 : 1 ≤ A0 ∧ A0 ≤ 5) (hN0 : 1 ≤ N0 ∧ N0 ≤ 8) (hK : K ≤ 900) (hN : N ≤ 690000) (kk : ∀ (k n : Nat) (μ : Mm) (v : Int32) (T : List (List Tok)) (s : Nat → Int32) (op i : Nat), k ≤ K → n ≤ N → MB T s → CS s R0 A0 N0 L0 op → op ≤ 6 → (ren true (flat T)).length ≤ 890 → SBw E B μ (ren true (flat T)) → GR μ0 μ → Gz E p l e rm_made u m args below meth c k n 8 Q 672 [(4, .int (nI i)), (3, .int (nI st)), (2, .ref (B + 295)), (1, .ref r0), (0, .ref m0)] [] (yM m0 r0 (fdM B R0 A0 N0 L0 op 0) v ++ wl (eS E B) μ)) : ∀ (d i k n : Nat) (μ : Mm) (v : Int32) (T : List (List Tok)) (s : Nat → Int32) (op : Nat), i + d = 6 → k + 13 * d ≤ K → n + 26624 * d ≤ N → MB T s → CS s R0 A0 N0 L0 op → OPs s op i → op ≤ i → (ren true (flat T)).length ≤ 698 + 32 * i → SBw E B μ (ren true (flat T)) → GR μ0 μ → Gz E p l e rm_made u m args below meth c k n 8 Q 535 [(4, .int (nI i)), (3, .int (nI st)), (2, .ref (B + 295)), (1, .ref r0), (0, .ref m0)] [] (yM m0 r0 (fdM B R0 A0 N0 L0 op 0) v ++ wl (eS E B) μ) := by
  intro d
  induction d with
  | zero =>
    intro i k n μ v T s op hi hk hn hM hC hO ho hl hT hG
    obtain rfl : i = 6 := by omega
    refine gz_iload C dX4_init_535 0 rfl ?_
    refine gz_aload_n C dX4_init_537 rfl 4 rfl ?_
    refine gz_get (ci := 6) (N := 7) (T := TX4) C inG_X4 0 rfl rfl 3 (by decide) wk_4_225 rfl dX4_init_538 ?_
    by_cases h9 : N0 ≤ 6
    · refine gz_icmp_ge_t (tgt := 672) C dX4_init_541 (by decide) (nI_le h9 (by omega)) ?_
      exact kk k n μ v T s op 6 (by omega) (by omega) hM hC (by omega) (by omega) hT hG
    · refine gz_icmp_ge_f (tgt := 672) C dX4_init_541 (by decide) (nI_ge (by omega) (by omega)) ?_
      refine gz_iload C dX4_init_544 0 rfl ?_
      refine gz_bipush (v := 6) C dX4_init_546 (by decide) ?_
      refine gz_icmp_ge_t (tgt := 672) C dX4_init_548 (by decide) (by decide) ?_
      exact kk k n μ v T s op 6 (by omega) (by omega) hM hC (by omega) (by omega) hT hG
  | succ d ih =>
    intro i k n μ v T s op hi hk hn hM hC hO ho hl hT hG
    have hc0 := hC.c0
    have hc1 := hC.c1
    have hc2 := hC.c2
    have hc4 := hC.c4
    refine gz_iload C dX4_init_535 0 rfl ?_
    refine gz_aload_n C dX4_init_537 rfl 4 rfl ?_
    refine gz_get (ci := 6) (N := 7) (T := TX4) C inG_X4 0 rfl rfl 3 (by decide) wk_4_225 rfl dX4_init_538 ?_
    by_cases h9 : N0 ≤ i
    · refine gz_icmp_ge_t (tgt := 672) C dX4_init_541 (by decide) (nI_le h9 (by omega)) ?_
      exact kk k n μ v T s op i (by omega) (by omega) hM hC (by omega) (by omega) hT hG
    · refine gz_icmp_ge_f (tgt := 672) C dX4_init_541 (by decide) (nI_ge (by omega) (by omega)) ?_
      refine gz_iload C dX4_init_544 0 rfl ?_
      refine gz_bipush (v := 6) C dX4_init_546 (by decide) ?_
      refine gz_icmp_ge_f (tgt := 672) C dX4_init_548 (by decide) (show ¬ (6 : Int32) ≤ nI i from nI_ge (b := 6) (by omega) (by decide)) ?_
      refine gz_aload_n C dX4_init_551 rfl 3 rfl ?_
      refine gz_iconst (v := 3) C dX4_init_552 (by decide) ?_
      refine gz_next (q := 3) (rest := []) C wk_3_89 (by decide) (by decide) ⟨(Nat.le_of_ble_eq_true rfl), (Nat.le_of_ble_eq_true rfl)⟩ (Nat.le_of_ble_eq_true rfl) ⟨by show _ ≤ 1000; omega, by show _ ≤ 700000; omega⟩ dX4_init_553 (fun b1 v1 hb1 => ?_)
      by_cases hb1 : b1 = 0
      · refine gz_if_le_t (tgt := 562) C dX4_init_556 (by decide) (by rw [hb1]; decide) ?_
        generalize hl0 : ren true (flat T) = l0 at *
        refine gz_aload_n C dX4_init_562 rfl 4 rfl ?_
        refine gz_dupr C dX4_init_563 ?_
        refine gz_get (ci := 6) (N := 7) (T := TX4) C inG_X4 0 rfl rfl 5 (by decide) wk_4_227 rfl dX4_init_564 ?_
        refine gz_iconst (v := 1) C dX4_init_567 (by decide) ?_
        refine gz_iadd C dX4_init_568 ?_
        rw [nI_1]
        refine gz_put (ci := 6) (N := 7) (T := TX4) (ν' := yM m0 r0 (fdM B R0 A0 N0 L0 (op + 1) 0) v1 ++ wl (eS E B) μ) C inG_X4 tyX4 tyX4_ok nmX4 0 rfl rfl 5 (by decide) wk_4_227 rfl rfl rfl rfl (Nat.le_of_ble_eq_true rfl) rfl dX4_init_569 ?_
        refine gz_aload_n C dX4_init_572 rfl 2 rfl ?_
        refine gz_ldcS (index := 72) (j := 21) (tx := "option ") C (by decide +kernel) dX4_init_573 ?_
        refine gz_apS (Y := yM m0 r0 (fdM B R0 A0 N0 L0 (op + 1) 0) v1) (index := 48) C hPx hU hB (fun q hq => by rcases List.mem_cons.mp hq with rfl | hq; exact hs.1; rcases List.mem_cons.mp hq with rfl | hq; exact hs.2; cases hq) hT (show 21 < 22 by decide) (by (try simp only [List.length_append]); have z21 : (lt 21).length = 7 := rfl; omega) wk_4_8 ⟨(Nat.le_of_ble_eq_true rfl), (Nat.le_of_ble_eq_true rfl)⟩ (Nat.le_of_ble_eq_true rfl) ⟨by show _ ≤ 1000; omega, by show _ ≤ 700000; omega⟩ dX4_init_575 (fun μ2 h2 g2 => ?_)
        have g2 := hG.tr g2
        refine gz_iload C dX4_init_578 0 rfl ?_
        refine gz_apI (Y := yM m0 r0 (fdM B R0 A0 N0 L0 (op + 1) 0) v1) (index := 42) C hPx hU hB (fun q hq => by rcases List.mem_cons.mp hq with rfl | hq; exact hs.1; rcases List.mem_cons.mp hq with rfl | hq; exact hs.2; cases hq) h2 (by (try simp only [List.length_append]); have z21 : (lt 21).length = 7 := rfl; omega) (by omega) wk_3_222 ⟨(Nat.le_of_ble_eq_true rfl), (Nat.le_of_ble_eq_true rfl)⟩ (Nat.le_of_ble_eq_true rfl) ⟨by show _ ≤ 1000; omega, by show _ ≤ 700000; omega⟩ dX4_init_580 (fun μ3 h3 g3 => ?_)
        have g3 := g2.tr g3
        refine gz_ldcS (index := 53) (j := 13) (tx := " ") C (by decide +kernel) dX4_init_583 ?_
        refine gz_apS (Y := yM m0 r0 (fdM B R0 A0 N0 L0 (op + 1) 0) v1) (index := 48) C hPx hU hB (fun q hq => by rcases List.mem_cons.mp hq with rfl | hq; exact hs.1; rcases List.mem_cons.mp hq with rfl | hq; exact hs.2; cases hq) h3 (show 13 < 22 by decide) (by (try simp only [List.length_append]); have d0 := (dG_len i).2; have z13 : (lt 13).length = 1 := rfl; have z21 : (lt 21).length = 7 := rfl; omega) wk_4_8 ⟨(Nat.le_of_ble_eq_true rfl), (Nat.le_of_ble_eq_true rfl)⟩ (Nat.le_of_ble_eq_true rfl) ⟨by show _ ≤ 1000; omega, by show _ ≤ 700000; omega⟩ dX4_init_585 (fun μ4 h4 g4 => ?_)
        have g4 := g3.tr g4
        refine gz_aload_n C dX4_init_588 rfl 3 rfl ?_
        refine gz_aload_n C dX4_init_589 rfl 4 rfl ?_
        refine gz_get (ci := 6) (N := 7) (T := TX4) C inG_X4 0 rfl rfl 2 (by decide) wk_4_224 rfl dX4_init_590 ?_
        refine gz_next (q := A0) (rest := [.ref (B + 295)]) C wk_3_89 (by omega) (by omega) ⟨(Nat.le_of_ble_eq_true rfl), (Nat.le_of_ble_eq_true rfl)⟩ (Nat.le_of_ble_eq_true rfl) ⟨by show _ ≤ 1000; omega, by show _ ≤ 700000; omega⟩ dX4_init_593 (fun ac v5 hac => ?_)
        refine gz_apI (Y := yM m0 r0 (fdM B R0 A0 N0 L0 (op + 1) 0) v5) (index := 42) C hPx hU hB (fun q hq => by rcases List.mem_cons.mp hq with rfl | hq; exact hs.1; rcases List.mem_cons.mp hq with rfl | hq; exact hs.2; cases hq) h4 (by (try simp only [List.length_append]); have d0 := (dG_len i).2; have z13 : (lt 13).length = 1 := rfl; have z21 : (lt 21).length = 7 := rfl; omega) (by omega) wk_3_222 ⟨(Nat.le_of_ble_eq_true rfl), (Nat.le_of_ble_eq_true rfl)⟩ (Nat.le_of_ble_eq_true rfl) ⟨by show _ ≤ 1000; omega, by show _ ≤ 700000; omega⟩ dX4_init_596 (fun μ6 h6 g6 => ?_)
        have g6 := g4.tr g6
        refine gz_ldcS (index := 53) (j := 13) (tx := " ") C (by decide +kernel) dX4_init_599 ?_
        refine gz_apS (Y := yM m0 r0 (fdM B R0 A0 N0 L0 (op + 1) 0) v5) (index := 48) C hPx hU hB (fun q hq => by rcases List.mem_cons.mp hq with rfl | hq; exact hs.1; rcases List.mem_cons.mp hq with rfl | hq; exact hs.2; cases hq) h6 (show 13 < 22 by decide) (by (try simp only [List.length_append]); have d0 := (dG_len i).2; have d1 := (dG_len ac).2; have z13 : (lt 13).length = 1 := rfl; have z21 : (lt 21).length = 7 := rfl; omega) wk_4_8 ⟨(Nat.le_of_ble_eq_true rfl), (Nat.le_of_ble_eq_true rfl)⟩ (Nat.le_of_ble_eq_true rfl) ⟨by show _ ≤ 1000; omega, by show _ ≤ 700000; omega⟩ dX4_init_601 (fun μ7 h7 g7 => ?_)
        have g7 := g6.tr g7
        refine gz_aload_n C dX4_init_604 rfl 3 rfl ?_
        refine gz_aload_n C dX4_init_605 rfl 4 rfl ?_
        refine gz_get (ci := 6) (N := 7) (T := TX4) C inG_X4 0 rfl rfl 1 (by decide) wk_4_222 rfl dX4_init_606 ?_
        refine gz_next (q := R0) (rest := [.ref (B + 295)]) C wk_3_89 (by omega) (by omega) ⟨(Nat.le_of_ble_eq_true rfl), (Nat.le_of_ble_eq_true rfl)⟩ (Nat.le_of_ble_eq_true rfl) ⟨by show _ ≤ 1000; omega, by show _ ≤ 700000; omega⟩ dX4_init_609 (fun rr v8 hrr => ?_)
        refine gz_apI (Y := yM m0 r0 (fdM B R0 A0 N0 L0 (op + 1) 0) v8) (index := 42) C hPx hU hB (fun q hq => by rcases List.mem_cons.mp hq with rfl | hq; exact hs.1; rcases List.mem_cons.mp hq with rfl | hq; exact hs.2; cases hq) h7 (by (try simp only [List.length_append]); have d0 := (dG_len i).2; have d1 := (dG_len ac).2; have z13 : (lt 13).length = 1 := rfl; have z21 : (lt 21).length = 7 := rfl; omega) (by omega) wk_3_222 ⟨(Nat.le_of_ble_eq_true rfl), (Nat.le_of_ble_eq_true rfl)⟩ (Nat.le_of_ble_eq_true rfl) ⟨by show _ ≤ 1000; omega, by show _ ≤ 700000; omega⟩ dX4_init_612 (fun μ9 h9 g9 => ?_)
        have g9 := g7.tr g9
        refine gz_ldcS (index := 53) (j := 13) (tx := " ") C (by decide +kernel) dX4_init_615 ?_
        refine gz_apS (Y := yM m0 r0 (fdM B R0 A0 N0 L0 (op + 1) 0) v8) (index := 48) C hPx hU hB (fun q hq => by rcases List.mem_cons.mp hq with rfl | hq; exact hs.1; rcases List.mem_cons.mp hq with rfl | hq; exact hs.2; cases hq) h9 (show 13 < 22 by decide) (by (try simp only [List.length_append]); have d0 := (dG_len i).2; have d1 := (dG_len ac).2; have d2 := (dG_len rr).2; have z13 : (lt 13).length = 1 := rfl; have z21 : (lt 21).length = 7 := rfl; omega) wk_4_8 ⟨(Nat.le_of_ble_eq_true rfl), (Nat.le_of_ble_eq_true rfl)⟩ (Nat.le_of_ble_eq_true rfl) ⟨by show _ ≤ 1000; omega, by show _ ≤ 700000; omega⟩ dX4_init_617 (fun μ10 h10 g10 => ?_)
        have g10 := g9.tr g10
        refine gz_iconst (v := 1) C dX4_init_620 (by decide) ?_
        refine gz_aload_n C dX4_init_621 rfl 3 rfl ?_
        refine gz_sipush (v := 150) C dX4_init_622 (by decide) ?_
        refine gz_next (q := 150) (rest := [.int 1, .ref (B + 295)]) C wk_3_89 (by decide) (by decide) ⟨(Nat.le_of_ble_eq_true rfl), (Nat.le_of_ble_eq_true rfl)⟩ (Nat.le_of_ble_eq_true rfl) ⟨by show _ ≤ 1000; omega, by show _ ≤ 700000; omega⟩ dX4_init_625 (fun tr v11 htr => ?_)
        refine gz_iadd C dX4_init_628 ?_
        rw [one_add]
        refine gz_apI (Y := yM m0 r0 (fdM B R0 A0 N0 L0 (op + 1) 0) v11) (index := 42) C hPx hU hB (fun q hq => by rcases List.mem_cons.mp hq with rfl | hq; exact hs.1; rcases List.mem_cons.mp hq with rfl | hq; exact hs.2; cases hq) h10 (by (try simp only [List.length_append]); have d0 := (dG_len i).2; have d1 := (dG_len ac).2; have d2 := (dG_len rr).2; have z13 : (lt 13).length = 1 := rfl; have z21 : (lt 21).length = 7 := rfl; omega) (by omega) wk_3_222 ⟨(Nat.le_of_ble_eq_true rfl), (Nat.le_of_ble_eq_true rfl)⟩ (Nat.le_of_ble_eq_true rfl) ⟨by show _ ≤ 1000; omega, by show _ ≤ 700000; omega⟩ dX4_init_629 (fun μ12 h12 g12 => ?_)
        have g12 := g10.tr g12
        refine gz_ldcS (index := 53) (j := 13) (tx := " ") C (by decide +kernel) dX4_init_632 ?_
        refine gz_apS (Y := yM m0 r0 (fdM B R0 A0 N0 L0 (op + 1) 0) v11) (index := 48) C hPx hU hB (fun q hq => by rcases List.mem_cons.mp hq with rfl | hq; exact hs.1; rcases List.mem_cons.mp hq with rfl | hq; exact hs.2; cases hq) h12 (show 13 < 22 by decide) (by (try simp only [List.length_append]); have d0 := (dG_len i).2; have d1 := (dG_len ac).2; have d2 := (dG_len rr).2; have d3 := (dG_len (1 + tr)).2; have z13 : (lt 13).length = 1 := rfl; have z21 : (lt 21).length = 7 := rfl; omega) wk_4_8 ⟨(Nat.le_of_ble_eq_true rfl), (Nat.le_of_ble_eq_true rfl)⟩ (Nat.le_of_ble_eq_true rfl) ⟨by show _ ≤ 1000; omega, by show _ ≤ 700000; omega⟩ dX4_init_634 (fun μ13 h13 g13 => ?_)
        have g13 := g12.tr g13
        refine gz_aload_n C dX4_init_637 rfl 3 rfl ?_
        refine gz_bipush (v := 99) C dX4_init_638 (by decide) ?_
        refine gz_next (q := 99) (rest := [.ref (B + 295)]) C wk_3_89 (by decide) (by decide) ⟨(Nat.le_of_ble_eq_true rfl), (Nat.le_of_ble_eq_true rfl)⟩ (Nat.le_of_ble_eq_true rfl) ⟨by show _ ≤ 1000; omega, by show _ ≤ 700000; omega⟩ dX4_init_640 (fun pm v14 hpm => ?_)
        refine gz_apI (Y := yM m0 r0 (fdM B R0 A0 N0 L0 (op + 1) 0) v14) (index := 42) C hPx hU hB (fun q hq => by rcases List.mem_cons.mp hq with rfl | hq; exact hs.1; rcases List.mem_cons.mp hq with rfl | hq; exact hs.2; cases hq) h13 (by (try simp only [List.length_append]); have d0 := (dG_len i).2; have d1 := (dG_len ac).2; have d2 := (dG_len rr).2; have d3 := (dG_len (1 + tr)).2; have z13 : (lt 13).length = 1 := rfl; have z21 : (lt 21).length = 7 := rfl; omega) (by omega) wk_3_222 ⟨(Nat.le_of_ble_eq_true rfl), (Nat.le_of_ble_eq_true rfl)⟩ (Nat.le_of_ble_eq_true rfl) ⟨by show _ ≤ 1000; omega, by show _ ≤ 700000; omega⟩ dX4_init_643 (fun μ15 h15 g15 => ?_)
        have g15 := g13.tr g15
        refine gz_ldcS (index := 53) (j := 13) (tx := " ") C (by decide +kernel) dX4_init_646 ?_
        refine gz_apS (Y := yM m0 r0 (fdM B R0 A0 N0 L0 (op + 1) 0) v14) (index := 48) C hPx hU hB (fun q hq => by rcases List.mem_cons.mp hq with rfl | hq; exact hs.1; rcases List.mem_cons.mp hq with rfl | hq; exact hs.2; cases hq) h15 (show 13 < 22 by decide) (by (try simp only [List.length_append]); have d0 := (dG_len i).2; have d1 := (dG_len ac).2; have d2 := (dG_len rr).2; have d3 := (dG_len (1 + tr)).2; have d4 := (dG_len pm).2; have z13 : (lt 13).length = 1 := rfl; have z21 : (lt 21).length = 7 := rfl; omega) wk_4_8 ⟨(Nat.le_of_ble_eq_true rfl), (Nat.le_of_ble_eq_true rfl)⟩ (Nat.le_of_ble_eq_true rfl) ⟨by show _ ≤ 1000; omega, by show _ ≤ 700000; omega⟩ dX4_init_648 (fun μ16 h16 g16 => ?_)
        have g16 := g15.tr g16
        refine gz_aload_n C dX4_init_651 rfl 3 rfl ?_
        refine gz_bipush (v := 40) C dX4_init_652 (by decide) ?_
        refine gz_next (q := 40) (rest := [.ref (B + 295)]) C wk_3_89 (by decide) (by decide) ⟨(Nat.le_of_ble_eq_true rfl), (Nat.le_of_ble_eq_true rfl)⟩ (Nat.le_of_ble_eq_true rfl) ⟨by show _ ≤ 1000; omega, by show _ ≤ 700000; omega⟩ dX4_init_654 (fun sk v17 hsk => ?_)
        refine gz_apI (Y := yM m0 r0 (fdM B R0 A0 N0 L0 (op + 1) 0) v17) (index := 42) C hPx hU hB (fun q hq => by rcases List.mem_cons.mp hq with rfl | hq; exact hs.1; rcases List.mem_cons.mp hq with rfl | hq; exact hs.2; cases hq) h16 (by (try simp only [List.length_append]); have d0 := (dG_len i).2; have d1 := (dG_len ac).2; have d2 := (dG_len rr).2; have d3 := (dG_len (1 + tr)).2; have d4 := (dG_len pm).2; have z13 : (lt 13).length = 1 := rfl; have z21 : (lt 21).length = 7 := rfl; omega) (by omega) wk_3_222 ⟨(Nat.le_of_ble_eq_true rfl), (Nat.le_of_ble_eq_true rfl)⟩ (Nat.le_of_ble_eq_true rfl) ⟨by show _ ≤ 1000; omega, by show _ ≤ 700000; omega⟩ dX4_init_657 (fun μ18 h18 g18 => ?_)
        have g18 := g16.tr g18
        refine gz_ldcS (index := 57) (j := 15) (tx := ";") C (by decide +kernel) dX4_init_660 ?_
        refine gz_apS (Y := yM m0 r0 (fdM B R0 A0 N0 L0 (op + 1) 0) v17) (index := 48) C hPx hU hB (fun q hq => by rcases List.mem_cons.mp hq with rfl | hq; exact hs.1; rcases List.mem_cons.mp hq with rfl | hq; exact hs.2; cases hq) h18 (show 15 < 22 by decide) (by (try simp only [List.length_append]); have d0 := (dG_len i).2; have d1 := (dG_len ac).2; have d2 := (dG_len rr).2; have d3 := (dG_len (1 + tr)).2; have d4 := (dG_len pm).2; have d5 := (dG_len sk).2; have z13 : (lt 13).length = 1 := rfl; have z15 : (lt 15).length = 1 := rfl; have z21 : (lt 21).length = 7 := rfl; omega) wk_4_8 ⟨(Nat.le_of_ble_eq_true rfl), (Nat.le_of_ble_eq_true rfl)⟩ (Nat.le_of_ble_eq_true rfl) ⟨by show _ ≤ 1000; omega, by show _ ≤ 700000; omega⟩ dX4_init_662 (fun μ19 h19 g19 => ?_)
        have g19 := g18.tr g19
        refine gz_popr C dX4_init_665 ?_
        refine gz_iinc (i := 4) (q := 0) (v := (nI (i + 1))) C dX4_init_666 rfl (nI_add _ 1) (by decide) rfl ?_
        refine gz_goto (tgt := 535) C dX4_init_669 (by decide) ?_
        rw [tx_six l0 (Or.inr ⟨rfl, rfl⟩), ← hl0, ← ren_snoc] at h19
        refine ih (i + 1) (k + 1 + 1 + 1 + 1 + 1 + 1 + 1 + 1 + 1 + 1 + 1 + 1 + 1) (n + 2048 + 2048 + 2048 + 2048 + 2048 + 2048 + 2048 + 2048 + 2048 + 2048 + 2048 + 2048 + 2048) μ19 v17 _ (optS s i ac rr (1 + tr) pm sk) (op + 1) (by omega) (by omega) (by omega) (hM.snoc (ln_option (by rw [hc4]; omega) (by rw [hc2]; omega) (by rw [hc1]; omega) (by rw [hc0]; omega) ⟨by omega, by omega⟩ (by omega) (by omega) (fun q hq => hO.no (by omega) q (by rw [hc4] at hq; exact hq))) (fun k hk => ?_)) (hC.opt (by omega)) (hO.opt hC) (by omega) ?_ h19 g19
        · rcases List.mem_cons.mp hk with rfl | hk; exact Or.inl ⟨rfl, by decide⟩
          rcases List.mem_cons.mp hk with rfl | hk; exact Or.inr (Or.inl ⟨rfl, by show i ≤ 999; omega⟩)
          rcases List.mem_cons.mp hk with rfl | hk; exact Or.inr (Or.inl ⟨rfl, by show ac ≤ 999; omega⟩)
          rcases List.mem_cons.mp hk with rfl | hk; exact Or.inr (Or.inl ⟨rfl, by show rr ≤ 999; omega⟩)
          rcases List.mem_cons.mp hk with rfl | hk; exact Or.inr (Or.inl ⟨rfl, by show (1 + tr) ≤ 999; omega⟩)
          rcases List.mem_cons.mp hk with rfl | hk; exact Or.inr (Or.inl ⟨rfl, by show pm ≤ 999; omega⟩)
          rcases List.mem_cons.mp hk with rfl | hk; exact Or.inr (Or.inl ⟨rfl, by show sk ≤ 999; omega⟩)
          cases hk
        · have := congrArg List.length (tx_six l0 (w := 21) (u := 9) (Or.inr ⟨rfl, rfl⟩) i ac rr (1 + tr) pm sk)
          rw [tx_len, hl0]
          simp only [List.length_append] at this ⊢
          have d0 := (dG_len i).2
          have d1 := (dG_len ac).2
          have d2 := (dG_len rr).2
          have d3 := (dG_len (1 + tr)).2
          have d4 := (dG_len pm).2
          have d5 := (dG_len sk).2
          have z13 : (lt 13).length = 1 := rfl
          have z15 : (lt 15).length = 1 := rfl
          have z21 : (lt 21).length = 7 := rfl
          omega
      · refine gz_if_le_f (tgt := 562) C dX4_init_556 (by decide) (nI_nle (by omega) (by omega)) ?_
        refine gz_goto (tgt := 666) C dX4_init_559 (by decide) ?_
        refine gz_iinc (i := 4) (q := 0) (v := (nI (i + 1))) C dX4_init_666 rfl (nI_add _ 1) (by decide) rfl ?_
        refine gz_goto (tgt := 535) C dX4_init_669 (by decide) ?_
        exact ih (i + 1) k n μ v1 T s op (by omega) (by omega) (by omega) hM hC (hO.mono (by omega)) (by omega) (by omega) hT hG
end MKM
