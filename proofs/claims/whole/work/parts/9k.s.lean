/-! ===== the right's line ===== -/
section LRT
variable {f : Nat → Int32} {n t a k o t0 : Nat} {s s' : Nat → Int32} {q : Int32} {b b' μ μ' μc μm : Mm} {a0 a1 a2 a3 a4 a5 a6 : Nat} {Q : Nat → Int32}
theorem rgS_eq {R R' : Nat → Int32} (h : ∀ i, i < 7 → R i = R' i) : rgS s R = rgS s R' := by
  unfold rgS
  rw [rgS0_eq h]
theorem l_H (C : GC f n t s b μc) (M : GM f n a (rgS0 s (58 + 10 * ct s 2) Q) 1 b' μm) (ht : skp f n a = t) (R : Rok s) (hc : ct s 2 < 10) (h0 : t0 < t) (i0 : a0 < ct s 1) (i1 : a1 ≤ a5) (i5 : a5 < ct s 0) (i2 : a2 ≤ 99) (i3 : a3 ≤ 999) (i4 : a4 ≤ 90) (i6 : a6 ≤ 100) (hd : ∀ r, r < ct s 2 → s (58 + 10 * r + 2) ≠ nI a2) (hQ : ∀ i, i < 7 → Q i = rw7 (nI a0) (nI a1) (nI a2) (nI a3) (nI a4) (nI a5) (nI a6) i) : Op2 (rgH (nI a0) (nI a1) (nI a2) (nI a3) (nI a4) (nI a5) (nI a6) μc) (mgH μm) (LRs f n t0 b b') := by
  refine o2_of (gc_rgH C R hc) (gm_mgH hc M) (fun z1 z2 Z1 Z2 => Or.inl ⟨t, a, _, Z1, ?_, ht, rok_right R hc i0 i1 i5 i2 i3 i4 i6 hd, h0⟩)
  rw [rgS_eq hQ] at Z2
  have eq : qf (rgS s (rw7 (nI a0) (nI a1) (nI a2) (nI a3) (nI a4) (nI a5) (nI a6))) = 1 := by
    have c2 : ct (rgS s (rw7 (nI a0) (nI a1) (nI a2) (nI a3) (nI a4) (nI a5) (nI a6))) 2 = ct s 2 + 1 := ct_nI (by rw [rgS_2, R.1.2.2.1.1, nI_1]) (by omega)
    unfold qf
    rw [if_neg (by omega)]
  rw [eq]
  exact Z2
theorem l_G (hB : BY f n) (C : GC f n t s b μc) (M : GM f n a (rgS0 s (58 + 10 * ct s 2) Q) 1 b' μm) (ht : skp f n a = t) (R : Rok s) (hc : ct s 2 < 10) (h0 : t0 < t) (i0 : a0 < ct s 1) (i1 : a1 ≤ a5) (i5 : a5 < ct s 0) (i2 : a2 ≤ 99) (i3 : a3 ≤ 999) (i4 : a4 ≤ 90) (hd : ∀ r, r < ct s 2 → s (58 + 10 * r + 2) ≠ nI a2) (hQ : ∀ i, i < 7 → Q i = rw7 (nI a0) (nI a1) (nI a2) (nI a3) (nI a4) (nI a5) (nI 0) i) : Op2 (rgG (nI a0) (nI a1) (nI a2) (nI a3) (nI a4) (nI a5) μc) (mgG (nI (ct s 2)) μm) (LRs f n t0 b b') := by
  unfold rgG mgG
  refine word2 hB C M ht (show 7 < 10 by decide) (fun μ1 e htn M1 => ?_) (fun μ1 e M1 => ?_)
  · rw [if_neg n10]
    show Op2 _ ((if (1 : Int32) = 0 then some μ1 else mgG1 (nI (ct s 2)) μ1).bind mgH) _
    rw [if_neg n10, Option.bind_assoc]
    unfold mgG1
    rw [show F_X4_rightAt (nI (ct s 2)) 6 μ1 = some (nI (58 + 10 * ct s 2 + 6)) from m_rt, Option.bind_some, Option.bind_assoc]
    have hte := (te_le (f := f) C.1.2.1).2.2 htn
    have hsk : te f n t ≤ skp f n (te f n t) := ru_ge
    refine o2_lb (gc_next hB C) (fun μ2 C2 => ?_)
    rw [Option.bind_assoc]
    refine num2 hB C2 M1 rfl (fun v μ3 μ4 t3 a3' v1 v2 C3 M3 ht3 hl3 _ => ?_) (fun k o w μ3 μ4 X Y => ?_)
    · obtain ⟨a6, rfl, -, i6⟩ := i32_rg (lo := 0) (hi := 100) v1 v2 (by decide) (by decide)
      show Op2 (rgH (nI a0) (nI a1) (nI a2) (nI a3) (nI a4) (nI a5) (nI a6) μ3) (((sI μ4 297 (nI (58 + 10 * ct s 2 + 6)) (nI a6)).bind fun m96 => some m96).bind mgH) _
      rw [Option.bind_assoc]
      refine o2_rb (gm_putR (i := 6) M3 (by decide) (by omega)) (fun m5 M5 => ?_)
      refine l_H C3 M5 ht3 R hc (by omega) i0 i1 i5 i2 i3 i4 i6 hd (fun i hi => ?_)
      by_cases e6 : i = 6
      · rw [e6, pk_us]; rfl
      · rw [pk_un e6, hQ i hi]
        unfold rw7
        rcases (show i = 0 ∨ i = 1 ∨ i = 2 ∨ i = 3 ∨ i = 4 ∨ i = 5 by omega) with rfl | rfl | rfl | rfl | rfl | rfl <;> simp
    · show Op2 (rgH (nI a0) (nI a1) (nI a2) (nI a3) (nI a4) (nI a5) 0 μ3) (((sI μ4 297 (nI (58 + 10 * ct s 2 + 6)) w).bind fun m96 => some m96).bind mgH) _
      exact o2_of (fx_rgH X) (op_b (op_mb (mx_put Y (by omega)) (fun m w => op_r (mx_mgH w)))) (fun _ _ X Y => lrX X Y)
  · rw [if_pos rfl]
    show Op2 (rgH (nI a0) (nI a1) (nI a2) (nI a3) (nI a4) (nI a5) (nI 0) μc) ((if (0 : Int32) = 0 then some μ1 else mgG1 (nI (ct s 2)) μ1).bind mgH) _
    rw [if_pos rfl]
    exact l_H C M1 C.1.2.2.1 R hc h0 i0 i1 i5 i2 i3 i4 (Nat.zero_le _) hd hQ
theorem l_F (hB : BY f n) (C : GC f n t s b μc) (M : GM f n a (rgS0 s (58 + 10 * ct s 2) Q) 1 b' μm) (ht : skp f n a = t) (R : Rok s) (hc : ct s 2 < 10) (h0 : t0 < t) (i0 : a0 < ct s 1) (i1 : a1 < ct s 0) (i2 : a2 ≤ 99) (i3 : a3 ≤ 999) (hd : ∀ r, r < ct s 2 → s (58 + 10 * r + 2) ≠ nI a2) (hQ : ∀ i, i < 7 → Q i = rw7 (nI a0) (nI a1) (nI a2) (nI a3) (nI 0) (nI a1) (nI 0) i) : Op2 (rgF (nI a0) (nI a1) (nI a2) (nI a3) μc) (mgF (nI (ct s 2)) (nI a1) μm) (LRs f n t0 b b') := by
  have r0 := R.1.1
  have r06 := r0.2
  unfold rgF mgF
  refine word2 hB C M ht (show 6 < 10 by decide) (fun μ1 e htn M1 => ?_) (fun μ1 e M1 => ?_)
  · rw [if_neg n10]
    show Op2 _ ((if (1 : Int32) = 0 then some μ1 else mgF1 (nI (ct s 2)) (nI a1) μ1).bind (mgG (nI (ct s 2)))) _
    rw [if_neg n10, Option.bind_assoc]
    unfold mgF1
    rw [show F_X4_rightAt (nI (ct s 2)) 4 μ1 = some (nI (58 + 10 * ct s 2 + 4)) from m_rt, Option.bind_some, Option.bind_assoc]
    have hte := (te_le (f := f) C.1.2.1).2.2 htn
    have hsk : te f n t ≤ skp f n (te f n t) := ru_ge
    refine o2_lb (gc_next hB C) (fun μ2 C2 => ?_)
    rw [Option.bind_assoc]
    refine num2 hB C2 M1 rfl (fun v μ3 μ4 t3 a3' v1 v2 C3 M3 ht3 hl3 _ => ?_) (fun k o w μ3 μ4 X Y => ?_)
    · obtain ⟨a4, rfl, -, i4⟩ := i32_rg (lo := 0) (hi := 90) v1 v2 (by decide) (by decide)
      show Op2 (((F_X0_takeNumber (nI a1) ((μ3.1 48 2) - (1 : Int32)) μ3).bind fun o41 => some (nI a4, o41.1, o41.2)).bind fun o44 => rgG (nI a0) (nI a1) (nI a2) (nI a3) o44.1 o44.2.1 o44.2.2) (((sI μ4 297 (nI (58 + 10 * ct s 2 + 4)) (nI a4)).bind fun m68 => (F_X4_rightAt (nI (ct s 2)) (5 : Int32) m68).bind fun o71 => (F_X4_reachHere (nI a1) m68).bind fun o74 => (sI o74.2 297 o71 o74.1).bind fun m77 => some m77).bind (mgG (nI (ct s 2)))) _
      rw [Option.bind_assoc, Option.bind_assoc]
      refine o2_rb (gm_putR (i := 4) M3 (by decide) (by omega)) (fun m5 M5 => ?_)
      rw [show F_X4_rightAt (nI (ct s 2)) 5 m5 = some (nI (58 + 10 * ct s 2 + 5)) from m_rt, Option.bind_some, Option.bind_assoc]
      have g0 := gm_get M5 (j := 0) (by decide)
      rw [rgS0_n (by omega), r0.1] at g0
      rw [m_reachHere g0, C3.2.2.1.1.2.1]
      refine num2 hB C3 M5 ht3 (fun v μ5 μ6 t4 a4' v1 v2 C4 M6 ht4 hl4 _ => ?_) (fun k o w μ5 μ6 X Y => ?_)
      · obtain ⟨a5, rfl, i15, i5⟩ := i32_rp (lo := a1) (c := ct s 0) v1 v2 (by omega) (by omega)
        show Op2 (rgG (nI a0) (nI a1) (nI a2) (nI a3) (nI a4) (nI a5) μ5) (((sI μ6 297 (nI (58 + 10 * ct s 2 + 5)) (nI a5)).bind fun m77 => some m77).bind (mgG (nI (ct s 2)))) _
        rw [Option.bind_assoc]
        refine o2_rb (gm_putR (i := 5) M6 (by decide) (by omega)) (fun m7 M7 => ?_)
        refine l_G hB C4 M7 ht4 R hc (by omega) i0 i15 i5 i2 i3 i4 hd (fun i hi => ?_)
        by_cases e5 : i = 5
        · rw [e5, pk_us]; rfl
        · rw [pk_un e5]
          by_cases e4 : i = 4
          · rw [e4, pk_us]; rfl
          · rw [pk_un e4, hQ i hi]
            unfold rw7
            rcases (show i = 0 ∨ i = 1 ∨ i = 2 ∨ i = 3 ∨ i = 6 by omega) with rfl | rfl | rfl | rfl | rfl <;> simp
      · show Op2 (rgG (nI a0) (nI a1) (nI a2) (nI a3) (nI a4) (nI a1) μ5) (((sI μ6 297 (nI (58 + 10 * ct s 2 + 5)) w).bind fun m77 => some m77).bind (mgG (nI (ct s 2)))) _
        exact o2_of (fx_rgG hB X) (op_b (op_mb (mx_put Y (by omega)) (fun m w => op_r (mx_mgG hB w)))) (fun _ _ X Y => lrX X Y)
    · show Op2 (((F_X0_takeNumber (nI a1) ((μ3.1 48 2) - (1 : Int32)) μ3).bind fun o41 => some ((0 : Int32), o41.1, o41.2)).bind fun o44 => rgG (nI a0) (nI a1) (nI a2) (nI a3) o44.1 o44.2.1 o44.2.2) (((sI μ4 297 (nI (58 + 10 * ct s 2 + 4)) w).bind fun m68 => (F_X4_rightAt (nI (ct s 2)) (5 : Int32) m68).bind fun o71 => (F_X4_reachHere (nI a1) m68).bind fun o74 => (sI o74.2 297 o71 o74.1).bind fun m77 => some m77).bind (mgG (nI (ct s 2)))) _
      refine o2_of (op_b (op_eb (fx_num X) (op_r (fx_rgG hB X)))) (op_b (op_mb (mx_put Y (by omega)) (fun m w1 => ?_))) (fun _ _ X Y => lrX X Y)
      refine op_eb (show F_X4_rightAt (nI (ct s 2)) 5 m = some (nI (58 + 10 * ct s 2 + 5)) from m_rt) (op_eb ((m_reachHere (mx_get (j := 0) (by decide))).trans (mx_num w1)) (op_mb (mx_put w1 (by omega)) (fun m w => op_r (mx_mgG hB w))))
  · rw [if_pos rfl]
    show Op2 (rgG (nI a0) (nI a1) (nI a2) (nI a3) (nI 0) (nI a1) μc) ((if (0 : Int32) = 0 then some μ1 else mgF1 (nI (ct s 2)) (nI a1) μ1).bind (mgG (nI (ct s 2)))) _
    rw [if_pos rfl]
    exact l_G hB C M1 C.1.2.2.1 R hc h0 i0 (Nat.le_refl a1) i1 i2 i3 (Nat.zero_le _) hd hQ
theorem l_E (hB : BY f n) (C : GC f n t s b μc) (M : GM f n a (rgS0 s (58 + 10 * ct s 2) Q) 1 b' μm) (ht : skp f n a = t) (R : Rok s) (hc : ct s 2 < 10) (h0 : t0 < t) (i0 : a0 < ct s 1) (i1 : a1 < ct s 0) (i2 : a2 ≤ 99) (hd : ∀ r, r < ct s 2 → s (58 + 10 * r + 2) ≠ nI a2) (hQ : ∀ i, i < 7 → i ≠ 3 → i ≠ 5 → Q i = rw7 (nI a0) (nI a1) (nI a2) (nI 0) (nI 0) (nI 0) (nI 0) i) : Op2 (rgE (nI a0) (nI a1) (nI a2) μc) (mgE (nI (ct s 2)) (nI a1) μm) (LRs f n t0 b b') := by
  unfold rgE mgE
  rw [show F_X4_rightAt (nI (ct s 2)) 3 μm = some (nI (58 + 10 * ct s 2 + 3)) from m_rt, Option.bind_some]
  refine num2 hB C M ht (fun v μ3 μ4 t3 a3' v1 v2 C3 M3 ht3 hl3 _ => ?_) (fun k o w μ3 μ4 X Y => ?_)
  · obtain ⟨a3, rfl, -, i3⟩ := i32_rg (lo := 1) (hi := 999) v1 v2 (by decide) (by decide)
    show Op2 (rgF (nI a0) (nI a1) (nI a2) (nI a3) μ3) ((sI μ4 297 (nI (58 + 10 * ct s 2 + 3)) (nI a3)).bind (mgE2 (nI (ct s 2)) (nI a1))) _
    refine o2_rb (gm_putR (i := 3) M3 (by decide) (by omega)) (fun m5 M5 => ?_)
    unfold mgE2
    rw [show F_X4_rightAt (nI (ct s 2)) 5 m5 = some (nI (58 + 10 * ct s 2 + 5)) from m_rt, Option.bind_some]
    refine o2_rb (gm_putR (i := 5) M5 (by decide) (by omega)) (fun m6 M6 => ?_)
    refine l_F hB C3 M6 ht3 R hc (by omega) i0 i1 i2 i3 hd (fun i hi => ?_)
    by_cases e5 : i = 5
    · rw [e5, pk_us]; rfl
    · rw [pk_un e5]
      by_cases e3 : i = 3
      · rw [e3, pk_us]; rfl
      · rw [pk_un e3, hQ i hi e3 e5]
        unfold rw7
        rcases (show i = 0 ∨ i = 1 ∨ i = 2 ∨ i = 4 ∨ i = 6 by omega) with rfl | rfl | rfl | rfl | rfl <;> simp
  · show Op2 (rgF (nI a0) (nI a1) (nI a2) 1 μ3) ((sI μ4 297 (nI (58 + 10 * ct s 2 + 3)) w).bind (mgE2 (nI (ct s 2)) (nI a1))) _
    exact o2_of (fx_rgF hB X) (op_mb (mx_put Y (by omega)) (fun m w => mx_mgE2 hB hc w)) (fun _ _ X Y => lrX X Y)
theorem l_C (hB : BY f n) (C : GC f n t s b μc) (M : GM f n a (rgS0 s (58 + 10 * ct s 2) Q) 1 b' μm) (ht : skp f n a = t) (R : Rok s) (hc : ct s 2 < 10) (h0 : t0 < t) (i0 : a0 < ct s 1) (i1 : a1 < ct s 0) (hQ : ∀ i, i < 7 → i ≠ 2 → i ≠ 3 → i ≠ 5 → Q i = rw7 (nI a0) (nI a1) (nI 0) (nI 0) (nI 0) (nI 0) (nI 0) i) : Op2 (rgC (nI a0) (nI a1) μc) (mgC (nI (ct s 2)) (nI a1) μm) (LRs f n t0 b b') := by
  have r2 := R.1.2.2.1
  have r210 := r2.2
  rw [mgC_eq]
  unfold rgC
  rw [C.1.2.2.2.2.1]
  refine num2x hB C M ht (fun v μ3 μ4 t3 a3' v1 v2 C3 M3 ht3 hl3 h18 => ?_) (fun k o w μ3 μ4 X Y h297 => ?_)
  · obtain ⟨a2, rfl, -, i2⟩ := i32_rg (lo := 1) (hi := 99) v1 v2 (by decide) (by decide)
    have n2 : rgS0 s (58 + 10 * ct s 2) Q 2 = nI (ct s 2) := (rgS0_n (by omega)).trans r2.1
    have no : ∀ r, r < ct s 2 → rgS0 s (58 + 10 * ct s 2) Q (58 + 10 * r + 2) = s (58 + 10 * r + 2) := fun r hr => rgS0_n (by omega)
    have hcl := x0_taken (μ := μ3) (p := 55) (c := 10) (m := ct s 2) (j := 2) (y := t) (x := nI a2) C3.2.2.1.2.2.1 (by decide) C3.2.1.1 (by decide)
    have hml := m_pri (u := nI a2) (c := ct s 2) (y := t) M3 n2 r210 h18 (ct s 2) qFuel 0 (by omega) (by unfold qFuel; omega) (fun r hr => absurd hr (Nat.not_lt_zero r))
    refine o2_lb (x := F_X0_failIfTaken 55 (2 : Int32) (nI a2) (nI t) μ3) hcl (fun m4 w4 => ?_)
    show Op2 (rgE (nI a0) (nI a1) (nI a2) m4) (mgC2 (ct s 2) (nI a1) (nI a2, μ4)) _
    unfold mgC2
    refine o2_rb (y := F_X4_priorityHere_10 (nI a2) qFuel (0 : Int32) μ4) hml (fun m5 w5 => ?_)
    by_cases e : ∀ r, r < ct s 2 → s (58 + 10 * r + 2) ≠ nI a2
    · obtain rfl := w4.1 e
      obtain rfl := w5.1 (fun r hr => by rw [no r hr]; exact e r hr)
      refine o2_rb (gm_putR (i := 2) M3 (by decide) (by omega)) (fun m6 M6 => ?_)
      refine l_E hB C3 M6 ht3 R hc (by omega) i0 i1 i2 e (fun i hi e3 e5 => ?_)
      by_cases e2 : i = 2
      · rw [e2, pk_us]; rfl
      · rw [pk_un e2, hQ i hi e2 e3 e5]
        unfold rw7
        rcases (show i = 0 ∨ i = 1 ∨ i = 4 ∨ i = 6 by omega) with rfl | rfl | rfl | rfl <;> simp
    · have X := C3.fx (k := 3) (o := t) ⟨by decide, by decide⟩ (w4.2 e).1 (w4.2 e).2
      have Y := (w5.2 (fun z => e (fun r hr => by have := z r hr; rw [no r hr] at this; exact this))).1
      exact o2_of (fx_rgE hB X) (op_mb (mx_put Y (by omega)) (fun m w => mx_mgE hB hc w)) (fun _ _ X Y => lrX X Y)
  · show Op2 (rgD (nI a0) (nI a1) (nI t) (1, μ3)) (mgC2 (ct s 2) (nI a1) (w, μ4)) _
    have h2 : μ4.1 297 2 = nI (ct s 2) := by rw [h297]; exact (rgS0_n (by omega)).trans r2.1
    refine o2_of (fx_rgD hB X) ?_ (fun _ _ X Y => lrX X Y)
    unfold mgC2
    exact op_eb (mx_pri Y h2 r210 (ct s 2) qFuel 0 (by omega) (by unfold qFuel; omega)) (op_mb (mx_put Y (by omega)) (fun m w => mx_mgE hB hc w))
theorem l_right (hB : BY f n) (C : GC f n t s b μc) (M : GM f n (te f n t) s (qf s) b' μm) (R : Rok s) (htn : t < n) : Op2 (F_X0_readRight μc) (F_X4_rightLine (nI t) μm) (LRs f n t b b') := by
  have r2 := R.1.2.2.1
  have r1 := R.1.2.1.1
  have r0 := R.1.1
  have r210 := r2.2
  have r15 := r1.2
  have r06 := r0.2
  have hz := R.2.2.2.2.2
  have hte := (te_le (f := f) C.1.2.1).2.2 htn
  have hsk : te f n t ≤ skp f n (te f n t) := ru_ge
  rw [mg_eq, rg_eq]
  refine row2 (qt := 55) (wh := 2) (c := ct s 2) (most := 10) hB C M C.2.2.1.2.2.1.2.1 r2.1 (by decide) r210 (by decide) (fun μ1 hlt C1 => ?_) (fun k o μ1 μ2 X Y => ?_)
  · show Op2 (rgA μ1) (if (1 : Int32) = 0 then _ else _) _
    rw [if_neg n10]
    refine o2_r rfl ?_
    have M1 := gm_19 (v := 1) M
    generalize uI μm 295 19 1 = m7 at *
    refine o2_r (gm_get M1 (j := 2) (by decide)) ?_
    rw [r2.1]
    unfold rgA mgA
    rw [show F_X4_rightAt (nI (ct s 2)) 0 m7 = some (nI (58 + 10 * ct s 2 + 0)) from m_rt, Option.bind_some]
    have g1 := gm_get M1 (j := 1) (by decide)
    rw [r1.1] at g1
    rw [m_accountHere g1, C1.2.2.1.2.1.2.1]
    refine num2x hB C1 M1 rfl (fun v μ2 μ3 t2 a2 v1 v2 C2 M2 ht2 hl2 _ => ?_) (fun k o w μ2 μ3 X Y h297 => ?_)
    · obtain ⟨a0, rfl, -, i0⟩ := i32_rp (lo := 0) v1 v2 (by decide) (by omega)
      rw [← rgS0_id (s := s) (A := 58 + 10 * ct s 2)] at M2
      refine o2_rb (x := rgB (nI a0) μ2) (y := sI μ3 297 (nI (58 + 10 * ct s 2 + 0)) (nI a0)) (gm_putR (i := 0) M2 (by decide) (by omega)) (fun m3 M3 => ?_)
      have g0 := gm_get M3 (j := 0) (by decide)
      rw [rgS0_n (by omega), r0.1] at g0
      unfold rgB mgB
      rw [m_reachHere g0, C2.2.2.1.1.2.1]
      refine num2x hB C2 M3 ht2 (fun v μ4 μ5 t3 a3 v1 v2 C3 M4 ht3 hl3 _ => ?_) (fun k o w μ4 μ5 X Y h297 => ?_)
      · obtain ⟨a1, rfl, -, i1⟩ := i32_rp (lo := 0) v1 v2 (by decide) (by omega)
        show Op2 (rgC (nI a0) (nI a1) μ4) (mgB1 (nI (ct s 2)) (nI a1, μ5)) _
        unfold mgB1
        rw [show F_X4_rightAt (nI (ct s 2)) 1 (nI a1, μ5).2 = some (nI (58 + 10 * ct s 2 + 1)) from m_rt, Option.bind_some]
        refine o2_rb (gm_putR (i := 1) M4 (by decide) (by omega)) (fun m6 M6 => ?_)
        refine l_C hB C3 M6 ht3 R hlt (by omega) i0 i1 (fun i hi e2 e3 e5 => ?_)
        by_cases e1 : i = 1
        · rw [e1, pk_us]; rfl
        · rw [pk_un e1]
          by_cases e0 : i = 0
          · rw [e0, pk_us]; rfl
          · rw [pk_un e0]
            show s (58 + 10 * ct s 2 + i) = _
            rw [hz _ (by omega) (by omega)]
            unfold rw7
            rcases (show i = 4 ∨ i = 6 by omega) with rfl | rfl <;> rfl
      · show Op2 (rgC (nI a0) 0 μ4) (mgB1 (nI (ct s 2)) (w, μ5)) _
        exact o2_of (fx_rgC hB X) (mx_mgB1 hB hlt Y (by rw [h297, rgS0_n (by omega)]; exact r2.1)) (fun _ _ X Y => lrX X Y)
    · show Op2 (rgB 0 μ2) ((sI μ3 297 (nI (58 + 10 * ct s 2 + 0)) w).bind (mgB (nI (ct s 2)))) _
      exact o2_of (fx_rgB hB X) (op_mb (mx_put2 Y (by omega) (by omega)) (fun m w => mx_mgB hB hlt w.1 (by rw [w.2, h297]; exact r2.1))) (fun _ _ X Y => lrX X Y)
  · exact o2_of (fx_rgA hB X) (op_t rfl (op_r Y)) (fun _ _ X Y => lrX X Y)
end LRT
