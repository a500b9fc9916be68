/-! ===== the option's line ===== -/
section LOP
variable {f : Nat → Int32} {n t a k o : Nat} {s s' : Nat → Int32} {q : Int32} {b b' μ μ' μc μm : Mm}
def E_o : E6 := fun a0 a1 a2 a3 a4 a5 μ => (F_X2_addRow 61 μ).bind fun o32 => (F_X2_put 61 o32.1 (0 : Int32) a0 o32.2).bind fun o36 => (F_X2_put 61 o32.1 (1 : Int32) a1 o36).bind fun o39 => (F_X2_put 61 o32.1 (2 : Int32) a2 o39).bind fun o42 => (F_X2_put 61 o32.1 (3 : Int32) a3 o42).bind fun o45 => (F_X2_put 61 o32.1 (4 : Int32) a4 o45).bind fun o48 => (F_X2_put 61 o32.1 (5 : Int32) a5 o48).bind fun o51 => some o51
def opB (x : Int32) (μ : Mm) : Option Mm := tcC 200 999 0 99 E_o x μ
def opA (μ : Mm) : Option Mm := (F_X0_takeNumber (0 : Int32) ((μ.1 55 2) - (1 : Int32)) μ).bind fun o5 => (F_X0_failIfTaken 61 (0 : Int32) o5.1 (μ.1 45 6) o5.2).bind fun o9 => opB o5.1 o9
theorem op_eq : F_X0_readOption μ = (F_X0_takeRowWord 61 (6 : Int32) μ).bind opA := rfl
theorem fx_Eo {x0 x1 x2 x3 x4 x5 : Int32} (h : FX f n k o b μ) : Op (E_o x0 x1 x2 x3 x4 x5 μ) (FX f n k o b) := by
  refine op_mb (fx_add (t := 61) tt4 h) (fun z w => ?_)
  refine op_mb (fx_put (t := 61) (j := 0) tt4 (by decide) w) (fun z1 w1 => ?_)
  refine op_mb (fx_put (t := 61) (j := 1) tt4 (by decide) w1) (fun z2 w2 => ?_)
  refine op_mb (fx_put (t := 61) (j := 2) tt4 (by decide) w2) (fun z3 w3 => ?_)
  refine op_mb (fx_put (t := 61) (j := 3) tt4 (by decide) w3) (fun z4 w4 => ?_)
  refine op_mb (fx_put (t := 61) (j := 4) tt4 (by decide) w4) (fun z5 w5 => ?_)
  exact op_mb (fx_put (t := 61) (j := 5) tt4 (by decide) w5) (fun z6 w6 => op_r w6)
theorem fx_opB {x : Int32} (h : FX f n k o b μ) : Op (opB x μ) (FX f n k o b) := fx_tcC (fun _ _ _ _ _ _ _ X => fx_Eo X) h
theorem fx_opA (h : FX f n k o b μ) : Op (opA μ) (FX f n k o b) := op_eb (fx_num h) (op_eb (fx_taken (t := 61) (j := 0) tt4 (by decide) h) (fx_opB h))
theorem gc_Eo {x0 x1 x2 x3 x4 x5 : Int32} (h : GC f n t s b μ) (R : Rok s) (hc : ct s 4 < 6) : Op (E_o x0 x1 x2 x3 x4 x5 μ) (GC f n t (rw6S s (206 + 6 * ct s 4) 4 x0 x1 x2 x3 x4 x5) b) := by
  obtain ⟨z, e, w⟩ := tb6_row (tq := 61) (a0 := x0) (a1 := x1) (a2 := x2) (a3 := x3) (a4 := x4) (a5 := x5) h.2.2.1.2.2.2.2.1 (by rw [show ln (61 + 1) = 36 by decide +kernel]; omega)
  have e2 : E_o x0 x1 x2 x3 x4 x5 μ = some z.2 := by
    have q : E_o x0 x1 x2 x3 x4 x5 μ = ((F_X2_addRow 61 μ).bind fun o1 => (F_X2_put 61 o1.1 (0 : Int32) x0 o1.2).bind fun o2 => (F_X2_put 61 o1.1 (1 : Int32) x1 o2).bind fun o3 => (F_X2_put 61 o1.1 (2 : Int32) x2 o3).bind fun o4 => (F_X2_put 61 o1.1 (3 : Int32) x3 o4).bind fun o5 => (F_X2_put 61 o1.1 (4 : Int32) x4 o5).bind fun o6 => (F_X2_put 61 o1.1 (5 : Int32) x5 o6).bind fun o7 => some (o1.1, o7)).bind fun z => some z.2 := by
      unfold E_o
      simp only [Option.bind_assoc, Option.bind_some]
    rw [q, e]
    rfl
  refine op_e e2 (h.tab w.2 ⟨by decide, by unfold LSg; omega, by unfold LSg; omega⟩ (h.2.2.1.row6 w.2 (Or.inr ⟨rfl, rfl, rfl⟩) R.1.2.2.2.1.2 R.1.2.2.2.2.1.2 ⟨fun z => absurd z (by decide), fun _ => hc⟩ R.1.2.2.2.2.1.1 ⟨R.1.1.2, R.1.2.1.1.2, R.1.2.2.1.2⟩ w.1))
theorem mx_23g {p1 : Int32} {m : Nat} {v : Int32} (h : MX f n k o b μ) : F_X4_tradeFields_23 p1 0 (m + 1) v μ = some μ := by
  rw [F_X4_tradeFields_23]
  refine be_ (mx_get (j := 4) (by decide)) ?_
  by_cases e : μ.1 297 4 ≤ v
  · rw [if_pos e]
  · rw [if_neg e, if_pos rfl]
    exact be_ (m_failed1 h.er) (if_neg n10)
theorem gm_putx {B j : Nat} {p1 i v : Int32} (hp : p1 = nI B) (hi : i = nI j) (hB : B + j < 521) (h : GM f n a s q b μ) : Op (sI μ 297 (p1 + i) v) (fun μ' => GM f n a (upd s (B + j) v) q b μ' ∧ μ'.1 295 = μ.1 295) := by
  obtain ⟨m, e, w⟩ := gm_put' hp hi hB (v := v) h
  refine op_e e ⟨w, ?_⟩
  rw [hp, hi, nI_add, sI_ok (k := B + j) rfl (by rw [ln297]; exact hB)] at e
  cases e
  exact uI_ne (by decide)
theorem m_taken4 {B c y : Nat} {p1 : Int32} {s1 : Nat → Int32} (hp : p1 = nI B) (hB : B + 0 < 521) (h : GM f n a s1 q b μ) (h4 : s1 4 = nI c) (hc : c ≤ 6) (h18 : μ.1 295 18 = nI y) : ∀ (d m i : Nat), i + d = c → d < m → (∀ r, r < i → s1 (206 + 6 * r) ≠ s1 (B + 0)) → Op (F_X4_tradeFields_23 p1 0 m (nI i) μ) (fun μ' => ((∀ r, r < c → s1 (206 + 6 * r) ≠ s1 (B + 0)) → μ' = μ) ∧ ((¬ ∀ r, r < c → s1 (206 + 6 * r) ≠ s1 (B + 0)) → MX f n 3 y b μ')) := by
  intro d
  induction d with
  | zero =>
    intro m i hi hm hq
    obtain ⟨m, rfl⟩ : ∃ z, m = z + 1 := ⟨m - 1, by omega⟩
    rw [F_X4_tradeFields_23]
    refine op_eb (gm_get h (j := 4) (by decide)) ?_
    rw [h4, if_pos (nI_le (by omega) (by omega))]
    exact op_r ⟨fun _ => rfl, fun w => absurd (fun r hr => hq r (by omega)) w⟩
  | succ d ih =>
    intro m i hi hm hq
    obtain ⟨m, rfl⟩ : ∃ z, m = z + 1 := ⟨m - 1, by omega⟩
    rw [F_X4_tradeFields_23]
    refine op_eb (gm_get h (j := 4) (by decide)) ?_
    rw [h4, if_neg (nI_ge (by omega) (by omega)), if_pos rfl]
    refine op_eb (m_failed0 h.2.2.1.1) ?_
    rw [if_pos rfl, show (206 : Int32) + 6 * nI i = nI (206 + 6 * i) from ix2 206 6 i, hp, show nI B + (0 : Int32) = nI (B + 0) from nI_add B 0]
    refine op_eb (gm_get h (j := 206 + 6 * i) (by omega)) (op_eb (gm_get h (j := B + 0) hB) ?_)
    rw [nI_1, h18]
    by_cases e : s1 (206 + 6 * i) = s1 (B + 0)
    · rw [if_pos e]
      refine op_b (op_mb (gm_fail (k := 3) (o := y) h ⟨by decide, by decide⟩) (fun m1 w => op_r ?_))
      obtain ⟨m, rfl⟩ : ∃ z, m = z + 1 := ⟨m - 1, by omega⟩
      exact op_e (mx_23g w) ⟨fun w2 => absurd e (w2 i (by omega)), fun _ => w⟩
    · rw [if_neg e, ← hp]
      exact op_br (ih m (i + 1) (by omega) (by omega) (fun r hr => by
        by_cases e2 : r = i
        · rw [e2]; exact e
        · exact hq r (by omega)))
theorem l_option (hB : BY f n) (C : GC f n t s b μc) (M : GM f n (te f n t) s (qf s) b' μm) (R : Rok s) (htn : t < n) : Op2 (F_X0_readOption μc) (F_X4_optionLine (nI t) μm) (LRs f n t b b') := by
  have h2 := R.1.2.2.1
  have h4 := R.1.2.2.2.2.1
  have h210 := h2.2
  have h46 := h4.2
  have hte := (te_le (f := f) C.1.2.1).2.2 htn
  have hsk : te f n t ≤ skp f n (te f n t) := ru_ge
  rw [mo_eq, op_eq]
  refine row2 (qt := 61) (wh := 4) (c := ct s 4) (most := 6) hB C M C.2.2.1.2.2.2.2.1.2.1 h4.1 (by decide) h46 (by decide) (fun μ1 hlt C1 => ?_) (fun k o μ1 μ2 X Y => ?_)
  · show Op2 (opA μ1) (if (1 : Int32) = 0 then _ else _) _
    rw [if_neg n10]
    refine o2_r rfl ?_
    have M1 := gm_19 (v := 1) M
    generalize uI μm 295 19 1 = m7 at *
    refine o2_r (gm_get M1 (j := 4) (by decide)) ?_
    rw [h4.1, show (206 : Int32) + 6 * nI (ct s 4) = nI (206 + 6 * ct s 4) from ix2 206 6 _, tfA_o]
    unfold opA tfA
    refine o2_r (gm_get M1 (j := 2) (by decide)) ?_
    rw [C1.2.2.1.2.2.1.2.1, h2.1, C1.1.2.2.2.2.1]
    generalize htt : skp f n (te f n t) = t1 at *
    refine num2 hB C1 M1 htt (fun v μ2 μ3 t2 a2 v1 v2 C2 M2 ht2 hl2 h18 => ?_) (fun k o w μ2 μ3 X Y => ?_)
    · obtain ⟨x0, rfl, -, hx0⟩ := i32_rp (lo := 0) v1 v2 (by decide) (by omega)
      refine o2_rb (x := (F_X0_failIfTaken 61 (0 : Int32) (nI x0) (nI t1) μ2).bind fun o9 => opB (nI x0) o9) (y := sI μ3 297 (nI (206 + 6 * ct s 4) + 0) (nI x0)) (gm_putx (j := 0) rfl rfl (by omega) M2) (fun m3 W3 => ?_)
      obtain ⟨M3, e295⟩ := W3
      have n4 : upd s (206 + 6 * ct s 4 + 0) (nI x0) 4 = nI (ct s 4) := (pk_un (by omega)).trans h4.1
      have nv : upd s (206 + 6 * ct s 4 + 0) (nI x0) (206 + 6 * ct s 4 + 0) = nI x0 := pk_us
      have no : ∀ r, r < ct s 4 → upd s (206 + 6 * ct s 4 + 0) (nI x0) (206 + 6 * r) = s (206 + 6 * r + 0) := fun r hr => pk_un (by omega)
      have hcl := x0_taken (μ := μ2) (p := 61) (c := 6) (m := ct s 4) (j := 0) (y := t1) (x := nI x0) C2.2.2.1.2.2.2.2.1 (by decide) C2.2.1.1 (by decide)
      have hml := m_taken4 (B := 206 + 6 * ct s 4) (c := ct s 4) (y := t1) rfl (by omega) M3 n4 h46 (by rw [e295]; exact h18) (ct s 4) qFuel 0 (by omega) (by unfold qFuel; omega) (fun r hr => absurd hr (Nat.not_lt_zero r))
      refine o2_lb hcl (fun m4 w4 => o2_rb hml (fun m5 w5 => ?_))
      by_cases e : ∀ r, r < ct s 4 → s (206 + 6 * r + 0) ≠ nI x0
      · obtain rfl := w4.1 e
        obtain rfl := w5.1 (fun r hr => by rw [no r hr, nv]; exact e r hr)
        refine l_trade (B := 206 + 6 * ct s 4) (h3 := 200) (h4 := 999) (l5 := 0) (h5 := 99) hB C2 M3 ht2 R (by omega) rfl (by omega) (by omega) (by decide) (fun k o a0 a1 a2 a3 a4 a5 m X => fx_Eo X) (fun k o m Y => mx_Ko Y) (fun x1 x2 x3 x4 x5 μ6 μ7 t3 a3 hx1 hx2 hx3 hx4 hx5 C3 M4 ht3 hl3 => ?_)
        have R' := rok_row6 (B := 206 + 6 * ct s 4) (c := 4) (a0 := nI x0) (a1 := nI x1) (a2 := nI x2) (a3 := nI x3) (a4 := nI x4) (a5 := nI x5) R (Or.inr ⟨rfl, rfl⟩) ⟨fun z => absurd z (by decide), fun _ => hlt⟩ (fun z => absurd z (by decide)) (fun _ => ⟨row_l R hx0 hx1 hx2, Bn.mk (v := x4) rfl hx4 (by decide), Bn.mk (v := x5) rfl hx5 (by decide)⟩)
        refine o2_of (gc_Eo C3 R hlt) (gm_fin (c := 4) (by decide) (by omega) M4) (fun z1 z2 Z1 Z2 => Or.inl ⟨t3, a3, _, Z1, ?_, ht3, R', by omega⟩)
        have eq : qf (rw6S s (206 + 6 * ct s 4) 4 (nI x0) (nI x1) (nI x2) (nI x3) (nI x4) (nI x5)) = 1 := by
          unfold qf
          rw [ct_eq (rw6S_n (by decide) (by omega)), if_neg (by omega)]
        rw [eq]
        exact Z2
      · have X := C2.fx (k := 3) (o := t1) ⟨by decide, by decide⟩ (w4.2 e).1 (w4.2 e).2
        have Y := w5.2 (fun z => e (fun r hr => by have := z r hr; rw [no r hr, nv] at this; exact this))
        exact o2_of (fx_opB X) (mx_tfB rfl (by omega) (fun m Y => mx_Ko Y) Y) (fun _ _ X Y => lrX X Y)
    · exact o2_of (op_eb (fx_taken (t := 61) (j := 0) tt4 (by decide) X) (fx_opB X)) (mx_tf0 rfl (by omega) (fun m Y => mx_Ko Y) Y) (fun _ _ X Y => lrX X Y)
  · exact o2_of (fx_opA X) (op_t rfl (op_r Y)) (fun _ _ X Y => lrX X Y)
end LOP
