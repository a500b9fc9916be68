/-! ===== the option's line ===== -/
section LOP
variable {f : Nat → Int32} {n t a k o : Nat} {s s' : Nat → Int32} {q : Int32} {b b' μ μ' μc μm : Mm}
def E_o : E6 := fun a0 a1 a2 a3 a4 a5 μ => (F_X2_addRow 61 μ).bind fun o32 => (F_X2_put 61 o32.1 (0 : Int32) a0 o32.2).bind fun o36 => (F_X2_put 61 o32.1 (1 : Int32) a1 o36).bind fun o39 => (F_X2_put 61 o32.1 (2 : Int32) a2 o39).bind fun o42 => (F_X2_put 61 o32.1 (3 : Int32) a3 o42).bind fun o45 => (F_X2_put 61 o32.1 (4 : Int32) a4 o45).bind fun o48 => (F_X2_put 61 o32.1 (5 : Int32) a5 o48).bind fun o51 => some o51
def opB (x : Int32) (μ : Mm) : Option Mm := tcC 200 999 0 99 E_o x μ
def opA (μ : Mm) : Option Mm := (F_X0_takeNumber (0 : Int32) ((μ.1 55 2) - (1 : Int32)) μ).bind fun o5 => (F_X0_failIfTaken 61 (0 : Int32) o5.1 (μ.1 45 6) o5.2).bind fun o9 => opB o5.1 o9
theorem op_eq : F_X0_readOption μ = (F_X0_takeRowWord 61 (6 : Int32) μ).bind opA := rfl
theorem fx_Eo {x0 x1 x2 x3 x4 x5 : Int32} (h : FX f n k o b μ) : Op (E_o x0 x1 x2 x3 x4 x5 μ) (FX f n k o b) := by
  refine op_mb (fx_add (t := 61) tt4 h) (fun z w => ?_)
  refine op_mb (fx_put (t := 61) (j := 0) tt4 (by decide) w) (fun z1 w1 => ?_)
  refine op_mb (fx_put (t := 61) (j := 1) tt4 (by decide) w1) (fun z2 w2 => ?_)
  refine op_mb (fx_put (t := 61) (j := 2) tt4 (by decide) w2) (fun z3 w3 => ?_)
  refine op_mb (fx_put (t := 61) (j := 3) tt4 (by decide) w3) (fun z4 w4 => ?_)
  refine op_mb (fx_put (t := 61) (j := 4) tt4 (by decide) w4) (fun z5 w5 => ?_)
  exact op_mb (fx_put (t := 61) (j := 5) tt4 (by decide) w5) (fun z6 w6 => op_r w6)
theorem fx_opB {x : Int32} (h : FX f n k o b μ) : Op (opB x μ) (FX f n k o b) := fx_tcC (fun _ _ _ _ _ _ _ X => fx_Eo X) h
theorem fx_opA (h : FX f n k o b μ) : Op (opA μ) (FX f n k o b) := op_eb (fx_num h) (op_eb (fx_taken (t := 61) (j := 0) tt4 (by decide) h) (fx_opB h))
theorem gc_Eo {x0 x1 x2 x3 x4 x5 : Int32} (h : GC f n t s b μ) (R : Rok s) (hc : ct s 4 < 6) : Op (E_o x0 x1 x2 x3 x4 x5 μ) (GC f n t (rw6S s (206 + 6 * ct s 4) 4 x0 x1 x2 x3 x4 x5) b) := by
  obtain ⟨z, e, w⟩ := tb6_row (tq := 61) (a0 := x0) (a1 := x1) (a2 := x2) (a3 := x3) (a4 := x4) (a5 := x5) h.2.2.1.2.2.2.2.1 (by rw [show ln (61 + 1) = 36 by decide +kernel]; omega)
  have e2 : E_o x0 x1 x2 x3 x4 x5 μ = some z.2 := by
    have q : E_o x0 x1 x2 x3 x4 x5 μ = ((F_X2_addRow 61 μ).bind fun o1 => (F_X2_put 61 o1.1 (0 : Int32) x0 o1.2).bind fun o2 => (F_X2_put 61 o1.1 (1 : Int32) x1 o2).bind fun o3 => (F_X2_put 61 o1.1 (2 : Int32) x2 o3).bind fun o4 => (F_X2_put 61 o1.1 (3 : Int32) x3 o4).bind fun o5 => (F_X2_put 61 o1.1 (4 : Int32) x4 o5).bind fun o6 => (F_X2_put 61 o1.1 (5 : Int32) x5 o6).bind fun o7 => some (o1.1, o7)).bind fun z => some z.2 := by
      unfold E_o
      simp only [Option.bind_assoc, Option.bind_some]
    rw [q, e]
    rfl
  refine op_e e2 (h.tab w.2 ⟨by decide, by unfold LSg; omega, by unfold LSg; omega⟩ (h.2.2.1.row6 w.2 (Or.inr ⟨rfl, rfl, rfl⟩) R.1.2.2.2.1.2 R.1.2.2.2.2.1.2 ⟨fun z => absurd z (by decide), fun _ => hc⟩ R.1.2.2.2.2.1.1 ⟨R.1.1.2, R.1.2.1.1.2, R.1.2.2.1.2⟩ w.1))
end LOP

