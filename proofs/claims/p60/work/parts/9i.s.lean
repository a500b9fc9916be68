/-! ===== the right's line: its parts ===== -/
section RGT
variable {f : Nat → Int32} {n t a k o : Nat} {s s' : Nat → Int32} {q : Int32} {b b' μ μ' μc μm : Mm}
theorem wd_te {w : Nat} (hw : w < 10) (ht : t ≤ n) (h : wdB f n t w = true) : te f n t = t + wL w ∧ t < n := by
  have hl := (wC_rg w hw).1
  have h1 := (of_decide_eq_true h).1
  have hb := ru_b (P := letB) (f := f) ht
  have e1 : tk f n t = 1 := Decidable.byContradiction (fun z => by
    have := ru_nolet z
    omega)
  exact ⟨(te_let e1).trans h1, (tk1.mp e1).1⟩
/-! the class' parts -/
def rgH (a0 a1 a2 a3 a4 a5 a6 : Int32) (μ : Mm) : Option Mm := (F_X2_addRow 55 μ).bind fun o63 => (F_X2_put 55 o63.1 (0 : Int32) a0 o63.2).bind fun o67 => (F_X2_put 55 o63.1 (1 : Int32) a1 o67).bind fun o70 => (F_X2_put 55 o63.1 (2 : Int32) a2 o70).bind fun o73 => (F_X2_put 55 o63.1 (3 : Int32) a3 o73).bind fun o76 => (F_X2_put 55 o63.1 (4 : Int32) a4 o76).bind fun o79 => (F_X2_put 55 o63.1 (5 : Int32) a5 o79).bind fun o82 => (F_X2_put 55 o63.1 (6 : Int32) a6 o82).bind fun o85 => some o85
def rgG (a0 a1 a2 a3 a4 a5 : Int32) (μ : Mm) : Option Mm := (F_X0_isWord 7 μ).bind fun o46 => (if o46 = 0 then (some ((0 : Int32), μ)) else ((F_X0_nextToken μ).bind fun o55 => (F_X0_takeNumber (0 : Int32) (100 : Int32) o55).bind fun o58 => some (o58.1, o58.2))).bind fun o61 => rgH a0 a1 a2 a3 a4 a5 o61.1 o61.2
def rgF (a0 a1 a2 a3 : Int32) (μ : Mm) : Option Mm := (F_X0_isWord 6 μ).bind fun o24 => (if o24 = 0 then (some ((0 : Int32), a1, μ)) else ((F_X0_nextToken μ).bind fun o34 => (F_X0_takeNumber (0 : Int32) (90 : Int32) o34).bind fun o37 => (F_X0_takeNumber a1 ((o37.2.1 48 2) - (1 : Int32)) o37.2).bind fun o41 => some (o37.1, o41.1, o41.2))).bind fun o44 => rgG a0 a1 a2 a3 o44.1 o44.2.1 o44.2.2
def rgE (a0 a1 a2 : Int32) (μ : Mm) : Option Mm := (F_X0_takeNumber (1 : Int32) (999 : Int32) μ).bind fun o20 => rgF a0 a1 a2 o20.1 o20.2
def rgD (a0 a1 off : Int32) (z : Int32 × Mm) : Option Mm := (F_X0_failIfTaken 55 (2 : Int32) z.1 off z.2).bind fun o17 => rgE a0 a1 z.1 o17
def rgC (a0 a1 : Int32) (μ : Mm) : Option Mm := (F_X0_takeNumber (1 : Int32) (99 : Int32) μ).bind fun o13 => rgD a0 a1 (μ.1 45 6) o13
def rgB (a0 : Int32) (μ : Mm) : Option Mm := (F_X0_takeNumber (0 : Int32) ((μ.1 48 2) - (1 : Int32)) μ).bind fun o9 => rgC a0 o9.1 o9.2
def rgA (μ : Mm) : Option Mm := (F_X0_takeNumber (0 : Int32) ((μ.1 52 2) - (1 : Int32)) μ).bind fun o5 => rgB o5.1 o5.2
theorem rg_eq : F_X0_readRight μ = (F_X0_takeRowWord 55 (10 : Int32) μ).bind rgA := rfl
theorem fx_rgH {a0 a1 a2 a3 a4 a5 a6 : Int32} (h : FX f n k o b μ) : Op (rgH a0 a1 a2 a3 a4 a5 a6 μ) (FX f n k o b) := by
  refine op_mb (fx_add (t := 55) tt2 h) (fun z w => ?_)
  refine op_mb (fx_put (t := 55) (j := 0) tt2 (by decide) w) (fun z1 w1 => ?_)
  refine op_mb (fx_put (t := 55) (j := 1) tt2 (by decide) w1) (fun z2 w2 => ?_)
  refine op_mb (fx_put (t := 55) (j := 2) tt2 (by decide) w2) (fun z3 w3 => ?_)
  refine op_mb (fx_put (t := 55) (j := 3) tt2 (by decide) w3) (fun z4 w4 => ?_)
  refine op_mb (fx_put (t := 55) (j := 4) tt2 (by decide) w4) (fun z5 w5 => ?_)
  refine op_mb (fx_put (t := 55) (j := 5) tt2 (by decide) w5) (fun z6 w6 => ?_)
  exact op_mb (fx_put (t := 55) (j := 6) tt2 (by decide) w6) (fun z7 w7 => op_r w7)
theorem fx_rgG {a0 a1 a2 a3 a4 a5 : Int32} (hB : BY f n) (h : FX f n k o b μ) : Op (rgG a0 a1 a2 a3 a4 a5 μ) (FX f n k o b) := by
  unfold rgG
  rcases fx_isW hB.1 (show 7 < 10 by decide) h with e | e
  · exact op_eb e (op_b (op_t rfl (op_r (fx_rgH h))))
  · exact op_eb e (op_b (op_f n10 (op_mb (fx_next hB.1 h) (fun m w => op_eb (fx_num w) (op_r (fx_rgH w))))))
theorem fx_rgF {a0 a1 a2 a3 : Int32} (hB : BY f n) (h : FX f n k o b μ) : Op (rgF a0 a1 a2 a3 μ) (FX f n k o b) := by
  unfold rgF
  rcases fx_isW hB.1 (show 6 < 10 by decide) h with e | e
  · exact op_eb e (op_b (op_t rfl (op_r (fx_rgG hB h))))
  · exact op_eb e (op_b (op_f n10 (op_mb (fx_next hB.1 h) (fun m w => op_eb (fx_num w) (op_eb (fx_num w) (op_r (fx_rgG hB w)))))))
theorem fx_rgE {a0 a1 a2 : Int32} (hB : BY f n) (h : FX f n k o b μ) : Op (rgE a0 a1 a2 μ) (FX f n k o b) := op_eb (fx_num h) (fx_rgF hB h)
theorem fx_rgD {a0 a1 off v : Int32} (hB : BY f n) (h : FX f n k o b μ) : Op (rgD a0 a1 off (v, μ)) (FX f n k o b) := op_eb (fx_taken (t := 55) (j := 2) tt2 (by decide) h) (fx_rgE hB h)
theorem fx_rgC {a0 a1 : Int32} (hB : BY f n) (h : FX f n k o b μ) : Op (rgC a0 a1 μ) (FX f n k o b) := op_eb (fx_num h) (fx_rgD hB h)
theorem fx_rgB {a0 : Int32} (hB : BY f n) (h : FX f n k o b μ) : Op (rgB a0 μ) (FX f n k o b) := op_eb (fx_num h) (fx_rgC hB h)
theorem fx_rgA (hB : BY f n) (h : FX f n k o b μ) : Op (rgA μ) (FX f n k o b) := op_eb (fx_num h) (fx_rgB hB h)
/-! the reference's parts -/
section MGX
variable {r : Nat} {a1 v : Int32}
end MGX
end RGT

