/-! ===== a reach's line ===== -/
section LRCH
variable {f : Nat → Int32} {n t a k o : Nat} {s s' : Nat → Int32} {q : Int32} {b b' μ μ' μc μm : Mm}
def lrX {μc μm : Mm} (X : FX f n k o b μc) (Y : MX f n k o b' μm) : LRs f n t b b' μc μm := Or.inr ⟨k, o, X, Y⟩
def mrA (x7 : Int32) (z : Int32 × Mm) : Option Mm := (sI z.2 297 ((14 : Int32) + x7) z.1).bind fun m19 => (aI m19 297 (0 : Int32)).bind fun x21 => (sI m19 297 (0 : Int32) (x21 + (1 : Int32))).bind fun m23 => some m23
def mrB (x7 : Int32) (z : Int32 × Mm) : Option Mm := (sI z.2 297 ((8 : Int32) + x7) z.1).bind fun m13 => (F_X4_number (0 : Int32) (999 : Int32) m13).bind fun o16 => mrA x7 o16
theorem mr_eq {p1 : Int32} : F_X4_reachLine p1 μ = (F_X4_isRoom (nI 0) (nI 6) p1 μ).bind fun o2 => if o2.1 = 0 then some o2.2 else ((aI o2.2 297 (0 : Int32)).bind fun x7 => (F_X4_number (0 : Int32) (999 : Int32) o2.2).bind fun o10 => mrB x7 o10) := rfl
theorem mx_mrA {c : Nat} {w : Int32} (hc : c < 6) (h : MX f n k o b μ) : Op (mrA (nI c) (w, μ)) (MX f n k o b) := by
  refine op_mb (P := MX f n k o b) (x := sI μ 297 ((14 : Int32) + nI c) w) (by rw [show (14 : Int32) + nI c = nI (14 + c) from nI_add 14 c]; exact mx_put h (by omega)) (fun m1 w1 => ?_)
  refine op_eb (mx_get (j := 0) (by decide)) (op_mb (mx_put (j := 0) w1 (by decide)) (fun m2 w2 => op_r w2))
theorem mx_mrB {c : Nat} {w : Int32} (hc : c < 6) (h : MX f n k o b μ) : Op (mrB (nI c) (w, μ)) (MX f n k o b) := by
  refine op_mb (P := MX f n k o b) (x := sI μ 297 ((8 : Int32) + nI c) w) (by rw [show (8 : Int32) + nI c = nI (8 + c) from nI_add 8 c]; exact mx_put h (by omega)) (fun m1 w1 => ?_)
  exact op_eb (mx_num w1) (mx_mrA hc w1)
theorem gm_mrA {c : Nat} {x v : Int32} {s : Nat → Int32} (hc : c < 6) (h0 : s 0 = nI c) (h : GM f n a (upd s (8 + c) x) q b μ) : Op (mrA (nI c) (v, μ)) (GM f n a (upd (upd (upd s (8 + c) x) (14 + c) v) 0 (s 0 + 1)) q b) := by
  refine op_mb (x := sI μ 297 ((14 : Int32) + nI c) v) (Q := GM f n a (upd (upd s (8 + c) x) (14 + c) v) q b) (by rw [show (14 : Int32) + nI c = nI (14 + c) from nI_add 14 c]; exact gm_put h (by omega)) (fun m1 w1 => ?_)
  refine op_eb (gm_get w1 (j := 0) (by decide)) ?_
  rw [pk_un (by omega), pk_un (by omega)]
  exact op_mb (gm_put (j := 0) w1 (by decide)) (fun m2 w2 => op_r w2)
theorem l_reach (hB : BY f n) (C : GC f n t s b μc) (M : GM f n (te f n t) s (qf s) b' μm) (R : Rok s) (htn : t < n) : Op2 (F_X0_readReach μc) (F_X4_reachLine (nI t) μm) (LRs f n t b b') := by
  have h0 := R.1.1
  have h6 := h0.2
  have hte := (te_le (f := f) C.1.2.1).2.2 htn
  have hsk : te f n t ≤ skp f n (te f n t) := ru_ge
  rw [mr_eq, rr_eq]
  refine row2 (qt := 48) (wh := 0) (c := ct s 0) (most := 6) hB C M C.2.2.1.1.2.1 h0.1 (by decide) h6 (by decide) (fun μ1 hlt C1 => ?_) (fun k o μ1 μ2 X Y => ?_)
  · show Op2 (rrC μ1) (if (1 : Int32) = 0 then _ else _) _
    rw [if_neg n10]
    refine o2_r (gm_get M (j := 0) (by decide)) ?_
    show Op2 ((F_X0_takeNumber (0 : Int32) (999 : Int32) μ1).bind fun o5 => rrB o5.1 o5.2) ((F_X4_number (0 : Int32) (999 : Int32) μm).bind fun o10 => mrB (s 0) o10) _
    rw [h0.1]
    refine num2 hB C1 M rfl (fun v μ2 μ3 t2 a2 v1 v2 C2 M2 ht2 hl2 _ => ?_) (fun k o w μ2 μ3 X Y => ?_)
    · show Op2 (rrB v μ2) (mrB (nI (ct s 0)) (v, μ3)) _
      obtain ⟨x, rfl, -, hx⟩ := i32_rg (lo := 0) (hi := 999) v1 v2 (by decide) (by decide)
      refine o2_rb (x := rrB (nI x) μ2) (y := sI μ3 297 ((8 : Int32) + nI (ct s 0)) (nI x)) (B := GM f n a2 (upd s (8 + ct s 0) (nI x)) (qf s) b') (by rw [show (8 : Int32) + nI (ct s 0) = nI (8 + ct s 0) from nI_add 8 _]; exact gm_put M2 (by omega)) (fun m3 M3 => ?_)
      refine num2 hB C2 M3 ht2 (fun v μ4 μ5 t3 a3 v1 v2 C3 M3 ht3 hl3 _ => ?_) (fun k o w μ4 μ5 X Y => ?_)
      · obtain ⟨y, rfl, -, hy⟩ := i32_rg (lo := 0) (hi := 999) v1 v2 (by decide) (by decide)
        refine o2_of (gc_rrA (x := nI x) (y := nI y) C3 R hlt) (gm_mrA (by omega) h0.1 M3) (fun z1 z2 Z1 Z2 => Or.inl ⟨t3, a3, reS2 s (nI x) (nI y), Z1, ?_, ht3, rok_reach R hlt hx hy, by omega⟩)
        have e2 : ct (reS2 s (nI x) (nI y)) 2 = ct s 2 := ct_eq (by unfold reS2; rw [pk_un (by decide), pk_un (by omega), pk_un (by omega)])
        unfold qf
        rw [e2]
        exact Z2
      · exact o2_of (fx_rrA X) (mx_mrA (by omega) Y) (fun _ _ X Y => lrX X Y)
    · exact o2_of (fx_rrB X) (mx_mrB (by omega) Y) (fun _ _ X Y => lrX X Y)
  · exact o2_of (fx_rrC X) (op_t rfl (op_r Y)) (fun _ _ X Y => lrX X Y)
end LRCH
