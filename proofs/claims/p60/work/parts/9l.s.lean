/-! ===== a line ===== -/
section LLN
variable {f : Nat → Int32} {n t a k o t0 : Nat} {s s' : Nat → Int32} {q : Int32} {b b' μ μ' μc μm : Mm}
theorem o2_eta {α β : Type} {x : Option α} {y : Option β} {P : α → β → Prop} (h : Op2 x y P) : Op2 (x.bind fun a => some a) (y.bind fun a => some a) P := o2_b h (fun a b q => o2_rt q)
def cT (μ : Mm) : Option Mm := (F_X0_isWord 5 μ).bind fun o27 => if o27 = 0 then ((F_X0_isWord 8 μ).bind fun o32 => if o32 = 0 then ((F_X0_isWord 9 μ).bind fun o37 => if o37 = 0 then ((F_X0_fail (1 : Int32) (μ.1 45 6) μ).bind fun o42 => some o42) else ((F_X0_readOption μ).bind fun o45 => some o45)) else ((F_X0_readLease μ).bind fun o48 => some o48)) else ((F_X0_readRight μ).bind fun o51 => some o51)
end LLN

