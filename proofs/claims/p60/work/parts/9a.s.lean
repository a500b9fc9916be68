/-! ===== a reach's line ===== -/
section LRCH
variable {f : Nat → Int32} {n t a k o : Nat} {s s' : Nat → Int32} {q : Int32} {b b' μ μ' μc μm : Mm}
end LRCH

