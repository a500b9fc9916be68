/-! ===== the reference: banks, flows, the history ===== -/
section MQ
variable {μ : Mm}
/-- the claims' rights are numbers of rights -/
def CRt (s : Nat → Int32) : Prop := ∀ c, c < ct s 56 → s (242 + 8 * c + 1) = nI (ct s (242 + 8 * c + 1)) ∧ ct s (242 + 8 * c + 1) < 10
end MQ
