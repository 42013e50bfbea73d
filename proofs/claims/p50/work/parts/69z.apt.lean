/-- apart, hidden from the counting tactics -/
def Apt (a b : Nat) : Prop := a ≠ b
