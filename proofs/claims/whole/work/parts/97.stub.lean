/-! calls that are not proved yet -/
theorem op_law {g : Nat}  : Op g H_law (fun M => p11_law (ob g 0) M) (fun M => p12_law (ob g 287) M) := sorry
