/-! calls that are not proved yet -/
theorem op_feed {g : Nat} {x1 : Int32} {x2 : Int32} {x3 : Int32} {x4 : Int32} {x5 : Int32} : Dir g (fun M => p11_feed (ob g 0) x1 x2 x3 x4 x5 M) (fun M => p12_feed (ob g 287) x1 x2 x3 x4 x5 M) := sorry
theorem op_family {g : Nat}  : Op g H_family (fun M => p11_family (ob g 0) M) (fun M => p12_family (ob g 287) M) := sorry
theorem op_law {g : Nat}  : Op g H_law (fun M => p11_law (ob g 0) M) (fun M => p12_law (ob g 287) M) := sorry
theorem op_bear {g : Nat} {x1 : Int32} {x2 : Bool} : Op g H_bear (fun M => p11_bear (ob g 0) x1 (ib x2) M) (fun M => p12_bear (ob g 287) x1 (ib x2) M) := sorry
theorem op_fewest {g : Nat} {x1 : Int32} {x2 : Int32} : Op g H_fewest (fun M => p11_fewest (ob g 0) x1 x2 M) (fun M => p12_fewest (ob g 287) x1 x2 M) := sorry
theorem op_first {g : Nat} {x1 : Int32} {x2 : Int32} : Op g H_first (fun M => p11_first (ob g 0) x1 x2 M) (fun M => p12_first (ob g 287) x1 x2 M) := sorry
theorem op_can {g : Nat} {x1 : Int32} {x2 : Int32} : Op g H_can (fun M => p11_can (ob g 0) x1 x2 M) (fun M => p12_can (ob g 287) x1 x2 M) := sorry
theorem op_said {g : Nat} {x1 : Int32} : Op g H_said (fun M => p11_said (ob g 0) x1 M) (fun M => p12_said (ob g 287) x1 M) := sorry
theorem op_ask {g : Nat} {x1 : Int32} : Op g H_ask (fun M => p11_ask (ob g 0) x1 M) (fun M => p12_ask (ob g 287) x1 M) := sorry
theorem op_match {g : Nat} {x1 : Bool} : Dir g (fun M => p11_match (ob g 0) (ib x1) M) (fun M => p12_match (ob g 287) (ib x1) M) := sorry
theorem op_mate {g : Nat} {x1 : Int32} : Op g H_mate (fun M => p11_mate (ob g 0) x1 M) (fun M => p12_mate (ob g 287) x1 M) := sorry
theorem op_stable {g : Nat} {x1 : Int32} : Op g H_stable (fun M => p11_stable (ob g 0) x1 M) (fun M => p12_stable (ob g 287) x1 M) := sorry
theorem op_kin {g : Nat} {x1 : Int32} {x2 : Int32} : Op g H_kin (fun M => (p11_kin (ob g 0) x1 x2 M).map (fun z => match z with | .inl e => .inl e | .inr v => .inr (v, M))) (fun M => p12_kin (ob g 287) x1 x2 M) := sorry
