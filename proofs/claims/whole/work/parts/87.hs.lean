/-! the numbers that the law knows what is thrown by -/
def H_family (k : Nat) : Int32 := if k = 0 then 1 else if k = 3 then 2 else 0
def H_law (k : Nat) : Int32 := if k = 0 then 1 else 0
def H_person (k : Nat) : Int32 := if k = 2 then 1 else if k = 4 then 2 else 0
def H_lent (k : Nat) : Int32 := if k = 2 then 1 else if k = 0 then 2 else 0
def H_weighs (k : Nat) : Int32 := if k = 2 then 1 else if k = 0 then 2 else 0
def H_gap (k : Nat) : Int32 := if k = 2 then 1 else if k = 0 then 2 else 0
def H_say (k : Nat) : Int32 := if k = 2 then 1 else if k = 1 then 2 else 0
def H_bear (k : Nat) : Int32 := if k = 2 then 1 else if k = 1 then 2 else 0
def H_wed (k : Nat) : Int32 := if k = 2 then 1 else if k = 0 then 2 else if k = 1 then 3 else 0
def H_part (k : Nat) : Int32 := if k = 2 then 1 else if k = 1 then 2 else 0
def H_lend (k : Nat) : Int32 := if k = 2 then 1 else if k = 0 then 2 else if k = 1 then 3 else 0
def H_use (k : Nat) : Int32 := if k = 2 then 1 else if k = 1 then 2 else 0
def H_govern (k : Nat) : Int32 := if k = 2 then 1 else if k = 0 then 2 else 0
def H_stern (k : Nat) : Int32 := if k = 2 then 1 else if k = 0 then 2 else 0
def H_days (k : Nat) : Int32 := if k = 0 then 1 else 0
def H_would (k : Nat) : Int32 := if k = 2 then 1 else if k = 0 then 2 else 0
def H_fewest (k : Nat) : Int32 := if k = 2 then 1 else if k = 0 then 2 else 0
def H_first (k : Nat) : Int32 := if k = 2 then 1 else if k = 0 then 2 else 0
def H_can (k : Nat) : Int32 := if k = 2 then 1 else if k = 0 then 2 else 0
def H_harsh (k : Nat) : Int32 := if k = 2 then 1 else 0
def H_kind (k : Nat) : Int32 := if k = 2 then 1 else 0
def H_over (k : Nat) : Int32 := if k = 2 then 1 else 0
def H_said (k : Nat) : Int32 := if k = 2 then 1 else if k = 0 then 2 else 0
def H_ask (k : Nat) : Int32 := if k = 2 then 1 else if k = 0 then 2 else 0
def H_mate (k : Nat) : Int32 := if k = 2 then 1 else 0
def H_stable (k : Nat) : Int32 := if k = 2 then 1 else 0
def H_owes (k : Nat) : Int32 := if k = 2 then 1 else if k = 0 then 2 else 0
def H_ring (k : Nat) : Int32 := if k = 2 then 1 else 0
def H_rests (k : Nat) : Int32 := if k = 2 then 1 else if k = 0 then 2 else if k = 1 then 3 else 0
def H_mild (k : Nat) : Int32 := if k = 0 then 1 else 0
def H_branch (k : Nat) : Int32 := if k = 2 then 1 else 0
def H_kin (k : Nat) : Int32 := if k = 2 then 1 else if k = 0 then 2 else 0
def H_cousins (k : Nat) : Int32 := if k = 2 then 1 else 0
def H_under (k : Nat) : Int32 := if k = 2 then 1 else 0
def H_odds (k : Nat) : Int32 := if k = 2 then 1 else if k = 0 then 2 else 0
def H_ahead (k : Nat) : Int32 := if k = 2 then 1 else if k = 0 then 2 else 0
def H_trial (k : Nat) : Int32 := if k = 0 then 1 else 0
def H_span (k : Nat) : Int32 := if k = 0 then 1 else 0
def H_led (k : Nat) : Int32 := if k = 2 then 1 else 0
def H_log (k : Nat) : Int32 := if k = 4 then 1 else 0
/-- the same, where both answer true or false -/
def OpB (g : Nat) (H : Nat → Int32) (E : mMem → Option ((Nat × mMem) ⊕ (Int32 × mMem))) (Q : mMem → Option (Int32 × mMem)) : Prop := ∀ (s : tS) (l : tL) (r : Nat → Nat), INV s r →
  (∃ e s1 r1 s2 w, E (mm g s l r) = some (.inl (e, mm g s1 l r1)) ∧ (H e ≠ 0) ∧ Q (mm g s1 l r1) = some (w, mm g s2 l r1) ∧ s2 287 0 = H e ∧ INV s2 r1)
  ∨ (∃ y s1 r1, E (mm g s l r) = some (.inr (ib y, mm g s1 l r1)) ∧ ∀ l1 : tL, ∃ s2, Q (mm g s1 l1 r1) = some (ib y, mm g s2 l1 r1) ∧ s2 287 0 = 0 ∧ INV s2 r1)
def BothB (g : Nat) (P : mMem → Option (Int32 × mMem)) (Q : mMem → Option (Int32 × mMem)) : Prop := ∀ (s : tS) (l : tL) (r : Nat → Nat), INV s r → ∃ k w s1 l1 s2 r1, P (mm g s l r) = some (k, mm g s1 l1 r1) ∧ Q (mm g s1 l1 r1) = some (w, mm g s2 l1 r1) ∧ s2 287 0 = k ∧ (k = 0 → ∃ y, w = ib y ∧ l1 304 0 = (ib y).toInt64) ∧ INV s2 r1
/-- a call that throws nothing -/
def Dir (g : Nat) (P : mMem → Option (Int32 × mMem)) (Q : mMem → Option (Int32 × mMem)) : Prop := ∀ (s : tS) (l : tL) (r : Nat → Nat), INV s r → ∃ v s1 r1 s2, P (mm g s l r) = some (v, mm g s1 l r1) ∧ Q (mm g s1 l r1) = some (v, mm g s2 l r1) ∧ INV s2 r1
def Dir1 (g : Nat) (P : mMem → Option Int32) (Q : mMem → Option (Int32 × mMem)) : Prop := ∀ (s : tS) (l : tL) (r : Nat → Nat), INV s r → ∃ v s2, P (mm g s l r) = some v ∧ Q (mm g s l r) = some (v, mm g s2 l r) ∧ INV s2 r
theorem ib_long {b : Bool} : (ib b).toInt64 = (if b = true then 1 else 0) := by cases b <;> decide
section
variable {g : Nat}
theorem both_ofB {H : Nat → Int32} {E : mMem → Option ((Nat × mMem) ⊕ (Int32 × mMem))} {Q : mMem → Option (Int32 × mMem)} {hd : Nat → mMem → Option (Int32 × mMem)} (h : OpB g H E Q) (hH : ∀ e M, H e ≠ 0 → hd e M = some (H e, M)) : BothB g (fun M => xc (E M) hd fun q_1 => if q_1.1 = 0 then pL_govern_J18 (ob g 304) 0 0 q_1.2 else pL_govern_J18 (ob g 304) 0 1 q_1.2) Q := by
  intro s l r hI
  rcases h s l r hI with ⟨e, s1, r1, s2, w, h1, h2, h3, h4, h5⟩ | ⟨y, s1, r1, h1, h2⟩
  · refine ⟨H e, w, s1, l, s2, r1, ?_, h3, h4, fun hc => absurd hc h2, h5⟩
    show xc (E (mm g s l r)) hd _ = _
    rw [h1, xc]
    exact hH e _ h2
  · obtain ⟨s2, h3, h4, h5⟩ := h2 (up2 l 304 0 (ib y).toInt64)
    refine ⟨0, ib y, s1, up2 l 304 0 (ib y).toInt64, s2, r1, ?_, h3, h4, fun _ => ⟨y, rfl, up2_eq⟩, h5⟩
    show xc (E (mm g s l r)) hd _ = _
    rw [h1, xc]
    show (if ib y = 0 then pL_govern_J18 (ob g 304) 0 0 (mm g s1 l r1) else pL_govern_J18 (ob g 304) 0 1 (mm g s1 l r1)) = _
    cases y with
    | false =>
      show pL_govern_J18 (ob g 304) 0 0 (mm g s1 l r1) = _
      rw [pL_govern_J18, o_astL]
      rfl
    | true =>
      show pL_govern_J18 (ob g 304) 0 1 (mm g s1 l r1) = _
      rw [pL_govern_J18, o_astL]
      rfl
theorem both_ofB' {H : Nat → Int32} {E : mMem → Option ((Nat × mMem) ⊕ Int32)} {Q : mMem → Option (Int32 × mMem)} {hd : Nat → mMem → Option (Int32 × mMem)} (h : OpB g H (fun M => (E M).map (fun z => match z with | .inl e => .inl e | .inr v => .inr (v, M))) Q) (hH : ∀ e M, H e ≠ 0 → hd e M = some (H e, M)) : BothB g (fun M => xc (E M) hd fun v_1 => if v_1 = 0 then pL_ring_J15 (ob g 304) 0 0 M else pL_ring_J15 (ob g 304) 0 1 M) Q := by
  intro s l r hI
  obtain ⟨k, w, s1, l1, s2, r1, a1, a2⟩ := both_ofB h hH s l r hI
  refine ⟨k, w, s1, l1, s2, r1, ?_, a2⟩
  rw [← a1]
  show xc (E (mm g s l r)) hd _ = xc ((E (mm g s l r)).map _) hd _
  cases E (mm g s l r) with
  | none => rfl
  | some z => cases z <;> rfl
end
