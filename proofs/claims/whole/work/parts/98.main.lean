/-! the law, step by step -/
theorem lg_self {v : Int64} : lg_cmp v v = 0 := by simp [lg_cmp]
theorem swI_skip {α : Type} {x c : Int32} {d B b : Option α} {rs : List (Int32 × Option α)} (h : x ≠ c) (k : swI x d rs = B) : swI x d ((c, b) :: rs) = B := by rw [swI, if_neg h]; exact k
theorem swI_hit {α : Type} {c : Int32} {d b : Option α} {rs : List (Int32 × Option α)} : swI c d ((c, b) :: rs) = b := by rw [swI, if_pos rfl]
section
variable {g : Nat} {s : tS} {l : tL} {r : Nat → Nat}
theorem m_thrown : p12_thrown (ob g 287) (mm g s l r) = some (s 287 0) := by simp only [p12_thrown, w_gd, w_getI, obs]
end
theorem b_family {g : Nat}  : Both g (fun M => pL_family (ob g 0) (ob g 304) M) (fun M => p12_family (ob g 287) M) := both_of op_family (by
  intro e M he
  unfold H_family at he ⊢
  by_cases h0 : e = 0
  · simp [h0]
  by_cases h3 : e = 3
  · simp [h3]
  exact absurd (by simp [h0, h3, if_false]) he)
theorem b_law {g : Nat}  : Both g (fun M => pL_law (ob g 0) (ob g 304) M) (fun M => p12_law (ob g 287) M) := both_of op_law (by
  intro e M he
  unfold H_law at he ⊢
  by_cases h0 : e = 0
  · simp [h0]
  exact absurd (by simp [h0, if_false]) he)
theorem b_person {g : Nat} {x1 : Int32} {x2 : Int32} : Both g (fun M => pL_person (ob g 0) x1 x2 (ob g 304) M) (fun M => p12_person (ob g 287) x1 x2 M) := both_of' op_person (by
  intro e M he
  unfold H_person at he ⊢
  by_cases h2 : e = 2
  · simp [h2]
  by_cases h4 : e = 4
  · simp [h4]
  exact absurd (by simp [h2, h4, if_false]) he)
theorem b_lent {g : Nat} {x1 : Int32} {x2 : Int32} : Both g (fun M => pL_lent (ob g 0) x1 x2 (ob g 304) M) (fun M => p12_lent (ob g 287) x1 x2 M) := both_of' op_lent (by
  intro e M he
  unfold H_lent at he ⊢
  by_cases h2 : e = 2
  · simp [h2]
  by_cases h0 : e = 0
  · simp [h0]
  exact absurd (by simp [h2, h0, if_false]) he)
theorem b_weighs {g : Nat} {x1 : Int32} {x2 : Int32} {x3 : Bool} : Both g (fun M => pL_weighs (ob g 0) x1 x2 (ib x3) (ob g 304) M) (fun M => p12_weighs (ob g 287) x1 x2 (ib x3) M) := both_of op_weighs (by
  intro e M he
  unfold H_weighs at he ⊢
  by_cases h2 : e = 2
  · simp [h2]
  by_cases h0 : e = 0
  · simp [h0]
  exact absurd (by simp [h2, h0, if_false]) he)
theorem b_gap {g : Nat} {x1 : Int32} {x2 : Int32} : Both g (fun M => pL_gap (ob g 0) x1 x2 (ob g 304) M) (fun M => p12_gap (ob g 287) x1 x2 M) := both_of' op_gap (by
  intro e M he
  unfold H_gap at he ⊢
  by_cases h2 : e = 2
  · simp [h2]
  by_cases h0 : e = 0
  · simp [h0]
  exact absurd (by simp [h2, h0, if_false]) he)
theorem b_say {g : Nat} {x1 : Int32} {x2 : Int32} {x3 : Bool} : Both g (fun M => pL_say (ob g 0) x1 x2 (ib x3) (ob g 304) M) (fun M => p12_say (ob g 287) x1 x2 (ib x3) M) := both_of op_say (by
  intro e M he
  unfold H_say at he ⊢
  by_cases h2 : e = 2
  · simp [h2]
  by_cases h1 : e = 1
  · simp [h1]
  exact absurd (by simp [h2, h1, if_false]) he)
theorem b_bear {g : Nat} {x1 : Int32} {x2 : Bool} : Both g (fun M => pL_bear (ob g 0) x1 (ib x2) (ob g 304) M) (fun M => p12_bear (ob g 287) x1 (ib x2) M) := both_of op_bear (by
  intro e M he
  unfold H_bear at he ⊢
  by_cases h2 : e = 2
  · simp [h2]
  by_cases h1 : e = 1
  · simp [h1]
  exact absurd (by simp [h2, h1, if_false]) he)
theorem b_wed {g : Nat} {x1 : Int32} {x2 : Int32} : Both g (fun M => pL_wed (ob g 0) x1 x2 (ob g 304) M) (fun M => p12_wed (ob g 287) x1 x2 M) := both_of op_wed (by
  intro e M he
  unfold H_wed at he ⊢
  by_cases h2 : e = 2
  · simp [h2]
  by_cases h0 : e = 0
  · simp [h0]
  by_cases h1 : e = 1
  · simp [h1]
  exact absurd (by simp [h2, h0, h1, if_false]) he)
theorem b_part {g : Nat} {x1 : Int32} : Both g (fun M => pL_part (ob g 0) x1 (ob g 304) M) (fun M => p12_part (ob g 287) x1 M) := both_of op_part (by
  intro e M he
  unfold H_part at he ⊢
  by_cases h2 : e = 2
  · simp [h2]
  by_cases h1 : e = 1
  · simp [h1]
  exact absurd (by simp [h2, h1, if_false]) he)
theorem b_lend {g : Nat} {x1 : Int32} {x2 : Int32} : Both g (fun M => pL_lend (ob g 0) x1 x2 (ob g 304) M) (fun M => p12_lend (ob g 287) x1 x2 M) := both_of op_lend (by
  intro e M he
  unfold H_lend at he ⊢
  by_cases h2 : e = 2
  · simp [h2]
  by_cases h0 : e = 0
  · simp [h0]
  by_cases h1 : e = 1
  · simp [h1]
  exact absurd (by simp [h2, h0, h1, if_false]) he)
theorem b_use {g : Nat} {x1 : Int32} : Both g (fun M => pL_use (ob g 0) x1 (ob g 304) M) (fun M => p12_use (ob g 287) x1 M) := both_of op_use (by
  intro e M he
  unfold H_use at he ⊢
  by_cases h2 : e = 2
  · simp [h2]
  by_cases h1 : e = 1
  · simp [h1]
  exact absurd (by simp [h2, h1, if_false]) he)
theorem b_govern {g : Nat} {x1 : Int32} {x2 : Int32} {x3 : Bool} : BothB g (fun M => pL_govern (ob g 0) x1 x2 (ib x3) (ob g 304) M) (fun M => p12_govern (ob g 287) x1 x2 (ib x3) M) := both_ofB op_govern (by
  intro e M he
  unfold H_govern at he ⊢
  by_cases h2 : e = 2
  · simp [h2]
  by_cases h0 : e = 0
  · simp [h0]
  exact absurd (by simp [h2, h0, if_false]) he)
theorem b_stern {g : Nat} {x1 : Int32} {x2 : Int32} : Both g (fun M => pL_stern (ob g 0) x1 x2 (ob g 304) M) (fun M => p12_stern (ob g 287) x1 x2 M) := both_of op_stern (by
  intro e M he
  unfold H_stern at he ⊢
  by_cases h2 : e = 2
  · simp [h2]
  by_cases h0 : e = 0
  · simp [h0]
  exact absurd (by simp [h2, h0, if_false]) he)
theorem b_days {g : Nat} {x1 : Int32} : Both g (fun M => pL_days (ob g 0) x1 (ob g 304) M) (fun M => p12_days (ob g 287) x1 M) := both_of op_days (by
  intro e M he
  unfold H_days at he ⊢
  by_cases h0 : e = 0
  · simp [h0]
  exact absurd (by simp [h0, if_false]) he)
theorem b_would {g : Nat} {x1 : Int32} {x2 : Int32} {x3 : Bool} : Both g (fun M => pL_would (ob g 0) x1 x2 (ib x3) (ob g 304) M) (fun M => p12_would (ob g 287) x1 x2 (ib x3) M) := both_of op_would (by
  intro e M he
  unfold H_would at he ⊢
  by_cases h2 : e = 2
  · simp [h2]
  by_cases h0 : e = 0
  · simp [h0]
  exact absurd (by simp [h2, h0, if_false]) he)
theorem b_fewest {g : Nat} {x1 : Int32} {x2 : Int32} : Both g (fun M => pL_fewest (ob g 0) x1 x2 (ob g 304) M) (fun M => p12_fewest (ob g 287) x1 x2 M) := both_of op_fewest (by
  intro e M he
  unfold H_fewest at he ⊢
  by_cases h2 : e = 2
  · simp [h2]
  by_cases h0 : e = 0
  · simp [h0]
  exact absurd (by simp [h2, h0, if_false]) he)
theorem b_first {g : Nat} {x1 : Int32} {x2 : Int32} : Both g (fun M => pL_first (ob g 0) x1 x2 (ob g 304) M) (fun M => p12_first (ob g 287) x1 x2 M) := both_of op_first (by
  intro e M he
  unfold H_first at he ⊢
  by_cases h2 : e = 2
  · simp [h2]
  by_cases h0 : e = 0
  · simp [h0]
  exact absurd (by simp [h2, h0, if_false]) he)
theorem b_can {g : Nat} {x1 : Int32} {x2 : Int32} : Both g (fun M => pL_can (ob g 0) x1 x2 (ob g 304) M) (fun M => p12_can (ob g 287) x1 x2 M) := both_of op_can (by
  intro e M he
  unfold H_can at he ⊢
  by_cases h2 : e = 2
  · simp [h2]
  by_cases h0 : e = 0
  · simp [h0]
  exact absurd (by simp [h2, h0, if_false]) he)
theorem b_harsh {g : Nat} {x1 : Int32} : Both g (fun M => pL_harsh (ob g 0) x1 (ob g 304) M) (fun M => p12_harsh (ob g 287) x1 M) := both_of op_harsh (by
  intro e M he
  unfold H_harsh at he ⊢
  by_cases h2 : e = 2
  · simp [h2]
  exact absurd (by simp [h2, if_false]) he)
theorem b_kind {g : Nat} {x1 : Int32} : Both g (fun M => pL_kind (ob g 0) x1 (ob g 304) M) (fun M => p12_kind (ob g 287) x1 M) := both_of op_kind (by
  intro e M he
  unfold H_kind at he ⊢
  by_cases h2 : e = 2
  · simp [h2]
  exact absurd (by simp [h2, if_false]) he)
theorem b_over {g : Nat} {x1 : Int32} : Both g (fun M => pL_over (ob g 0) x1 (ob g 304) M) (fun M => p12_over (ob g 287) x1 M) := both_of op_over (by
  intro e M he
  unfold H_over at he ⊢
  by_cases h2 : e = 2
  · simp [h2]
  exact absurd (by simp [h2, if_false]) he)
theorem b_said {g : Nat} {x1 : Int32} : Both g (fun M => pL_said (ob g 0) x1 (ob g 304) M) (fun M => p12_said (ob g 287) x1 M) := both_of op_said (by
  intro e M he
  unfold H_said at he ⊢
  by_cases h2 : e = 2
  · simp [h2]
  by_cases h0 : e = 0
  · simp [h0]
  exact absurd (by simp [h2, h0, if_false]) he)
theorem b_ask {g : Nat} {x1 : Int32} : Both g (fun M => pL_ask (ob g 0) x1 (ob g 304) M) (fun M => p12_ask (ob g 287) x1 M) := both_of op_ask (by
  intro e M he
  unfold H_ask at he ⊢
  by_cases h2 : e = 2
  · simp [h2]
  by_cases h0 : e = 0
  · simp [h0]
  exact absurd (by simp [h2, h0, if_false]) he)
theorem b_mate {g : Nat} {x1 : Int32} : Both g (fun M => pL_mate (ob g 0) x1 (ob g 304) M) (fun M => p12_mate (ob g 287) x1 M) := both_of op_mate (by
  intro e M he
  unfold H_mate at he ⊢
  by_cases h2 : e = 2
  · simp [h2]
  exact absurd (by simp [h2, if_false]) he)
theorem b_stable {g : Nat} {x1 : Int32} : Both g (fun M => pL_stable (ob g 0) x1 (ob g 304) M) (fun M => p12_stable (ob g 287) x1 M) := both_of op_stable (by
  intro e M he
  unfold H_stable at he ⊢
  by_cases h2 : e = 2
  · simp [h2]
  exact absurd (by simp [h2, if_false]) he)
theorem b_owes {g : Nat} {x1 : Int32} {x2 : Int32} : Both g (fun M => pL_owes (ob g 0) x1 x2 (ob g 304) M) (fun M => p12_owes (ob g 287) x1 x2 M) := both_of' op_owes (by
  intro e M he
  unfold H_owes at he ⊢
  by_cases h2 : e = 2
  · simp [h2]
  by_cases h0 : e = 0
  · simp [h0]
  exact absurd (by simp [h2, h0, if_false]) he)
theorem b_ring {g : Nat} {x1 : Int32} : BothB g (fun M => pL_ring (ob g 0) x1 (ob g 304) M) (fun M => p12_ring (ob g 287) x1 M) := both_ofB' op_ring (by
  intro e M he
  unfold H_ring at he ⊢
  by_cases h2 : e = 2
  · simp [h2]
  exact absurd (by simp [h2, if_false]) he)
theorem b_rests {g : Nat} {x1 : Int32} {x2 : Int32} : Both g (fun M => pL_rests (ob g 0) x1 x2 (ob g 304) M) (fun M => p12_rests (ob g 287) x1 x2 M) := both_of op_rests (by
  intro e M he
  unfold H_rests at he ⊢
  by_cases h2 : e = 2
  · simp [h2]
  by_cases h0 : e = 0
  · simp [h0]
  by_cases h1 : e = 1
  · simp [h1]
  exact absurd (by simp [h2, h0, h1, if_false]) he)
theorem b_mild {g : Nat} {x1 : Int32} : Both g (fun M => pL_mild (ob g 0) x1 (ob g 304) M) (fun M => p12_mild (ob g 287) x1 M) := both_of op_mild (by
  intro e M he
  unfold H_mild at he ⊢
  by_cases h0 : e = 0
  · simp [h0]
  exact absurd (by simp [h0, if_false]) he)
theorem b_branch {g : Nat} {x1 : Int32} : Both g (fun M => pL_branch (ob g 0) x1 (ob g 304) M) (fun M => p12_branch (ob g 287) x1 M) := both_of' op_branch (by
  intro e M he
  unfold H_branch at he ⊢
  by_cases h2 : e = 2
  · simp [h2]
  exact absurd (by simp [h2, if_false]) he)
theorem b_kin {g : Nat} {x1 : Int32} {x2 : Int32} : Both g (fun M => pL_kin (ob g 0) x1 x2 (ob g 304) M) (fun M => p12_kin (ob g 287) x1 x2 M) := both_of' op_kin (by
  intro e M he
  unfold H_kin at he ⊢
  by_cases h2 : e = 2
  · simp [h2]
  by_cases h0 : e = 0
  · simp [h0]
  exact absurd (by simp [h2, h0, if_false]) he)
theorem b_cousins {g : Nat} {x1 : Int32} : Both g (fun M => pL_cousins (ob g 0) x1 (ob g 304) M) (fun M => p12_cousins (ob g 287) x1 M) := both_of' op_cousins (by
  intro e M he
  unfold H_cousins at he ⊢
  by_cases h2 : e = 2
  · simp [h2]
  exact absurd (by simp [h2, if_false]) he)
theorem b_under {g : Nat} {x1 : Int32} : Both g (fun M => pL_under (ob g 0) x1 (ob g 304) M) (fun M => p12_under (ob g 287) x1 M) := both_of' op_under (by
  intro e M he
  unfold H_under at he ⊢
  by_cases h2 : e = 2
  · simp [h2]
  exact absurd (by simp [h2, if_false]) he)
theorem b_odds {g : Nat} {x1 : Int32} {x2 : Int32} {x3 : Int32} : BothL g (fun M => pL_odds (ob g 0) x1 x2 x3 (ob g 304) M) (fun M => p12_odds (ob g 287) x1 x2 x3 M) := both_ofL' op_odds (by
  intro e M he
  unfold H_odds at he ⊢
  by_cases h2 : e = 2
  · simp [h2]
  by_cases h0 : e = 0
  · simp [h0]
  exact absurd (by simp [h2, h0, if_false]) he)
theorem b_ahead {g : Nat} {x1 : Int32} {x2 : Int32} {x3 : Bool} : Both g (fun M => pL_ahead (ob g 0) x1 x2 (ib x3) (ob g 304) M) (fun M => p12_ahead (ob g 287) x1 x2 (ib x3) M) := both_of op_ahead (by
  intro e M he
  unfold H_ahead at he ⊢
  by_cases h2 : e = 2
  · simp [h2]
  by_cases h0 : e = 0
  · simp [h0]
  exact absurd (by simp [h2, h0, if_false]) he)
theorem b_trial {g : Nat} {x1 : Int32} {x2 : Bool} : Both g (fun M => pL_trial (ob g 0) x1 (ib x2) (ob g 304) M) (fun M => p12_trial (ob g 287) x1 (ib x2) M) := both_of op_trial (by
  intro e M he
  unfold H_trial at he ⊢
  by_cases h0 : e = 0
  · simp [h0]
  exact absurd (by simp [h0, if_false]) he)
theorem b_span {g : Nat} {x1 : Int32} {x2 : Bool} : Both g (fun M => pL_span (ob g 0) x1 (ib x2) (ob g 304) M) (fun M => p12_span (ob g 287) x1 (ib x2) M) := both_of op_span (by
  intro e M he
  unfold H_span at he ⊢
  by_cases h0 : e = 0
  · simp [h0]
  exact absurd (by simp [h0, if_false]) he)
theorem b_led {g : Nat} {x1 : Int32} {x2 : Bool} : Both g (fun M => pL_led (ob g 0) x1 (ib x2) (ob g 304) M) (fun M => p12_led (ob g 287) x1 (ib x2) M) := both_of' op_led (by
  intro e M he
  unfold H_led at he ⊢
  by_cases h2 : e = 2
  · simp [h2]
  exact absurd (by simp [h2, if_false]) he)
theorem b_log {g : Nat} {x1 : Int32} {x2 : Int32} : Both g (fun M => pL_log (ob g 0) x1 x2 (ob g 304) M) (fun M => p12_log (ob g 287) x1 x2 M) := both_of' op_log (by
  intro e M he
  unfold H_log at he ⊢
  by_cases h4 : e = 4
  · simp [h4]
  exact absurd (by simp [h4, if_false]) he)
def Nxt (g : Nat) (xs : Nat → Int32) (L n : Nat) (x4 : Int32) (s : tS) (l : tL) (r : Nat → Nat) : Prop := ∃ s' l' r', pW_L23 xs L (n + 1) (ob g 0) (ob g 287) (ob g 304) x4 (mm g s l r) = pW_L23 xs L n (ob g 0) (ob g 287) (ob g 304) (x4 + 6) (mm g s' l' r') ∧ INV s' r'
section
variable {g : Nat} {s : tS} {l : tL} {r : Nat → Nat} {xs : Nat → Int32} {L n : Nat} {x4 v0 v1 v2 v3 v4 v5 : Int32}
theorem st_0 (hI : INV s r) (hc : ¬ Int32.ofNat L - 6 < x4) (h0 : sld xs L x4 = some v0) (hv : v0 &&& 63 = 0) (h1 : sld xs L (x4 + 1) = some v1) (h2 : sld xs L (x4 + 2) = some v2) (h3 : sld xs L (x4 + 3) = some v3) (h4 : sld xs L (x4 + 4) = some v4) (h5 : sld xs L (x4 + 5) = some v5) : Nxt g xs L n x4 s l r := by
  obtain ⟨v, s1, r1, s2, e1, e2, e5⟩ := op_feed (g := g) (x1 := v1) (x2 := v2) (x3 := v3) (x4 := v4) (x5 := v5) s l r hI
  have e1 : p11_feed (ob g 0) v1 v2 v3 v4 v5 (mm g s l r) = some (v, mm g s1 l r1) := e1
  have e2 : p12_feed (ob g 287) v1 v2 v3 v4 v5 (mm g s1 l r1) = some (v, mm g s2 l r1) := e2
  refine ⟨s2, l, r1, ?_, e5⟩
  rw [pW_L23, if_neg hc, h0, obs, hv]
  refine swI_hit.trans ?_
  simp only [h1, h2, h3, h4, h5, one_z, obs, e1, e2, eq_self, if_true, if_false, pW_J3518]
theorem st_1 (hI : INV s r) (hc : ¬ Int32.ofNat L - 6 < x4) (h0 : sld xs L x4 = some v0) (hv : v0 &&& 63 = 1) (h1 : sld xs L (x4 + 1) = some v1) : Nxt g xs L n x4 s l r := by
  obtain ⟨v, s1, r1, s2, e1, e2, e5⟩ := op_end (g := g) (x1 := v1) s l r hI
  have e1 : p11_end (ob g 0) v1 (mm g s l r) = some (v, mm g s1 l r1) := e1
  have e2 : p12_end (ob g 287) v1 (mm g s1 l r1) = some (v, mm g s2 l r1) := e2
  refine ⟨s2, l, r1, ?_, e5⟩
  rw [pW_L23, if_neg hc, h0, obs, hv]
  iterate 1 refine swI_skip (by decide) ?_
  refine swI_hit.trans ?_
  simp only [h1, one_z, obs, e1, e2, eq_self, if_true, if_false, pW_J3518]
theorem st_2 (hI : INV s r) (hc : ¬ Int32.ofNat L - 6 < x4) (h0 : sld xs L x4 = some v0) (hv : v0 &&& 63 = 2)  : Nxt g xs L n x4 s l r := by
  obtain ⟨k, w, s1, l1, s2, r1, e1, e2, e3, e4, e5⟩ := b_family (g := g)  s l r hI
  have e1 : pL_family (ob g 0) (ob g 304) (mm g s l r) = some (k, mm g s1 l1 r1) := e1
  have e2 : p12_family (ob g 287) (mm g s1 l1 r1) = some (w, mm g s2 l1 r1) := e2
  refine ⟨s2, l1, r1, ?_, e5⟩
  rw [pW_L23, if_neg hc, h0, obs, hv]
  iterate 2 refine swI_skip (by decide) ?_
  refine swI_hit.trans ?_
  simp only [one_z, obs, e1, e2, m_thrown, e3, eq_self, if_true, if_false, pW_J443, pW_J3518]
  by_cases hk : k = 0
  · simp only [hk, eq_self, if_true, o_aldL, obs, e4 hk, lg_self, pW_J443, pW_J3518]
  · simp only [hk, if_false, pW_J443, pW_J3518]
theorem st_3 (hI : INV s r) (hc : ¬ Int32.ofNat L - 6 < x4) (h0 : sld xs L x4 = some v0) (hv : v0 &&& 63 = 3)  : Nxt g xs L n x4 s l r := by
  obtain ⟨k, w, s1, l1, s2, r1, e1, e2, e3, e4, e5⟩ := b_law (g := g)  s l r hI
  have e1 : pL_law (ob g 0) (ob g 304) (mm g s l r) = some (k, mm g s1 l1 r1) := e1
  have e2 : p12_law (ob g 287) (mm g s1 l1 r1) = some (w, mm g s2 l1 r1) := e2
  refine ⟨s2, l1, r1, ?_, e5⟩
  rw [pW_L23, if_neg hc, h0, obs, hv]
  iterate 3 refine swI_skip (by decide) ?_
  refine swI_hit.trans ?_
  simp only [one_z, obs, e1, e2, m_thrown, e3, eq_self, if_true, if_false, pW_J487, pW_J3518]
  by_cases hk : k = 0
  · simp only [hk, eq_self, if_true, o_aldL, obs, e4 hk, lg_self, pW_J487, pW_J3518]
  · simp only [hk, if_false, pW_J487, pW_J3518]
theorem st_4 (hI : INV s r) (hc : ¬ Int32.ofNat L - 6 < x4) (h0 : sld xs L x4 = some v0) (hv : v0 &&& 63 = 4)  : Nxt g xs L n x4 s l r := by
  obtain ⟨v, s2, e1, e2, e5⟩ := op_fault (g := g)  s l r hI
  have e1 : p11_fault (ob g 0) (mm g s l r) = some v := e1
  have e2 : p12_fault (ob g 287) (mm g s l r) = some (v, mm g s2 l r) := e2
  refine ⟨s2, l, r, ?_, e5⟩
  rw [pW_L23, if_neg hc, h0, obs, hv]
  iterate 4 refine swI_skip (by decide) ?_
  refine swI_hit.trans ?_
  simp only [one_z, obs, e1, e2, eq_self, if_true, if_false, pW_J3518]
theorem st_5 (hI : INV s r) (hc : ¬ Int32.ofNat L - 6 < x4) (h0 : sld xs L x4 = some v0) (hv : v0 &&& 63 = 5) (h1 : sld xs L (x4 + 1) = some v1) (h2 : sld xs L (x4 + 2) = some v2) : Nxt g xs L n x4 s l r := by
  obtain ⟨k, w, s1, l1, s2, r1, e1, e2, e3, e4, e5⟩ := b_person (g := g) (x1 := v1) (x2 := v2) s l r hI
  have e1 : pL_person (ob g 0) v1 v2 (ob g 304) (mm g s l r) = some (k, mm g s1 l1 r1) := e1
  have e2 : p12_person (ob g 287) v1 v2 (mm g s1 l1 r1) = some (w, mm g s2 l1 r1) := e2
  refine ⟨s2, l1, r1, ?_, e5⟩
  rw [pW_L23, if_neg hc, h0, obs, hv]
  iterate 5 refine swI_skip (by decide) ?_
  refine swI_hit.trans ?_
  simp only [h1, h2, one_z, obs, e1, e2, m_thrown, e3, eq_self, if_true, if_false, pW_J568, pW_J3518]
  by_cases hk : k = 0
  · simp only [hk, eq_self, if_true, o_aldL, obs, e4 hk, lg_self, pW_J568, pW_J3518]
  · simp only [hk, if_false, pW_J568, pW_J3518]
theorem st_6 (hI : INV s r) (hc : ¬ Int32.ofNat L - 6 < x4) (h0 : sld xs L x4 = some v0) (hv : v0 &&& 63 = 6) (h1 : sld xs L (x4 + 1) = some v1) (h2 : sld xs L (x4 + 2) = some v2) : Nxt g xs L n x4 s l r := by
  obtain ⟨k, w, s1, l1, s2, r1, e1, e2, e3, e4, e5⟩ := b_lent (g := g) (x1 := v1) (x2 := v2) s l r hI
  have e1 : pL_lent (ob g 0) v1 v2 (ob g 304) (mm g s l r) = some (k, mm g s1 l1 r1) := e1
  have e2 : p12_lent (ob g 287) v1 v2 (mm g s1 l1 r1) = some (w, mm g s2 l1 r1) := e2
  refine ⟨s2, l1, r1, ?_, e5⟩
  rw [pW_L23, if_neg hc, h0, obs, hv]
  iterate 6 refine swI_skip (by decide) ?_
  refine swI_hit.trans ?_
  simp only [h1, h2, one_z, obs, e1, e2, m_thrown, e3, eq_self, if_true, if_false, pW_J636, pW_J3518]
  by_cases hk : k = 0
  · simp only [hk, eq_self, if_true, o_aldL, obs, e4 hk, lg_self, pW_J636, pW_J3518]
  · simp only [hk, if_false, pW_J636, pW_J3518]
theorem st_7 (hI : INV s r) (hc : ¬ Int32.ofNat L - 6 < x4) (h0 : sld xs L x4 = some v0) (hv : v0 &&& 63 = 7) (h1 : sld xs L (x4 + 1) = some v1) (h2 : sld xs L (x4 + 2) = some v2) (h3 : sld xs L (x4 + 3) = some v3) : Nxt g xs L n x4 s l r := by
  by_cases f3 : v3 = 0
  ·
    obtain ⟨k, w, s1, l1, s2, r1, e1, e2, e3, e4, e5⟩ := b_weighs (g := g) (x1 := v1) (x2 := v2) (x3 := false) s l r hI
    have e1 : pL_weighs (ob g 0) v1 v2 0 (ob g 304) (mm g s l r) = some (k, mm g s1 l1 r1) := e1
    have e2 : p12_weighs (ob g 287) v1 v2 0 (mm g s1 l1 r1) = some (w, mm g s2 l1 r1) := e2
    refine ⟨s2, l1, r1, ?_, e5⟩
    rw [pW_L23, if_neg hc, h0, obs, hv]
    iterate 7 refine swI_skip (by decide) ?_
    refine swI_hit.trans ?_
    simp only [h1, h2, h3, f3, one_z, obs, e1, e2, m_thrown, e3, eq_self, if_true, if_false, pW_J666, pW_J699, pW_J732, pW_J3518]
    by_cases hk : k = 0
    · simp only [hk, eq_self, if_true, o_aldL, obs, e4 hk, lg_self, pW_J666, pW_J699, pW_J732, pW_J3518]
    · simp only [hk, if_false, pW_J666, pW_J699, pW_J732, pW_J3518]
  ·
    obtain ⟨k, w, s1, l1, s2, r1, e1, e2, e3, e4, e5⟩ := b_weighs (g := g) (x1 := v1) (x2 := v2) (x3 := true) s l r hI
    have e1 : pL_weighs (ob g 0) v1 v2 1 (ob g 304) (mm g s l r) = some (k, mm g s1 l1 r1) := e1
    have e2 : p12_weighs (ob g 287) v1 v2 1 (mm g s1 l1 r1) = some (w, mm g s2 l1 r1) := e2
    refine ⟨s2, l1, r1, ?_, e5⟩
    rw [pW_L23, if_neg hc, h0, obs, hv]
    iterate 7 refine swI_skip (by decide) ?_
    refine swI_hit.trans ?_
    simp only [h1, h2, h3, f3, one_z, obs, e1, e2, m_thrown, e3, eq_self, if_true, if_false, pW_J666, pW_J699, pW_J732, pW_J3518]
    by_cases hk : k = 0
    · simp only [hk, eq_self, if_true, o_aldL, obs, e4 hk, lg_self, pW_J666, pW_J699, pW_J732, pW_J3518]
    · simp only [hk, if_false, pW_J666, pW_J699, pW_J732, pW_J3518]
theorem st_8 (hI : INV s r) (hc : ¬ Int32.ofNat L - 6 < x4) (h0 : sld xs L x4 = some v0) (hv : v0 &&& 63 = 8) (h1 : sld xs L (x4 + 1) = some v1) (h2 : sld xs L (x4 + 2) = some v2) : Nxt g xs L n x4 s l r := by
  obtain ⟨k, w, s1, l1, s2, r1, e1, e2, e3, e4, e5⟩ := b_gap (g := g) (x1 := v1) (x2 := v2) s l r hI
  have e1 : pL_gap (ob g 0) v1 v2 (ob g 304) (mm g s l r) = some (k, mm g s1 l1 r1) := e1
  have e2 : p12_gap (ob g 287) v1 v2 (mm g s1 l1 r1) = some (w, mm g s2 l1 r1) := e2
  refine ⟨s2, l1, r1, ?_, e5⟩
  rw [pW_L23, if_neg hc, h0, obs, hv]
  iterate 8 refine swI_skip (by decide) ?_
  refine swI_hit.trans ?_
  simp only [h1, h2, one_z, obs, e1, e2, m_thrown, e3, eq_self, if_true, if_false, pW_J800, pW_J3518]
  by_cases hk : k = 0
  · simp only [hk, eq_self, if_true, o_aldL, obs, e4 hk, lg_self, pW_J800, pW_J3518]
  · simp only [hk, if_false, pW_J800, pW_J3518]
theorem st_9 (hI : INV s r) (hc : ¬ Int32.ofNat L - 6 < x4) (h0 : sld xs L x4 = some v0) (hv : v0 &&& 63 = 9) (h1 : sld xs L (x4 + 1) = some v1) (h2 : sld xs L (x4 + 2) = some v2) (h3 : sld xs L (x4 + 3) = some v3) : Nxt g xs L n x4 s l r := by
  by_cases f3 : v3 = 0
  ·
    obtain ⟨k, w, s1, l1, s2, r1, e1, e2, e3, e4, e5⟩ := b_say (g := g) (x1 := v1) (x2 := v2) (x3 := false) s l r hI
    have e1 : pL_say (ob g 0) v1 v2 0 (ob g 304) (mm g s l r) = some (k, mm g s1 l1 r1) := e1
    have e2 : p12_say (ob g 287) v1 v2 0 (mm g s1 l1 r1) = some (w, mm g s2 l1 r1) := e2
    refine ⟨s2, l1, r1, ?_, e5⟩
    rw [pW_L23, if_neg hc, h0, obs, hv]
    iterate 9 refine swI_skip (by decide) ?_
    refine swI_hit.trans ?_
    simp only [h1, h2, h3, f3, one_z, obs, e1, e2, m_thrown, e3, eq_self, if_true, if_false, pW_J830, pW_J863, pW_J896, pW_J3518]
    by_cases hk : k = 0
    · simp only [hk, eq_self, if_true, o_aldL, obs, e4 hk, lg_self, pW_J830, pW_J863, pW_J896, pW_J3518]
    · simp only [hk, if_false, pW_J830, pW_J863, pW_J896, pW_J3518]
  ·
    obtain ⟨k, w, s1, l1, s2, r1, e1, e2, e3, e4, e5⟩ := b_say (g := g) (x1 := v1) (x2 := v2) (x3 := true) s l r hI
    have e1 : pL_say (ob g 0) v1 v2 1 (ob g 304) (mm g s l r) = some (k, mm g s1 l1 r1) := e1
    have e2 : p12_say (ob g 287) v1 v2 1 (mm g s1 l1 r1) = some (w, mm g s2 l1 r1) := e2
    refine ⟨s2, l1, r1, ?_, e5⟩
    rw [pW_L23, if_neg hc, h0, obs, hv]
    iterate 9 refine swI_skip (by decide) ?_
    refine swI_hit.trans ?_
    simp only [h1, h2, h3, f3, one_z, obs, e1, e2, m_thrown, e3, eq_self, if_true, if_false, pW_J830, pW_J863, pW_J896, pW_J3518]
    by_cases hk : k = 0
    · simp only [hk, eq_self, if_true, o_aldL, obs, e4 hk, lg_self, pW_J830, pW_J863, pW_J896, pW_J3518]
    · simp only [hk, if_false, pW_J830, pW_J863, pW_J896, pW_J3518]
theorem st_10 (hI : INV s r) (hc : ¬ Int32.ofNat L - 6 < x4) (h0 : sld xs L x4 = some v0) (hv : v0 &&& 63 = 10) (h1 : sld xs L (x4 + 1) = some v1) (h2 : sld xs L (x4 + 2) = some v2) : Nxt g xs L n x4 s l r := by
  by_cases f2 : v2 = 0
  ·
    obtain ⟨k, w, s1, l1, s2, r1, e1, e2, e3, e4, e5⟩ := b_bear (g := g) (x1 := v1) (x2 := false) s l r hI
    have e1 : pL_bear (ob g 0) v1 0 (ob g 304) (mm g s l r) = some (k, mm g s1 l1 r1) := e1
    have e2 : p12_bear (ob g 287) v1 0 (mm g s1 l1 r1) = some (w, mm g s2 l1 r1) := e2
    refine ⟨s2, l1, r1, ?_, e5⟩
    rw [pW_L23, if_neg hc, h0, obs, hv]
    iterate 10 refine swI_skip (by decide) ?_
    refine swI_hit.trans ?_
    simp only [h1, h2, f2, one_z, obs, e1, e2, m_thrown, e3, eq_self, if_true, if_false, pW_J920, pW_J947, pW_J980, pW_J3518]
    by_cases hk : k = 0
    · simp only [hk, eq_self, if_true, o_aldL, obs, e4 hk, lg_self, pW_J920, pW_J947, pW_J980, pW_J3518]
    · simp only [hk, if_false, pW_J920, pW_J947, pW_J980, pW_J3518]
  ·
    obtain ⟨k, w, s1, l1, s2, r1, e1, e2, e3, e4, e5⟩ := b_bear (g := g) (x1 := v1) (x2 := true) s l r hI
    have e1 : pL_bear (ob g 0) v1 1 (ob g 304) (mm g s l r) = some (k, mm g s1 l1 r1) := e1
    have e2 : p12_bear (ob g 287) v1 1 (mm g s1 l1 r1) = some (w, mm g s2 l1 r1) := e2
    refine ⟨s2, l1, r1, ?_, e5⟩
    rw [pW_L23, if_neg hc, h0, obs, hv]
    iterate 10 refine swI_skip (by decide) ?_
    refine swI_hit.trans ?_
    simp only [h1, h2, f2, one_z, obs, e1, e2, m_thrown, e3, eq_self, if_true, if_false, pW_J920, pW_J947, pW_J980, pW_J3518]
    by_cases hk : k = 0
    · simp only [hk, eq_self, if_true, o_aldL, obs, e4 hk, lg_self, pW_J920, pW_J947, pW_J980, pW_J3518]
    · simp only [hk, if_false, pW_J920, pW_J947, pW_J980, pW_J3518]
theorem st_11 (hI : INV s r) (hc : ¬ Int32.ofNat L - 6 < x4) (h0 : sld xs L x4 = some v0) (hv : v0 &&& 63 = 11) (h1 : sld xs L (x4 + 1) = some v1) (h2 : sld xs L (x4 + 2) = some v2) : Nxt g xs L n x4 s l r := by
  obtain ⟨k, w, s1, l1, s2, r1, e1, e2, e3, e4, e5⟩ := b_wed (g := g) (x1 := v1) (x2 := v2) s l r hI
  have e1 : pL_wed (ob g 0) v1 v2 (ob g 304) (mm g s l r) = some (k, mm g s1 l1 r1) := e1
  have e2 : p12_wed (ob g 287) v1 v2 (mm g s1 l1 r1) = some (w, mm g s2 l1 r1) := e2
  refine ⟨s2, l1, r1, ?_, e5⟩
  rw [pW_L23, if_neg hc, h0, obs, hv]
  iterate 11 refine swI_skip (by decide) ?_
  refine swI_hit.trans ?_
  simp only [h1, h2, one_z, obs, e1, e2, m_thrown, e3, eq_self, if_true, if_false, pW_J1048, pW_J3518]
  by_cases hk : k = 0
  · simp only [hk, eq_self, if_true, o_aldL, obs, e4 hk, lg_self, pW_J1048, pW_J3518]
  · simp only [hk, if_false, pW_J1048, pW_J3518]
theorem st_12 (hI : INV s r) (hc : ¬ Int32.ofNat L - 6 < x4) (h0 : sld xs L x4 = some v0) (hv : v0 &&& 63 = 12) (h1 : sld xs L (x4 + 1) = some v1) : Nxt g xs L n x4 s l r := by
  obtain ⟨k, w, s1, l1, s2, r1, e1, e2, e3, e4, e5⟩ := b_part (g := g) (x1 := v1) s l r hI
  have e1 : pL_part (ob g 0) v1 (ob g 304) (mm g s l r) = some (k, mm g s1 l1 r1) := e1
  have e2 : p12_part (ob g 287) v1 (mm g s1 l1 r1) = some (w, mm g s2 l1 r1) := e2
  refine ⟨s2, l1, r1, ?_, e5⟩
  rw [pW_L23, if_neg hc, h0, obs, hv]
  iterate 12 refine swI_skip (by decide) ?_
  refine swI_hit.trans ?_
  simp only [h1, one_z, obs, e1, e2, m_thrown, e3, eq_self, if_true, if_false, pW_J1104, pW_J3518]
  by_cases hk : k = 0
  · simp only [hk, eq_self, if_true, o_aldL, obs, e4 hk, lg_self, pW_J1104, pW_J3518]
  · simp only [hk, if_false, pW_J1104, pW_J3518]
theorem st_13 (hI : INV s r) (hc : ¬ Int32.ofNat L - 6 < x4) (h0 : sld xs L x4 = some v0) (hv : v0 &&& 63 = 13) (h1 : sld xs L (x4 + 1) = some v1) (h2 : sld xs L (x4 + 2) = some v2) : Nxt g xs L n x4 s l r := by
  obtain ⟨k, w, s1, l1, s2, r1, e1, e2, e3, e4, e5⟩ := b_lend (g := g) (x1 := v1) (x2 := v2) s l r hI
  have e1 : pL_lend (ob g 0) v1 v2 (ob g 304) (mm g s l r) = some (k, mm g s1 l1 r1) := e1
  have e2 : p12_lend (ob g 287) v1 v2 (mm g s1 l1 r1) = some (w, mm g s2 l1 r1) := e2
  refine ⟨s2, l1, r1, ?_, e5⟩
  rw [pW_L23, if_neg hc, h0, obs, hv]
  iterate 13 refine swI_skip (by decide) ?_
  refine swI_hit.trans ?_
  simp only [h1, h2, one_z, obs, e1, e2, m_thrown, e3, eq_self, if_true, if_false, pW_J1172, pW_J3518]
  by_cases hk : k = 0
  · simp only [hk, eq_self, if_true, o_aldL, obs, e4 hk, lg_self, pW_J1172, pW_J3518]
  · simp only [hk, if_false, pW_J1172, pW_J3518]
theorem st_14 (hI : INV s r) (hc : ¬ Int32.ofNat L - 6 < x4) (h0 : sld xs L x4 = some v0) (hv : v0 &&& 63 = 14) (h1 : sld xs L (x4 + 1) = some v1) : Nxt g xs L n x4 s l r := by
  obtain ⟨k, w, s1, l1, s2, r1, e1, e2, e3, e4, e5⟩ := b_use (g := g) (x1 := v1) s l r hI
  have e1 : pL_use (ob g 0) v1 (ob g 304) (mm g s l r) = some (k, mm g s1 l1 r1) := e1
  have e2 : p12_use (ob g 287) v1 (mm g s1 l1 r1) = some (w, mm g s2 l1 r1) := e2
  refine ⟨s2, l1, r1, ?_, e5⟩
  rw [pW_L23, if_neg hc, h0, obs, hv]
  iterate 14 refine swI_skip (by decide) ?_
  refine swI_hit.trans ?_
  simp only [h1, one_z, obs, e1, e2, m_thrown, e3, eq_self, if_true, if_false, pW_J1228, pW_J3518]
  by_cases hk : k = 0
  · simp only [hk, eq_self, if_true, o_aldL, obs, e4 hk, lg_self, pW_J1228, pW_J3518]
  · simp only [hk, if_false, pW_J1228, pW_J3518]
theorem st_15 (hI : INV s r) (hc : ¬ Int32.ofNat L - 6 < x4) (h0 : sld xs L x4 = some v0) (hv : v0 &&& 63 = 15) (h1 : sld xs L (x4 + 1) = some v1) (h2 : sld xs L (x4 + 2) = some v2) (h3 : sld xs L (x4 + 3) = some v3) : Nxt g xs L n x4 s l r := by
  by_cases f3 : v3 = 0
  ·
    obtain ⟨k, w, s1, l1, s2, r1, e1, e2, e3, e4, e5⟩ := b_govern (g := g) (x1 := v1) (x2 := v2) (x3 := false) s l r hI
    have e1 : pL_govern (ob g 0) v1 v2 0 (ob g 304) (mm g s l r) = some (k, mm g s1 l1 r1) := e1
    have e2 : p12_govern (ob g 287) v1 v2 0 (mm g s1 l1 r1) = some (w, mm g s2 l1 r1) := e2
    refine ⟨s2, l1, r1, ?_, e5⟩
    rw [pW_L23, if_neg hc, h0, obs, hv]
    iterate 15 refine swI_skip (by decide) ?_
    refine swI_hit.trans ?_
    simp only [h1, h2, h3, f3, one_z, obs, e1, e2, m_thrown, e3, eq_self, if_true, if_false, pW_J1258, pW_J1291, pW_J1331, pW_J3518, pW_J1325]
    by_cases hk : k = 0
    · obtain ⟨y, y1, y2⟩ := e4 hk
      subst y1
      cases y
      · have y2 : l1 304 0 = 0 := y2
        simp only [hk, eq_self, if_true, o_aldL, obs, y2, ib_f, lg_self, one_z, if_false, pW_J1258, pW_J1291, pW_J1331, pW_J3518, pW_J1325]
      · have y2 : l1 304 0 = 1 := y2
        simp only [hk, eq_self, if_true, o_aldL, obs, y2, ib_t, lg_self, one_z, if_false, pW_J1258, pW_J1291, pW_J1331, pW_J3518, pW_J1325]
    · simp only [hk, if_false, pW_J1258, pW_J1291, pW_J1331, pW_J3518, pW_J1325]
  ·
    obtain ⟨k, w, s1, l1, s2, r1, e1, e2, e3, e4, e5⟩ := b_govern (g := g) (x1 := v1) (x2 := v2) (x3 := true) s l r hI
    have e1 : pL_govern (ob g 0) v1 v2 1 (ob g 304) (mm g s l r) = some (k, mm g s1 l1 r1) := e1
    have e2 : p12_govern (ob g 287) v1 v2 1 (mm g s1 l1 r1) = some (w, mm g s2 l1 r1) := e2
    refine ⟨s2, l1, r1, ?_, e5⟩
    rw [pW_L23, if_neg hc, h0, obs, hv]
    iterate 15 refine swI_skip (by decide) ?_
    refine swI_hit.trans ?_
    simp only [h1, h2, h3, f3, one_z, obs, e1, e2, m_thrown, e3, eq_self, if_true, if_false, pW_J1258, pW_J1291, pW_J1331, pW_J3518, pW_J1325]
    by_cases hk : k = 0
    · obtain ⟨y, y1, y2⟩ := e4 hk
      subst y1
      cases y
      · have y2 : l1 304 0 = 0 := y2
        simp only [hk, eq_self, if_true, o_aldL, obs, y2, ib_f, lg_self, one_z, if_false, pW_J1258, pW_J1291, pW_J1331, pW_J3518, pW_J1325]
      · have y2 : l1 304 0 = 1 := y2
        simp only [hk, eq_self, if_true, o_aldL, obs, y2, ib_t, lg_self, one_z, if_false, pW_J1258, pW_J1291, pW_J1331, pW_J3518, pW_J1325]
    · simp only [hk, if_false, pW_J1258, pW_J1291, pW_J1331, pW_J3518, pW_J1325]
theorem st_16 (hI : INV s r) (hc : ¬ Int32.ofNat L - 6 < x4) (h0 : sld xs L x4 = some v0) (hv : v0 &&& 63 = 16) (h1 : sld xs L (x4 + 1) = some v1) (h2 : sld xs L (x4 + 2) = some v2) : Nxt g xs L n x4 s l r := by
  obtain ⟨k, w, s1, l1, s2, r1, e1, e2, e3, e4, e5⟩ := b_stern (g := g) (x1 := v1) (x2 := v2) s l r hI
  have e1 : pL_stern (ob g 0) v1 v2 (ob g 304) (mm g s l r) = some (k, mm g s1 l1 r1) := e1
  have e2 : p12_stern (ob g 287) v1 v2 (mm g s1 l1 r1) = some (w, mm g s2 l1 r1) := e2
  refine ⟨s2, l1, r1, ?_, e5⟩
  rw [pW_L23, if_neg hc, h0, obs, hv]
  iterate 16 refine swI_skip (by decide) ?_
  refine swI_hit.trans ?_
  simp only [h1, h2, one_z, obs, e1, e2, m_thrown, e3, eq_self, if_true, if_false, pW_J1399, pW_J3518]
  by_cases hk : k = 0
  · simp only [hk, eq_self, if_true, o_aldL, obs, e4 hk, lg_self, pW_J1399, pW_J3518]
  · simp only [hk, if_false, pW_J1399, pW_J3518]
theorem st_17 (hI : INV s r) (hc : ¬ Int32.ofNat L - 6 < x4) (h0 : sld xs L x4 = some v0) (hv : v0 &&& 63 = 17) (h1 : sld xs L (x4 + 1) = some v1) : Nxt g xs L n x4 s l r := by
  obtain ⟨k, w, s1, l1, s2, r1, e1, e2, e3, e4, e5⟩ := b_days (g := g) (x1 := v1) s l r hI
  have e1 : pL_days (ob g 0) v1 (ob g 304) (mm g s l r) = some (k, mm g s1 l1 r1) := e1
  have e2 : p12_days (ob g 287) v1 (mm g s1 l1 r1) = some (w, mm g s2 l1 r1) := e2
  refine ⟨s2, l1, r1, ?_, e5⟩
  rw [pW_L23, if_neg hc, h0, obs, hv]
  iterate 17 refine swI_skip (by decide) ?_
  refine swI_hit.trans ?_
  simp only [h1, one_z, obs, e1, e2, m_thrown, e3, eq_self, if_true, if_false, pW_J1455, pW_J3518]
  by_cases hk : k = 0
  · simp only [hk, eq_self, if_true, o_aldL, obs, e4 hk, lg_self, pW_J1455, pW_J3518]
  · simp only [hk, if_false, pW_J1455, pW_J3518]
theorem st_18 (hI : INV s r) (hc : ¬ Int32.ofNat L - 6 < x4) (h0 : sld xs L x4 = some v0) (hv : v0 &&& 63 = 18) (h1 : sld xs L (x4 + 1) = some v1) (h2 : sld xs L (x4 + 2) = some v2) (h3 : sld xs L (x4 + 3) = some v3) : Nxt g xs L n x4 s l r := by
  by_cases f3 : v3 = 0
  ·
    obtain ⟨k, w, s1, l1, s2, r1, e1, e2, e3, e4, e5⟩ := b_would (g := g) (x1 := v1) (x2 := v2) (x3 := false) s l r hI
    have e1 : pL_would (ob g 0) v1 v2 0 (ob g 304) (mm g s l r) = some (k, mm g s1 l1 r1) := e1
    have e2 : p12_would (ob g 287) v1 v2 0 (mm g s1 l1 r1) = some (w, mm g s2 l1 r1) := e2
    refine ⟨s2, l1, r1, ?_, e5⟩
    rw [pW_L23, if_neg hc, h0, obs, hv]
    iterate 18 refine swI_skip (by decide) ?_
    refine swI_hit.trans ?_
    simp only [h1, h2, h3, f3, one_z, obs, e1, e2, m_thrown, e3, eq_self, if_true, if_false, pW_J1485, pW_J1518, pW_J1551, pW_J3518]
    by_cases hk : k = 0
    · simp only [hk, eq_self, if_true, o_aldL, obs, e4 hk, lg_self, pW_J1485, pW_J1518, pW_J1551, pW_J3518]
    · simp only [hk, if_false, pW_J1485, pW_J1518, pW_J1551, pW_J3518]
  ·
    obtain ⟨k, w, s1, l1, s2, r1, e1, e2, e3, e4, e5⟩ := b_would (g := g) (x1 := v1) (x2 := v2) (x3 := true) s l r hI
    have e1 : pL_would (ob g 0) v1 v2 1 (ob g 304) (mm g s l r) = some (k, mm g s1 l1 r1) := e1
    have e2 : p12_would (ob g 287) v1 v2 1 (mm g s1 l1 r1) = some (w, mm g s2 l1 r1) := e2
    refine ⟨s2, l1, r1, ?_, e5⟩
    rw [pW_L23, if_neg hc, h0, obs, hv]
    iterate 18 refine swI_skip (by decide) ?_
    refine swI_hit.trans ?_
    simp only [h1, h2, h3, f3, one_z, obs, e1, e2, m_thrown, e3, eq_self, if_true, if_false, pW_J1485, pW_J1518, pW_J1551, pW_J3518]
    by_cases hk : k = 0
    · simp only [hk, eq_self, if_true, o_aldL, obs, e4 hk, lg_self, pW_J1485, pW_J1518, pW_J1551, pW_J3518]
    · simp only [hk, if_false, pW_J1485, pW_J1518, pW_J1551, pW_J3518]
theorem st_19 (hI : INV s r) (hc : ¬ Int32.ofNat L - 6 < x4) (h0 : sld xs L x4 = some v0) (hv : v0 &&& 63 = 19) (h1 : sld xs L (x4 + 1) = some v1) (h2 : sld xs L (x4 + 2) = some v2) : Nxt g xs L n x4 s l r := by
  obtain ⟨k, w, s1, l1, s2, r1, e1, e2, e3, e4, e5⟩ := b_fewest (g := g) (x1 := v1) (x2 := v2) s l r hI
  have e1 : pL_fewest (ob g 0) v1 v2 (ob g 304) (mm g s l r) = some (k, mm g s1 l1 r1) := e1
  have e2 : p12_fewest (ob g 287) v1 v2 (mm g s1 l1 r1) = some (w, mm g s2 l1 r1) := e2
  refine ⟨s2, l1, r1, ?_, e5⟩
  rw [pW_L23, if_neg hc, h0, obs, hv]
  iterate 19 refine swI_skip (by decide) ?_
  refine swI_hit.trans ?_
  simp only [h1, h2, one_z, obs, e1, e2, m_thrown, e3, eq_self, if_true, if_false, pW_J1619, pW_J3518]
  by_cases hk : k = 0
  · simp only [hk, eq_self, if_true, o_aldL, obs, e4 hk, lg_self, pW_J1619, pW_J3518]
  · simp only [hk, if_false, pW_J1619, pW_J3518]
theorem st_20 (hI : INV s r) (hc : ¬ Int32.ofNat L - 6 < x4) (h0 : sld xs L x4 = some v0) (hv : v0 &&& 63 = 20) (h1 : sld xs L (x4 + 1) = some v1) (h2 : sld xs L (x4 + 2) = some v2) : Nxt g xs L n x4 s l r := by
  obtain ⟨k, w, s1, l1, s2, r1, e1, e2, e3, e4, e5⟩ := b_first (g := g) (x1 := v1) (x2 := v2) s l r hI
  have e1 : pL_first (ob g 0) v1 v2 (ob g 304) (mm g s l r) = some (k, mm g s1 l1 r1) := e1
  have e2 : p12_first (ob g 287) v1 v2 (mm g s1 l1 r1) = some (w, mm g s2 l1 r1) := e2
  refine ⟨s2, l1, r1, ?_, e5⟩
  rw [pW_L23, if_neg hc, h0, obs, hv]
  iterate 20 refine swI_skip (by decide) ?_
  refine swI_hit.trans ?_
  simp only [h1, h2, one_z, obs, e1, e2, m_thrown, e3, eq_self, if_true, if_false, pW_J1687, pW_J3518]
  by_cases hk : k = 0
  · simp only [hk, eq_self, if_true, o_aldL, obs, e4 hk, lg_self, pW_J1687, pW_J3518]
  · simp only [hk, if_false, pW_J1687, pW_J3518]
theorem st_21 (hI : INV s r) (hc : ¬ Int32.ofNat L - 6 < x4) (h0 : sld xs L x4 = some v0) (hv : v0 &&& 63 = 21) (h1 : sld xs L (x4 + 1) = some v1) (h2 : sld xs L (x4 + 2) = some v2) : Nxt g xs L n x4 s l r := by
  obtain ⟨k, w, s1, l1, s2, r1, e1, e2, e3, e4, e5⟩ := b_can (g := g) (x1 := v1) (x2 := v2) s l r hI
  have e1 : pL_can (ob g 0) v1 v2 (ob g 304) (mm g s l r) = some (k, mm g s1 l1 r1) := e1
  have e2 : p12_can (ob g 287) v1 v2 (mm g s1 l1 r1) = some (w, mm g s2 l1 r1) := e2
  refine ⟨s2, l1, r1, ?_, e5⟩
  rw [pW_L23, if_neg hc, h0, obs, hv]
  iterate 21 refine swI_skip (by decide) ?_
  refine swI_hit.trans ?_
  simp only [h1, h2, one_z, obs, e1, e2, m_thrown, e3, eq_self, if_true, if_false, pW_J1755, pW_J3518]
  by_cases hk : k = 0
  · simp only [hk, eq_self, if_true, o_aldL, obs, e4 hk, lg_self, pW_J1755, pW_J3518]
  · simp only [hk, if_false, pW_J1755, pW_J3518]
theorem st_22 (hI : INV s r) (hc : ¬ Int32.ofNat L - 6 < x4) (h0 : sld xs L x4 = some v0) (hv : v0 &&& 63 = 22) (h1 : sld xs L (x4 + 1) = some v1) : Nxt g xs L n x4 s l r := by
  obtain ⟨k, w, s1, l1, s2, r1, e1, e2, e3, e4, e5⟩ := b_harsh (g := g) (x1 := v1) s l r hI
  have e1 : pL_harsh (ob g 0) v1 (ob g 304) (mm g s l r) = some (k, mm g s1 l1 r1) := e1
  have e2 : p12_harsh (ob g 287) v1 (mm g s1 l1 r1) = some (w, mm g s2 l1 r1) := e2
  refine ⟨s2, l1, r1, ?_, e5⟩
  rw [pW_L23, if_neg hc, h0, obs, hv]
  iterate 22 refine swI_skip (by decide) ?_
  refine swI_hit.trans ?_
  simp only [h1, one_z, obs, e1, e2, m_thrown, e3, eq_self, if_true, if_false, pW_J1811, pW_J3518]
  by_cases hk : k = 0
  · simp only [hk, eq_self, if_true, o_aldL, obs, e4 hk, lg_self, pW_J1811, pW_J3518]
  · simp only [hk, if_false, pW_J1811, pW_J3518]
theorem st_23 (hI : INV s r) (hc : ¬ Int32.ofNat L - 6 < x4) (h0 : sld xs L x4 = some v0) (hv : v0 &&& 63 = 23) (h1 : sld xs L (x4 + 1) = some v1) : Nxt g xs L n x4 s l r := by
  obtain ⟨k, w, s1, l1, s2, r1, e1, e2, e3, e4, e5⟩ := b_kind (g := g) (x1 := v1) s l r hI
  have e1 : pL_kind (ob g 0) v1 (ob g 304) (mm g s l r) = some (k, mm g s1 l1 r1) := e1
  have e2 : p12_kind (ob g 287) v1 (mm g s1 l1 r1) = some (w, mm g s2 l1 r1) := e2
  refine ⟨s2, l1, r1, ?_, e5⟩
  rw [pW_L23, if_neg hc, h0, obs, hv]
  iterate 23 refine swI_skip (by decide) ?_
  refine swI_hit.trans ?_
  simp only [h1, one_z, obs, e1, e2, m_thrown, e3, eq_self, if_true, if_false, pW_J1867, pW_J3518]
  by_cases hk : k = 0
  · simp only [hk, eq_self, if_true, o_aldL, obs, e4 hk, lg_self, pW_J1867, pW_J3518]
  · simp only [hk, if_false, pW_J1867, pW_J3518]
theorem st_24 (hI : INV s r) (hc : ¬ Int32.ofNat L - 6 < x4) (h0 : sld xs L x4 = some v0) (hv : v0 &&& 63 = 24) (h1 : sld xs L (x4 + 1) = some v1) (h2 : sld xs L (x4 + 2) = some v2) : Nxt g xs L n x4 s l r := by
  by_cases f1 : v1 = 0
  ·
    by_cases f2 : v2 = 0
    ·
      obtain ⟨v, s1, r1, s2, e1, e2, e5⟩ := op_cradle (g := g) (x1 := false) (x2 := false) s l r hI
      have e1 : p11_cradle (ob g 0) 0 0 (mm g s l r) = some (v, mm g s1 l r1) := e1
      have e2 : p12_cradle (ob g 287) 0 0 (mm g s1 l r1) = some (v, mm g s2 l r1) := e2
      refine ⟨s2, l, r1, ?_, e5⟩
      rw [pW_L23, if_neg hc, h0, obs, hv]
      iterate 24 refine swI_skip (by decide) ?_
      refine swI_hit.trans ?_
      simp only [h1, h2, f1, f2, one_z, obs, e1, e2, eq_self, if_true, if_false, pW_J1885, pW_J1899, pW_J1917, pW_J1931, pW_J3518]
    ·
      obtain ⟨v, s1, r1, s2, e1, e2, e5⟩ := op_cradle (g := g) (x1 := false) (x2 := true) s l r hI
      have e1 : p11_cradle (ob g 0) 0 1 (mm g s l r) = some (v, mm g s1 l r1) := e1
      have e2 : p12_cradle (ob g 287) 0 1 (mm g s1 l r1) = some (v, mm g s2 l r1) := e2
      refine ⟨s2, l, r1, ?_, e5⟩
      rw [pW_L23, if_neg hc, h0, obs, hv]
      iterate 24 refine swI_skip (by decide) ?_
      refine swI_hit.trans ?_
      simp only [h1, h2, f1, f2, one_z, obs, e1, e2, eq_self, if_true, if_false, pW_J1885, pW_J1899, pW_J1917, pW_J1931, pW_J3518]
  ·
    by_cases f2 : v2 = 0
    ·
      obtain ⟨v, s1, r1, s2, e1, e2, e5⟩ := op_cradle (g := g) (x1 := true) (x2 := false) s l r hI
      have e1 : p11_cradle (ob g 0) 1 0 (mm g s l r) = some (v, mm g s1 l r1) := e1
      have e2 : p12_cradle (ob g 287) 1 0 (mm g s1 l r1) = some (v, mm g s2 l r1) := e2
      refine ⟨s2, l, r1, ?_, e5⟩
      rw [pW_L23, if_neg hc, h0, obs, hv]
      iterate 24 refine swI_skip (by decide) ?_
      refine swI_hit.trans ?_
      simp only [h1, h2, f1, f2, one_z, obs, e1, e2, eq_self, if_true, if_false, pW_J1885, pW_J1899, pW_J1917, pW_J1931, pW_J3518]
    ·
      obtain ⟨v, s1, r1, s2, e1, e2, e5⟩ := op_cradle (g := g) (x1 := true) (x2 := true) s l r hI
      have e1 : p11_cradle (ob g 0) 1 1 (mm g s l r) = some (v, mm g s1 l r1) := e1
      have e2 : p12_cradle (ob g 287) 1 1 (mm g s1 l r1) = some (v, mm g s2 l r1) := e2
      refine ⟨s2, l, r1, ?_, e5⟩
      rw [pW_L23, if_neg hc, h0, obs, hv]
      iterate 24 refine swI_skip (by decide) ?_
      refine swI_hit.trans ?_
      simp only [h1, h2, f1, f2, one_z, obs, e1, e2, eq_self, if_true, if_false, pW_J1885, pW_J1899, pW_J1917, pW_J1931, pW_J3518]
theorem st_25 (hI : INV s r) (hc : ¬ Int32.ofNat L - 6 < x4) (h0 : sld xs L x4 = some v0) (hv : v0 &&& 63 = 25) (h1 : sld xs L (x4 + 1) = some v1) : Nxt g xs L n x4 s l r := by
  by_cases f1 : v1 = 0
  ·
    obtain ⟨v, s1, r1, s2, e1, e2, e5⟩ := op_again (g := g) (x1 := false) s l r hI
    have e1 : p11_again (ob g 0) 0 (mm g s l r) = some (v, mm g s1 l r1) := e1
    have e2 : p12_again (ob g 287) 0 (mm g s1 l r1) = some (v, mm g s2 l r1) := e2
    refine ⟨s2, l, r1, ?_, e5⟩
    rw [pW_L23, if_neg hc, h0, obs, hv]
    iterate 25 refine swI_skip (by decide) ?_
    refine swI_hit.trans ?_
    simp only [h1, f1, one_z, obs, e1, e2, eq_self, if_true, if_false, pW_J1954, pW_J1972, pW_J3518]
  ·
    obtain ⟨v, s1, r1, s2, e1, e2, e5⟩ := op_again (g := g) (x1 := true) s l r hI
    have e1 : p11_again (ob g 0) 1 (mm g s l r) = some (v, mm g s1 l r1) := e1
    have e2 : p12_again (ob g 287) 1 (mm g s1 l r1) = some (v, mm g s2 l r1) := e2
    refine ⟨s2, l, r1, ?_, e5⟩
    rw [pW_L23, if_neg hc, h0, obs, hv]
    iterate 25 refine swI_skip (by decide) ?_
    refine swI_hit.trans ?_
    simp only [h1, f1, one_z, obs, e1, e2, eq_self, if_true, if_false, pW_J1954, pW_J1972, pW_J3518]
theorem st_26 (hI : INV s r) (hc : ¬ Int32.ofNat L - 6 < x4) (h0 : sld xs L x4 = some v0) (hv : v0 &&& 63 = 26) (h1 : sld xs L (x4 + 1) = some v1) : Nxt g xs L n x4 s l r := by
  obtain ⟨k, w, s1, l1, s2, r1, e1, e2, e3, e4, e5⟩ := b_over (g := g) (x1 := v1) s l r hI
  have e1 : pL_over (ob g 0) v1 (ob g 304) (mm g s l r) = some (k, mm g s1 l1 r1) := e1
  have e2 : p12_over (ob g 287) v1 (mm g s1 l1 r1) = some (w, mm g s2 l1 r1) := e2
  refine ⟨s2, l1, r1, ?_, e5⟩
  rw [pW_L23, if_neg hc, h0, obs, hv]
  iterate 26 refine swI_skip (by decide) ?_
  refine swI_hit.trans ?_
  simp only [h1, one_z, obs, e1, e2, m_thrown, e3, eq_self, if_true, if_false, pW_J2033, pW_J3518]
  by_cases hk : k = 0
  · simp only [hk, eq_self, if_true, o_aldL, obs, e4 hk, lg_self, pW_J2033, pW_J3518]
  · simp only [hk, if_false, pW_J2033, pW_J3518]
theorem st_27 (hI : INV s r) (hc : ¬ Int32.ofNat L - 6 < x4) (h0 : sld xs L x4 = some v0) (hv : v0 &&& 63 = 27) (h1 : sld xs L (x4 + 1) = some v1) : Nxt g xs L n x4 s l r := by
  obtain ⟨k, w, s1, l1, s2, r1, e1, e2, e3, e4, e5⟩ := b_said (g := g) (x1 := v1) s l r hI
  have e1 : pL_said (ob g 0) v1 (ob g 304) (mm g s l r) = some (k, mm g s1 l1 r1) := e1
  have e2 : p12_said (ob g 287) v1 (mm g s1 l1 r1) = some (w, mm g s2 l1 r1) := e2
  refine ⟨s2, l1, r1, ?_, e5⟩
  rw [pW_L23, if_neg hc, h0, obs, hv]
  iterate 27 refine swI_skip (by decide) ?_
  refine swI_hit.trans ?_
  simp only [h1, one_z, obs, e1, e2, m_thrown, e3, eq_self, if_true, if_false, pW_J2089, pW_J3518]
  by_cases hk : k = 0
  · simp only [hk, eq_self, if_true, o_aldL, obs, e4 hk, lg_self, pW_J2089, pW_J3518]
  · simp only [hk, if_false, pW_J2089, pW_J3518]
theorem st_28 (hI : INV s r) (hc : ¬ Int32.ofNat L - 6 < x4) (h0 : sld xs L x4 = some v0) (hv : v0 &&& 63 = 28) (h1 : sld xs L (x4 + 1) = some v1) : Nxt g xs L n x4 s l r := by
  obtain ⟨k, w, s1, l1, s2, r1, e1, e2, e3, e4, e5⟩ := b_ask (g := g) (x1 := v1) s l r hI
  have e1 : pL_ask (ob g 0) v1 (ob g 304) (mm g s l r) = some (k, mm g s1 l1 r1) := e1
  have e2 : p12_ask (ob g 287) v1 (mm g s1 l1 r1) = some (w, mm g s2 l1 r1) := e2
  refine ⟨s2, l1, r1, ?_, e5⟩
  rw [pW_L23, if_neg hc, h0, obs, hv]
  iterate 28 refine swI_skip (by decide) ?_
  refine swI_hit.trans ?_
  simp only [h1, one_z, obs, e1, e2, m_thrown, e3, eq_self, if_true, if_false, pW_J2145, pW_J3518]
  by_cases hk : k = 0
  · simp only [hk, eq_self, if_true, o_aldL, obs, e4 hk, lg_self, pW_J2145, pW_J3518]
  · simp only [hk, if_false, pW_J2145, pW_J3518]
theorem st_29 (hI : INV s r) (hc : ¬ Int32.ofNat L - 6 < x4) (h0 : sld xs L x4 = some v0) (hv : v0 &&& 63 = 29) (h1 : sld xs L (x4 + 1) = some v1) : Nxt g xs L n x4 s l r := by
  by_cases f1 : v1 = 0
  ·
    obtain ⟨v, s1, r1, s2, e1, e2, e5⟩ := op_match (g := g) (x1 := false) s l r hI
    have e1 : p11_match (ob g 0) 0 (mm g s l r) = some (v, mm g s1 l r1) := e1
    have e2 : p12_match (ob g 287) 0 (mm g s1 l r1) = some (v, mm g s2 l r1) := e2
    refine ⟨s2, l, r1, ?_, e5⟩
    rw [pW_L23, if_neg hc, h0, obs, hv]
    iterate 29 refine swI_skip (by decide) ?_
    refine swI_hit.trans ?_
    simp only [h1, f1, one_z, obs, e1, e2, eq_self, if_true, if_false, pW_J2163, pW_J2181, pW_J3518]
  ·
    obtain ⟨v, s1, r1, s2, e1, e2, e5⟩ := op_match (g := g) (x1 := true) s l r hI
    have e1 : p11_match (ob g 0) 1 (mm g s l r) = some (v, mm g s1 l r1) := e1
    have e2 : p12_match (ob g 287) 1 (mm g s1 l r1) = some (v, mm g s2 l r1) := e2
    refine ⟨s2, l, r1, ?_, e5⟩
    rw [pW_L23, if_neg hc, h0, obs, hv]
    iterate 29 refine swI_skip (by decide) ?_
    refine swI_hit.trans ?_
    simp only [h1, f1, one_z, obs, e1, e2, eq_self, if_true, if_false, pW_J2163, pW_J2181, pW_J3518]
theorem st_30 (hI : INV s r) (hc : ¬ Int32.ofNat L - 6 < x4) (h0 : sld xs L x4 = some v0) (hv : v0 &&& 63 = 30) (h1 : sld xs L (x4 + 1) = some v1) : Nxt g xs L n x4 s l r := by
  obtain ⟨k, w, s1, l1, s2, r1, e1, e2, e3, e4, e5⟩ := b_mate (g := g) (x1 := v1) s l r hI
  have e1 : pL_mate (ob g 0) v1 (ob g 304) (mm g s l r) = some (k, mm g s1 l1 r1) := e1
  have e2 : p12_mate (ob g 287) v1 (mm g s1 l1 r1) = some (w, mm g s2 l1 r1) := e2
  refine ⟨s2, l1, r1, ?_, e5⟩
  rw [pW_L23, if_neg hc, h0, obs, hv]
  iterate 30 refine swI_skip (by decide) ?_
  refine swI_hit.trans ?_
  simp only [h1, one_z, obs, e1, e2, m_thrown, e3, eq_self, if_true, if_false, pW_J2242, pW_J3518]
  by_cases hk : k = 0
  · simp only [hk, eq_self, if_true, o_aldL, obs, e4 hk, lg_self, pW_J2242, pW_J3518]
  · simp only [hk, if_false, pW_J2242, pW_J3518]
theorem st_31 (hI : INV s r) (hc : ¬ Int32.ofNat L - 6 < x4) (h0 : sld xs L x4 = some v0) (hv : v0 &&& 63 = 31) (h1 : sld xs L (x4 + 1) = some v1) : Nxt g xs L n x4 s l r := by
  obtain ⟨k, w, s1, l1, s2, r1, e1, e2, e3, e4, e5⟩ := b_stable (g := g) (x1 := v1) s l r hI
  have e1 : pL_stable (ob g 0) v1 (ob g 304) (mm g s l r) = some (k, mm g s1 l1 r1) := e1
  have e2 : p12_stable (ob g 287) v1 (mm g s1 l1 r1) = some (w, mm g s2 l1 r1) := e2
  refine ⟨s2, l1, r1, ?_, e5⟩
  rw [pW_L23, if_neg hc, h0, obs, hv]
  iterate 31 refine swI_skip (by decide) ?_
  refine swI_hit.trans ?_
  simp only [h1, one_z, obs, e1, e2, m_thrown, e3, eq_self, if_true, if_false, pW_J2298, pW_J3518]
  by_cases hk : k = 0
  · simp only [hk, eq_self, if_true, o_aldL, obs, e4 hk, lg_self, pW_J2298, pW_J3518]
  · simp only [hk, if_false, pW_J2298, pW_J3518]
theorem st_32 (hI : INV s r) (hc : ¬ Int32.ofNat L - 6 < x4) (h0 : sld xs L x4 = some v0) (hv : v0 &&& 63 = 32)  : Nxt g xs L n x4 s l r := by
  obtain ⟨v, s2, e1, e2, e5⟩ := op_runs (g := g)  s l r hI
  have e1 : p11_runs (ob g 0) (mm g s l r) = some v := e1
  have e2 : p12_runs (ob g 287) (mm g s l r) = some (v, mm g s2 l r) := e2
  refine ⟨s2, l, r, ?_, e5⟩
  rw [pW_L23, if_neg hc, h0, obs, hv]
  iterate 32 refine swI_skip (by decide) ?_
  refine swI_hit.trans ?_
  simp only [one_z, obs, e1, e2, eq_self, if_true, if_false, pW_J3518]
theorem st_33 (hI : INV s r) (hc : ¬ Int32.ofNat L - 6 < x4) (h0 : sld xs L x4 = some v0) (hv : v0 &&& 63 = 33) (h1 : sld xs L (x4 + 1) = some v1) (h2 : sld xs L (x4 + 2) = some v2) : Nxt g xs L n x4 s l r := by
  obtain ⟨k, w, s1, l1, s2, r1, e1, e2, e3, e4, e5⟩ := b_owes (g := g) (x1 := v1) (x2 := v2) s l r hI
  have e1 : pL_owes (ob g 0) v1 v2 (ob g 304) (mm g s l r) = some (k, mm g s1 l1 r1) := e1
  have e2 : p12_owes (ob g 287) v1 v2 (mm g s1 l1 r1) = some (w, mm g s2 l1 r1) := e2
  refine ⟨s2, l1, r1, ?_, e5⟩
  rw [pW_L23, if_neg hc, h0, obs, hv]
  iterate 33 refine swI_skip (by decide) ?_
  refine swI_hit.trans ?_
  simp only [h1, h2, one_z, obs, e1, e2, m_thrown, e3, eq_self, if_true, if_false, pW_J2379, pW_J3518]
  by_cases hk : k = 0
  · simp only [hk, eq_self, if_true, o_aldL, obs, e4 hk, lg_self, pW_J2379, pW_J3518]
  · simp only [hk, if_false, pW_J2379, pW_J3518]
theorem st_34 (hI : INV s r) (hc : ¬ Int32.ofNat L - 6 < x4) (h0 : sld xs L x4 = some v0) (hv : v0 &&& 63 = 34)  : Nxt g xs L n x4 s l r := by
  obtain ⟨v, s2, e1, e2, e5⟩ := op_net (g := g)  s l r hI
  have e1 : p11_net (ob g 0) (mm g s l r) = some v := e1
  have e2 : p12_net (ob g 287) (mm g s l r) = some (v, mm g s2 l r) := e2
  refine ⟨s2, l, r, ?_, e5⟩
  rw [pW_L23, if_neg hc, h0, obs, hv]
  iterate 34 refine swI_skip (by decide) ?_
  refine swI_hit.trans ?_
  simp only [one_z, obs, e1, e2, eq_self, if_true, if_false, pW_J3518]
theorem st_35 (hI : INV s r) (hc : ¬ Int32.ofNat L - 6 < x4) (h0 : sld xs L x4 = some v0) (hv : v0 &&& 63 = 35) (h1 : sld xs L (x4 + 1) = some v1) : Nxt g xs L n x4 s l r := by
  obtain ⟨k, w, s1, l1, s2, r1, e1, e2, e3, e4, e5⟩ := b_ring (g := g) (x1 := v1) s l r hI
  have e1 : pL_ring (ob g 0) v1 (ob g 304) (mm g s l r) = some (k, mm g s1 l1 r1) := e1
  have e2 : p12_ring (ob g 287) v1 (mm g s1 l1 r1) = some (w, mm g s2 l1 r1) := e2
  refine ⟨s2, l1, r1, ?_, e5⟩
  rw [pW_L23, if_neg hc, h0, obs, hv]
  iterate 35 refine swI_skip (by decide) ?_
  refine swI_hit.trans ?_
  simp only [h1, one_z, obs, e1, e2, m_thrown, e3, eq_self, if_true, if_false, pW_J2455, pW_J3518, pW_J2449]
  by_cases hk : k = 0
  · obtain ⟨y, y1, y2⟩ := e4 hk
    subst y1
    cases y
    · have y2 : l1 304 0 = 0 := y2
      simp only [hk, eq_self, if_true, o_aldL, obs, y2, ib_f, lg_self, one_z, if_false, pW_J2455, pW_J3518, pW_J2449]
    · have y2 : l1 304 0 = 1 := y2
      simp only [hk, eq_self, if_true, o_aldL, obs, y2, ib_t, lg_self, one_z, if_false, pW_J2455, pW_J3518, pW_J2449]
  · simp only [hk, if_false, pW_J2455, pW_J3518, pW_J2449]
theorem st_36 (hI : INV s r) (hc : ¬ Int32.ofNat L - 6 < x4) (h0 : sld xs L x4 = some v0) (hv : v0 &&& 63 = 36)  : Nxt g xs L n x4 s l r := by
  obtain ⟨v, s2, e1, e2, e5⟩ := op_rich (g := g)  s l r hI
  have e1 : p11_rich (ob g 0) (mm g s l r) = some v := e1
  have e2 : p12_rich (ob g 287) (mm g s l r) = some (v, mm g s2 l r) := e2
  refine ⟨s2, l, r, ?_, e5⟩
  rw [pW_L23, if_neg hc, h0, obs, hv]
  iterate 36 refine swI_skip (by decide) ?_
  refine swI_hit.trans ?_
  simp only [one_z, obs, e1, e2, eq_self, if_true, if_false, pW_J3518]
theorem st_37 (hI : INV s r) (hc : ¬ Int32.ofNat L - 6 < x4) (h0 : sld xs L x4 = some v0) (hv : v0 &&& 63 = 37) (h1 : sld xs L (x4 + 1) = some v1) (h2 : sld xs L (x4 + 2) = some v2) : Nxt g xs L n x4 s l r := by
  obtain ⟨k, w, s1, l1, s2, r1, e1, e2, e3, e4, e5⟩ := b_rests (g := g) (x1 := v1) (x2 := v2) s l r hI
  have e1 : pL_rests (ob g 0) v1 v2 (ob g 304) (mm g s l r) = some (k, mm g s1 l1 r1) := e1
  have e2 : p12_rests (ob g 287) v1 v2 (mm g s1 l1 r1) = some (w, mm g s2 l1 r1) := e2
  refine ⟨s2, l1, r1, ?_, e5⟩
  rw [pW_L23, if_neg hc, h0, obs, hv]
  iterate 37 refine swI_skip (by decide) ?_
  refine swI_hit.trans ?_
  simp only [h1, h2, one_z, obs, e1, e2, m_thrown, e3, eq_self, if_true, if_false, pW_J2536, pW_J3518]
  by_cases hk : k = 0
  · simp only [hk, eq_self, if_true, o_aldL, obs, e4 hk, lg_self, pW_J2536, pW_J3518]
  · simp only [hk, if_false, pW_J2536, pW_J3518]
theorem st_38 (hI : INV s r) (hc : ¬ Int32.ofNat L - 6 < x4) (h0 : sld xs L x4 = some v0) (hv : v0 &&& 63 = 38) (h1 : sld xs L (x4 + 1) = some v1) : Nxt g xs L n x4 s l r := by
  obtain ⟨k, w, s1, l1, s2, r1, e1, e2, e3, e4, e5⟩ := b_mild (g := g) (x1 := v1) s l r hI
  have e1 : pL_mild (ob g 0) v1 (ob g 304) (mm g s l r) = some (k, mm g s1 l1 r1) := e1
  have e2 : p12_mild (ob g 287) v1 (mm g s1 l1 r1) = some (w, mm g s2 l1 r1) := e2
  refine ⟨s2, l1, r1, ?_, e5⟩
  rw [pW_L23, if_neg hc, h0, obs, hv]
  iterate 38 refine swI_skip (by decide) ?_
  refine swI_hit.trans ?_
  simp only [h1, one_z, obs, e1, e2, m_thrown, e3, eq_self, if_true, if_false, pW_J2592, pW_J3518]
  by_cases hk : k = 0
  · simp only [hk, eq_self, if_true, o_aldL, obs, e4 hk, lg_self, pW_J2592, pW_J3518]
  · simp only [hk, if_false, pW_J2592, pW_J3518]
theorem st_39 (hI : INV s r) (hc : ¬ Int32.ofNat L - 6 < x4) (h0 : sld xs L x4 = some v0) (hv : v0 &&& 63 = 39) (h1 : sld xs L (x4 + 1) = some v1) : Nxt g xs L n x4 s l r := by
  obtain ⟨k, w, s1, l1, s2, r1, e1, e2, e3, e4, e5⟩ := b_branch (g := g) (x1 := v1) s l r hI
  have e1 : pL_branch (ob g 0) v1 (ob g 304) (mm g s l r) = some (k, mm g s1 l1 r1) := e1
  have e2 : p12_branch (ob g 287) v1 (mm g s1 l1 r1) = some (w, mm g s2 l1 r1) := e2
  refine ⟨s2, l1, r1, ?_, e5⟩
  rw [pW_L23, if_neg hc, h0, obs, hv]
  iterate 39 refine swI_skip (by decide) ?_
  refine swI_hit.trans ?_
  simp only [h1, one_z, obs, e1, e2, m_thrown, e3, eq_self, if_true, if_false, pW_J2648, pW_J3518]
  by_cases hk : k = 0
  · simp only [hk, eq_self, if_true, o_aldL, obs, e4 hk, lg_self, pW_J2648, pW_J3518]
  · simp only [hk, if_false, pW_J2648, pW_J3518]
theorem st_40 (hI : INV s r) (hc : ¬ Int32.ofNat L - 6 < x4) (h0 : sld xs L x4 = some v0) (hv : v0 &&& 63 = 40)  : Nxt g xs L n x4 s l r := by
  obtain ⟨v, s2, e1, e2, e5⟩ := op_senior (g := g)  s l r hI
  have e1 : p11_senior (ob g 0) (mm g s l r) = some v := e1
  have e2 : p12_senior (ob g 287) (mm g s l r) = some (v, mm g s2 l r) := e2
  refine ⟨s2, l, r, ?_, e5⟩
  rw [pW_L23, if_neg hc, h0, obs, hv]
  iterate 40 refine swI_skip (by decide) ?_
  refine swI_hit.trans ?_
  simp only [one_z, obs, e1, e2, eq_self, if_true, if_false, pW_J3518]
theorem st_41 (hI : INV s r) (hc : ¬ Int32.ofNat L - 6 < x4) (h0 : sld xs L x4 = some v0) (hv : v0 &&& 63 = 41) (h1 : sld xs L (x4 + 1) = some v1) (h2 : sld xs L (x4 + 2) = some v2) : Nxt g xs L n x4 s l r := by
  obtain ⟨k, w, s1, l1, s2, r1, e1, e2, e3, e4, e5⟩ := b_kin (g := g) (x1 := v1) (x2 := v2) s l r hI
  have e1 : pL_kin (ob g 0) v1 v2 (ob g 304) (mm g s l r) = some (k, mm g s1 l1 r1) := e1
  have e2 : p12_kin (ob g 287) v1 v2 (mm g s1 l1 r1) = some (w, mm g s2 l1 r1) := e2
  refine ⟨s2, l1, r1, ?_, e5⟩
  rw [pW_L23, if_neg hc, h0, obs, hv]
  iterate 41 refine swI_skip (by decide) ?_
  refine swI_hit.trans ?_
  simp only [h1, h2, one_z, obs, e1, e2, m_thrown, e3, eq_self, if_true, if_false, pW_J2729, pW_J3518]
  by_cases hk : k = 0
  · simp only [hk, eq_self, if_true, o_aldL, obs, e4 hk, lg_self, pW_J2729, pW_J3518]
  · simp only [hk, if_false, pW_J2729, pW_J3518]
theorem st_42 (hI : INV s r) (hc : ¬ Int32.ofNat L - 6 < x4) (h0 : sld xs L x4 = some v0) (hv : v0 &&& 63 = 42) (h1 : sld xs L (x4 + 1) = some v1) : Nxt g xs L n x4 s l r := by
  obtain ⟨k, w, s1, l1, s2, r1, e1, e2, e3, e4, e5⟩ := b_cousins (g := g) (x1 := v1) s l r hI
  have e1 : pL_cousins (ob g 0) v1 (ob g 304) (mm g s l r) = some (k, mm g s1 l1 r1) := e1
  have e2 : p12_cousins (ob g 287) v1 (mm g s1 l1 r1) = some (w, mm g s2 l1 r1) := e2
  refine ⟨s2, l1, r1, ?_, e5⟩
  rw [pW_L23, if_neg hc, h0, obs, hv]
  iterate 42 refine swI_skip (by decide) ?_
  refine swI_hit.trans ?_
  simp only [h1, one_z, obs, e1, e2, m_thrown, e3, eq_self, if_true, if_false, pW_J2785, pW_J3518]
  by_cases hk : k = 0
  · simp only [hk, eq_self, if_true, o_aldL, obs, e4 hk, lg_self, pW_J2785, pW_J3518]
  · simp only [hk, if_false, pW_J2785, pW_J3518]
theorem st_43 (hI : INV s r) (hc : ¬ Int32.ofNat L - 6 < x4) (h0 : sld xs L x4 = some v0) (hv : v0 &&& 63 = 43) (h1 : sld xs L (x4 + 1) = some v1) : Nxt g xs L n x4 s l r := by
  obtain ⟨k, w, s1, l1, s2, r1, e1, e2, e3, e4, e5⟩ := b_under (g := g) (x1 := v1) s l r hI
  have e1 : pL_under (ob g 0) v1 (ob g 304) (mm g s l r) = some (k, mm g s1 l1 r1) := e1
  have e2 : p12_under (ob g 287) v1 (mm g s1 l1 r1) = some (w, mm g s2 l1 r1) := e2
  refine ⟨s2, l1, r1, ?_, e5⟩
  rw [pW_L23, if_neg hc, h0, obs, hv]
  iterate 43 refine swI_skip (by decide) ?_
  refine swI_hit.trans ?_
  simp only [h1, one_z, obs, e1, e2, m_thrown, e3, eq_self, if_true, if_false, pW_J2841, pW_J3518]
  by_cases hk : k = 0
  · simp only [hk, eq_self, if_true, o_aldL, obs, e4 hk, lg_self, pW_J2841, pW_J3518]
  · simp only [hk, if_false, pW_J2841, pW_J3518]
theorem st_44 (hI : INV s r) (hc : ¬ Int32.ofNat L - 6 < x4) (h0 : sld xs L x4 = some v0) (hv : v0 &&& 63 = 44)  : Nxt g xs L n x4 s l r := by
  obtain ⟨v, s2, e1, e2, e5⟩ := op_free (g := g)  s l r hI
  have e1 : p11_free (ob g 0) (mm g s l r) = some v := e1
  have e2 : p12_free (ob g 287) (mm g s l r) = some (v, mm g s2 l r) := e2
  refine ⟨s2, l, r, ?_, e5⟩
  rw [pW_L23, if_neg hc, h0, obs, hv]
  iterate 44 refine swI_skip (by decide) ?_
  refine swI_hit.trans ?_
  simp only [one_z, obs, e1, e2, eq_self, if_true, if_false, pW_J3518]
theorem st_45 (hI : INV s r) (hc : ¬ Int32.ofNat L - 6 < x4) (h0 : sld xs L x4 = some v0) (hv : v0 &&& 63 = 45) (h1 : sld xs L (x4 + 1) = some v1) (h2 : sld xs L (x4 + 2) = some v2) (h3 : sld xs L (x4 + 3) = some v3) : Nxt g xs L n x4 s l r := by
  obtain ⟨k, w, s1, l1, s2, l2, r1, e1, e2, e3, e4, e5⟩ := b_odds (g := g) (x1 := v1) (x2 := v2) (x3 := v3) s l r hI
  have e1 : pL_odds (ob g 0) v1 v2 v3 (ob g 304) (mm g s l r) = some (k, mm g s1 l1 r1) := e1
  have e2 : p12_odds (ob g 287) v1 v2 v3 (mm g s1 l1 r1) = some (w, mm g s2 l2 r1) := e2
  refine ⟨s2, l2, r1, ?_, e5⟩
  rw [pW_L23, if_neg hc, h0, obs, hv]
  iterate 45 refine swI_skip (by decide) ?_
  refine swI_hit.trans ?_
  simp only [h1, h2, h3, one_z, obs, e1, e2, m_thrown, e3, eq_self, if_true, if_false, pW_J2934, pW_J3518]
  by_cases hk : k = 0
  · simp only [hk, eq_self, if_true, o_aldL, obs, e4 hk, lg_self, pW_J2934, pW_J3518]
  · simp only [hk, if_false, pW_J2934, pW_J3518]
theorem st_46 (hI : INV s r) (hc : ¬ Int32.ofNat L - 6 < x4) (h0 : sld xs L x4 = some v0) (hv : v0 &&& 63 = 46)  : Nxt g xs L n x4 s l r := by
  obtain ⟨v, s2, e1, e2, e5⟩ := op_twins (g := g)  s l r hI
  have e1 : p11_twins (ob g 0) (mm g s l r) = some v := e1
  have e2 : p12_twins (ob g 287) (mm g s l r) = some (v, mm g s2 l r) := e2
  refine ⟨s2, l, r, ?_, e5⟩
  rw [pW_L23, if_neg hc, h0, obs, hv]
  iterate 46 refine swI_skip (by decide) ?_
  refine swI_hit.trans ?_
  simp only [one_z, obs, e1, e2, eq_self, if_true, if_false, pW_J3518]
theorem st_47 (hI : INV s r) (hc : ¬ Int32.ofNat L - 6 < x4) (h0 : sld xs L x4 = some v0) (hv : v0 &&& 63 = 47)  : Nxt g xs L n x4 s l r := by
  obtain ⟨v, s2, e1, e2, e5⟩ := op_mean (g := g)  s l r hI
  have e1 : p11_mean (ob g 0) (mm g s l r) = some v := e1
  have e2 : p12_mean (ob g 287) (mm g s l r) = some (v, mm g s2 l r) := e2
  refine ⟨s2, l, r, ?_, e5⟩
  rw [pW_L23, if_neg hc, h0, obs, hv]
  iterate 47 refine swI_skip (by decide) ?_
  refine swI_hit.trans ?_
  simp only [one_z, obs, e1, e2, eq_self, if_true, if_false, pW_J3518]
theorem st_48 (hI : INV s r) (hc : ¬ Int32.ofNat L - 6 < x4) (h0 : sld xs L x4 = some v0) (hv : v0 &&& 63 = 48)  : Nxt g xs L n x4 s l r := by
  obtain ⟨v, s2, e1, e2, e5⟩ := op_oldest (g := g)  s l r hI
  have e1 : p11_oldest (ob g 0) (mm g s l r) = some v := e1
  have e2 : p12_oldest (ob g 287) (mm g s l r) = some (v, mm g s2 l r) := e2
  refine ⟨s2, l, r, ?_, e5⟩
  rw [pW_L23, if_neg hc, h0, obs, hv]
  iterate 48 refine swI_skip (by decide) ?_
  refine swI_hit.trans ?_
  simp only [one_z, obs, e1, e2, eq_self, if_true, if_false, pW_J3518]
theorem st_49 (hI : INV s r) (hc : ¬ Int32.ofNat L - 6 < x4) (h0 : sld xs L x4 = some v0) (hv : v0 &&& 63 = 49)  : Nxt g xs L n x4 s l r := by
  obtain ⟨v, s2, e1, e2, e5⟩ := op_youngest (g := g)  s l r hI
  have e1 : p11_youngest (ob g 0) (mm g s l r) = some v := e1
  have e2 : p12_youngest (ob g 287) (mm g s l r) = some (v, mm g s2 l r) := e2
  refine ⟨s2, l, r, ?_, e5⟩
  rw [pW_L23, if_neg hc, h0, obs, hv]
  iterate 49 refine swI_skip (by decide) ?_
  refine swI_hit.trans ?_
  simp only [one_z, obs, e1, e2, eq_self, if_true, if_false, pW_J3518]
theorem st_50 (hI : INV s r) (hc : ¬ Int32.ofNat L - 6 < x4) (h0 : sld xs L x4 = some v0) (hv : v0 &&& 63 = 50)  : Nxt g xs L n x4 s l r := by
  obtain ⟨v, s2, e1, e2, e5⟩ := op_crib (g := g)  s l r hI
  have e1 : p11_crib (ob g 0) (mm g s l r) = some v := e1
  have e2 : p12_crib (ob g 287) (mm g s l r) = some (v, mm g s2 l r) := e2
  refine ⟨s2, l, r, ?_, e5⟩
  rw [pW_L23, if_neg hc, h0, obs, hv]
  iterate 50 refine swI_skip (by decide) ?_
  refine swI_hit.trans ?_
  simp only [one_z, obs, e1, e2, eq_self, if_true, if_false, pW_J3518]
theorem st_51 (hI : INV s r) (hc : ¬ Int32.ofNat L - 6 < x4) (h0 : sld xs L x4 = some v0) (hv : v0 &&& 63 = 51)  : Nxt g xs L n x4 s l r := by
  obtain ⟨v, s2, e1, e2, e5⟩ := op_spread (g := g)  s l r hI
  have e1 : p11_spread (ob g 0) (mm g s l r) = some v := e1
  have e2 : p12_spread (ob g 287) (mm g s l r) = some (v, mm g s2 l r) := e2
  refine ⟨s2, l, r, ?_, e5⟩
  rw [pW_L23, if_neg hc, h0, obs, hv]
  iterate 51 refine swI_skip (by decide) ?_
  refine swI_hit.trans ?_
  simp only [one_z, obs, e1, e2, eq_self, if_true, if_false, pW_J3518]
theorem st_52 (hI : INV s r) (hc : ¬ Int32.ofNat L - 6 < x4) (h0 : sld xs L x4 = some v0) (hv : v0 &&& 63 = 52) (h1 : sld xs L (x4 + 1) = some v1) (h2 : sld xs L (x4 + 2) = some v2) (h3 : sld xs L (x4 + 3) = some v3) : Nxt g xs L n x4 s l r := by
  by_cases f3 : v3 = 0
  ·
    obtain ⟨k, w, s1, l1, s2, r1, e1, e2, e3, e4, e5⟩ := b_ahead (g := g) (x1 := v1) (x2 := v2) (x3 := false) s l r hI
    have e1 : pL_ahead (ob g 0) v1 v2 0 (ob g 304) (mm g s l r) = some (k, mm g s1 l1 r1) := e1
    have e2 : p12_ahead (ob g 287) v1 v2 0 (mm g s1 l1 r1) = some (w, mm g s2 l1 r1) := e2
    refine ⟨s2, l1, r1, ?_, e5⟩
    rw [pW_L23, if_neg hc, h0, obs, hv]
    iterate 52 refine swI_skip (by decide) ?_
    refine swI_hit.trans ?_
    simp only [h1, h2, h3, f3, one_z, obs, e1, e2, m_thrown, e3, eq_self, if_true, if_false, pW_J3042, pW_J3075, pW_J3108, pW_J3518]
    by_cases hk : k = 0
    · simp only [hk, eq_self, if_true, o_aldL, obs, e4 hk, lg_self, pW_J3042, pW_J3075, pW_J3108, pW_J3518]
    · simp only [hk, if_false, pW_J3042, pW_J3075, pW_J3108, pW_J3518]
  ·
    obtain ⟨k, w, s1, l1, s2, r1, e1, e2, e3, e4, e5⟩ := b_ahead (g := g) (x1 := v1) (x2 := v2) (x3 := true) s l r hI
    have e1 : pL_ahead (ob g 0) v1 v2 1 (ob g 304) (mm g s l r) = some (k, mm g s1 l1 r1) := e1
    have e2 : p12_ahead (ob g 287) v1 v2 1 (mm g s1 l1 r1) = some (w, mm g s2 l1 r1) := e2
    refine ⟨s2, l1, r1, ?_, e5⟩
    rw [pW_L23, if_neg hc, h0, obs, hv]
    iterate 52 refine swI_skip (by decide) ?_
    refine swI_hit.trans ?_
    simp only [h1, h2, h3, f3, one_z, obs, e1, e2, m_thrown, e3, eq_self, if_true, if_false, pW_J3042, pW_J3075, pW_J3108, pW_J3518]
    by_cases hk : k = 0
    · simp only [hk, eq_self, if_true, o_aldL, obs, e4 hk, lg_self, pW_J3042, pW_J3075, pW_J3108, pW_J3518]
    · simp only [hk, if_false, pW_J3042, pW_J3075, pW_J3108, pW_J3518]
theorem st_53 (hI : INV s r) (hc : ¬ Int32.ofNat L - 6 < x4) (h0 : sld xs L x4 = some v0) (hv : v0 &&& 63 = 53) (h1 : sld xs L (x4 + 1) = some v1) (h2 : sld xs L (x4 + 2) = some v2) : Nxt g xs L n x4 s l r := by
  by_cases f2 : v2 = 0
  ·
    obtain ⟨k, w, s1, l1, s2, r1, e1, e2, e3, e4, e5⟩ := b_trial (g := g) (x1 := v1) (x2 := false) s l r hI
    have e1 : pL_trial (ob g 0) v1 0 (ob g 304) (mm g s l r) = some (k, mm g s1 l1 r1) := e1
    have e2 : p12_trial (ob g 287) v1 0 (mm g s1 l1 r1) = some (w, mm g s2 l1 r1) := e2
    refine ⟨s2, l1, r1, ?_, e5⟩
    rw [pW_L23, if_neg hc, h0, obs, hv]
    iterate 53 refine swI_skip (by decide) ?_
    refine swI_hit.trans ?_
    simp only [h1, h2, f2, one_z, obs, e1, e2, m_thrown, e3, eq_self, if_true, if_false, pW_J3132, pW_J3159, pW_J3192, pW_J3518]
    by_cases hk : k = 0
    · simp only [hk, eq_self, if_true, o_aldL, obs, e4 hk, lg_self, pW_J3132, pW_J3159, pW_J3192, pW_J3518]
    · simp only [hk, if_false, pW_J3132, pW_J3159, pW_J3192, pW_J3518]
  ·
    obtain ⟨k, w, s1, l1, s2, r1, e1, e2, e3, e4, e5⟩ := b_trial (g := g) (x1 := v1) (x2 := true) s l r hI
    have e1 : pL_trial (ob g 0) v1 1 (ob g 304) (mm g s l r) = some (k, mm g s1 l1 r1) := e1
    have e2 : p12_trial (ob g 287) v1 1 (mm g s1 l1 r1) = some (w, mm g s2 l1 r1) := e2
    refine ⟨s2, l1, r1, ?_, e5⟩
    rw [pW_L23, if_neg hc, h0, obs, hv]
    iterate 53 refine swI_skip (by decide) ?_
    refine swI_hit.trans ?_
    simp only [h1, h2, f2, one_z, obs, e1, e2, m_thrown, e3, eq_self, if_true, if_false, pW_J3132, pW_J3159, pW_J3192, pW_J3518]
    by_cases hk : k = 0
    · simp only [hk, eq_self, if_true, o_aldL, obs, e4 hk, lg_self, pW_J3132, pW_J3159, pW_J3192, pW_J3518]
    · simp only [hk, if_false, pW_J3132, pW_J3159, pW_J3192, pW_J3518]
theorem st_54 (hI : INV s r) (hc : ¬ Int32.ofNat L - 6 < x4) (h0 : sld xs L x4 = some v0) (hv : v0 &&& 63 = 54) (h1 : sld xs L (x4 + 1) = some v1) (h2 : sld xs L (x4 + 2) = some v2) : Nxt g xs L n x4 s l r := by
  by_cases f2 : v2 = 0
  ·
    obtain ⟨k, w, s1, l1, s2, r1, e1, e2, e3, e4, e5⟩ := b_span (g := g) (x1 := v1) (x2 := false) s l r hI
    have e1 : pL_span (ob g 0) v1 0 (ob g 304) (mm g s l r) = some (k, mm g s1 l1 r1) := e1
    have e2 : p12_span (ob g 287) v1 0 (mm g s1 l1 r1) = some (w, mm g s2 l1 r1) := e2
    refine ⟨s2, l1, r1, ?_, e5⟩
    rw [pW_L23, if_neg hc, h0, obs, hv]
    iterate 54 refine swI_skip (by decide) ?_
    refine swI_hit.trans ?_
    simp only [h1, h2, f2, one_z, obs, e1, e2, m_thrown, e3, eq_self, if_true, if_false, pW_J3216, pW_J3243, pW_J3276, pW_J3518]
    by_cases hk : k = 0
    · simp only [hk, eq_self, if_true, o_aldL, obs, e4 hk, lg_self, pW_J3216, pW_J3243, pW_J3276, pW_J3518]
    · simp only [hk, if_false, pW_J3216, pW_J3243, pW_J3276, pW_J3518]
  ·
    obtain ⟨k, w, s1, l1, s2, r1, e1, e2, e3, e4, e5⟩ := b_span (g := g) (x1 := v1) (x2 := true) s l r hI
    have e1 : pL_span (ob g 0) v1 1 (ob g 304) (mm g s l r) = some (k, mm g s1 l1 r1) := e1
    have e2 : p12_span (ob g 287) v1 1 (mm g s1 l1 r1) = some (w, mm g s2 l1 r1) := e2
    refine ⟨s2, l1, r1, ?_, e5⟩
    rw [pW_L23, if_neg hc, h0, obs, hv]
    iterate 54 refine swI_skip (by decide) ?_
    refine swI_hit.trans ?_
    simp only [h1, h2, f2, one_z, obs, e1, e2, m_thrown, e3, eq_self, if_true, if_false, pW_J3216, pW_J3243, pW_J3276, pW_J3518]
    by_cases hk : k = 0
    · simp only [hk, eq_self, if_true, o_aldL, obs, e4 hk, lg_self, pW_J3216, pW_J3243, pW_J3276, pW_J3518]
    · simp only [hk, if_false, pW_J3216, pW_J3243, pW_J3276, pW_J3518]
theorem st_55 (hI : INV s r) (hc : ¬ Int32.ofNat L - 6 < x4) (h0 : sld xs L x4 = some v0) (hv : v0 &&& 63 = 55) (h1 : sld xs L (x4 + 1) = some v1) (h2 : sld xs L (x4 + 2) = some v2) : Nxt g xs L n x4 s l r := by
  by_cases f2 : v2 = 0
  ·
    obtain ⟨k, w, s1, l1, s2, r1, e1, e2, e3, e4, e5⟩ := b_led (g := g) (x1 := v1) (x2 := false) s l r hI
    have e1 : pL_led (ob g 0) v1 0 (ob g 304) (mm g s l r) = some (k, mm g s1 l1 r1) := e1
    have e2 : p12_led (ob g 287) v1 0 (mm g s1 l1 r1) = some (w, mm g s2 l1 r1) := e2
    refine ⟨s2, l1, r1, ?_, e5⟩
    rw [pW_L23, if_neg hc, h0, obs, hv]
    iterate 55 refine swI_skip (by decide) ?_
    refine swI_hit.trans ?_
    simp only [h1, h2, f2, one_z, obs, e1, e2, m_thrown, e3, eq_self, if_true, if_false, pW_J3300, pW_J3327, pW_J3360, pW_J3518]
    by_cases hk : k = 0
    · simp only [hk, eq_self, if_true, o_aldL, obs, e4 hk, lg_self, pW_J3300, pW_J3327, pW_J3360, pW_J3518]
    · simp only [hk, if_false, pW_J3300, pW_J3327, pW_J3360, pW_J3518]
  ·
    obtain ⟨k, w, s1, l1, s2, r1, e1, e2, e3, e4, e5⟩ := b_led (g := g) (x1 := v1) (x2 := true) s l r hI
    have e1 : pL_led (ob g 0) v1 1 (ob g 304) (mm g s l r) = some (k, mm g s1 l1 r1) := e1
    have e2 : p12_led (ob g 287) v1 1 (mm g s1 l1 r1) = some (w, mm g s2 l1 r1) := e2
    refine ⟨s2, l1, r1, ?_, e5⟩
    rw [pW_L23, if_neg hc, h0, obs, hv]
    iterate 55 refine swI_skip (by decide) ?_
    refine swI_hit.trans ?_
    simp only [h1, h2, f2, one_z, obs, e1, e2, m_thrown, e3, eq_self, if_true, if_false, pW_J3300, pW_J3327, pW_J3360, pW_J3518]
    by_cases hk : k = 0
    · simp only [hk, eq_self, if_true, o_aldL, obs, e4 hk, lg_self, pW_J3300, pW_J3327, pW_J3360, pW_J3518]
    · simp only [hk, if_false, pW_J3300, pW_J3327, pW_J3360, pW_J3518]
theorem st_56 (hI : INV s r) (hc : ¬ Int32.ofNat L - 6 < x4) (h0 : sld xs L x4 = some v0) (hv : v0 &&& 63 = 56) (h1 : sld xs L (x4 + 1) = some v1) (h2 : sld xs L (x4 + 2) = some v2) : Nxt g xs L n x4 s l r := by
  obtain ⟨k, w, s1, l1, s2, r1, e1, e2, e3, e4, e5⟩ := b_log (g := g) (x1 := v1) (x2 := v2) s l r hI
  have e1 : pL_log (ob g 0) v1 v2 (ob g 304) (mm g s l r) = some (k, mm g s1 l1 r1) := e1
  have e2 : p12_log (ob g 287) v1 v2 (mm g s1 l1 r1) = some (w, mm g s2 l1 r1) := e2
  refine ⟨s2, l1, r1, ?_, e5⟩
  rw [pW_L23, if_neg hc, h0, obs, hv]
  iterate 56 refine swI_skip (by decide) ?_
  refine swI_hit.trans ?_
  simp only [h1, h2, one_z, obs, e1, e2, m_thrown, e3, eq_self, if_true, if_false, pW_J3428, pW_J3518]
  by_cases hk : k = 0
  · simp only [hk, eq_self, if_true, o_aldL, obs, e4 hk, lg_self, pW_J3428, pW_J3518]
  · simp only [hk, if_false, pW_J3428, pW_J3518]
theorem st_57 (hI : INV s r) (hc : ¬ Int32.ofNat L - 6 < x4) (h0 : sld xs L x4 = some v0) (hv : v0 &&& 63 = 57) (h1 : sld xs L (x4 + 1) = some v1) : Nxt g xs L n x4 s l r := by
  obtain ⟨v, s1, r1, s2, e1, e2, e5⟩ := op_seed (g := g) (x1 := v1) s l r hI
  have e1 : p11_seed (ob g 0) v1 (mm g s l r) = some (v, mm g s1 l r1) := e1
  have e2 : p12_seed (ob g 287) v1 (mm g s1 l r1) = some (v, mm g s2 l r1) := e2
  refine ⟨s2, l, r1, ?_, e5⟩
  rw [pW_L23, if_neg hc, h0, obs, hv]
  iterate 57 refine swI_skip (by decide) ?_
  refine swI_hit.trans ?_
  simp only [h1, one_z, obs, e1, e2, eq_self, if_true, if_false, pW_J3518]
theorem st_58 (hI : INV s r) (hc : ¬ Int32.ofNat L - 6 < x4) (h0 : sld xs L x4 = some v0) (hv : v0 &&& 63 = 58)  : Nxt g xs L n x4 s l r := by
  obtain ⟨v, s1, r1, s2, e1, e2, e5⟩ := op_undo (g := g)  s l r hI
  have e1 : p11_undo (ob g 0) (mm g s l r) = some (v, mm g s1 l r1) := e1
  have e2 : p12_undo (ob g 287) (mm g s1 l r1) = some (v, mm g s2 l r1) := e2
  refine ⟨s2, l, r1, ?_, e5⟩
  rw [pW_L23, if_neg hc, h0, obs, hv]
  iterate 58 refine swI_skip (by decide) ?_
  refine swI_hit.trans ?_
  simp only [one_z, obs, e1, e2, eq_self, if_true, if_false, pW_J3518]
theorem st_59 (hI : INV s r) (hc : ¬ Int32.ofNat L - 6 < x4) (h0 : sld xs L x4 = some v0) (hv : v0 &&& 63 = 59)  : Nxt g xs L n x4 s l r := by
  obtain ⟨s1, s2, e1, e2, e5⟩ := op_image (g := g) s l r hI
  refine ⟨s2, l, r, ?_, e5⟩
  rw [pW_L23, if_neg hc, h0, obs, hv]
  iterate 59 refine swI_skip (by decide) ?_
  refine swI_hit.trans ?_
  simp only [obs, e1, e2, pW_J3518]
theorem st_60 (hI : INV s r) (hc : ¬ Int32.ofNat L - 6 < x4) (h0 : sld xs L x4 = some v0) (hv : v0 &&& 63 = 60)  : Nxt g xs L n x4 s l r := by
  obtain ⟨v, s1, r1, s2, e1, e2, e5⟩ := op_back (g := g)  s l r hI
  have e1 : p11_back (ob g 0) (mm g s l r) = some (v, mm g s1 l r1) := e1
  have e2 : p12_back (ob g 287) (mm g s1 l r1) = some (v, mm g s2 l r1) := e2
  refine ⟨s2, l, r1, ?_, e5⟩
  rw [pW_L23, if_neg hc, h0, obs, hv]
  iterate 60 refine swI_skip (by decide) ?_
  refine swI_hit.trans ?_
  simp only [one_z, obs, e1, e2, eq_self, if_true, if_false, pW_J3518]
theorem st_61 (hI : INV s r) (hc : ¬ Int32.ofNat L - 6 < x4) (h0 : sld xs L x4 = some v0) (hv : v0 &&& 63 = 61) (h1 : sld xs L (x4 + 1) = some v1) : Nxt g xs L n x4 s l r := by
  obtain ⟨v, s2, e1, e2, e5⟩ := op_count (g := g) (x1 := v1) s l r hI
  have e1 : p11_count (ob g 0) v1 (mm g s l r) = some v := e1
  have e2 : p12_count (ob g 287) v1 (mm g s l r) = some (v, mm g s2 l r) := e2
  refine ⟨s2, l, r, ?_, e5⟩
  rw [pW_L23, if_neg hc, h0, obs, hv]
  iterate 61 refine swI_skip (by decide) ?_
  refine swI_hit.trans ?_
  simp only [h1, one_z, obs, e1, e2, eq_self, if_true, if_false, pW_J3518]
theorem st_no (hI : INV s r) (hc : ¬ Int32.ofNat L - 6 < x4) (h0 : sld xs L x4 = some v0) (hv : v0 &&& 63 = 62 ∨ v0 &&& 63 = 63) : Nxt g xs L n x4 s l r := by
  refine ⟨s, l, r, ?_, hI⟩
  rcases hv with hv | hv
  · rw [pW_L23, if_neg hc, h0, obs, hv]
    iterate 62 refine swI_skip (by decide) ?_
    rfl
  · rw [pW_L23, if_neg hc, h0, obs, hv]
    iterate 62 refine swI_skip (by decide) ?_
    rfl
theorem and63 (x : Int32) : ∃ k, k < 64 ∧ x &&& 63 = Int32.ofNat k := by
  have h : (x &&& 63).toBitVec.toNat ≤ 63 := by
    rw [Int32.toBitVec_and, BitVec.toNat_and]
    exact Nat.and_le_right
  refine ⟨(x &&& 63).toBitVec.toNat, by omega, ?_⟩
  apply i_ext
  rw [i_toInt (by omega)]
  have e : (x &&& 63).toInt = (x &&& 63).toBitVec.toInt := rfl
  rw [e, BitVec.toInt_eq_toNat_of_lt (by omega)]
theorem sld_at {i j : Nat} (h : i + j < L) (hL : L ≤ 3072) : sld xs L (Int32.ofNat i + Int32.ofNat j) = some (xs (i + j)) := by
  rw [i_add, sld, i_cl (by omega), if_pos ⟨i0_le (by omega), h⟩]
theorem st_all {i : Nat} (hL : L ≤ 3072) (hI : INV s r) (hi : i + 6 ≤ L) : Nxt g xs L n (Int32.ofNat i) s l r := by
  have hc : ¬ Int32.ofNat L - 6 < Int32.ofNat i := fun hc => by
    have h1 := i_ltI.mp hc
    have z : (6 : Int32).toInt = 6 := rfl
    rw [i_toInt (by omega), i_tsub (by rw [i_toInt (by omega)]; omega) (by rw [i_toInt (by omega)]; omega), i_toInt (by omega)] at h1
    omega
  have h0 : sld xs L (Int32.ofNat i) = some (xs i) := by
    rw [sld, i_cl (by omega), if_pos ⟨i0_le (by omega), by omega⟩]
  have h1 : sld xs L (Int32.ofNat i + 1) = some (xs (i + 1)) := sld_at (j := 1) (by omega) hL
  have h2 : sld xs L (Int32.ofNat i + 2) = some (xs (i + 2)) := sld_at (j := 2) (by omega) hL
  have h3 : sld xs L (Int32.ofNat i + 3) = some (xs (i + 3)) := sld_at (j := 3) (by omega) hL
  have h4 : sld xs L (Int32.ofNat i + 4) = some (xs (i + 4)) := sld_at (j := 4) (by omega) hL
  have h5 : sld xs L (Int32.ofNat i + 5) = some (xs (i + 5)) := sld_at (j := 5) (by omega) hL
  obtain ⟨k, hk, hv⟩ := and63 (xs i)
  by_cases k0 : k = 0
  · subst k0
    exact st_0 hI hc h0 hv h1 h2 h3 h4 h5
  by_cases k1 : k = 1
  · subst k1
    exact st_1 hI hc h0 hv h1
  by_cases k2 : k = 2
  · subst k2
    exact st_2 hI hc h0 hv 
  by_cases k3 : k = 3
  · subst k3
    exact st_3 hI hc h0 hv 
  by_cases k4 : k = 4
  · subst k4
    exact st_4 hI hc h0 hv 
  by_cases k5 : k = 5
  · subst k5
    exact st_5 hI hc h0 hv h1 h2
  by_cases k6 : k = 6
  · subst k6
    exact st_6 hI hc h0 hv h1 h2
  by_cases k7 : k = 7
  · subst k7
    exact st_7 hI hc h0 hv h1 h2 h3
  by_cases k8 : k = 8
  · subst k8
    exact st_8 hI hc h0 hv h1 h2
  by_cases k9 : k = 9
  · subst k9
    exact st_9 hI hc h0 hv h1 h2 h3
  by_cases k10 : k = 10
  · subst k10
    exact st_10 hI hc h0 hv h1 h2
  by_cases k11 : k = 11
  · subst k11
    exact st_11 hI hc h0 hv h1 h2
  by_cases k12 : k = 12
  · subst k12
    exact st_12 hI hc h0 hv h1
  by_cases k13 : k = 13
  · subst k13
    exact st_13 hI hc h0 hv h1 h2
  by_cases k14 : k = 14
  · subst k14
    exact st_14 hI hc h0 hv h1
  by_cases k15 : k = 15
  · subst k15
    exact st_15 hI hc h0 hv h1 h2 h3
  by_cases k16 : k = 16
  · subst k16
    exact st_16 hI hc h0 hv h1 h2
  by_cases k17 : k = 17
  · subst k17
    exact st_17 hI hc h0 hv h1
  by_cases k18 : k = 18
  · subst k18
    exact st_18 hI hc h0 hv h1 h2 h3
  by_cases k19 : k = 19
  · subst k19
    exact st_19 hI hc h0 hv h1 h2
  by_cases k20 : k = 20
  · subst k20
    exact st_20 hI hc h0 hv h1 h2
  by_cases k21 : k = 21
  · subst k21
    exact st_21 hI hc h0 hv h1 h2
  by_cases k22 : k = 22
  · subst k22
    exact st_22 hI hc h0 hv h1
  by_cases k23 : k = 23
  · subst k23
    exact st_23 hI hc h0 hv h1
  by_cases k24 : k = 24
  · subst k24
    exact st_24 hI hc h0 hv h1 h2
  by_cases k25 : k = 25
  · subst k25
    exact st_25 hI hc h0 hv h1
  by_cases k26 : k = 26
  · subst k26
    exact st_26 hI hc h0 hv h1
  by_cases k27 : k = 27
  · subst k27
    exact st_27 hI hc h0 hv h1
  by_cases k28 : k = 28
  · subst k28
    exact st_28 hI hc h0 hv h1
  by_cases k29 : k = 29
  · subst k29
    exact st_29 hI hc h0 hv h1
  by_cases k30 : k = 30
  · subst k30
    exact st_30 hI hc h0 hv h1
  by_cases k31 : k = 31
  · subst k31
    exact st_31 hI hc h0 hv h1
  by_cases k32 : k = 32
  · subst k32
    exact st_32 hI hc h0 hv 
  by_cases k33 : k = 33
  · subst k33
    exact st_33 hI hc h0 hv h1 h2
  by_cases k34 : k = 34
  · subst k34
    exact st_34 hI hc h0 hv 
  by_cases k35 : k = 35
  · subst k35
    exact st_35 hI hc h0 hv h1
  by_cases k36 : k = 36
  · subst k36
    exact st_36 hI hc h0 hv 
  by_cases k37 : k = 37
  · subst k37
    exact st_37 hI hc h0 hv h1 h2
  by_cases k38 : k = 38
  · subst k38
    exact st_38 hI hc h0 hv h1
  by_cases k39 : k = 39
  · subst k39
    exact st_39 hI hc h0 hv h1
  by_cases k40 : k = 40
  · subst k40
    exact st_40 hI hc h0 hv 
  by_cases k41 : k = 41
  · subst k41
    exact st_41 hI hc h0 hv h1 h2
  by_cases k42 : k = 42
  · subst k42
    exact st_42 hI hc h0 hv h1
  by_cases k43 : k = 43
  · subst k43
    exact st_43 hI hc h0 hv h1
  by_cases k44 : k = 44
  · subst k44
    exact st_44 hI hc h0 hv 
  by_cases k45 : k = 45
  · subst k45
    exact st_45 hI hc h0 hv h1 h2 h3
  by_cases k46 : k = 46
  · subst k46
    exact st_46 hI hc h0 hv 
  by_cases k47 : k = 47
  · subst k47
    exact st_47 hI hc h0 hv 
  by_cases k48 : k = 48
  · subst k48
    exact st_48 hI hc h0 hv 
  by_cases k49 : k = 49
  · subst k49
    exact st_49 hI hc h0 hv 
  by_cases k50 : k = 50
  · subst k50
    exact st_50 hI hc h0 hv 
  by_cases k51 : k = 51
  · subst k51
    exact st_51 hI hc h0 hv 
  by_cases k52 : k = 52
  · subst k52
    exact st_52 hI hc h0 hv h1 h2 h3
  by_cases k53 : k = 53
  · subst k53
    exact st_53 hI hc h0 hv h1 h2
  by_cases k54 : k = 54
  · subst k54
    exact st_54 hI hc h0 hv h1 h2
  by_cases k55 : k = 55
  · subst k55
    exact st_55 hI hc h0 hv h1 h2
  by_cases k56 : k = 56
  · subst k56
    exact st_56 hI hc h0 hv h1 h2
  by_cases k57 : k = 57
  · subst k57
    exact st_57 hI hc h0 hv h1
  by_cases k58 : k = 58
  · subst k58
    exact st_58 hI hc h0 hv 
  by_cases k59 : k = 59
  · subst k59
    exact st_59 hI hc h0 hv 
  by_cases k60 : k = 60
  · subst k60
    exact st_60 hI hc h0 hv 
  by_cases k61 : k = 61
  · subst k61
    exact st_61 hI hc h0 hv h1
  by_cases k62 : k = 62
  · subst k62
    exact st_no hI hc h0 (Or.inl hv)
  have k63 : k = 63 := by omega
  subst k63
  exact st_no hI hc h0 (Or.inr hv)
theorem pW_run (hL : L ≤ 3072) : ∀ (m i : Nat) (s : tS) (l : tL) (r : Nat → Nat), INV s r → i ≤ L → L < i + 6 * m → pW_L23 xs L m (ob g 0) (ob g 287) (ob g 304) (Int32.ofNat i) (mm g s l r) = some 1 := by
  intro m
  induction m with
  | zero =>
    intro i s l r hI h1 h2
    omega
  | succ m ih =>
    intro i s l r hI h1 h2
    by_cases hi : i + 6 ≤ L
    · obtain ⟨s', l', r', e1, e2⟩ := st_all (n := m) hL hI hi
      rw [e1]
      have e6 : Int32.ofNat i + 6 = Int32.ofNat (i + 6) := (Int32.ofNat_add i 6).symm
      rw [e6]
      exact ih (i + 6) s' l' r' e2 (by omega) (by omega)
    · have hc : Int32.ofNat L - 6 < Int32.ofNat i := by
        apply i_ltI.mpr
        have z : (6 : Int32).toInt = 6 := rfl
        rw [i_toInt (by omega), i_tsub (by rw [i_toInt (by omega)]; omega) (by rw [i_toInt (by omega)]; omega), i_toInt (by omega)]
        omega
      rw [pW_L23, if_pos hc]
end
theorem pW_one {xs : Nat → Int32} {L g : Nat} (hL : L ≤ 3072) : pW xs L (ofL g []) = some 1 := by
  rw [pW_of]
  exact pW_run hL 513 0 s0 _ r0 INV_0 (by omega) (by omega)
