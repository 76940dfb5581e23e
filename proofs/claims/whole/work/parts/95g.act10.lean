/-! an answer of yes or no -/
def okB (p : Option ((Nat × mMem) ⊕ (Int32 × mMem))) : Prop := ∀ v M', p = some (.inr (v, M')) → ∃ y, v = ib y
theorem okB_b {α : Type} {p : Option α} {f : α → Option ((Nat × mMem) ⊕ (Int32 × mMem))} (h : ∀ a, okB (f a)) : okB (p.bind f) := by
  intro v M' e
  cases p with
  | none => cases e
  | some a => exact h a v M' e
theorem okB_x {α : Type} {p : Option ((Nat × mMem) ⊕ α)} {f : α → Option ((Nat × mMem) ⊕ (Int32 × mMem))} (h : ∀ a, okB (f a)) : okB (xb p f) := by
  intro v M' e
  match p, e with
  | none, e => cases e
  | some (.inl _), e => cases e
  | some (.inr a), e => exact h a v M' e
theorem okB_g {M : mMem} {a c : Nat} {p : Option ((Nat × mMem) ⊕ (Int32 × mMem))} (h : okB p) : okB (gd M a c p) := by
  intro v M' e
  unfold gd at e
  by_cases hc : mK M a = c
  · rw [if_pos hc] at e
    exact h v M' e
  · rw [if_neg hc] at e
    cases e
theorem opB_of {g : Nat} {H : Nat → Int32} {E : mMem → Option ((Nat × mMem) ⊕ (Int32 × mMem))} {Q : mMem → Option (Int32 × mMem)} (h : Op g H E Q) (hb : ∀ M, okB (E M)) : OpB g H E Q := by
  intro s l r hI
  rcases h s l r hI with h | ⟨v, s1, r1, e1, e2⟩
  · exact Or.inl h
  · obtain ⟨y, rfl⟩ := hb _ _ _ e1
    exact Or.inr ⟨y, s1, r1, e1, e2⟩
section
variable {g : Nat} {s : tS} {l : tL} {r : Nat → Nat} {C : Co} {G : Lg} {L : Lw}
theorem gov_val {m i n : Nat} (hn : n ≤ 8) (hi : i < n) (hm : m < 2 ^ n) (y : Bool) : ∃ w, w < 2 ^ n ∧ (y = true → Int32.ofNat m ||| ((1 : Int32) <<< (Int32.ofNat i &&& 31)) = Int32.ofNat w ∧ (Int32.ofNat m &&& (((1 : Int32) <<< (Int32.ofNat i &&& 31)) ^^^ -1)) ||| ((1 : Int32) <<< (Int32.ofNat i &&& 31)) = Int32.ofNat w) ∧ (y = false → Int32.ofNat m &&& (((1 : Int32) <<< (Int32.ofNat i &&& 31)) ^^^ -1) = Int32.ofNat w) := by
  have h256 : m < 256 := Nat.lt_of_lt_of_le hm (show 2 ^ n ≤ 2 ^ 8 from Nat.pow_le_pow_right (by decide) hn)
  cases y with
  | true => exact ⟨m ||| 2 ^ i, Nat.or_lt_two_pow hm (Nat.pow_lt_pow_right (by decide) hi), fun _ => ⟨bt_tab m h256 i (by omega), g_set m h256 i (by omega)⟩, (by intro h; cases h)⟩
  | false =>
    refine ⟨_, ?_, (by intro h; cases h), fun _ => g_clr m h256 i (by omega)⟩
    by_cases h : m.testBit i = true
    · rw [if_pos h]
      exact Nat.lt_of_le_of_lt (Nat.sub_le _ _) hm
    · rw [if_neg h]
      exact hm
/-! GOVERN -/
theorem op_govern' {x1 x2 : Int32} {x3 : Bool} : Op g H_govern (fun M => p11_govern (ob g 0) x1 x2 (ib x3) M) (fun M => p12_govern (ob g 287) x1 x2 (ib x3) M) := by
  refine opT2 (x := x1) (y := x2) (by decide) (by decide) (fun s l r e h => ?_) (fun s s1 l r h => ⟨0, ?_⟩) (fun s l r C G L i j hI hc hi hj hn ex ey h t => Or.inr ?_)
  · simp only [p11_govern, a_gd, h, xb]
  · simp only [p12_govern, w_gd, h, obs, one_z, if_false]
  · subst ex ey
    have hi8 := zc_8 hc.1.1.2.1 hi
    have hj8 := zc_8 hc.1.1.2.1 hj
    have hC := hc.1.2.2.2.2.1
    have h1 := hc.1.1
    obtain ⟨m, hm, em⟩ := (hC.2.2.2.2.2.2 j hj).2.2.2.2.2.2.2.2.1
    obtain ⟨w, hw, hwt, hwf⟩ := gov_val (n := sz C) (i := i) h1.2.1.2 hi hm x3
    rw [← em] at hwt hwf
    refine act_of hI hc fun s1 r1 e1 I1 g1 L1 => ?_
    have I2 := I1.setP (k := 8) (v := Int32.ofNat w) hj (by decide)
    have hC2 : VC (stP C j 8 (Int32.ofNat w)) := hC.setP (by omega) (by omega) (by omega) (by omega) (by omega) (by omega) (by omega) (fun _ => ⟨w, hw, rfl⟩) (by omega)
    refine ⟨if ib (gv C i j) = ib x3 then 0 else 1, _, _, G, ?_, fr_P hj8, I2, lg_P hj8 g1, hC2, hc.1.2.2.2.2.2, fun l1 s4 e4 M2 MA M4 g4 L4 => ?_⟩
    · by_cases c : ib (gv C i j) = ib x3
      · cases x3 with
        | true => simp only [p11_govern, a_gd, h, xb, e1, obs, a_R3, c_gov I1 hi hj, p2_setGoverns, c_gd I1, c_has I1, inR_of h1.2.1 hi, inR_of h1.2.1 hj, ib_t, one_z, if_false, c_at I1 hj, c_p I1 hj (show 8 < 9 by decide), (hwt rfl).1, p2_setGoverns_J52, c_P I1 hj, p2_setGoverns_J55, show ib (gv C i j) = 1 from c, if_true, p11_govern_J42, bZ_0, xr, Option.map_some]
        | false => simp only [p11_govern, a_gd, h, xb, e1, obs, a_R3, c_gov I1 hi hj, p2_setGoverns, c_gd I1, c_has I1, inR_of h1.2.1 hi, inR_of h1.2.1 hj, ib_t, one_z, if_false, ib_f, c_at I1 hj, c_p I1 hj (show 8 < 9 by decide), hwf rfl, p2_setGoverns_J52, c_P I1 hj, p2_setGoverns_J55, show ib (gv C i j) = 0 from c, if_true, p11_govern_J42, bZ_0, xr, Option.map_some]
      · cases x3 with
        | true => 
          have c' : ¬ ib (gv C i j) = 1 := c
          simp only [p11_govern, a_gd, h, xb, e1, obs, a_R3, c_gov I1 hi hj, p2_setGoverns, c_gd I1, c_has I1, inR_of h1.2.1 hi, inR_of h1.2.1 hj, ib_t, one_z, if_false, c_at I1 hj, c_p I1 hj (show 8 < 9 by decide), (hwt rfl).1, p2_setGoverns_J52, c_P I1 hj, p2_setGoverns_J55, c', p11_govern_J42, bZ_1, xr, Option.map_some]
        | false =>
          have c' : ¬ ib (gv C i j) = 0 := c
          simp only [p11_govern, a_gd, h, xb, e1, obs, a_R3, c_gov I1 hi hj, p2_setGoverns, c_gd I1, c_has I1, inR_of h1.2.1 hi, inR_of h1.2.1 hj, ib_t, one_z, if_false, ib_f, c_at I1 hj, c_p I1 hj (show 8 < 9 by decide), hwf rfl, if_true, p2_setGoverns_J52, c_P I1 hj, p2_setGoverns_J55, c', p11_govern_J42, bZ_1, xr, Option.map_some]
    · have M5 := M4.setP (k := 8) (v := Int32.ofNat w) hj (by decide)
      refine ⟨_, ?_, fw_P hj8 (by decide), M5, lm_P hj8 (by decide) g4⟩
      by_cases c : ib (gv C i j) = ib x3
      · cases x3 with
        | true => simp only [p12_govern, w_gd, t _ _ _ M2, obs, if_true, e4, m_gov M4 hj, m_of8 M4 hj, w_R1, w_at8, ib_t, one_z, if_false, (hwt rfl).2, p12_govern_J63, m_astP hj8 (show 8 < 17 by decide), show ib (gv C i j) = 1 from c, p12_govern_J75, bZ_0]
        | false => simp only [p12_govern, w_gd, t _ _ _ M2, obs, if_true, e4, m_gov M4 hj, m_of8 M4 hj, w_R1, w_at8, ib_f, hwf rfl, p12_govern_J63, m_astP hj8 (show 8 < 17 by decide), show ib (gv C i j) = 0 from c, p12_govern_J75, bZ_0]
      · cases x3 with
        | true =>
          have c' : ¬ ib (gv C i j) = 1 := c
          simp only [p12_govern, w_gd, t _ _ _ M2, obs, if_true, e4, m_gov M4 hj, m_of8 M4 hj, w_R1, w_at8, ib_t, one_z, if_false, (hwt rfl).2, p12_govern_J63, m_astP hj8 (show 8 < 17 by decide), c', p12_govern_J75, bZ_1]
        | false =>
          have c' : ¬ ib (gv C i j) = 0 := c
          simp only [p12_govern, w_gd, t _ _ _ M2, obs, if_true, e4, m_gov M4 hj, m_of8 M4 hj, w_R1, w_at8, ib_f, if_false, hwf rfl, p12_govern_J63, m_astP hj8 (show 8 < 17 by decide), c', p12_govern_J75, bZ_1]
theorem op_govern {x1 x2 : Int32} {x3 : Bool} : OpB g H_govern (fun M => p11_govern (ob g 0) x1 x2 (ib x3) M) (fun M => p12_govern (ob g 287) x1 x2 (ib x3) M) := by
  refine opB_of op_govern' fun M => ?_
  show okB (p11_govern (ob g 0) x1 x2 (ib x3) M)
  unfold p11_govern
  refine okB_g (okB_x fun _ => okB_b fun _ => okB_b fun _ => okB_b fun _ => okB_b fun _ => okB_b fun _ => ?_)
  intro v M' e
  split at e
  · simp only [p11_govern_J42, bZ_0, obs, xr, Option.map_some] at e
    cases e
    exact ⟨false, rfl⟩
  · simp only [p11_govern_J42, bZ_1, obs, xr, Option.map_some] at e
    cases e
    exact ⟨true, rfl⟩
end
