section
variable {g : Nat} {s : tS} {l : tL} {r : Nat → Nat} {C : Co} {G : Lg} {L : Lw}
/-! COUSINS -/
def grF (C : Co) (i : Nat) : Int32 := if C.2 i 3 = -1 then -1 else C.2 ((C.2 i 3).toInt.toNat) 3
def sp_cous (C : Co) (p : Nat) : Int32 := iter (fun i x => if (¬ grF C p = -1 ∧ grF C i = grF C p) ∧ ¬ C.2 i 3 = C.2 p 3 then x ||| bt i else x) (sz C) 0
theorem par_k {i : Nat} (hC : VC C) (hi : i < sz C) (h : ¬ C.2 i 3 = -1) : ∃ k, k < i ∧ C.2 i 3 = Int32.ofNat k ∧ (C.2 i 3).toInt.toNat = k := by
  rcases (hC.2.2.2.2.2.2 i hi).2.2.2.1 with e | ⟨k, hk, e⟩
  · exact absurd e h
  · refine ⟨k, hk, e, ?_⟩
    have := zc_8 hC.1 hi
    rw [e, i_toInt (by omega)]
    rfl
theorem c_grand {i : Nat} (h : Is s 2 C) (hC : VC C) (hi : i < sz C) : p10_grandparentOf (ob g 118) (Int32.ofNat i) (mm g s l r) = some (grF C i) := by
  by_cases e : C.2 i 3 = -1
  · simp only [p10_grandparentOf, y_gd, y_R0, obs, c_at h hi, c_p h hi (show 3 < 9 by decide), e, if_true, p10_grandparentOf_J32, grF]
  · obtain ⟨k, hk, ek, et⟩ := par_k hC hi e
    have hk' : k < sz C := by omega
    have hg : grF C i = C.2 k 3 := by rw [grF, if_neg e, et]
    have e' : ¬ Int32.ofNat k = -1 := by rw [← ek]; exact e
    simp only [p10_grandparentOf, y_gd, y_R0, obs, c_at h hi, c_p h hi (show 3 < 9 by decide), ek, e', if_false, c_at h hk', c_p h hk' (show 3 < 9 by decide), p10_grandparentOf_J32, hg]
theorem m_grand {i : Nat} (h : Ms s C) (hC : VC C) (hi : i < sz C) : p12_grandOf (ob g 287) (Int32.ofNat i) (mm g s l r) = some (grF C i) := by
  by_cases e : C.2 i 3 = -1
  · simp only [p12_grandOf, w_gd, obs, m_of3 h hi, e, if_true, p12_grandOf_J22, grF]
  · obtain ⟨k, hk, ek, et⟩ := par_k hC hi e
    have hk' : k < sz C := by omega
    have hg : grF C i = C.2 k 3 := by rw [grF, if_neg e, et]
    have e' : ¬ Int32.ofNat k = -1 := by rw [← ek]; exact e
    simp only [p12_grandOf, w_gd, obs, m_of3 h hi, ek, e', if_false, m_of3 h hk', p12_grandOf_J22, hg]
theorem c_cousins {p : Nat} (h : Is s 2 C) (hC : VC C) (hp : p < sz C) : p10_cousinsOf (ob g 118) (Int32.ofNat p) (mm g s l r) = some (sp_cous C p) := by
  simp only [p10_cousinsOf, y_gd, y_R0, obs, c_at h hp, c_p h hp (show 3 < 9 by decide), c_grand h hC hp]
  refine it_up (fun n a i => p10_cousinsOf_L24 (mm g s l r) n (ob g 118) (C.2 p 3) (grF C p) a i) (sz C) _ some ?_ ?_ gF 0 (sz_gF h.2.1)
  · intro n i a hi
    simp only [p10_cousinsOf_L24, y_R0, obs, c_n h, zc_yes h.2.1 hi, if_true, c_grand h hC hi, c_at h hi, c_p h hi (show 3 < 9 by decide), p10_cousinsOf_J76, i_succ, bt]
    by_cases e1 : grF C p = -1
    · simp [e1]
    · by_cases e2 : grF C i = grF C p
      · by_cases e3 : C.2 i 3 = C.2 p 3 <;> simp [e1, e2, e3]
      · simp [e1, e2]
  · intro n a
    simp only [p10_cousinsOf_L24, y_R0, obs, c_n h, zc_no h.2.1, if_false]
theorem m_cousins {p : Nat} (h : Ms s C) (hC : VC C) (hp : p < sz C) : p12_cousins_L24 gF (ob g 287) (Int32.ofNat p) 0 0 (mm g s l r) = some (sp_cous C p, mm g s l r) := by
  refine it_up (fun n a i => p12_cousins_L24 n (ob g 287) (Int32.ofNat p) a i (mm g s l r)) (sz C) _ (fun a => some (a, mm g s l r)) ?_ ?_ gF 0 (sz_gF h.1)
  · intro n i a hi
    simp only [p12_cousins_L24, obs, m_people h, zc_yes h.1 hi, if_true, m_grand h hC hi, m_grand h hC hp, m_of3 h hi, m_of3 h hp, p12_cousins_J76, p12_cousins_J77, i_succ, bt, or0]
    by_cases e1 : grF C p = -1
    · by_cases e2 : grF C i = -1 <;> simp [e1, e2]
    · by_cases e2 : grF C i = grF C p
      · by_cases e3 : C.2 i 3 = C.2 p 3 <;> simp [e1, e2, e3]
      · have e5 : ¬ (-1 = grF C p) := fun h => e1 h.symm
        by_cases e4 : grF C i = -1
        · simp [e4, e5]
        · simp [e2, e4]
  · intro n a
    simp only [p12_cousins_L24, obs, m_people h, zc_no h.1, if_false]
theorem op_cousins {x1 : Int32} : Op g H_cousins (fun M => (p11_cousins (ob g 0) x1 M).map (fun z => match z with | .inl e => .inl e | .inr v => .inr (v, M))) (fun M => p12_cousins (ob g 287) x1 M) := by
  refine opP1 (x := x1) (by decide) (fun s l r h => ?_) (fun s l r h => ⟨0, ?_⟩) (fun s l r C G L i hc hr hi ex h => Or.inr ⟨sp_cous C i, s, ?_, RS.refl, fun l1 hc1 h2 => ⟨up2 s 287 0 0, ?_, rs_thr, up2_eq⟩⟩)
  · simp only [p11_cousins, a_gd, h, xb, Option.map_some]
  · simp only [p12_cousins, w_gd, w_putI, obs, h, m_th1, one_z, if_false]
  · subst ex
    simp only [p11_cousins, a_gd, h, xb, a_R17, obs, c_cousins hc.1.1 hc.1.2.2.2.2.1 hi, xr, Option.map_some]
  · subst ex
    simp only [p12_cousins, w_gd, w_putI, obs, h2, m_th0, if_true, m_cousins (m287 hc1.1.2.2.1) hc.1.2.2.2.2.1 hi]
/-! BRANCH -/
def stB (f : Nat → Bool) (i : Nat) : Nat → Bool := fun j => if j = i then true else f j
def brF (C : Co) (p i : Nat) (f : Nat → Bool) : Nat → Bool := if i = p then stB f i else if C.2 i 3 = -1 then f else if f ((C.2 i 3).toInt.toNat) = true then stB f i else f
theorem z_or {x : Int32} : Int32.ofNat 0 ||| x = x := by
  apply Int32.toBitVec_inj.mp
  rw [Int32.toBitVec_or]
  exact BitVec.zero_or
theorem set_bit {m i : Nat} {f : Nat → Bool} (hm : m < 256) (hi : i < 8) (hf : ∀ j, m.testBit j = f j) : ∃ m', m' < 256 ∧ Int32.ofNat m ||| bt i = Int32.ofNat m' ∧ ∀ j, m'.testBit j = stB f i j := by
  refine ⟨m ||| 2 ^ i, ?_, bt_tab m hm i hi, fun j => ?_⟩
  · exact Nat.or_lt_two_pow (n := 8) hm (Nat.pow_lt_pow_right (by decide) hi)
  · rw [Nat.testBit_or, hf, Nat.testBit_two_pow, stB]
    by_cases e : j = i
    · rw [if_pos e, decide_eq_true e.symm, Bool.or_true]
    · rw [if_neg e, decide_eq_false (fun h => e h.symm), Bool.or_false]
theorem tst_bit {m k : Nat} {f : Nat → Bool} (hm : m < 256) (hk : k < 8) (hf : ∀ j, m.testBit j = f j) : (((Int32.ofNat m >>> (Int32.ofNat k &&& 31)) &&& 1) = 1) = (f k = true) := by
  have := bits_tab m hm k hk
  rw [hf] at this
  rw [← this, hasb, decide_eq_true_eq]
theorem c_branch {p : Nat} (h : Is s 2 C) (hC : VC C) (hp : p < sz C) : ∃ m, (p10_branchOf (ob g 118) (Int32.ofNat p) (mm g s l r) = some (Int32.ofNat m) ∧ m < 256) ∧ ∀ j, m.testBit j = itF (brF C p) (sz C) 0 (fun _ => false) j := by
  rw [p10_branchOf, y_gd]
  refine it_sf (L := fun n a i => p10_branchOf_L4 (mm g s l r) n (ob g 118) (Int32.ofNat p) a i) (R := fun i a x => ∃ m, m < 256 ∧ a = Int32.ofNat m ∧ ∀ j, m.testBit j = x j) (f := brF C p) (Q := fun B x => ∃ m, (B = some (Int32.ofNat m) ∧ m < 256) ∧ ∀ j, m.testBit j = x j) (N := sz C) (fun n i a x hi hR => ?_) (fun n a x hR => ?_) (sz C) gF 0 0 (fun _ => false) (by omega) (sz_gF h.2.1) ⟨0, by decide, rfl, fun j => by simp⟩
  · obtain ⟨m, hm, rfl, hx⟩ := hR
    have hi8 := zc_8 hC.1 hi
    have hp8 := zc_8 hC.1 hp
    have hb : Int32.ofNat m ||| ((1 : Int32) <<< (Int32.ofNat i &&& 31)) = Int32.ofNat m ||| bt i := rfl
    obtain ⟨m', h1, h2, h3⟩ := set_bit hm hi8 hx
    by_cases ep : i = p
    · refine ⟨Int32.ofNat m', ⟨m', h1, rfl, fun j => by rw [h3, brF, if_pos ep]⟩, ?_⟩
      subst ep
      simp only [p10_branchOf_L4, y_R0, obs, c_n h, zc_yes h.2.1 hi, eq_self, if_true, c_at h hi, c_p h hi (show 3 < 9 by decide), p10_branchOf_J49, p10_branchOf_J55, i_succ, hb, h2]
    · have ep' : (Int32.ofNat i = Int32.ofNat p) = False := eq_false fun e => ep ((i_eq (by omega) (by omega)).mp e)
      by_cases e : C.2 i 3 = -1
      · refine ⟨Int32.ofNat m, ⟨m, hm, rfl, fun j => by rw [brF, if_neg ep, if_pos e, hx]⟩, ?_⟩
        simp only [p10_branchOf_L4, y_R0, obs, c_n h, zc_yes h.2.1 hi, if_true, c_at h hi, c_p h hi (show 3 < 9 by decide), ep', e, if_false, p10_branchOf_J55, i_succ]
      · obtain ⟨k, hk, ek, et⟩ := par_k hC hi e
        have e' : ¬ Int32.ofNat k = -1 := by rw [← ek]; exact e
        have tb := tst_bit (k := k) hm (by omega) hx
        by_cases ef : x k = true
        · have tb' := tb.mpr ef
          refine ⟨Int32.ofNat m', ⟨m', h1, rfl, fun j => by rw [h3, brF, if_neg ep, if_neg e, et, if_pos ef]⟩, ?_⟩
          simp only [p10_branchOf_L4, y_R0, obs, c_n h, zc_yes h.2.1 hi, if_true, c_at h hi, c_p h hi (show 3 < 9 by decide), ep', ek, e', if_false, tb', p10_branchOf_J49, p10_branchOf_J55, i_succ, hb, h2]
        · have tb' : ¬ _ := fun c => ef (tb.mp c)
          refine ⟨Int32.ofNat m, ⟨m, hm, rfl, fun j => by rw [hx, brF, if_neg ep, if_neg e, et, if_neg ef]⟩, ?_⟩
          simp only [p10_branchOf_L4, y_R0, obs, c_n h, zc_yes h.2.1 hi, if_true, c_at h hi, c_p h hi (show 3 < 9 by decide), ep', ek, e', if_false, tb', p10_branchOf_J55, i_succ]
  · obtain ⟨m, hm, rfl, hx⟩ := hR
    refine ⟨m, ⟨?_, hm⟩, hx⟩
    simp only [p10_branchOf_L4, y_R0, obs, c_n h, zc_no h.2.1, if_false]
theorem m_branch {p : Nat} (h : Ms s C) (hC : VC C) (hp : p < sz C) : ∃ m, (p12_branchOf (ob g 287) (Int32.ofNat p) (mm g s l r) = some (Int32.ofNat m) ∧ m < 256) ∧ ∀ j, m.testBit j = itF (brF C p) (sz C) 0 (fun _ => false) j := by
  rw [p12_branchOf, w_gd]
  have hp8 := zc_8 hC.1 hp
  refine it_sf (L := fun n a i => p12_branchOf_L6 (mm g s l r) n (ob g 287) a i) (R := fun i a x => (p < i → x p = true) ∧ ∃ m, m < 256 ∧ a = Int32.ofNat m ∧ ∀ j, m.testBit j = stB x p j) (f := brF C p) (Q := fun B x => ∃ m, (B = some (Int32.ofNat m) ∧ m < 256) ∧ ∀ j, m.testBit j = x j) (N := sz C) (fun n i a x hi hR => ?_) (fun n a x hR => ?_) (sz C) gF 0 (bt p) (fun _ => false) (by omega) (sz_gF h.1) ⟨by omega, 2 ^ p, Nat.lt_of_lt_of_le (Nat.pow_lt_pow_right (show 1 < 2 by decide) hp8) (by decide), ?_, fun j => ?_⟩
  · obtain ⟨hq, m, hm, rfl, hx⟩ := hR
    have hi8 := zc_8 hC.1 hi
    have hb : Int32.ofNat m ||| ((1 : Int32) <<< (Int32.ofNat i &&& 31)) = Int32.ofNat m ||| bt i := rfl
    obtain ⟨m', h1, h2, h3⟩ := set_bit hm hi8 hx
    have keep : ∀ (y : Nat → Bool), y = x ∨ y = stB x i → p < i + 1 → (i = p → y = stB x i) → y p = true := by
      intro y hy hlt hpi
      by_cases ep : i = p
      · rw [hpi ep, stB, if_pos ep.symm]
      · rcases hy with rfl | rfl
        · exact hq (by omega)
        · rw [stB, if_neg (fun e => ep e.symm)]
          exact hq (by omega)
    have same : ∀ j, stB (stB x p) i j = stB (stB x i) p j := fun j => by
      unfold stB
      by_cases a1 : j = i <;> by_cases a2 : j = p <;> simp [a1, a2]
    by_cases e : C.2 i 3 = -1
    · refine ⟨Int32.ofNat m, ⟨fun hl => ?_, m, hm, rfl, fun j => ?_⟩, ?_⟩
      · refine keep _ ?_ hl ?_
        · unfold brF
          by_cases ep : i = p
          · rw [if_pos ep]; exact Or.inr rfl
          · rw [if_neg ep, if_pos e]; exact Or.inl rfl
        · intro ep
          rw [brF, if_pos ep]
      · rw [hx, brF]
        by_cases ep : i = p
        · rw [if_pos ep, ep]
          unfold stB
          by_cases a2 : j = p <;> simp [a2]
        · rw [if_neg ep, if_pos e]
      · simp only [p12_branchOf_L6, obs, m_people h, zc_yes h.1 hi, if_true, m_of3 h hi, e, p12_branchOf_J43, i_succ]
    · obtain ⟨k, hk, ek, et⟩ := par_k hC hi e
      have e' : ¬ Int32.ofNat k = -1 := by rw [← ek]; exact e
      have hh : hasb (Int32.ofNat m) k = stB x p k := by rw [bits_tab m hm k (by omega), hx]
      have hbr : brF C p i x = if i = p then stB x i else if x k = true then stB x i else x := by rw [brF, if_neg e, et]
      have hcase : brF C p i x = x ∨ brF C p i x = stB x i := by
        rw [hbr]
        by_cases ep : i = p
        · rw [if_pos ep]; exact Or.inr rfl
        · by_cases ef : x k = true
          · rw [if_neg ep, if_pos ef]; exact Or.inr rfl
          · rw [if_neg ep, if_neg ef]; exact Or.inl rfl
      have hpc : i = p → brF C p i x = stB x i := fun ep => by rw [hbr, if_pos ep]
      rcases Bool.eq_false_or_eq_true (stB x p k) with ef | ef
      · refine ⟨Int32.ofNat m', ⟨fun hl => keep _ hcase hl hpc, m', h1, rfl, fun j => ?_⟩, ?_⟩
        · have hy : brF C p i x = stB x i := by
            by_cases ep : i = p
            · exact hpc ep
            · have xk : x k = true := by
                by_cases kp : k = p
                · rw [kp]
                  exact hq (by omega)
                · rw [stB, if_neg kp] at ef
                  exact ef
              rw [hbr, if_neg ep, if_pos xk]
          rw [h3, hy, same]
        · simp only [p12_branchOf_L6, obs, m_people h, zc_yes h.1 hi, if_true, m_of3 h hi, ek, e', if_false, m_has, hh, ef, ib_t, one_z, p12_branchOf_J43, i_succ, hb, h2]
      · refine ⟨Int32.ofNat m, ⟨fun hl => keep _ hcase hl hpc, m, hm, rfl, fun j => ?_⟩, ?_⟩
        · rw [hx]
          by_cases ep : i = p
          · rw [hpc ep, ep]
            unfold stB
            by_cases a2 : j = p <;> simp [a2]
          · have xk : ¬ x k = true := by
              by_cases kp : k = p
              · rw [stB, if_pos kp] at ef
                cases ef
              · rw [stB, if_neg kp] at ef
                rw [ef]
                decide
            rw [hbr, if_neg ep, if_neg xk]
        · simp only [p12_branchOf_L6, obs, m_people h, zc_yes h.1 hi, if_true, m_of3 h hi, ek, e', if_false, m_has, hh, ef, ib_f, p12_branchOf_J43, i_succ]
  · obtain ⟨hq, m, hm, rfl, hx⟩ := hR
    refine ⟨m, ⟨?_, hm⟩, fun j => ?_⟩
    · simp only [p12_branchOf_L6, obs, m_people h, zc_no h.1, if_false]
    · rw [hx, stB]
      by_cases e : j = p
      · rw [if_pos e, e, hq hp]
      · rw [if_neg e]
  · have := bt_tab 0 (by decide) p hp8
    rw [Nat.zero_or] at this
    rw [← this]
    exact (z_or).symm
  · rw [Nat.testBit_two_pow, stB]
    by_cases e : j = p
    · rw [if_pos e, decide_eq_true e.symm]
    · rw [if_neg e, decide_eq_false (fun h => e h.symm)]
theorem op_branch {x1 : Int32} : Op g H_branch (fun M => (p11_branch (ob g 0) x1 M).map (fun z => match z with | .inl e => .inl e | .inr v => .inr (v, M))) (fun M => p12_branch (ob g 287) x1 M) := by
  refine opP1 (x := x1) (by decide) (fun s l r h => ?_) (fun s l r h => ⟨0, ?_⟩) (fun s l r C G L i hc hr hi ex h => Or.inr ?_)
  · simp only [p11_branch, a_gd, h, xb, Option.map_some]
  · simp only [p12_branch, w_gd, w_putI, obs, h, m_th1, one_z, if_false, p12_branch_J27, p12_branch]
  · subst ex
    have hC := hc.1.2.2.2.2.1
    obtain ⟨m, ⟨e1, _⟩, b1⟩ := c_branch (g := g) (l := l) (r := r) hc.1.1 hC hi
    refine ⟨Int32.ofNat m, s, ?_, RS.refl, fun l1 hc1 h2 => ⟨up2 s 287 0 0, ?_, rs_thr, up2_eq⟩⟩
    · simp only [p11_branch, a_gd, h, xb, a_R17, obs, e1, xr, Option.map_some]
    · obtain ⟨m', ⟨e2, _⟩, b2⟩ := m_branch (g := g) (l := l1) (r := r) (m287 hc1.1.2.2.1 (v := 0)) hC hi
      have em : m' = m := Nat.eq_of_testBit_eq fun j => by rw [b1, b2]
      simp only [p12_branch, w_gd, w_putI, obs, h2, m_th0, if_true, e2, em, p12_branch_J27]
end
