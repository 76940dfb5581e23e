section
variable {g b : Nat} {s : tS} {l : tL} {r : Nat → Nat} {C : Co} {G : Lg} {L : Lw}
/-! PERSON -/
def shF (G : Lg) (x : Int32) (i : Nat) (a : Int32 × Int32) : Int32 × Int32 := if G.2 i 3 = 0 then (a.1 + 1, a.2 + (if G.2 i 2 = x then 1 else 0)) else a
def shR (G : Lg) (x : Int32) : Int32 × Int32 := iter (shF G x) G.1 (0, 0)
def sp_sh (G : Lg) (x : Int32) : Int32 := if (shR G x).1 = 0 then 0 else (100 * (shR G x).2) / (shR G x).1
theorem sh_c (x : Int32) : ∀ n, ∃ c, c ≤ n ∧ (iter (shF G x) n (0, 0)).1 = Int32.ofNat c := by
  intro n
  induction n with
  | zero => exact ⟨0, Nat.le_refl _, rfl⟩
  | succ n ih =>
    obtain ⟨c, h1, h2⟩ := ih
    show ∃ c, c ≤ n + 1 ∧ (shF G x n (iter (shF G x) n (0, 0))).1 = Int32.ofNat c
    unfold shF
    by_cases e : G.2 n 3 = 0
    · rw [if_pos e]
      exact ⟨c + 1, by omega, by show (iter (shF G x) n (0, 0)).1 + 1 = _; rw [h2, i_succ]⟩
    · rw [if_neg e]
      exact ⟨c, by omega, h2⟩
theorem c_share {x : Int32} (h : Is s b C) (hG : LgC s b G) : p6_shareOf (ob g (b + 4)) x (mm g s l r) = some (sp_sh G x) := by
  have hn := c_logn (g := g) (l := l) (r := r) h hG
  have h60 := hG.2.1
  have lp : p6_shareOf_L7 (mm g s l r) (p6_shareOf_J54 (mm g s l r)) gF (ob g (b + 4)) x (0, 0).1 (0, 0).2 0 = p6_shareOf_J54 (mm g s l r) (shR G x).1 (shR G x).2 := it_up (fun n (a : Int32 × Int32) i => p6_shareOf_L7 (mm g s l r) (p6_shareOf_J54 (mm g s l r)) n (ob g (b + 4)) x a.1 a.2 i) G.1 (shF G x) (fun a => p6_shareOf_J54 (mm g s l r) a.1 a.2) (fun n i a hi => by
    have lk : (Int32.ofNat i < Int32.ofNat G.1) = True := eq_true ((i_lt (by omega) (by omega)).mpr hi)
    have v3 : p6_cell (ob g (b + 4)) (Int32.ofNat i) 3 (mm g s l r) = some (G.2 i 3) := c_cell h hG hi (j := 3) (by decide)
    have v2 : p6_cell (ob g (b + 4)) (Int32.ofNat i) 2 (mm g s l r) = some (G.2 i 2) := c_cell h hG hi (j := 2) (by decide)
    by_cases e : G.2 i 3 = 0
    · by_cases e2 : G.2 i 2 = x
      · simp only [p6_shareOf_L7, hn, obs, lk, if_true, v3, v2, e, e2, p6_shareOf_J46, p6_shareOf_J48, i_succ, shF]
      · simp only [p6_shareOf_L7, hn, obs, lk, if_true, v3, v2, e, e2, if_false, p6_shareOf_J46, p6_shareOf_J48, i_succ, shF]
    · simp only [p6_shareOf_L7, hn, obs, lk, if_true, v3, e, if_false, p6_shareOf_J48, i_succ, shF]) (fun n a => by
    have lk : (Int32.ofNat G.1 < Int32.ofNat G.1) = False := eq_false (fun c => Nat.lt_irrefl _ ((i_lt (by omega) (by omega)).mp c))
    simp only [p6_shareOf_L7, hn, obs, lk, if_false]) gF (0, 0) (gF_gt (by omega))
  obtain ⟨c, hc, ec⟩ := sh_c (G := G) x G.1
  have ec' : (shR G x).1 = Int32.ofNat c := ec
  rw [p6_shareOf, f_loggd h.1]
  refine lp.trans ?_
  have tc : (Int32.ofNat c).toInt = (c : Int) := i_toInt (by omega)
  have z0 : (0 : Int32).toInt = 0 := rfl
  by_cases e : (shR G x).1 = 0
  · have n0 : ¬ (0 : Int32) < 0 := by decide
    simp only [p6_shareOf_J54, e, n0, if_false, p6_shareOf_J68, sp_sh, if_true]
  · have hp : (0 : Int32) < (shR G x).1 := i_ltI.mpr (by
      rw [ec', tc, z0]
      have : c ≠ 0 := fun h => e (by rw [ec', h]; rfl)
      omega)
    simp only [p6_shareOf_J54, hp, if_true, divI_ne e, obs, p6_shareOf_J68, sp_sh, e, if_false]
theorem m_share {x : Int32} (hG : LgM (s 288) G) (hV : VG G) : p12_shareOf (ob g 287) x (mm g s l r) = some (sp_sh G x) := by
  have hn := m_logn (g := g) (l := l) (r := r) hG
  have h60 := hG.2.1
  have lp : p12_shareOf_L7 (mm g s l r) (p12_shareOf_J61 (mm g s l r)) gF (ob g 287) x (0, 0).1 (0, 0).2 0 = p12_shareOf_J61 (mm g s l r) (shR G x).1 (shR G x).2 := it_up (fun n (a : Int32 × Int32) i => p12_shareOf_L7 (mm g s l r) (p12_shareOf_J61 (mm g s l r)) n (ob g 287) x a.1 a.2 i) G.1 (shF G x) (fun a => p12_shareOf_J61 (mm g s l r) a.1 a.2) (fun n i a hi => by
    have lk : (Int32.ofNat i < Int32.ofNat G.1) = True := eq_true ((i_lt (by omega) (by omega)).mpr hi)
    have v3 : p12_ofLog (ob g 287) (Int32.ofNat i) 3 (mm g s l r) = some (G.2 i 3) := m_ofLog hG hi (j := 3) (by decide)
    have v2 : p12_ofLog (ob g 287) (Int32.ofNat i) 2 (mm g s l r) = some (G.2 i 2) := m_ofLog hG hi (j := 2) (by decide)
    have z1 : ((0 : Int32) = 1) = False := eq_false (by decide)
    rcases hV i hi with e | e
    · by_cases e2 : G.2 i 2 = x
      · simp only [p12_shareOf_L7, w_R1, hn, obs, lk, if_true, v3, v2, e, z1, if_false, e2, p12_shareOf_J53, p12_shareOf_J55, i_succ, shF]
      · simp only [p12_shareOf_L7, w_R1, hn, obs, lk, if_true, v3, v2, e, z1, if_false, e2, p12_shareOf_J53, p12_shareOf_J55, i_succ, shF]
    · simp only [p12_shareOf_L7, w_R1, hn, obs, lk, if_true, v3, e, one_z, if_false, p12_shareOf_J55, i_succ, shF]) (fun n a => by
    have lk : (Int32.ofNat G.1 < Int32.ofNat G.1) = False := eq_false (fun c => Nat.lt_irrefl _ ((i_lt (by omega) (by omega)).mp c))
    simp only [p12_shareOf_L7, w_R1, hn, obs, lk, if_false]) gF (0, 0) (gF_gt (by omega))
  rw [p12_shareOf, w_gd]
  refine lp.trans ?_
  by_cases e : (shR G x).1 = 0
  · simp only [p12_shareOf_J61, e, p12_shareOf_J75, sp_sh, if_true]
  · simp only [p12_shareOf_J61, e, if_false, divI_ne e, obs, p12_shareOf_J75, sp_sh]
theorem c_govd {p : Nat} (h : Is s b C) (hp : p < sz C) : p2_governedBy (ob g b) (Int32.ofNat p) (mm g s l r) = some (nxF C p) := by
  rw [p2_governedBy, c_gd h]
  refine it_up (fun n a i => p2_governedBy_L4 (mm g s l r) n (ob g b) (Int32.ofNat p) a i) (sz C) _ some ?_ ?_ gF 0 (sz_gF h.2.1)
  · intro n i a hi
    simp only [p2_governedBy_L4, obs, c_n h, zc_yes h.2.1 hi, if_true, c_gov h hp hi, ib_z, p2_governedBy_J27, i_succ, bt]
    rcases Bool.eq_false_or_eq_true (gv C p i) with e | e <;> simp [e]
  · intro n a
    simp only [p2_governedBy_L4, obs, c_n h, zc_no h.2.1, if_false]
theorem op_person {x1 x2 : Int32} : Op g H_person (fun M => (p11_person (ob g 0) x1 x2 M).map (fun z => match z with | .inl e => .inl e | .inr v => .inr (v, M))) (fun M => p12_person (ob g 287) x1 x2 M) := by
  refine opP2 (x := x1) (by decide) (fun s l r h => ?_) (fun s l r h => ⟨0, ?_⟩) (fun s l r C G L i hI hc hi ex h hn => ?_)
  · simp only [p11_person, a_gd, h, xb, Option.map_some]
  · simp only [p12_person, w_gd, w_putI, obs, h, m_th1, one_z, if_false, p12_person_J41]
  · subst ex
    have h1 := hc.1.1
    have gC := hc.1.2.1
    have gM : LgM (up2 s 287 0 0 288) G := by
      have u288 : up2 s 287 0 0 288 = s 288 := funext fun j => up2_ne (by omega)
      rw [u288]
      exact hc.1.2.2.2.1
    have M0 := hc.1.2.2.1
    have MA := m287 M0 (v := 0)
    have hR3 : getR (mm g s l r) (ob g 2) 3 3 = some (ob g (2 + 4)) := f_R3 h1.1
    have K : ∀ (x2 v : Int32), inL 0 10 x2 = true → (p11_person (ob g 0) (Int32.ofNat i) x2 (mm g s l r) = some (.inr v)) → (∀ l1 : tL, p12_person_J34 (ob g 287) (Int32.ofNat i) x2 (ob g 287) 0 (mm g (up2 s 287 0 0) l1 r) = some (v, mm g (up2 s 287 0 0) l1 r)) → Good g (fun M => (p11_person (ob g 0) (Int32.ofNat i) x2 M).map (fun z => match z with | .inl e => .inl e | .inr v => .inr (v, M))) (fun M => p12_person (ob g 287) (Int32.ofNat i) x2 M) s l r := by
      intro x2 v hx e1 e2
      refine ⟨v, s, r, ?_, fun l1 => ⟨up2 s 287 0 0, ?_, up2_eq, hI.rs rs_thr⟩⟩
      · simp only [e1, Option.map_some]
      · simp only [p12_person, w_gd, w_putI, obs, hn _ _ _ MA, m_th0, if_true, m_in, hx, ib_t, one_z, if_false, e2]
    rcases Bool.eq_false_or_eq_true (inL 0 10 x2) with hx | hx
    · refine Or.inr ?_
      obtain ⟨j, hj, rfl⟩ := inL_nat (n := 10) (by omega) hx
      have hj' : j = 0 ∨ j = 1 ∨ j = 2 ∨ j = 3 ∨ j = 4 ∨ j = 5 ∨ j = 6 ∨ j = 7 ∨ j = 8 ∨ j = 9 ∨ j = 10 := by omega
      rcases hj' with rfl | rfl | rfl | rfl | rfl | rfl | rfl | rfl | rfl | rfl | rfl
      · refine K 0 (C.2 i 0) (by decide) ?_ fun l1 => ?_
        · simp (decide := true) only [p11_person, a_gd, h, xb, a_R3, obs, c_at h1 hi, swI, if_true, if_false, c_p h1 hi (show 0 < 9 by decide), xr, Option.map_some]
        · simp (decide := true) only [p12_person_J34, m_th0, obs, if_true, if_false, m_of0 MA hi, p12_person_J77]
      · refine K 1 (C.2 i 1) (by decide) ?_ fun l1 => ?_
        · simp (decide := true) only [p11_person, a_gd, h, xb, a_R3, obs, c_at h1 hi, swI, if_true, if_false, c_p h1 hi (show 1 < 9 by decide), xr, Option.map_some]
        · simp (decide := true) only [p12_person_J34, m_th0, obs, if_true, if_false, m_of1 MA hi, p12_person_J77]
      · refine K 2 (C.2 i 2) (by decide) ?_ fun l1 => ?_
        · simp (decide := true) only [p11_person, a_gd, h, xb, a_R3, obs, c_at h1 hi, swI, if_true, if_false, c_p h1 hi (show 2 < 9 by decide), xr, Option.map_some]
        · simp (decide := true) only [p12_person_J34, m_th0, obs, if_true, if_false, m_of2 MA hi, p12_person_J77]
      · refine K 3 (C.2 i 3) (by decide) ?_ fun l1 => ?_
        · simp (decide := true) only [p11_person, a_gd, h, xb, a_R3, obs, c_at h1 hi, swI, if_true, if_false, c_p h1 hi (show 3 < 9 by decide), xr, Option.map_some]
        · simp (decide := true) only [p12_person_J34, m_th0, obs, if_true, if_false, m_of3 MA hi, p12_person_J77]
      · refine K 4 (C.2 i 4) (by decide) ?_ fun l1 => ?_
        · simp (decide := true) only [p11_person, a_gd, h, xb, a_R3, obs, c_at h1 hi, swI, if_true, if_false, c_p h1 hi (show 4 < 9 by decide), xr, Option.map_some]
        · simp (decide := true) only [p12_person_J34, m_th0, obs, if_true, if_false, m_of4 MA hi, p12_person_J77]
      · refine K 5 (C.2 i 5) (by decide) ?_ fun l1 => ?_
        · simp (decide := true) only [p11_person, a_gd, h, xb, a_R3, obs, c_at h1 hi, swI, if_true, if_false, c_p h1 hi (show 5 < 9 by decide), xr, Option.map_some]
        · simp (decide := true) only [p12_person_J34, m_th0, obs, if_true, if_false, m_of5 MA hi, p12_person_J77]
      · refine K 6 (C.2 i 6) (by decide) ?_ fun l1 => ?_
        · simp (decide := true) only [p11_person, a_gd, h, xb, a_R3, obs, c_at h1 hi, swI, if_true, if_false, c_p h1 hi (show 6 < 9 by decide), xr, Option.map_some]
        · simp (decide := true) only [p12_person_J34, m_th0, obs, if_true, if_false, m_of6 MA hi, p12_person_J77]
      · refine K 7 (C.2 i 7) (by decide) ?_ fun l1 => ?_
        · simp (decide := true) only [p11_person, a_gd, h, xb, a_R3, obs, c_at h1 hi, swI, if_true, if_false, c_p h1 hi (show 7 < 9 by decide), xr, Option.map_some]
        · simp (decide := true) only [p12_person_J34, m_th0, obs, if_true, if_false, m_of7 MA hi, p12_person_J77]
      · refine K 8 (C.2 i 8) (by decide) ?_ fun l1 => ?_
        · simp (decide := true) only [p11_person, a_gd, h, xb, a_R3, obs, c_at h1 hi, swI, if_true, if_false, c_p h1 hi (show 8 < 9 by decide), xr, Option.map_some]
        · simp (decide := true) only [p12_person_J34, m_th0, obs, if_true, if_false, m_of8 MA hi, p12_person_J77]
      · refine K 9 (nxF C i) (by decide) ?_ fun l1 => ?_
        · simp (decide := true) only [p11_person, a_gd, h, xb, a_R3, obs, c_at h1 hi, swI, if_true, if_false, c_govd h1 hi, xr, Option.map_some]
        · simp (decide := true) only [p12_person_J34, m_th0, obs, if_true, if_false, m_next MA hi, p12_person_J77]
      · refine K 10 (sp_sh G (Int32.ofNat i)) (by decide) ?_ fun l1 => ?_
        · simp (decide := true) only [p11_person, a_gd, h, xb, a_R3, obs, c_at h1 hi, swI, if_true, if_false, hR3, c_share h1 gC, xr, Option.map_some]
        · simp (decide := true) only [p12_person_J34, m_th0, obs, if_true, if_false, m_share gM hc.1.2.2.2.2.2, p12_person_J77]
    · refine Or.inl ⟨4, ?_, by decide, 0, up2 (up2 s 287 0 0) 287 0 2, ?_, rs_thr2, up2_eq⟩
      · have nk : ∀ k : Int32, inL 0 10 k = true → (x2 = k) = False := fun k hk => eq_false fun e => by
          rw [e, hk] at hx
          cases hx
        simp only [p11_person, a_gd, h, xb, a_R3, obs, c_at h1 hi, swI, nk 0 (by decide), nk 1 (by decide), nk 2 (by decide), nk 3 (by decide), nk 4 (by decide), nk 5 (by decide), nk 6 (by decide), nk 7 (by decide), nk 8 (by decide), nk 9 (by decide), nk 10 (by decide), if_false, thr, mm_X, if_true, Option.map_some]
      · simp only [p12_person, w_gd, w_putI, obs, hn _ _ _ MA, m_th0, if_true, m_in, hx, ib_f, p12_person_J34, m_th1, one_z, if_false, p12_person_J41]
end
