/-! what acts remember -/
abbrev Fp : Type := Nat → Co × Lg
def Pc (s : tS) (r : Nat → Nat) (p : Nat) (F : Fp) : Prop := p ≤ 12 ∧ s 0 10 = Int32.ofNat p ∧ (∀ j, j < 12 → r j ∈ pBL ∧ Nob s (r j)) ∧ (∀ i j, i < 12 → j < 12 → r i = r j → i = j) ∧ ∀ j, j < p → Is s (r j) (F j).1 ∧ LgC s (r j) (F j).2 ∧ VC (F j).1 ∧ VG (F j).2
def Pm (s : tS) (p : Nat) (F : Fp) : Prop := p ≤ 12 ∧ s 287 7 = Int32.ofNat p ∧ ∀ j, j < p → Mw (rowJ s j) (F j).1 ∧ LgM (rowJ s j) (F j).2 ∧ rowJ s j 2 = s 288 2
theorem past_split {s : tS} {r : Nat → Nat} {p : Nat} (h : Past s r p) : ∃ F, Pc s r p F ∧ Pm s p F := by
  obtain ⟨h1, h2, h3, h4, h5, h6⟩ := h
  have key : ∀ j, ∃ x : Co × Lg, j < p → Fa s (r j) (rowJ s j) x.1 x.2 := by
    intro j
    by_cases hj : j < p
    · obtain ⟨-, C, G, hF⟩ := h6 j hj
      exact ⟨(C, G), fun _ => hF⟩
    · exact ⟨((fun _ => 0, fun _ _ => 0), (0, fun _ _ => 0)), fun h => absurd h hj⟩
  refine ⟨fun j => Classical.choose (key j), ⟨h1, h2, h4, h5, fun j hj => ?_⟩, h1, h3, fun j hj => ?_⟩
  · have := Classical.choose_spec (key j) hj
    exact ⟨this.1, this.2.1, this.2.2.2.2.1, this.2.2.2.2.2⟩
  · have := Classical.choose_spec (key j) hj
    exact ⟨this.2.2.1, this.2.2.2.1, (h6 j hj).1⟩
theorem past_join {s : tS} {r : Nat → Nat} {p : Nat} {F : Fp} (h : Pc s r p F) (k : Pm s p F) : Past s r p := by
  obtain ⟨h1, h2, h3, h4, h5⟩ := h
  obtain ⟨-, k2, k3⟩ := k
  exact ⟨h1, h2, k2, h3, h4, fun j hj => ⟨(k3 j hj).2.2, (F j).1, (F j).2, (h5 j hj).1, (h5 j hj).2.1, (k3 j hj).1, (k3 j hj).2.1, (h5 j hj).2.2.1, (h5 j hj).2.2.2⟩⟩
/-- what is remembered then -/
def F1 (p : Nat) (F : Fp) (x : Co × Lg) : Fp := fun j => if p < 12 then (if j = p then x else F j) else (if j = 11 then x else F (j + 1))
def p1 (p : Nat) : Nat := if p < 12 then p + 1 else 12
/-- an object in which a remembered family lies -/
def inP (o : Nat) : Prop := 119 ≤ o ∧ o < 287
def rot (r : Nat → Nat) (j : Nat) : Nat := if j < 11 then r (j + 1) else if j = 11 then r 0 else r j
theorem pBL_k : ∀ b ∈ pBL, lK b = 3 := by decide +kernel
theorem pBL_ne : ∀ a ∈ pBL, ∀ b ∈ pBL, a ≠ b → a + 14 ≤ b ∨ b + 14 ≤ a := by decide +kernel
section
variable {g : Nat} {s : tS} {l : tL} {r : Nat → Nat} {C : Co} {G : Lg} {L : Lw} {p : Nat} {F : Fp}
theorem a_lenP : lenA (mm g s l r) (ob g 56) = some 12 := by rw [mm_lenA (by rw [k56]; decide), n56]; rfl
theorem i_sub1' {n : Nat} (h : 0 < n) (hb : n < 2147483648) : Int32.ofNat n - 1 = Int32.ofNat (n - 1) := i_sub1 h hb
/-- the last step of remembering: the family is taken into the place told -/
theorem c_rem_take {t : Nat} (ht : t < 12) (hp : s 0 10 = Int32.ofNat t) (hr : ∀ j, j < 12 → r j ∈ pBL ∧ Nob s (r j)) (hI : Is s 2 C) (hg : LgC s 2 G) : ∃ s1, p11_remember_J74 (ob g 0) (mm g s l r) = some (mm g s1 l r) ∧ s1 0 10 = Int32.ofNat (t + 1) ∧ Is s1 (r t) C ∧ LgC s1 (r t) G ∧ (∀ o, o ≠ 0 → ¬ (r t ≤ o ∧ o < r t + 14) → s1 o = s o) ∧ ∀ k, k ≠ 10 → s1 0 k = s 0 k := by
  have hb := pBL_f _ (hr t ht).1
  obtain ⟨s1, e1, I1, g1, f1⟩ := c_take (g := g) (l := l) (r := r) (d := r t) (c := 2) hb.1 (by omega) hI hg (hr t ht).2
  have c1 : ¬ Int32.ofNat t < 0 := i_nlt0 (by omega)
  have c2 : Int32.ofNat t < 12 := (i_lt (b := 12) (by omega) (by decide)).mpr ht
  have h0 : s1 0 10 = Int32.ofNat t := by rw [f1 0 (by omega)]; exact hp
  refine ⟨up2 s1 0 10 (Int32.ofNat (t + 1)), ?_, up2_eq, I1.up (by omega), g1.fr (P := fun o => o = 0) (Fr.up rfl) (by omega) (by omega), fun o h1 h2 => ?_, fun k hk => ?_⟩
  · simp only [p11_remember_J74, a_I, hp, obs, c1, if_false, a_R9, a_lenP, c2, if_true, mm_aldF ht, a_R3, e1, h0, i_succ, a_P, p11_remember_J119, p11_remember_J74, p11_remember_J50, p11_remember]
  · rw [show up2 s1 0 10 (Int32.ofNat (t + 1)) o = s1 o from funext fun j => up2_ne (by omega)]
    exact f1 o h2
  · rw [up2_ne (by omega), f1 0 (by omega)]
theorem c_rot {k50 : Nat → Nat → mMem → Option mMem} {a1 : Nat} (hr : ∀ j, j < 12 → r j ∈ pBL) : ∀ (k fuel i : Nat), i + k = 12 → 1 ≤ i → k < fuel → p11_remember_L21 k50 fuel (ob g 0) a1 (Int32.ofNat i) (mm g s l (fun j => if j + 1 < i then r (j + 1) else r j)) = k50 (ob g 0) a1 (mm g s l (fun j => if j + 1 < 12 then r (j + 1) else r j)) := by
  intro k
  induction k with
  | zero =>
    intro fuel i h1 h2 h3
    obtain ⟨n, rfl⟩ : ∃ n, fuel = n + 1 := ⟨fuel - 1, by omega⟩
    have e : i = 12 := by omega
    subst e
    have c : ¬ Int32.ofNat 12 < 12 := by decide
    simp only [p11_remember_L21, a_R9, obs, a_lenP, c, if_false]
  | succ k ih =>
    intro fuel i h1 h2 h3
    obtain ⟨n, rfl⟩ : ∃ n, fuel = n + 1 := ⟨fuel - 1, by omega⟩
    have c : Int32.ofNat i < 12 := (i_lt (b := 12) (by omega) (by decide)).mpr (by omega)
    have hi : i < 12 := by omega
    have ev : (fun j => if j + 1 < i then r (j + 1) else r j) i = r i := if_neg (by omega)
    have en : up1 (fun j => if j + 1 < i then r (j + 1) else r j) (i - 1) (r i) = fun j => if j + 1 < i + 1 then r (j + 1) else r j := by
      funext j
      by_cases ej : j = i - 1
      · subst ej
        rw [up1_eq, if_pos (by omega)]
        congr 1
        omega
      · rw [up1_ne ej]
        show (if j + 1 < i then r (j + 1) else r j) = _
        by_cases e2 : j + 1 < i
        · rw [if_pos e2, if_pos (by omega)]
        · rw [if_neg e2, if_neg (by omega)]
    rw [p11_remember_L21]
    simp only [a_R9, obs, a_lenP, c, if_true, mm_aldF hi, ev, i_sub1 (show 0 < i by omega) (by omega), mm_astF (show i - 1 < 12 by omega) (pBL_k _ (hr i hi)), i_succ]
    rw [en]
    exact ih n (i + 1) (by omega) (by omega) (by omega)
/-- the class remembers -/
theorem c_remember (hP : Pc s r p F) (hI : Is s 2 C) (hg : LgC s 2 G) (hC : VC C) (hG : VG G) : ∃ s1 r1, p11_remember (ob g 0) (mm g s l r) = some (mm g s1 l r1) ∧ Pc s1 r1 (p1 p) (F1 p F (C, G)) ∧ (∀ o, o ≠ 0 → ¬ inP o → s1 o = s o) ∧ ∀ k, k ≠ 10 → s1 0 k = s 0 k := by
  obtain ⟨h1, h2, h3, h4, h5⟩ := hP
  by_cases hp : p < 12
  · obtain ⟨s1, e1, q1, I1, g1, f1, f2⟩ := c_rem_take (g := g) (l := l) (r := r) hp h2 h3 hI hg
    have c2 : Int32.ofNat p < 12 := (i_lt (b := 12) (by omega) (by decide)).mpr hp
    have hb := pBL_f _ (h3 p hp).1
    refine ⟨s1, r, ?_, ⟨by unfold p1; rw [if_pos hp]; omega, by unfold p1; rw [if_pos hp]; exact q1, fun j hj => ⟨(h3 j hj).1, ?_⟩, h4, fun j hj => ?_⟩, fun o a b => f1 o a (fun hh => b (by unfold inP; omega)), f2⟩
    · simp only [p11_remember, a_gd, a_I, h2, obs, a_R9, a_lenP, c2, if_true, e1]
    · by_cases ej : j = p
      · subst ej
        exact I1.2.2.2.2.2.2
      · have hbj := pBL_f _ (h3 j hj).1
        have := pBL_ne _ (h3 j hj).1 _ (h3 p hp).1 (fun e => ej (h4 j p hj hp e))
        exact (h3 j hj).2.rs (f1 _ (by omega) (by omega))
    · have hj' : j < p + 1 := by unfold p1 at hj; rw [if_pos hp] at hj; exact hj
      have ef : F1 p F (C, G) j = if j = p then (C, G) else F j := by unfold F1; rw [if_pos hp]
      rw [ef]
      by_cases ej : j = p
      · subst ej
        rw [if_pos rfl]
        exact ⟨I1, g1, hC, hG⟩
      · rw [if_neg ej]
        obtain ⟨a1, a2, a3, a4⟩ := h5 j (by omega)
        have hbj := pBL_f _ (h3 j (by omega)).1
        have := pBL_ne _ (h3 j (by omega)).1 _ (h3 p hp).1 (fun e => ej (h4 j p (by omega) hp e))
        have ff : Fr (fun o => o = 0 ∨ (r p ≤ o ∧ o < r p + 14)) s s1 := fun o ho => f1 o (by omega) (by omega)
        exact ⟨a1.fr ff (fun o ho => by omega), a2.fr ff (by omega) (by omega), a3, a4⟩
  · have ep : p = 12 := by omega
    subst ep
    have c2 : ¬ Int32.ofNat 12 < 12 := by decide
    have er : up1 (fun j => if j + 1 < 12 then r (j + 1) else r j) 11 (r 0) = rot r := by
      funext j
      unfold rot
      by_cases ej : j = 11
      · subst ej
        rw [up1_eq, if_neg (by omega), if_pos rfl]
      · rw [up1_ne ej, if_neg ej]
        show (if j + 1 < 12 then r (j + 1) else r j) = _
        by_cases e2 : j + 1 < 12
        · rw [if_pos e2, if_pos (by omega)]
        · rw [if_neg e2, if_neg (by omega)]
    have hr1 : ∀ j, j < 12 → rot r j ∈ pBL ∧ Nob s (rot r j) := by
      intro j hj
      unfold rot
      by_cases e : j < 11
      · rw [if_pos e]
        exact h3 (j + 1) (by omega)
      · rw [if_neg e, if_pos (by omega)]
        exact h3 0 (by omega)
    have h41 : ∀ i j, i < 12 → j < 12 → rot r i = rot r j → i = j := by
      intro i j hi hj e
      unfold rot at e
      by_cases ei : i < 11 <;> by_cases ej : j < 11
      · rw [if_pos ei, if_pos ej] at e
        have := h4 _ _ (by omega) (by omega) e
        omega
      · rw [if_pos ei, if_neg ej, if_pos (show j = 11 by omega)] at e
        have := h4 _ _ (by omega) (by omega) e
        omega
      · rw [if_neg ei, if_pos (show i = 11 by omega), if_pos ej] at e
        have := h4 _ _ (by omega) (by omega) e
        omega
      · omega
    have hup : ∀ j, Nob s j → 119 ≤ j → Nob (up2 s 0 10 11) j := fun j h q => h.rs (funext fun i => up2_ne (by omega))
    obtain ⟨s1, e1, q1, I1, g1, f1, f2⟩ := c_rem_take (g := g) (s := up2 s 0 10 11) (l := l) (r := rot r) (t := 11) (by omega) up2_eq (fun j hj => ⟨(hr1 j hj).1, hup _ (hr1 j hj).2 (pBL_f _ (hr1 j hj).1).2.1⟩) (hI.up (by omega)) (hg.fr (P := fun o => o = 0) (Fr.up rfl) (by omega) (by omega))
    have u0 : ∀ o, o ≠ 0 → up2 s 0 10 11 o = s o := fun o ho => funext fun j => up2_ne (by omega)
    have e11 : rot r 11 = r 0 := by unfold rot; rw [if_neg (by omega), if_pos rfl]
    have hb := pBL_f _ (h3 0 (by omega)).1
    refine ⟨s1, rot r, ?_, ⟨by unfold p1; rw [if_neg hp]; omega, by unfold p1; rw [if_neg hp]; exact q1, fun j hj => ⟨(hr1 j hj).1, ?_⟩, h41, fun j hj => ?_⟩, fun o a b => ?_, fun k hk => ?_⟩
    · have hrot := c_rot (g := g) (s := s) (l := l) (r := r) (k50 := p11_remember_J50) (a1 := ob g (r 0)) (fun j hj => (h3 j hj).1) 11 gF 1 (by omega) (by omega) (by decide)
      have er0 : (fun j => if j + 1 < 1 then r (j + 1) else r j) = r := funext fun j => if_neg (by omega)
      rw [er0] at hrot
      have hrot' : p11_remember_L21 p11_remember_J50 gF (ob g 0) (ob g (r 0)) 1 (mm g s l r) = p11_remember_J50 (ob g 0) (ob g (r 0)) (mm g s l (fun j => if j + 1 < 12 then r (j + 1) else r j)) := hrot
      have a0 : aldR (mm g s l r) (ob g 56) 23 0 = some (ob g (r 0)) := mm_aldF (k := 0) (by omega)
      have st : astR (mm g s l (fun j => if j + 1 < 12 then r (j + 1) else r j)) (ob g 56) 23 3 11 (ob g (r 0)) = some (mm g s l (rot r)) := by
        rw [← er]
        exact mm_astF (k := 11) (by omega) (pBL_k _ (h3 0 (by omega)).1)
      have e12 : (12 : Int32) - 1 = 11 := by decide
      simp only [p11_remember, a_gd, a_I, h2, obs, a_R9, a_lenP, c2, if_false, a0, hrot']
      simp only [p11_remember_J50, a_R9, obs, a_lenP, e12, st, a_P, e1]
    · by_cases ej : j = 11
      · subst ej
        exact I1.2.2.2.2.2.2
      · have hbj := pBL_f _ (hr1 j hj).1
        have := pBL_ne _ (hr1 j hj).1 _ (hr1 11 (by omega)).1 (fun e => ej (h41 j 11 hj (by omega) e))
        exact (hr1 j hj).2.rs (by rw [f1 _ (by omega) (by omega), u0 _ (by omega)])
    · have hj' : j < 12 := by unfold p1 at hj; rw [if_neg hp] at hj; exact hj
      have ef : F1 12 F (C, G) j = if j = 11 then (C, G) else F (j + 1) := by unfold F1; rw [if_neg hp]
      rw [ef]
      by_cases ej : j = 11
      · subst ej
        rw [if_pos rfl]
        exact ⟨I1, g1, hC, hG⟩
      · rw [if_neg ej]
        have ej2 : rot r j = r (j + 1) := by unfold rot; rw [if_pos (by omega)]
        obtain ⟨a1, a2, a3, a4⟩ := h5 (j + 1) (by omega)
        have hbj := pBL_f _ (hr1 j hj').1
        have := pBL_ne _ (hr1 j hj').1 _ (hr1 11 (by omega)).1 (fun e => ej (h41 j 11 hj' (by omega) e))
        have ff : Fr (fun o => o = 0 ∨ (rot r 11 ≤ o ∧ o < rot r 11 + 14)) s s1 := fun o ho => by rw [f1 o (by omega) (by omega), u0 o (by omega)]
        rw [← ej2] at a1 a2
        exact ⟨a1.fr ff (fun o ho => by omega), a2.fr ff (by omega) (by omega), a3, a4⟩
    · have hb11 := pBL_f _ (hr1 11 (by omega)).1
      rw [f1 o a (fun hh => b (by unfold inP; omega)), u0 o a]
    · rw [f2 k hk, up2_ne (by omega)]
end
