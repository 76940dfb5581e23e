section
variable {g : Nat} {s : tS} {l : tL} {r : Nat → Nat} {C : Co} {G : Lg} {L : Lw}
/-! KIN: steps between two, by numbers -/
section
variable {pa : Nat → Option Nat}
def up1O (x : Option Nat) (i : Nat) : Option Nat := x.map (fun d => d + i)
def kdF (pa : Nat → Option Nat) : Nat → Nat → Nat → Option Nat
  | 0, _, _ => none
  | n + 1, x, y => if x = y then some 0 else if y < x then (match pa x with | none => none | some k => up1O (kdF pa n k y) 1) else (match pa y with | none => none | some k => up1O (kdF pa n x k) 1)
theorem kdF_eq (h : ∀ i k, pa i = some k → k < i) : ∀ n m x y, x + y < n → x + y < m → kdF pa n x y = kdF pa m x y := by
  intro n
  induction n with
  | zero => intro m x y h1; omega
  | succ n ih =>
    intro m x y h1 h2
    obtain ⟨m, rfl⟩ : ∃ k, m = k + 1 := ⟨m - 1, by omega⟩
    simp only [kdF]
    by_cases e : x = y
    · rw [if_pos e, if_pos e]
    · rw [if_neg e, if_neg e]
      by_cases c : y < x
      · rw [if_pos c, if_pos c]
        cases hx : pa x with
        | none => rfl
        | some k =>
          have := h x k hx
          show up1O _ 1 = up1O _ 1
          rw [ih m k y (by omega) (by omega)]
      · rw [if_neg c, if_neg c]
        cases hy : pa y with
        | none => rfl
        | some k =>
          have := h y k hy
          show up1O _ 1 = up1O _ 1
          rw [ih m x k (by omega) (by omega)]
def kd (pa : Nat → Option Nat) (x y : Nat) : Option Nat := kdF pa (x + y + 1) x y
theorem kd_self {x : Nat} : kd pa x x = some 0 := by rw [kd, kdF, if_pos rfl]
theorem kd_gt (h : ∀ i k, pa i = some k → k < i) {x y : Nat} (c : y < x) : kd pa x y = match pa x with | none => none | some k => up1O (kd pa k y) 1 := by
  rw [kd, kdF, if_neg (by omega), if_pos c]
  cases hx : pa x with
  | none => rfl
  | some k =>
    have := h x k hx
    show up1O _ 1 = up1O _ 1
    rw [kd, kdF_eq h _ (k + y + 1) k y (by omega) (by omega)]
theorem kd_lt (h : ∀ i k, pa i = some k → k < i) {x y : Nat} (c : x < y) : kd pa x y = match pa y with | none => none | some k => up1O (kd pa x k) 1 := by
  rw [kd, kdF, if_neg (by omega), if_neg (by omega)]
  cases hy : pa y with
  | none => rfl
  | some k =>
    have := h y k hy
    show up1O _ 1 = up1O _ 1
    rw [kd, kdF_eq h _ (x + k + 1) x k (by omega) (by omega)]
theorem up1_some {x : Option Nat} {i d : Nat} (h : up1O x i = some d) : ∃ e, x = some e ∧ d = e + i := by
  cases x with
  | none => cases h
  | some e => exact ⟨e, rfl, (Option.some.inj h).symm⟩
theorem kd_le (h : ∀ i k, pa i = some k → k < i) : ∀ n x y d, x + y < n → kd pa x y = some d → d ≤ x ∨ d ≤ y := by
  intro n
  induction n with
  | zero => intro x y d h1; omega
  | succ n ih =>
    intro x y d h1 h2
    by_cases e : x = y
    · subst e
      rw [kd_self] at h2
      have := Option.some.inj h2
      omega
    · by_cases c : y < x
      · rw [kd_gt h c] at h2
        cases hx : pa x with
        | none => rw [hx] at h2; cases h2
        | some k =>
          rw [hx] at h2
          have := h x k hx
          obtain ⟨e, h3, h4⟩ := up1_some h2
          have := ih k y e (by omega) h3
          omega
      · rw [kd_lt h (by omega)] at h2
        cases hy : pa y with
        | none => rw [hy] at h2; cases h2
        | some k =>
          rw [hy] at h2
          have := h y k hy
          obtain ⟨e, h3, h4⟩ := up1_some h2
          have := ih x k e (by omega) h3
          omega
theorem kd_0 (h : ∀ i k, pa i = some k → k < i) {x y : Nat} (h2 : kd pa x y = some 0) : x = y := by
  by_cases e : x = y
  · exact e
  · exfalso
    by_cases c : y < x
    · rw [kd_gt h c] at h2
      cases hx : pa x with
      | none => rw [hx] at h2; cases h2
      | some k =>
        rw [hx] at h2
        obtain ⟨e, h3, h4⟩ := up1_some h2
        omega
    · rw [kd_lt h (by omega)] at h2
      cases hy : pa y with
      | none => rw [hy] at h2; cases h2
      | some k =>
        rw [hy] at h2
        obtain ⟨e, h3, h4⟩ := up1_some h2
        omega
theorem kd_nb (h : ∀ i k, pa i = some k → k < i) {z w : Nat} (hz : pa z = some w) : ∀ n x, x < n → (∀ d, kd pa x z = some d → ∃ e, kd pa x w = some e ∧ e ≤ d + 1) ∧ (∀ e, kd pa x w = some e → ∃ d, kd pa x z = some d ∧ d ≤ e + 1) := by
  have hw := h z w hz
  intro n
  induction n with
  | zero => intro x h1; omega
  | succ n ih =>
    intro x h1
    by_cases c : x < z
    · have e1 : kd pa x z = up1O (kd pa x w) 1 := by rw [kd_lt h c, hz]
      refine ⟨fun d hd => ?_, fun e he => ⟨e + 1, by rw [e1, he]; rfl, Nat.le_refl _⟩⟩
      rw [e1] at hd
      obtain ⟨e, h3, h4⟩ := up1_some hd
      exact ⟨e, h3, by omega⟩
    · by_cases c2 : x = z
      · subst c2
        have e1 : kd pa x w = some 1 := by
          rw [kd_gt h hw, hz]
          show up1O (kd pa w w) 1 = _
          rw [kd_self]
          rfl
        refine ⟨fun d hd => ⟨1, e1, by omega⟩, fun e he => ⟨0, kd_self, by omega⟩⟩
      · have g1 : kd pa x z = match pa x with | none => none | some k => up1O (kd pa k z) 1 := kd_gt h (by omega)
        have g2 : kd pa x w = match pa x with | none => none | some k => up1O (kd pa k w) 1 := kd_gt h (by omega)
        cases hx : pa x with
        | none =>
          rw [hx] at g1 g2
          exact ⟨fun d hd => (by rw [g1] at hd; cases hd), fun e he => (by rw [g2] at he; cases he)⟩
        | some k =>
          rw [hx] at g1 g2
          have g1 : kd pa x z = up1O (kd pa k z) 1 := g1
          have g2 : kd pa x w = up1O (kd pa k w) 1 := g2
          obtain ⟨i1, i2⟩ := ih k (by have := h x k hx; omega)
          refine ⟨fun d hd => ?_, fun e he => ?_⟩
          · rw [g1] at hd
            obtain ⟨d', h3, h4⟩ := up1_some hd
            obtain ⟨e, h5, h6⟩ := i1 d' h3
            exact ⟨e + 1, by rw [g2, h5]; rfl, by omega⟩
          · rw [g2] at he
            obtain ⟨e', h3, h4⟩ := up1_some he
            obtain ⟨d, h5, h6⟩ := i2 e' h3
            exact ⟨d + 1, by rw [g1, h5]; rfl, by omega⟩
theorem kd_pre (h : ∀ i k, pa i = some k → k < i) : ∀ m x, x < m → ∀ y n, kd pa x y = some (n + 1) → ∃ w, (pa w = some y ∨ pa y = some w) ∧ kd pa x w = some n := by
  intro m
  induction m with
  | zero => intro x h1; omega
  | succ m ih =>
    intro x h1 y n h2
    by_cases e : x = y
    · subst e
      rw [kd_self] at h2
      have := Option.some.inj h2
      omega
    · by_cases c : y < x
      · rw [kd_gt h c] at h2
        cases hx : pa x with
        | none => rw [hx] at h2; cases h2
        | some k =>
          rw [hx] at h2
          have hk := h x k hx
          obtain ⟨d, h3, h4⟩ := up1_some h2
          have hd : d = n := by omega
          subst hd
          cases d with
          | zero =>
            have := kd_0 h h3
            subst this
            exact ⟨x, Or.inl hx, kd_self⟩
          | succ d =>
            obtain ⟨w, h5, h6⟩ := ih k (by omega) y d h3
            refine ⟨w, h5, ?_⟩
            by_cases c1 : w < x
            · rw [kd_gt h c1, hx]
              show up1O (kd pa k w) 1 = _
              rw [h6]
              rfl
            · exfalso
              by_cases c2 : w = x
              · subst c2
                rcases h5 with h5 | h5
                · rw [hx] at h5
                  have := Option.some.inj h5
                  subst this
                  rw [kd_self] at h3
                  have := Option.some.inj h3
                  omega
                · have := h y w h5
                  omega
              · rcases h5 with h5 | h5
                · rw [kd_lt h (show k < w by omega), h5] at h6
                  have h6 : up1O (kd pa k y) 1 = some d := h6
                  rw [h3] at h6
                  have : d + 1 + 1 = d := Option.some.inj h6
                  omega
                · have := h y w h5
                  omega
      · rw [kd_lt h (by omega)] at h2
        cases hy : pa y with
        | none => rw [hy] at h2; cases h2
        | some k =>
          rw [hy] at h2
          obtain ⟨d, h3, h4⟩ := up1_some h2
          have hd : d = n := by omega
          subst hd
          exact ⟨k, Or.inr rfl, h3⟩
/-- how far above -/
def anF (pa : Nat → Option Nat) (u : Nat) : Nat → Nat → Option Nat
  | 0, _ => none
  | n + 1, y => if y = u then some 0 else match pa y with | none => none | some k => up1O (anF pa u n k) 1
theorem anF_eq (h : ∀ i k, pa i = some k → k < i) {u : Nat} : ∀ n m y, y < n → y < m → anF pa u n y = anF pa u m y := by
  intro n
  induction n with
  | zero => intro m y h1; omega
  | succ n ih =>
    intro m y h1 h2
    obtain ⟨m, rfl⟩ : ∃ k, m = k + 1 := ⟨m - 1, by omega⟩
    simp only [anF]
    by_cases e : y = u
    · rw [if_pos e, if_pos e]
    · rw [if_neg e, if_neg e]
      cases hy : pa y with
      | none => rfl
      | some k =>
        have := h y k hy
        show up1O _ 1 = up1O _ 1
        rw [ih m k (by omega) (by omega)]
def an (pa : Nat → Option Nat) (u y : Nat) : Option Nat := anF pa u (y + 1) y
theorem an_self {u : Nat} : an pa u u = some 0 := by rw [an, anF, if_pos rfl]
theorem an_ne (h : ∀ i k, pa i = some k → k < i) {u y : Nat} (e : y ≠ u) : an pa u y = match pa y with | none => none | some k => up1O (an pa u k) 1 := by
  rw [an, anF, if_neg e]
  cases hy : pa y with
  | none => rfl
  | some k =>
    have := h y k hy
    show up1O _ 1 = up1O _ 1
    rw [an, anF_eq h y (k + 1) k (by omega) (by omega)]
theorem an_le (h : ∀ i k, pa i = some k → k < i) {u : Nat} : ∀ n y, y < n → ∀ t, an pa u y = some t → u ≤ y ∧ kd pa u y = some t := by
  intro n
  induction n with
  | zero => intro y h1; omega
  | succ n ih =>
    intro y h1 t h2
    by_cases e : y = u
    · subst e
      rw [an_self] at h2
      rw [kd_self]
      exact ⟨Nat.le_refl _, h2⟩
    · rw [an_ne h e] at h2
      cases hy : pa y with
      | none => rw [hy] at h2; cases h2
      | some k =>
        rw [hy] at h2
        have := h y k hy
        obtain ⟨d, h3, h4⟩ := up1_some h2
        obtain ⟨h5, h6⟩ := ih k (by omega) d h3
        refine ⟨by omega, ?_⟩
        rw [kd_lt h (show u < y by omega), hy]
        show up1O (kd pa u k) 1 = _
        rw [h6, h4]
        rfl
theorem an_no (h : ∀ i k, pa i = some k → k < i) {u : Nat} : ∀ n y, y < n → an pa u y = none → kd pa u y = match pa u with | none => none | some k => up1O (kd pa k y) 1 := by
  intro n
  induction n with
  | zero => intro y h1; omega
  | succ n ih =>
    intro y h1 h2
    have e : y ≠ u := fun e => by
      subst e
      rw [an_self] at h2
      cases h2
    by_cases c : y < u
    · exact kd_gt h c
    · have c : u < y := by omega
      rw [an_ne h e] at h2
      rw [kd_lt h c]
      cases hy : pa y with
      | none =>
        cases hu : pa u with
        | none => rfl
        | some k =>
          have := h u k hu
          show none = up1O (kd pa k y) 1
          rw [kd_lt h (show k < y by omega), hy]
          rfl
      | some j =>
        rw [hy] at h2
        have hj := h y j hy
        have h3 : an pa u j = none := by
          cases ha : an pa u j with
          | none => rfl
          | some t =>
            have h2 : up1O (an pa u j) 1 = none := h2
            rw [ha] at h2
            cases h2
        have i1 := ih j (by omega) h3
        show up1O (kd pa u j) 1 = _
        rw [i1]
        cases hu : pa u with
        | none => rfl
        | some k =>
          have := h u k hu
          show up1O (up1O (kd pa k j) 1) 1 = up1O (kd pa k y) 1
          rw [kd_lt h (show k < y by omega), hy]
end
def pr (C : Co) (i : Nat) : Option Nat := if i < sz C ∧ ¬ C.2 i 3 = -1 then some ((C.2 i 3).toInt.toNat) else none
theorem pr_ok (hC : VC C) : ∀ i k, pr C i = some k → k < i := by
  intro i k h
  unfold pr at h
  by_cases c : i < sz C ∧ ¬ C.2 i 3 = -1
  · rw [if_pos c] at h
    obtain ⟨k', h1, h2, h3⟩ := par_k hC c.1 c.2
    have := Option.some.inj h
    omega
  · rw [if_neg c] at h
    cases h
theorem pr_at (hC : VC C) {i k : Nat} (h : pr C i = some k) : i < sz C ∧ C.2 i 3 = Int32.ofNat k := by
  unfold pr at h
  by_cases c : i < sz C ∧ ¬ C.2 i 3 = -1
  · rw [if_pos c] at h
    obtain ⟨k', h1, h2, h3⟩ := par_k hC c.1 c.2
    have := Option.some.inj h
    refine ⟨c.1, ?_⟩
    rw [h2, ← this, h3]
  · rw [if_neg c] at h
    cases h
theorem pr_of {i k : Nat} (hi : i < sz C) (hk : k < 8) (h : C.2 i 3 = Int32.ofNat k) : pr C i = some k := by
  have n1 : ¬ C.2 i 3 = -1 := by
    rw [h]
    intro e
    have := nm1 hk
    rw [this] at e
    exact e
  rw [pr, if_pos ⟨hi, n1⟩, h, i_toInt (by omega)]
  rfl
theorem pr_no {i : Nat} (hi : i < sz C) (h : pr C i = none) : C.2 i 3 = -1 := by
  unfold pr at h
  by_cases c : C.2 i 3 = -1
  · exact c
  · rw [if_pos ⟨hi, c⟩] at h
    cases h
theorem i8_n : ((Int32.ofNat 8 : Int32) < 8) = False := lt8_n
theorem m1_t : ((-1 : Int32) = -1) = True := eq_true rfl
theorem c_up {y u : Nat} (h : Is s 2 C) (hC : VC C) (hy : y < sz C) (hu : u < 8) : p10_stepsUp (ob g 118) (Int32.ofNat y) (Int32.ofNat u) (mm g s l r) = some (encB (an (pr C) u y)) := by
  have hz := hC.1
  have ok := pr_ok hC
  rw [p10_stepsUp, y_gd]
  refine it_inv (L := fun n (a : Int32) i => p10_stepsUp_L5 (mm g s l r) n (ob g 118) (Int32.ofNat u) a i) (P := fun i a => (a = -1 ∧ an (pr C) u y = none) ∨ ∃ c, a = Int32.ofNat c ∧ c + i ≤ y ∧ an (pr C) u y = up1O (an (pr C) u c) i) (Q := fun B => B = some (encB (an (pr C) u y))) (N := 8) (fun n i a hi hP => ?_) (fun n a hP => ?_) 8 gF 0 (Int32.ofNat y) (by omega) (gF_gt (by omega)) (Or.inr ⟨y, rfl, by omega, by cases an (pr C) u y <;> rfl⟩)
  · rcases hP with ⟨rfl, h0⟩ | ⟨c, rfl, h1, h2⟩
    · right
      simp only [p10_stepsUp_L5, lt8_y hi, if_true, h0, p10_stepsUp_J43, encB]
    · have hc8 : c < 8 := by have := hz.2; omega
      have hc : c < sz C := by omega
      by_cases e : c = u
      · right
        subst e
        rw [an_self] at h2
        simp only [p10_stepsUp_L5, lt8_y hi, if_true, nm1 hc8, if_false, h2, up1O, Option.map_some, encB, Nat.zero_add]
      · have ne : (Int32.ofNat c = Int32.ofNat u) = False := eq_false (fun hh => e ((i_eq (by omega) (by omega)).mp hh))
        left
        rw [an_ne ok e] at h2
        cases hp : pr C c with
        | none =>
          rw [hp] at h2
          refine ⟨-1, Or.inl ⟨rfl, h2⟩, ?_⟩
          simp only [p10_stepsUp_L5, lt8_y hi, if_true, nm1 hc8, if_false, ne, y_R0, obs, c_at h hc, c_p h hc (show 3 < 9 by decide), pr_no hc hp, i_succ]
        | some k =>
          rw [hp] at h2
          have := ok c k hp
          refine ⟨Int32.ofNat k, Or.inr ⟨k, rfl, by omega, ?_⟩, ?_⟩
          · rw [h2]
            show up1O (up1O (an (pr C) u k) 1) i = up1O (an (pr C) u k) (i + 1)
            cases an (pr C) u k with
            | none => rfl
            | some d => show some (d + 1 + i) = some (d + (i + 1)); congr 1; omega
          · simp only [p10_stepsUp_L5, lt8_y hi, if_true, nm1 hc8, if_false, ne, y_R0, obs, c_at h hc, c_p h hc (show 3 < 9 by decide), (pr_at hC hp).2, i_succ]
  · rcases hP with ⟨rfl, h0⟩ | ⟨c, rfl, h1, h2⟩
    · simp only [p10_stepsUp_L5, i8_n, if_false, p10_stepsUp_J43, h0, encB]
    · exfalso
      have := hz.2
      omega
theorem enc_m1 {x : Option Nat} (h : ∀ d, x = some d → d < 8) : (encB x = -1) = (x = none) := by
  cases x with
  | none => exact propext ⟨fun _ => rfl, fun _ => rfl⟩
  | some d =>
    rw [encB, nm1 (h d rfl)]
    exact propext ⟨False.elim, fun e => by cases e⟩
theorem c_kin {x y : Nat} (h : Is s 2 C) (hC : VC C) (hx : x < sz C) (hy : y < sz C) : p10_stepsBetween (ob g 118) (Int32.ofNat x) (Int32.ofNat y) (mm g s l r) = some (encB (kd (pr C) x y)) := by
  have hz := hC.1
  have ok := pr_ok hC
  have h8 := hz.2
  rw [p10_stepsBetween, y_gd]
  refine it_inv (L := fun n (a : Int32) i => p10_stepsBetween_L5 (mm g s l r) n (ob g 118) (Int32.ofNat y) a i) (P := fun i a => (a = -1 ∧ kd (pr C) x y = none) ∨ ∃ c, a = Int32.ofNat c ∧ c + i ≤ x ∧ kd (pr C) x y = up1O (kd (pr C) c y) i) (Q := fun B => B = some (encB (kd (pr C) x y))) (N := 8) (fun n i a hi hP => ?_) (fun n a hP => ?_) 8 gF 0 (Int32.ofNat x) (by omega) (gF_gt (by omega)) (Or.inr ⟨x, rfl, by omega, by cases kd (pr C) x y <;> rfl⟩)
  · rcases hP with ⟨rfl, h0⟩ | ⟨c, rfl, h1, h2⟩
    · right
      simp only [p10_stepsBetween_L5, lt8_y hi, if_true, h0, p10_stepsBetween_J55, encB]
    · have hc8 : c < 8 := by omega
      have hc : c < sz C := by omega
      cases ha : an (pr C) c y with
      | some t =>
        right
        obtain ⟨q1, q2⟩ := an_le ok (y + 1) y (by omega) t ha
        have tb := kd_le ok (c + y + 1) c y t (by omega) q2
        rw [q2] at h2
        have ht : (Int32.ofNat t = -1) = False := nm1 (by omega)
        simp only [p10_stepsBetween_L5, lt8_y hi, if_true, nm1 hc8, if_false, c_up h hC hy hc8, ha, obs, encB, ht, h2, up1O, Option.map_some, i_add]
        rw [Nat.add_comm]
      | none =>
        left
        have q := an_no ok (y + 1) y (by omega) ha
        rw [q] at h2
        cases hp : pr C c with
        | none =>
          rw [hp] at h2
          refine ⟨-1, Or.inl ⟨rfl, h2⟩, ?_⟩
          simp only [p10_stepsBetween_L5, lt8_y hi, if_true, nm1 hc8, if_false, c_up h hC hy hc8, ha, obs, encB, y_R0, c_at h hc, c_p h hc (show 3 < 9 by decide), pr_no hc hp, i_succ]
        | some k =>
          rw [hp] at h2
          have := ok c k hp
          refine ⟨Int32.ofNat k, Or.inr ⟨k, rfl, by omega, ?_⟩, ?_⟩
          · rw [h2]
            show up1O (up1O (kd (pr C) k y) 1) i = up1O (kd (pr C) k y) (i + 1)
            cases kd (pr C) k y with
            | none => rfl
            | some d => show some (d + 1 + i) = some (d + (i + 1)); congr 1; omega
          · simp only [p10_stepsBetween_L5, lt8_y hi, if_true, nm1 hc8, if_false, c_up h hC hy hc8, ha, obs, encB, y_R0, c_at h hc, c_p h hc (show 3 < 9 by decide), (pr_at hC hp).2, i_succ]
  · rcases hP with ⟨rfl, h0⟩ | ⟨c, rfl, h1, h2⟩
    · simp only [p10_stepsBetween_L5, i8_n, if_false, p10_stepsBetween_J55, h0, encB]
    · exfalso
      omega
/-! the reference: all at so many steps -/
def csF (C : Co) (x : Int32) : Int32 := iter (fun i a => if hasb x i = true then iter (fun j a => if close C i j = true then a ||| bt j else a) (sz C) a else a) (sz C) x
theorem m_closeTo {x : Int32} (h : Ms s C) : p12_closeTo (ob g 287) x (mm g s l r) = some (csF C x) := by
  rw [p12_closeTo, w_gd]
  refine it_up (fun n a i => p12_closeTo_L4 (mm g s l r) n (ob g 287) x a i) (sz C) _ some ?_ ?_ gF x (sz_gF h.1)
  · intro n i a hi
    simp only [p12_closeTo_L4, obs, m_people h, zc_yes h.1 hi, if_true]
    by_cases e : hasb x i = true
    · rw [if_pos e]
      refine (it_up (fun m a' j => p12_closeTo_L15 (mm g s l r) (p12_closeTo_J59 (mm g s l r) (p12_closeTo_L4 (mm g s l r) n)) m (ob g 287) x a' (Int32.ofNat i) j) (sz C) (fun j a => if close C i j = true then a ||| bt j else a) (fun a' => p12_closeTo_L4 (mm g s l r) n (ob g 287) x a' (Int32.ofNat (i + 1))) ?_ ?_ gF a (sz_gF h.1))
      · intro m j a' hj
        rcases Bool.eq_false_or_eq_true (close C i j) with c | c
        · simp only [p12_closeTo_L15, obs, m_people h, zc_yes h.1 hj, if_true, m_has, e, ib_t, one_z, if_false, m_close h hi hj, c, p12_closeTo_J51, p12_closeTo_J50, p12_closeTo_J59, p12_closeTo, i_succ, bt]
        · simp only [p12_closeTo_L15, obs, m_people h, zc_yes h.1 hj, if_true, m_has, e, ib_t, ib_f, one_z, if_false, m_close h hi hj, c, p12_closeTo_J51, p12_closeTo_J50, p12_closeTo_J59, p12_closeTo, i_succ, or0, Bool.false_eq_true]
      · intro m a'
        simp only [p12_closeTo_L15, obs, m_people h, zc_no h.1, if_false, p12_closeTo_J51, p12_closeTo_J50, p12_closeTo_J59, p12_closeTo, i_succ]
    · have e' : hasb x i = false := by
        rcases Bool.eq_false_or_eq_true (hasb x i) with c | c
        · exact absurd c e
        · exact c
      rw [if_neg e]
      refine (it_up (fun m a' j => p12_closeTo_L15 (mm g s l r) (p12_closeTo_J59 (mm g s l r) (p12_closeTo_L4 (mm g s l r) n)) m (ob g 287) x a' (Int32.ofNat i) j) (sz C) (fun _ a => a) (fun a' => p12_closeTo_L4 (mm g s l r) n (ob g 287) x a' (Int32.ofNat (i + 1))) ?_ ?_ gF a (sz_gF h.1)).trans ?_
      · intro m j a' hj
        simp only [p12_closeTo_L15, obs, m_people h, zc_yes h.1 hj, if_true, m_has, e', ib_f, p12_closeTo_J51, p12_closeTo_J50, p12_closeTo_J59, p12_closeTo, i_succ, or0]
      · intro m a'
        simp only [p12_closeTo_L15, obs, m_people h, zc_no h.1, if_false, p12_closeTo_J51, p12_closeTo_J50, p12_closeTo_J59, p12_closeTo, i_succ]
      · rw [iter_id]
  · intro n a
    simp only [p12_closeTo_L4, obs, m_people h, zc_no h.1, if_false]
def clN (C : Co) (i : Nat) : Bs := fun j => decide (j < sz C) && decide (close C i j = true)
theorem rb_cs (hz : Zc C) {x : Int32} {f : Bs} (hx : rb x f) : rb (csF C x) (iter (auB (clN C) f) (sz C) f) := by
  have one : ∀ i, rb (iter (fun j x => if close C i j = true then x ||| bt j else x) (sz C) 0) (clN C i) := fun i => by
    obtain ⟨m, h1, h2, h3⟩ := bits_iter (p := fun j => close C i j = true) (sz C) hz.2
    exact ⟨m, Nat.lt_of_lt_of_le h1 (show 2 ^ sz C ≤ 2 ^ 8 from Nat.pow_le_pow_right (by decide) hz.2), h2, h3⟩
  have : ∀ k, k ≤ sz C → rb (iter (fun i a => if hasb x i = true then iter (fun j a => if close C i j = true then a ||| bt j else a) (sz C) a else a) k x) (iter (auB (clN C) f) k f) := by
    intro k
    induction k with
    | zero => exact fun _ => hx
    | succ k ih =>
      intro hk
      have ih := ih (by omega)
      have e := rb_has hx (i := k) (by have := hz.2; omega)
      show rb (if hasb x k = true then iter (fun j a => if close C k j = true then a ||| bt j else a) (sz C) (iter _ k x) else iter _ k x) (auB (clN C) f k (iter (auB (clN C) f) k f))
      rw [e, auB]
      by_cases c : f k = true
      · rw [if_pos c, if_pos c, or_iter (p := fun j => close C k j = true)]
        exact rb_or ih (one k)
      · rw [if_neg c, if_neg c]
        exact ih
  exact this _ (Nat.le_refl _)
def knB (C : Co) (x n : Nat) : Bs := fun z => match kd (pr C) x z with | none => false | some d => decide (d ≤ n)
theorem knB_iff {x n z : Nat} : knB C x n z = true ↔ ∃ d, kd (pr C) x z = some d ∧ d ≤ n := by
  unfold knB
  cases kd (pr C) x z with
  | none => exact ⟨fun h => (by cases h), fun ⟨d, h, _⟩ => (by cases h)⟩
  | some d => exact ⟨fun h => ⟨d, rfl, of_decide_eq_true h⟩, fun ⟨e, h, k⟩ => by have := Option.some.inj h; exact decide_eq_true (by omega)⟩
theorem kn_sz (hC : VC C) {x z d : Nat} (hx : x < sz C) (h : kd (pr C) x z = some d) : z < sz C := by
  by_cases c : z ≤ x
  · omega
  · rw [kd_lt (pr_ok hC) (show x < z by omega)] at h
    cases hp : pr C z with
    | none => rw [hp] at h; cases h
    | some k => exact (pr_at hC hp).1
theorem kn_step (hC : VC C) {x n : Nat} (hx : x < sz C) : iter (auB (clN C) (knB C x n)) (sz C) (knB C x n) = knB C x (n + 1) := by
  have ok := pr_ok hC
  refine subB_eq (fun z hz => ?_) (fun z hz => ?_)
  · rcases (auB_iff _).mp hz with h | ⟨i, h1, h2, h3⟩
    · obtain ⟨d, d1, d2⟩ := knB_iff.mp h
      exact knB_iff.mpr ⟨d, d1, by omega⟩
    · obtain ⟨d, d1, d2⟩ := knB_iff.mp h2
      unfold clN at h3
      rw [Bool.and_eq_true] at h3
      have hz' := of_decide_eq_true h3.1
      have hcl := of_decide_eq_true h3.2
      have hcl := of_decide_eq_true hcl
      rcases hcl with hcl | hcl
      · have hp := pr_of hz' (zc_8 hC.1 h1) hcl
        obtain ⟨e, e1, e2⟩ := (kd_nb ok hp (x + 1) x (by omega)).2 d d1
        exact knB_iff.mpr ⟨e, e1, by omega⟩
      · have hp := pr_of h1 (zc_8 hC.1 hz') hcl
        obtain ⟨e, e1, e2⟩ := (kd_nb ok hp (x + 1) x (by omega)).1 d d1
        exact knB_iff.mpr ⟨e, e1, by omega⟩
  · obtain ⟨d, d1, d2⟩ := knB_iff.mp hz
    by_cases c : d ≤ n
    · exact (auB_iff _).mpr (Or.inl (knB_iff.mpr ⟨d, d1, c⟩))
    · have : d = n + 1 := by omega
      subst this
      obtain ⟨w, w1, w2⟩ := kd_pre ok (x + 1) x (by omega) z n d1
      have hw := kn_sz hC hx w2
      have hzz := kn_sz hC hx d1
      refine (auB_iff _).mpr (Or.inr ⟨w, hw, knB_iff.mpr ⟨n, w2, Nat.le_refl _⟩, ?_⟩)
      unfold clN
      rw [Bool.and_eq_true]
      refine ⟨decide_eq_true hzz, decide_eq_true (decide_eq_true ?_)⟩
      rcases w1 with w1 | w1
      · exact Or.inr (pr_at hC w1).2
      · exact Or.inl (pr_at hC w1).2
theorem m_kin {x y : Nat} (h : Ms s C) (hC : VC C) (hx : x < sz C) (hy : y < sz C) : p12_kin_L18 gF (ob g 287) (Int32.ofNat y) (bt x) 0 (mm g s l r) = some (encB (kd (pr C) x y), mm g s l r) := by
  have ok := pr_ok hC
  have h8 := hC.1.2
  have b0 : rb (bt x) (knB C x 0) := by
    refine rb_congr (rb_bt (zc_8 hC.1 hx)) fun j => ?_
    rcases Bool.eq_false_or_eq_true (knB C x 0 j) with e | e
    · obtain ⟨d, d1, d2⟩ := knB_iff.mp e
      have : d = 0 := by omega
      subst this
      rw [e]
      exact decide_eq_true (kd_0 ok d1).symm
    · rw [e]
      refine decide_eq_false fun c => ?_
      subst c
      rw [knB_iff.mpr ⟨0, kd_self, Nat.le_refl _⟩] at e
      cases e
  refine it_inv (L := fun n (a : Int32) i => p12_kin_L18 n (ob g 287) (Int32.ofNat y) a i (mm g s l r)) (P := fun i a => rb a (knB C x i) ∧ ∀ d, kd (pr C) x y = some d → i ≤ d) (Q := fun B => B = some (encB (kd (pr C) x y), mm g s l r)) (N := 8) (fun n i a hi hP => ?_) (fun n a hP => ?_) 8 gF 0 (bt x) (by omega) (gF_gt (by omega)) ⟨b0, fun d _ => Nat.zero_le d⟩
  · obtain ⟨hb, hd⟩ := hP
    have eh := rb_has hb (zc_8 hC.1 hy)
    rcases Bool.eq_false_or_eq_true (knB C x i y) with e | e
    · right
      obtain ⟨d, d1, d2⟩ := knB_iff.mp e
      have := hd d d1
      have : d = i := by omega
      subst this
      rw [e] at eh
      simp only [p12_kin_L18, lt8_y hi, if_true, m_has, eh, ib_t, obs, one_z, if_false, d1, encB]
    · left
      rw [e] at eh
      refine ⟨csF C a, ⟨?_, fun d d1 => ?_⟩, ?_⟩
      · have := rb_cs hC.1 hb
        rw [kn_step hC hx] at this
        exact this
      · have := hd d d1
        by_cases c : d = i
        · subst c
          rw [knB_iff.mpr ⟨d, d1, Nat.le_refl _⟩] at e
          cases e
        · omega
      · simp only [p12_kin_L18, lt8_y hi, if_true, m_has, eh, ib_f, obs, m_closeTo h, i_succ]
  · obtain ⟨hb, hd⟩ := hP
    have : kd (pr C) x y = none := by
      cases hk : kd (pr C) x y with
      | none => rfl
      | some d =>
        have := hd d hk
        have := kd_le ok (x + y + 1) x y d (by omega) hk
        omega
    simp only [p12_kin_L18, i8_n, if_false, this, encB]
theorem op_kin {x1 x2 : Int32} : Op g H_kin (fun M => (p11_kin (ob g 0) x1 x2 M).map (fun z => match z with | .inl e => .inl e | .inr v => .inr (v, M))) (fun M => p12_kin (ob g 287) x1 x2 M) := by
  refine opT (x := x1) (y := x2) (by decide) (by decide) (fun s l r e h => ?_) (fun s s1 l r h => ⟨0, ?_⟩) (fun s l r C G L i j hc hr hi hj hn ex ey h h2 => ?_)
  · simp only [p11_kin, a_gd, h, xb, Option.map_some]
  · simp only [p12_kin, w_gd, obs, h, one_z, if_false]
  · subst ex ey
    refine Or.inr ⟨encB (kd (pr C) i j), s, ?_, RS.refl, fun l1 hc1 hn => ⟨up2 s 287 0 0, ?_, rs_thr, up2_eq⟩⟩
    · simp only [p11_kin, a_gd, h, xb, a_R17, obs, c_kin hc.1.1 hc.1.2.2.2.2.1 hi hj, xr, Option.map_some]
    · simp only [p12_kin, w_gd, obs, hn, if_true]
      exact m_kin (m287 hc1.1.2.2.1) hc1.1.2.2.2.2.1 hi hj
end
