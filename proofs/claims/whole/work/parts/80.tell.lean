/-! loops with a state beside them -/
def itF {σ : Type} (f : Nat → σ → σ) : Nat → Nat → σ → σ
  | 0, _, x => x
  | k + 1, i, x => itF f k (i + 1) (f i x)
theorem it_sf {α β σ : Type} (L : Nat → α → Int32 → β) (R : Nat → α → σ → Prop) (f : Nat → σ → σ) (Q : β → σ → Prop) (N : Nat) (hs : ∀ (n i : Nat) (a : α) (x : σ), i < N → R i a x → ∃ a', R (i + 1) a' (f i x) ∧ L (n + 1) a (Int32.ofNat i) = L n a' (Int32.ofNat (i + 1))) (he : ∀ (n : Nat) (a : α) (x : σ), R N a x → Q (L (n + 1) a (Int32.ofNat N)) x) : ∀ (k fuel i : Nat) (a : α) (x : σ), i + k = N → k < fuel → R i a x → Q (L fuel a (Int32.ofNat i)) (itF f k i x) := by
  intro k
  induction k with
  | zero =>
    intro fuel i a x h1 h2 hR
    obtain ⟨n, rfl⟩ : ∃ n, fuel = n + 1 := ⟨fuel - 1, by omega⟩
    have : i = N := by omega
    subst this
    exact he n a x hR
  | succ k ih =>
    intro fuel i a x h1 h2 hR
    obtain ⟨n, rfl⟩ : ∃ n, fuel = n + 1 := ⟨fuel - 1, by omega⟩
    obtain ⟨a', h3, h4⟩ := hs n i a x (by omega) hR
    rw [h4]
    exact ih n (i + 1) a' _ (by omega) (by omega) h3
theorem it_sx {α β σ τ : Type} (L : Nat → α → Int32 → β) (R : Nat → α → σ → Prop) (Q : β → τ → Prop) (f : Nat → σ → σ ⊕ τ) (K : σ → τ) (N : Nat) (hs : ∀ (n i : Nat) (a : α) (x : σ), i < N → R i a x → (∃ x' a', f i x = .inl x' ∧ R (i + 1) a' x' ∧ L (n + 1) a (Int32.ofNat i) = L n a' (Int32.ofNat (i + 1))) ∨ (∃ t, f i x = .inr t ∧ Q (L (n + 1) a (Int32.ofNat i)) t)) (he : ∀ (n : Nat) (a : α) (x : σ), R N a x → Q (L (n + 1) a (Int32.ofNat N)) (K x)) : ∀ (k fuel i : Nat) (a : α) (x : σ), i + k = N → k < fuel → R i a x → Q (L fuel a (Int32.ofNat i)) (lpx f K k i x) := by
  intro k
  induction k with
  | zero =>
    intro fuel i a x h1 h2 hR
    obtain ⟨n, rfl⟩ : ∃ n, fuel = n + 1 := ⟨fuel - 1, by omega⟩
    have : i = N := by omega
    subst this
    exact he n a x hR
  | succ k ih =>
    intro fuel i a x h1 h2 hR
    obtain ⟨n, rfl⟩ : ∃ n, fuel = n + 1 := ⟨fuel - 1, by omega⟩
    rcases hs n i a x (by omega) hR with ⟨x', a', h3, h4, h5⟩ | ⟨t, h3, h4⟩
    · rw [h5, lpx, h3]
      exact ih n (i + 1) a' x' (by omega) (by omega) h4
    · rw [lpx, h3]
      exact h4
/-! the log -/
abbrev Lg : Type := Nat × (Nat → Nat → Int32)
def LgC (s : tS) (b : Nat) (G : Lg) : Prop := s (b + 4) 2 = Int32.ofNat G.1 ∧ G.1 ≤ 60 ∧ ∃ nx, nx < 60 ∧ s (b + 4) 1 = Int32.ofNat nx ∧ ∀ k j, k < G.1 → j < 5 → s (b + 5) (5 * ((nx + 59 - k) % 60) + j) = G.2 k j
def LgM (w : Nat → Int32) (G : Lg) : Prop := w 7 = Int32.ofNat G.1 ∧ G.1 ≤ 60 ∧ ∀ k j, k < G.1 → j < 5 → w (145 + 5 * k + j) = G.2 k j
def rowF (d x q : Int32) (y : Bool) (a : Int32) (j : Nat) : Int32 := if j = 0 then d else if j = 1 then x else if j = 2 then q else if j = 3 then ib y else a
def push (G : Lg) (row : Nat → Int32) : Lg := (min 60 (G.1 + 1), fun k j => if k = 0 then row j else G.2 (k - 1) j)
theorem i_mul5 {n : Nat} : Int32.ofNat n * 5 = Int32.ofNat (n * 5) := (Int32.ofNat_mul n 5).symm
theorem i_add4 {n : Nat} : Int32.ofNat n + 4 = Int32.ofNat (n + 4) := (Int32.ofNat_add n 4).symm
theorem i_add0 {n : Nat} : Int32.ofNat n + 0 = Int32.ofNat (n + 0) := (Int32.ofNat_add n 0).symm
theorem min60 {n : Nat} (h : n ≤ 60) : minI 60 (Int32.ofNat n + 1) = Int32.ofNat (min 60 (n + 1)) := by
  rw [i_succ, minI]
  by_cases e : n + 1 < 60
  · have c : Int32.ofNat (n + 1) < 60 := (i_lt (b := 60) (by omega) (by decide)).mpr e
    rw [if_pos c, Nat.min_eq_right (by omega)]
  · have c : ¬ Int32.ofNat (n + 1) < 60 := fun hc => e ((i_lt (b := 60) (by omega) (by decide)).mp hc)
    rw [if_neg c, Nat.min_eq_left (by omega)]
    rfl
theorem min60' {n : Nat} (h : n ≤ 60) : minI 60 (Int32.ofNat (n + 1)) = Int32.ofNat (min 60 (n + 1)) := by
  rw [← i_succ]
  exact min60 h
section
variable {g : Nat} {s : tS} {l : tL} {r : Nat → Nat} {b : Nat} {G : Lg}
theorem c_add (hb : b ∈ fBL) (hg : LgC s b G) {d x q a : Int32} {y : Bool} : ∃ s', p6_add (ob g (b + 4)) d x q (ib y) a (mm g s l r) = some (mm g s' l r) ∧ LgC s' b (push G (rowF d x q y a)) ∧ Fr (fun o => o = b + 4 ∨ o = b + 5) s s' := by
  obtain ⟨h1, h2, nx, h3, h4, h5⟩ := hg
  have c1 : ¬ Int32.ofNat (nx * 5) < 0 := i_nlt0 (by omega)
  have c2 : Int32.ofNat (nx * 5 + 4) < 300 := (i_lt (b := 300) (by omega) (by decide)).mpr (by omega)
  have st : ∀ {s : tS} {k : Nat} {v : Int32}, k < 300 → astI (mm g s l r) (ob g (b + 5)) (Int32.ofNat k) v = some (mm g (up2 s (b + 5) k v) l r) := fun hk => f_cellS hb hk
  have gI : ∀ {s : tS} {k : Nat}, getI (mm g s l r) (ob g (b + 4)) 7 k = some (s (b + 4) k) := f_logI hb
  have gP : ∀ {s : tS} {k : Nat} {v : Int32}, putI (mm g s l r) (ob g (b + 4)) 7 k v = some (mm g (up2 s (b + 4) k v) l r) := f_logP hb
  have gR : ∀ {s : tS}, getR (mm g s l r) (ob g (b + 4)) 7 0 = some (ob g (b + 5)) := f_logR hb
  have n5 : lenA (mm g s l r) (ob g (b + 5)) = some 300 := f_len5 hb
  have u1 : ∀ {s : tS} {k : Nat} {v : Int32} {j : Nat}, up2 s (b + 5) k v (b + 4) j = s (b + 4) j := up2_ne (by omega)
  have u2 : ∀ {s : tS} {v : Int32}, up2 s (b + 4) 1 v (b + 4) 2 = s (b + 4) 2 := up2_ne (by omega)
  have key : ∀ yv : Int32, yv = ib y → ∃ s', p6_add_J74 (ob g (b + 4)) a (Int32.ofNat (nx * 5)) (ob g (b + 5)) (Int32.ofNat (nx * 5 + 3)) yv (mm g (up2 (up2 (up2 s (b + 5) (nx * 5 + 0) d) (b + 5) (nx * 5 + 1) x) (b + 5) (nx * 5 + 2) q) l r) = some (mm g s' l r) ∧ LgC s' b (push G (rowF d x q y a)) ∧ Fr (fun o => o = b + 4 ∨ o = b + 5) s s' := by
    intro yv hy
    subst hy
    refine ⟨up2 (up2 (up2 (up2 (up2 (up2 (up2 s (b + 5) (nx * 5 + 0) d) (b + 5) (nx * 5 + 1) x) (b + 5) (nx * 5 + 2) q) (b + 5) (nx * 5 + 3) (ib y)) (b + 5) (nx * 5 + 4) a) (b + 4) 1 (Int32.ofNat (if nx + 1 < 60 then nx + 1 else 0))) (b + 4) 2 (Int32.ofNat (min 60 (G.1 + 1))), ?_, ?_, ?_⟩
    · have e60 : (Int32.ofNat (nx + 1) < 60) = (nx + 1 < 60) := propext (i_lt (b := 60) (by omega) (by decide))
      by_cases e : nx + 1 < 60
      · simp only [p6_add_J25, p6_add_J108, p6_add_J74, p6_add, st (show nx * 5 + 3 < 300 by omega), Option.bind_some, gR, i_add4, st (show nx * 5 + 4 < 300 by omega), gI, u1, h4, i_succ, e60, e, if_true, gP, u2, h1, min60' h2]
      · simp only [p6_add_J25, p6_add_J108, p6_add_J74, p6_add, st (show nx * 5 + 3 < 300 by omega), Option.bind_some, gR, i_add4, st (show nx * 5 + 4 < 300 by omega), gI, u1, h4, i_succ, e60, e, if_false, gP, u2, h1, min60' h2]
        rfl
    · refine ⟨?_, Nat.min_le_left _ _, if nx + 1 < 60 then nx + 1 else 0, by split <;> omega, ?_, ?_⟩
      · rw [up2_eq]
        rfl
      · rw [up2_ne (by omega), up2_eq]
      · intro k j hk hj
        have hk' : k < min 60 (G.1 + 1) := hk
        rw [up2_ne (by omega), up2_ne (by omega)]
        show _ = (if k = 0 then rowF d x q y a j else G.2 (k - 1) j)
        by_cases e0 : k = 0
        · subst e0
          have em : ((if nx + 1 < 60 then nx + 1 else 0) + 59 - 0) % 60 = nx := by split <;> omega
          rw [em, if_pos rfl]
          have : j = 0 ∨ j = 1 ∨ j = 2 ∨ j = 3 ∨ j = 4 := by omega
          rcases this with rfl | rfl | rfl | rfl | rfl
          · rw [up2_ne (by omega), up2_ne (by omega), up2_ne (by omega), up2_ne (by omega), show 5 * nx + 0 = nx * 5 + 0 by omega, up2_eq]
            rfl
          · rw [up2_ne (by omega), up2_ne (by omega), up2_ne (by omega), show 5 * nx + 1 = nx * 5 + 1 by omega, up2_eq]
            rfl
          · rw [up2_ne (by omega), up2_ne (by omega), show 5 * nx + 2 = nx * 5 + 2 by omega, up2_eq]
            rfl
          · rw [up2_ne (by omega), show 5 * nx + 3 = nx * 5 + 3 by omega, up2_eq]
            rfl
          · rw [show 5 * nx + 4 = nx * 5 + 4 by omega, up2_eq]
            rfl
        · have em : ((if nx + 1 < 60 then nx + 1 else 0) + 59 - k) % 60 = (nx + 59 - (k - 1)) % 60 := by split <;> omega
          have en : (nx + 59 - (k - 1)) % 60 ≠ nx := by omega
          rw [em, if_neg e0, up2_ne (by omega), up2_ne (by omega), up2_ne (by omega), up2_ne (by omega), up2_ne (by omega)]
          exact h5 (k - 1) j (by omega) hj
    · exact ((((((Fr.up (Or.inr rfl)).trans (Fr.up (Or.inr rfl))).trans (Fr.up (Or.inr rfl))).trans (Fr.up (Or.inr rfl))).trans (Fr.up (Or.inr rfl))).trans (Fr.up (Or.inl rfl))).trans (Fr.up (Or.inl rfl))
  rw [p6_add, f_loggd hb]
  simp only [gI, h4, i_mul5, Option.bind_some, c1, if_false, gR, n5, i_add4, c2, if_true, i_add0, st (show nx * 5 + 0 < 300 by omega), i_add1, st (show nx * 5 + 1 < 300 by omega), i_add2, st (show nx * 5 + 2 < 300 by omega), i_add3]
  cases y with
  | false =>
    simp only [ib_f, if_true]
    exact key 0 rfl
  | true =>
    simp only [ib_t, one_z, if_false]
    exact key 1 rfl
end
theorem LgC.fr {s s' : tS} {b : Nat} {G : Lg} {P : Nat → Prop} (h : LgC s b G) (hf : Fr P s s') (h4 : ¬ P (b + 4)) (h5 : ¬ P (b + 5)) : LgC s' b G := by
  unfold LgC
  rw [hf _ h4, hf _ h5]
  exact h
/-! one grows -/
def movedF (C : Co) (a w : Int32) (y : Bool) : Int32 := if (if y = true then a + w else a - w) < 0 then (if y = true then a + w else a - w) + C.1 4 else if (if y = true then a + w else a - w) < C.1 4 then (if y = true then a + w else a - w) else (if y = true then a + w else a - w) - C.1 4
def turnF (C : Co) (q : Nat) (y : Bool) (w : Int32) : Int32 := if y = true then (if C.2 q 0 + w < C.1 4 then C.2 q 1 else maxI (-99) (C.2 q 1 - 1)) else (if C.2 q 0 - w < 0 then minI 99 (C.2 q 1 + 1) else C.2 q 1)
def tellF (C : Co) (q : Nat) (y : Bool) (w : Int32) : Co := stP (stP C q 1 (turnF C q y w)) q 0 (movedF C (C.2 q 0) w y)
theorem sz_tell {C : Co} {q : Nat} {y : Bool} {w : Int32} : sz (tellF C q y w) = sz C := rfl
section
variable {g : Nat} {s : tS} {l : tL} {r : Nat → Nat} {b : Nat} {C : Co} {G : Lg}
theorem c_moved (h : Is s b C) {a w : Int32} {y : Bool} : p2_moved (ob g b) a w (ib y) (mm g s l r) = some (movedF C a w y) := by
  have key : ∀ u : Int32, p2_moved_J13 (mm g s l r) (ob g b) u = some (if u < 0 then u + C.1 4 else if u < C.1 4 then u else u - C.1 4) := by
    intro u
    simp only [p2_moved_J49, p2_moved_J13, p2_moved, c_round h, Option.bind_some]
    by_cases e1 : u < 0
    · simp only [e1, if_true]
    · by_cases e2 : u < C.1 4 <;> simp only [e1, e2, if_true, if_false]
  rw [p2_moved, c_gd h]
  cases y with
  | false => simp only [ib_f, if_true, key, movedF, Bool.false_eq_true, if_false]
  | true => simp only [ib_t, one_z, if_false, key, movedF, if_true]
/-- the class's saying -/
theorem c_tell (h : Is s b C) (hg : LgC s b G) {q : Nat} (hq : q < sz C) {x w : Int32} {y : Bool} : ∃ s', p2_tell (ob g b) x (Int32.ofNat q) (ib y) w (mm g s l r) = some (movedF C (C.2 q 0) w y, mm g s' l r) ∧ Is s' b (tellF C q y w) ∧ LgC s' b (push G (rowF (C.1 3) x (Int32.ofNat q) y (movedF C (C.2 q 0) w y))) ∧ Fr (fun o => b ≤ o ∧ o < b + 14) s s' := by
  have h8 := zc_8 h.2.1 hq
  have key : ∀ t : Int32, ∀ s1 : tS, s1 = up2 s (b + 6 + q) 1 t → t = turnF C q y w → ∃ s', p2_tell_J75 (ob g b) x (Int32.ofNat q) (ib y) w (ob g (b + 6 + q)) (mm g s1 l r) = some (movedF C (C.2 q 0) w y, mm g s' l r) ∧ Is s' b (tellF C q y w) ∧ LgC s' b (push G (rowF (C.1 3) x (Int32.ofNat q) y (movedF C (C.2 q 0) w y))) ∧ Fr (fun o => b ≤ o ∧ o < b + 14) s s' := by
    intro t s1 e1 e2
    have hI1 : Is s1 b (stP C q 1 t) := by rw [e1]; exact h.setP hq (by decide)
    have hI2 : Is (up2 s1 (b + 6 + q) 0 (movedF C (C.2 q 0) w y)) b (stP (stP C q 1 t) q 0 (movedF C (C.2 q 0) w y)) := hI1.setP hq (by decide)
    have f1 : Fr (fun o => o = b + 6 + q) s s1 := by rw [e1]; exact Fr.up rfl
    have hG2 : LgC (up2 s1 (b + 6 + q) 0 (movedF C (C.2 q 0) w y)) b G := hg.fr (f1.trans (Fr.up rfl)) (by omega) (by omega)
    obtain ⟨s', a1, a2, a3⟩ := c_add (g := g) (l := l) (r := r) h.1 hG2 (d := C.1 3) (x := x) (q := Int32.ofNat q) (a := movedF C (C.2 q 0) w y) (y := y)
    have q1 : getI (mm g s1 l r) (ob g (b + 6 + q)) 9 0 = some (C.2 q 0) := by
      rw [c_p hI1 hq (by decide)]
      exact congrArg some (up2_ne (by omega))
    have q2 : getI (mm g (up2 s1 (b + 6 + q) 0 (movedF C (C.2 q 0) w y)) l r) (ob g (b + 6 + q)) 9 0 = some (movedF C (C.2 q 0) w y) := by
      rw [c_p hI2 hq (by decide)]
      exact congrArg some up2_eq
    have q3 : getI (mm g s' l r) (ob g (b + 6 + q)) 9 0 = some (movedF C (C.2 q 0) w y) := by
      rw [f_pI h.1 h8, a3 (b + 6 + q) (by omega), up2_eq]
    have q4 : getI (mm g (up2 s1 (b + 6 + q) 0 (movedF C (C.2 q 0) w y)) l r) (ob g b) 3 8 = some (C.1 3) := by
      have := c_day (g := g) (l := l) (r := r) hI2
      exact this
    refine ⟨s', ?_, ?_, a2, ?_⟩
    · simp only [p2_tell_J75, p2_tell_J43, p2_tell, q1, Option.bind_some, c_moved hI1, c_P hI1 hq, f_R3 h.1]
      have e : movedF (stP C q 1 t) (C.2 q 0) w y = movedF C (C.2 q 0) w y := rfl
      simp only [e, q2, q4, Option.bind_some, a1, q3]
    · have hI3 : Is s' b (stP (stP C q 1 t) q 0 (movedF C (C.2 q 0) w y)) := by
        obtain ⟨k1, k2, k3, k4, k5, k6, k7⟩ := hI2
        refine ⟨k1, k2, ?_, ?_, ?_, ?_, ?_⟩
        · intro k u v
          rw [a3 b (by omega)]
          exact k3 k u v
        · intro i j u v
          rw [a3 (b + 6 + i) (by omega)]
          exact k4 i j u v
        · intro i j u v
          rw [a3 (b + 3) (by omega)]
          exact k5 i j u v
        · intro i j u v z
          rw [a3 (b + 3) (by omega)]
          exact k6 i j u v z
        · intro j u
          rw [a3 (b + 2) (by omega)]
          exact k7 j u
      rw [tellF, ← e2]
      exact hI3
    · have f2 : Fr (fun o => o = b + 6 + q) s (up2 s1 (b + 6 + q) 0 (movedF C (C.2 q 0) w y)) := f1.trans (Fr.up rfl)
      exact (f2.mono (fun o ho => by omega)).trans (a3.mono (fun o ho => by omega))
  have same : s = up2 s (b + 6 + q) 1 (C.2 q 1) := by
    funext a j
    by_cases e : a = b + 6 + q ∧ j = 1
    · rw [e.1, e.2, up2_eq]
      exact h.2.2.2.1 q 1 hq (by decide)
    · rw [up2_ne e]
  rw [p2_tell, c_gd h]
  simp only [c_at h hq, Option.bind_some, c_p h hq (show 0 < 9 by decide), c_p h hq (show 1 < 9 by decide), c_round h, p2_tell_J43]
  cases y with
  | false =>
    simp only [ib_f, if_true]
    by_cases e : C.2 q 0 - w < 0
    · simp only [e, if_true, c_P h hq, Option.bind_some]
      exact key _ _ rfl (by simp only [turnF, e, if_true, Bool.false_eq_true, if_false])
    · simp only [e, if_false]
      exact key _ _ same (by simp only [turnF, e, if_false, Bool.false_eq_true])
  | true =>
    simp only [ib_t, one_z, if_false]
    by_cases e : C.2 q 0 + w < C.1 4
    · simp only [e, if_true]
      exact key _ _ same (by simp only [turnF, e, if_true])
    · simp only [e, if_false, c_P h hq, Option.bind_some]
      exact key _ _ rfl (by simp only [turnF, e, if_true, if_false])
end
