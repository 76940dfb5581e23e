section
variable {g : Nat} {s : tS} {l : tL} {r : Nat → Nat} {C : Co} {G : Lg} {L : Lw}
/-! sets of people -/
abbrev Bs : Type := Nat → Bool
def rb (x : Int32) (f : Bs) : Prop := ∃ m, m < 256 ∧ x = Int32.ofNat m ∧ ∀ j, m.testBit j = f j
theorem i_or {a b : Nat} : Int32.ofNat a ||| Int32.ofNat b = Int32.ofNat (a ||| b) := by
  apply Int32.toBitVec_inj.mp
  rw [Int32.toBitVec_or]
  show BitVec.ofNat 32 a ||| BitVec.ofNat 32 b = BitVec.ofNat 32 (a ||| b)
  apply BitVec.eq_of_getLsbD_eq
  intro i hi
  simp [BitVec.getLsbD_or, BitVec.getLsbD_ofNat, Nat.testBit_or, hi]
theorem rb_or {x y : Int32} {f h : Bs} (hx : rb x f) (hy : rb y h) : rb (x ||| y) (fun j => f j || h j) := by
  obtain ⟨m, h1, rfl, h3⟩ := hx
  obtain ⟨m', k1, rfl, k3⟩ := hy
  refine ⟨m ||| m', Nat.or_lt_two_pow (n := 8) h1 k1, i_or, fun j => ?_⟩
  rw [Nat.testBit_or, h3, k3]
theorem rb_has {x : Int32} {f : Bs} (hx : rb x f) {i : Nat} (hi : i < 8) : hasb x i = f i := by
  obtain ⟨m, h1, rfl, h3⟩ := hx
  rw [bits_tab m h1 i hi, h3]
theorem rb_8 {x : Int32} {f : Bs} (hx : rb x f) {j : Nat} (h : f j = true) : j < 8 := by
  obtain ⟨m, h1, rfl, h3⟩ := hx
  by_cases c : j < 8
  · exact c
  · exfalso
    have : m < 2 ^ j := Nat.lt_of_lt_of_le (show m < 2 ^ 8 from h1) (Nat.pow_le_pow_right (by decide) (by omega))
    rw [← h3, Nat.testBit_lt_two_pow this] at h
    cases h
theorem rb_congr {x : Int32} {f h : Bs} (hx : rb x f) (e : ∀ j, f j = h j) : rb x h := by
  obtain ⟨m, h1, h2, h3⟩ := hx
  exact ⟨m, h1, h2, fun j => (h3 j).trans (e j)⟩
theorem rb_0 : rb 0 (fun _ => false) := ⟨0, by decide, rfl, fun j => by simp⟩
theorem rb_bt {i : Nat} (hi : i < 8) : rb (bt i) (fun j => decide (j = i)) := by
  refine ⟨2 ^ i, show 2 ^ i < 2 ^ 8 from Nat.pow_lt_pow_right (by decide) hi, ?_, fun j => ?_⟩
  · have := bt_tab 0 (by decide) i hi
    rw [Nat.zero_or] at this
    rw [← this]
    exact z_or.symm
  · rw [Nat.testBit_two_pow]
    exact decide_eq_decide.mpr ⟨fun h => h.symm, fun h => h.symm⟩
/-- steps from one to others -/
def clB (n : Nat) (nx : Nat → Bs) (f : Bs) : Prop := ∀ i, i < n → f i = true → ∀ j, nx i j = true → f j = true
def subB (f h : Bs) : Prop := ∀ j, f j = true → h j = true
theorem subB_eq {f h : Bs} (a : subB f h) (b : subB h f) : f = h := by
  funext j
  rcases Bool.eq_false_or_eq_true (f j) with e | e
  · rw [e, a j e]
  · rcases Bool.eq_false_or_eq_true (h j) with e' | e'
    · rw [b j e'] at e
      cases e
    · rw [e, e']
theorem cnt_mono {f h : Bs} (a : subB f h) : ∀ k i, cnt f k i ≤ cnt h k i := by
  intro k
  induction k with
  | zero => intro i; exact Nat.le_refl _
  | succ k ih =>
    intro i
    have := ih (i + 1)
    simp only [cnt]
    rcases Bool.eq_false_or_eq_true (f i) with e | e
    · rw [e, a i e]
      omega
    · rw [e]
      simp only [Bool.false_eq_true, if_false]
      omega
theorem cnt_grow {f h : Bs} (a : subB f h) : ∀ k i j, i ≤ j → j < i + k → f j = false → h j = true → cnt f k i < cnt h k i := by
  intro k
  induction k with
  | zero => intro i j h1 h2; omega
  | succ k ih =>
    intro i j h1 h2 h3 h4
    simp only [cnt]
    by_cases e : i = j
    · subst e
      have := cnt_mono a k (i + 1)
      rw [h3, h4]
      simp only [Bool.false_eq_true, if_false, if_true]
      omega
    · have := ih (i + 1) j (by omega) (by omega) h3 h4
      rcases Bool.eq_false_or_eq_true (f i) with e | e
      · rw [e, a i e]
        omega
      · rw [e]
        simp only [Bool.false_eq_true, if_false]
        omega
/-- a round that adds, and adds nothing that need not be -/
def goodT (n : Nat) (nx : Nat → Bs) (T : Bs → Bs) : Prop := (∀ f, subB f (T f)) ∧ (∀ f, subB (T f) f → clB n nx f) ∧ ∀ f h, subB f h → clB n nx h → subB (T f) h
def itN {α : Type} (T : α → α) : Nat → α → α
  | 0, f => f
  | k + 1, f => T (itN T k f)
theorem iter_itN {α : Type} {T : α → α} : ∀ k f, iter (fun _ x => T x) k f = itN T k f := by
  intro k
  induction k with
  | zero => intro f; rfl
  | succ k ih => intro f; show T _ = T _; rw [ih]
theorem itN_sub {n : Nat} {nx : Nat → Bs} {T : Bs → Bs} (hT : goodT n nx T) {f : Bs} : ∀ k, subB f (itN T k f) := by
  intro k
  induction k with
  | zero => exact fun _ h => h
  | succ k ih => exact fun j h => hT.1 _ j (ih j h)
theorem itN_least {n : Nat} {nx : Nat → Bs} {T : Bs → Bs} (hT : goodT n nx T) {f h : Bs} (a : subB f h) (b : clB n nx h) : ∀ k, subB (itN T k f) h := by
  intro k
  induction k with
  | zero => exact a
  | succ k ih => exact hT.2.2 _ _ ih b
theorem itN_cl {n : Nat} {nx : Nat → Bs} {T : Bs → Bs} (hT : goodT n nx T) (h8 : ∀ i j, nx i j = true → j < 8) {f : Bs} (hf : ∀ j, f j = true → j < 8) : ∀ k, clB n nx (itN T k f) ∨ cnt f 8 0 + k ≤ cnt (itN T k f) 8 0 := by
  intro k
  induction k with
  | zero => exact Or.inr (Nat.le_refl _)
  | succ k ih =>
    by_cases c : clB n nx (itN T k f)
    · left
      have e : T (itN T k f) = itN T k f := subB_eq (hT.2.2 _ _ (fun _ h => h) c) (hT.1 _)
      show clB n nx (T (itN T k f))
      rw [e]
      exact c
    · right
      rcases ih with ih | ih
      · exact absurd ih c
      · have b8 : subB (itN T (k + 1) f) (fun j => decide (j < 8)) := itN_least hT (fun j h => decide_eq_true (hf j h)) (fun i _ _ j h => decide_eq_true (h8 i j h)) (k + 1)
        have hn : ¬ subB (T (itN T k f)) (itN T k f) := fun h => c (hT.2.1 _ h)
        obtain ⟨j, hj⟩ : ∃ j, ¬ ((T (itN T k f)) j = true → (itN T k f) j = true) := Classical.not_forall.mp hn
        have h1 : T (itN T k f) j = true := Classical.byContradiction fun hc => hj (fun h => absurd h hc)
        have h2 : itN T k f j = false := by
          rcases Bool.eq_false_or_eq_true (itN T k f j) with e | e
          · exact absurd (fun _ => e) hj
          · exact e
        have := cnt_grow (hT.1 (itN T k f)) 8 0 j (by omega) (by have := of_decide_eq_true (b8 j h1); omega) h2 h1
        show _ ≤ cnt (T (itN T k f)) 8 0
        omega
theorem cnt_0 {f : Bs} : ∀ k i, cnt f k i = 0 → ∀ j, i ≤ j → j < i + k → f j = false := by
  intro k
  induction k with
  | zero => intro i _ j h1 h2; omega
  | succ k ih =>
    intro i h j h1 h2
    simp only [cnt] at h
    by_cases e : i = j
    · subst e
      rcases Bool.eq_false_or_eq_true (f i) with c | c
      · rw [c] at h
        simp only [if_true] at h
        omega
      · exact c
    · exact ih (i + 1) (by omega) j (by omega) (by omega)
theorem itN_closed {n : Nat} {nx : Nat → Bs} {T : Bs → Bs} (hT : goodT n nx T) (h8 : ∀ i j, nx i j = true → j < 8) {f : Bs} (hf : ∀ j, f j = true → j < 8) : clB n nx (itN T 8 f) := by
  rcases itN_cl hT h8 hf 8 with h | h
  · exact h
  · have := cnt_le (f := itN T 8 f) 8 0
    have z : cnt f 8 0 = 0 := by omega
    have fz : ∀ j, f j = false := fun j => by
      rcases Bool.eq_false_or_eq_true (f j) with e | e
      · have := cnt_0 8 0 z j (by omega) (by have := hf j e; omega)
        rw [this] at e
        cases e
      · exact e
    have cz : clB n nx f := fun i _ h => by rw [fz i] at h; cases h
    have := itN_least hT (fun _ h => h) cz 8
    intro i _ h
    have := this i h
    rw [fz i] at this
    cases this
theorem itN_same {n : Nat} {nx : Nat → Bs} {T T' : Bs → Bs} (hT : goodT n nx T) (hT' : goodT n nx T') (h8 : ∀ i j, nx i j = true → j < 8) {f : Bs} (hf : ∀ j, f j = true → j < 8) : itN T 8 f = itN T' 8 f := subB_eq (itN_least hT (itN_sub hT' 8) (itN_closed hT' h8 hf) 8) (itN_least hT' (itN_sub hT 8) (itN_closed hT h8 hf) 8)
/-- in place, one behind another -/
def plB (nx : Nat → Bs) (i : Nat) (f : Bs) : Bs := if f i = true then (fun j => f j || nx i j) else f
theorem plB_t {nx : Nat → Bs} {i : Nat} {f : Bs} (h : f i = true) : plB nx i f = fun j => f j || nx i j := if_pos h
theorem plB_f {nx : Nat → Bs} {i : Nat} {f : Bs} (h : ¬ f i = true) : plB nx i f = f := if_neg h
theorem plB_sub {nx : Nat → Bs} {i : Nat} {f : Bs} : subB f (plB nx i f) := by
  intro j h
  unfold plB
  by_cases e : f i = true
  · rw [if_pos e]
    show (f j || nx i j) = true
    rw [h, Bool.true_or]
  · rw [if_neg e]
    exact h
theorem pl_good {n : Nat} {nx : Nat → Bs} : goodT n nx (fun f => iter (plB nx) n f) := by
  have s1 : ∀ n f, subB f (iter (plB nx) n f) := by
    intro n
    induction n with
    | zero => exact fun f j h => h
    | succ n ih => exact fun f j h => plB_sub j (ih f j h)
  refine ⟨s1 n, ?_, ?_⟩
  · have : ∀ n f, subB (iter (plB nx) n f) f → clB n nx f := by
      intro n
      induction n with
      | zero => intro f _ i hi; omega
      | succ n ih =>
        intro f h i hi hf j hj
        have h1 : subB (iter (plB nx) n f) f := fun j hj => h j (plB_sub j hj)
        have e : iter (plB nx) n f = f := subB_eq h1 (s1 n f)
        by_cases c : i = n
        · subst c
          apply h
          show plB nx i (iter (plB nx) i f) j = true
          rw [e, plB, if_pos hf]
          show (f j || nx i j) = true
          rw [hj, Bool.or_true]
        · exact ih f h1 i (by omega) hf j hj
    exact this n
  · intro f h a b
    have : ∀ k, k ≤ n → subB (iter (plB nx) k f) h := by
      intro k
      induction k with
      | zero => exact fun _ => a
      | succ k ih =>
        intro hk j hj
        have ih := ih (by omega)
        have hj : plB nx k (iter (plB nx) k f) j = true := hj
        by_cases e : iter (plB nx) k f k = true
        · rw [plB_t e] at hj
          rcases Bool.eq_false_or_eq_true (iter (plB nx) k f j) with c | c
          · exact ih j c
          · have hj : (iter (plB nx) k f j || nx k j) = true := hj
            rw [c, Bool.false_or] at hj
            exact b k (by omega) (ih k e) j hj
        · rw [plB_f e] at hj
          exact ih j hj
    exact this n (Nat.le_refl _)
/-- all at once -/
def auB (nx : Nat → Bs) (f : Bs) (i : Nat) (x : Bs) : Bs := if f i = true then (fun j => x j || nx i j) else x
theorem auB_t {nx : Nat → Bs} {i : Nat} {f x : Bs} (h : f i = true) : auB nx f i x = fun j => x j || nx i j := if_pos h
theorem auB_f {nx : Nat → Bs} {i : Nat} {f x : Bs} (h : ¬ f i = true) : auB nx f i x = x := if_neg h
theorem auB_iff {nx : Nat → Bs} {f x : Bs} {j : Nat} : ∀ n, (iter (auB nx f) n x j = true ↔ x j = true ∨ ∃ i, i < n ∧ f i = true ∧ nx i j = true) := by
  intro n
  induction n with
  | zero => exact ⟨fun h => Or.inl h, fun h => by rcases h with h | ⟨i, h, -⟩; exact h; omega⟩
  | succ n ih =>
    show auB nx f n (iter (auB nx f) n x) j = true ↔ _
    by_cases e : f n = true
    · rw [auB_t e]
      show (iter (auB nx f) n x j || nx n j) = true ↔ _
      rw [Bool.or_eq_true, ih]
      constructor
      · rintro ((h | ⟨i, h1, h2, h3⟩) | h)
        · exact Or.inl h
        · exact Or.inr ⟨i, by omega, h2, h3⟩
        · exact Or.inr ⟨n, by omega, e, h⟩
      · rintro (h | ⟨i, h1, h2, h3⟩)
        · exact Or.inl (Or.inl h)
        · by_cases c : i = n
          · subst c
            exact Or.inr h3
          · exact Or.inl (Or.inr ⟨i, by omega, h2, h3⟩)
    · rw [auB_f e, ih]
      constructor
      · rintro (h | ⟨i, h1, h2, h3⟩)
        · exact Or.inl h
        · exact Or.inr ⟨i, by omega, h2, h3⟩
      · rintro (h | ⟨i, h1, h2, h3⟩)
        · exact Or.inl h
        · by_cases c : i = n
          · subst c
            exact absurd h2 e
          · exact Or.inr ⟨i, by omega, h2, h3⟩
def auT (n : Nat) (nx : Nat → Bs) (f : Bs) : Bs := fun j => f j || iter (auB nx f) n (fun _ => false) j
theorem au_good {n : Nat} {nx : Nat → Bs} : goodT n nx (auT n nx) := by
  refine ⟨fun f j h => by unfold auT; rw [h, Bool.true_or], fun f h i hi hf j hj => ?_, fun f h a b j hj => ?_⟩
  · apply h
    unfold auT
    rw [(auB_iff n).mpr (Or.inr ⟨i, hi, hf, hj⟩), Bool.or_true]
  · unfold auT at hj
    rw [Bool.or_eq_true] at hj
    rcases hj with hj | hj
    · exact a j hj
    · rcases (auB_iff n).mp hj with h1 | ⟨i, h1, h2, h3⟩
      · cases h1
      · exact b i h1 (a i h2) j h3
/-! RING -/
def lnB (C : Co) (i : Nat) : Bs := fun j => decide (j < sz C) && decide (0 < C.2 i (9 + j))
def lnF (C : Co) (i : Nat) : Int32 := iter (fun j x => if 0 < C.2 i (9 + j) then x ||| bt j else x) (sz C) 0
theorem rb_ln {i : Nat} (hz : Zc C) : rb (lnF C i) (lnB C i) := by
  obtain ⟨m, h1, h2, h3⟩ := bits_iter (p := fun j => 0 < C.2 i (9 + j)) (sz C) hz.2
  exact ⟨m, Nat.lt_of_lt_of_le h1 (show 2 ^ sz C ≤ 2 ^ 8 from Nat.pow_le_pow_right (by decide) hz.2), h2, h3⟩
def ulF (C : Co) (x : Int32) : Int32 := iter (fun i x => if hasb x i = true then x ||| lnF C i else x) (sz C) x
theorem rb_ul (hz : Zc C) {x : Int32} {f : Bs} (hx : rb x f) : rb (ulF C x) (iter (plB (lnB C)) (sz C) f) := by
  have : ∀ k, k ≤ sz C → rb (iter (fun i x => if hasb x i = true then x ||| lnF C i else x) k x) (iter (plB (lnB C)) k f) := by
    intro k
    induction k with
    | zero => exact fun _ => hx
    | succ k ih =>
      intro hk
      have ih := ih (by omega)
      have e := rb_has ih (i := k) (by have := hz.2; omega)
      show rb (if hasb (iter _ k x) k = true then iter _ k x ||| lnF C k else iter _ k x) (plB (lnB C) k (iter (plB (lnB C)) k f))
      rw [e, plB]
      by_cases c : iter (plB (lnB C)) k f k = true
      · rw [if_pos c, if_pos c]
        exact rb_or ih (rb_ln hz)
      · rw [if_neg c, if_neg c]
        exact ih
  exact this _ (Nat.le_refl _)
theorem c_nextL {p : Nat} (h : Is s 2 C) (hp : p < sz C) : p10_nextOf (ob g 118) (Int32.ofNat p) 1 (mm g s l r) = some (lnF C p) := by
  rw [p10_nextOf, y_gd]
  refine it_up (fun n a i => p10_nextOf_L5 (mm g s l r) n (ob g 118) (Int32.ofNat p) 1 a i) (sz C) _ some ?_ ?_ gF 0 (sz_gF h.2.1)
  · intro n i a hi
    by_cases e : 0 < C.2 p (9 + i)
    · simp only [p10_nextOf_L5, y_R0, obs, c_n h, zc_yes h.2.1 hi, if_true, one_z, if_false, c_lent h hp hi, e, p10_nextOf_J57, p10_nextOf_J50, p10_nextOf, i_succ, bt]
    · simp only [p10_nextOf_L5, y_R0, obs, c_n h, zc_yes h.2.1 hi, if_true, one_z, if_false, c_lent h hp hi, e, p10_nextOf_J57, p10_nextOf_J50, p10_nextOf, i_succ, bt]
  · intro n a
    simp only [p10_nextOf_L5, y_R0, obs, c_n h, zc_no h.2.1, if_false]
theorem c_reachL {p : Nat} (h : Is s 2 C) (hp : p < sz C) : p10_reached (ob g 118) (Int32.ofNat p) 1 (mm g s l r) = some (iter (fun _ x => ulF C x) 8 (lnF C p)) := by
  simp only [p10_reached, y_gd, c_nextL h hp, obs]
  refine it_up (fun n a i => p10_reached_L10 (mm g s l r) n (ob g 118) 1 a i) 8 (fun _ x => ulF C x) some ?_ ?_ gF (lnF C p) (gF_gt (by omega))
  · intro n i a hi
    simp only [p10_reached_L10, lt8_y hi, if_true]
    refine (it_up (fun m a' j => p10_reached_L20 (mm g s l r) (p10_reached_J58 (mm g s l r) (p10_reached_L10 (mm g s l r) n)) m (ob g 118) 1 a' (Int32.ofNat i) j) (sz C) (fun i x => if hasb x i = true then x ||| lnF C i else x) (fun a' => p10_reached_L10 (mm g s l r) n (ob g 118) 1 a' (Int32.ofNat (i + 1))) ?_ ?_ gF a (sz_gF h.2.1))
    · intro m j a' hj
      have eh : hasb a' j = true ↔ (((a' >>> (Int32.ofNat j &&& 31)) &&& 1) = 1) := by rw [hasb, decide_eq_true_eq]
      by_cases e : hasb a' j = true
      · simp only [p10_reached_L20, y_R0, obs, c_n h, zc_yes h.2.1 hj, if_true, eh.mp e, c_nextL h hj, p10_reached_J52, i_succ, e]
      · have e' : ¬ (((a' >>> (Int32.ofNat j &&& 31)) &&& 1) = 1) := fun c => e (eh.mpr c)
        simp only [p10_reached_L20, y_R0, obs, c_n h, zc_yes h.2.1 hj, if_true, e', if_false, p10_reached_J52, i_succ, e, Bool.false_eq_true]
    · intro m a'
      simp only [p10_reached_L20, y_R0, obs, c_n h, zc_no h.2.1, if_false, p10_reached_J58, i_succ]
  · intro n a
    simp only [p10_reached_L10, lt8_n, if_false]
def lbF (C : Co) (x : Int32) : Int32 := iter (fun i a => if hasb x i = true then iter (fun j a => if 0 < C.2 i (9 + j) then a ||| bt j else a) (sz C) a else a) (sz C) 0
theorem iter_id {α : Type} {a : α} : ∀ n, iter (fun _ (x : α) => x) n a = a := by
  intro n
  induction n with
  | zero => rfl
  | succ n ih => exact ih
theorem m_lentBy {x : Int32} (h : Ms s C) : p12_lentBy (ob g 287) x (mm g s l r) = some (lbF C x) := by
  rw [p12_lentBy, w_gd]
  refine it_up (fun n a i => p12_lentBy_L4 (mm g s l r) n (ob g 287) x a i) (sz C) _ some ?_ ?_ gF 0 (sz_gF h.1)
  · intro n i a hi
    simp only [p12_lentBy_L4, obs, m_people h, zc_yes h.1 hi, if_true]
    by_cases e : hasb x i = true
    · rw [if_pos e]
      refine (it_up (fun m a' j => p12_lentBy_L15 (mm g s l r) (p12_lentBy_J62 (mm g s l r) (p12_lentBy_L4 (mm g s l r) n)) m (ob g 287) x a' (Int32.ofNat i) j) (sz C) (fun j a => if 0 < C.2 i (9 + j) then a ||| bt j else a) (fun a' => p12_lentBy_L4 (mm g s l r) n (ob g 287) x a' (Int32.ofNat (i + 1))) ?_ ?_ gF a (sz_gF h.1))
      · intro m j a' hj
        by_cases c : 0 < C.2 i (9 + j)
        · simp only [p12_lentBy_L15, obs, m_people h, zc_yes h.1 hj, if_true, m_has, e, ib_t, one_z, if_false, m_ofL h hi (zc_8 h.1 hj), c, p12_lentBy_J54, p12_lentBy_J53, p12_lentBy_J62, p12_lentBy, i_succ, bt]
        · simp only [p12_lentBy_L15, obs, m_people h, zc_yes h.1 hj, if_true, m_has, e, ib_t, one_z, if_false, m_ofL h hi (zc_8 h.1 hj), c, p12_lentBy_J54, p12_lentBy_J53, p12_lentBy_J62, p12_lentBy, i_succ, or0]
      · intro m a'
        simp only [p12_lentBy_L15, obs, m_people h, zc_no h.1, if_false, p12_lentBy_J54, p12_lentBy_J53, p12_lentBy_J62, p12_lentBy, i_succ]
    · have e' : hasb x i = false := by
        rcases Bool.eq_false_or_eq_true (hasb x i) with c | c
        · exact absurd c e
        · exact c
      rw [if_neg e]
      refine (it_up (fun m a' j => p12_lentBy_L15 (mm g s l r) (p12_lentBy_J62 (mm g s l r) (p12_lentBy_L4 (mm g s l r) n)) m (ob g 287) x a' (Int32.ofNat i) j) (sz C) (fun _ a => a) (fun a' => p12_lentBy_L4 (mm g s l r) n (ob g 287) x a' (Int32.ofNat (i + 1))) ?_ ?_ gF a (sz_gF h.1)).trans ?_
      · intro m j a' hj
        simp only [p12_lentBy_L15, obs, m_people h, zc_yes h.1 hj, if_true, m_has, e', ib_f, p12_lentBy_J54, p12_lentBy_J53, p12_lentBy_J62, p12_lentBy, i_succ, or0]
      · intro m a'
        simp only [p12_lentBy_L15, obs, m_people h, zc_no h.1, if_false, p12_lentBy_J54, p12_lentBy_J53, p12_lentBy_J62, p12_lentBy, i_succ]
      · rw [iter_id]
  · intro n a
    simp only [p12_lentBy_L4, obs, m_people h, zc_no h.1, if_false]
theorem or_iter {p : Nat → Prop} [∀ i, Decidable (p i)] {a : Int32} : ∀ n, iter (fun i x => if p i then x ||| bt i else x) n a = a ||| iter (fun i x => if p i then x ||| bt i else x) n 0 := by
  intro n
  induction n with
  | zero => exact or0.symm
  | succ n ih =>
    show (if p n then iter _ n a ||| bt n else iter _ n a) = a ||| (if p n then iter _ n 0 ||| bt n else iter _ n 0)
    by_cases e : p n
    · rw [if_pos e, if_pos e, ih, Int32.or_assoc]
    · rw [if_neg e, if_neg e, ih]
theorem rb_lb (hz : Zc C) {x : Int32} {f : Bs} (hx : rb x f) : rb (lbF C x) (iter (auB (lnB C) f) (sz C) (fun _ => false)) := by
  have : ∀ k, k ≤ sz C → rb (iter (fun i a => if hasb x i = true then iter (fun j a => if 0 < C.2 i (9 + j) then a ||| bt j else a) (sz C) a else a) k 0) (iter (auB (lnB C) f) k (fun _ => false)) := by
    intro k
    induction k with
    | zero => exact fun _ => rb_0
    | succ k ih =>
      intro hk
      have ih := ih (by omega)
      have e := rb_has hx (i := k) (by have := hz.2; omega)
      show rb (if hasb x k = true then iter (fun j a => if 0 < C.2 k (9 + j) then a ||| bt j else a) (sz C) (iter _ k 0) else iter _ k 0) (auB (lnB C) f k (iter (auB (lnB C) f) k (fun _ => false)))
      rw [e, auB]
      by_cases c : f k = true
      · rw [if_pos c, if_pos c, or_iter (p := fun j => 0 < C.2 k (9 + j))]
        exact rb_or ih (rb_ln hz)
      · rw [if_neg c, if_neg c]
        exact ih
  exact this _ (Nat.le_refl _)
theorem m_ring {p : Nat} (h : Ms s C) {x : Int32} : p12_ring_L30 gF (ob g 287) (Int32.ofNat p) x 0 (mm g s l r) = some (ib (hasb (iter (fun _ x => x ||| lbF C x) 8 x) p), mm g s l r) := by
  refine it_up (fun n a i => p12_ring_L30 n (ob g 287) (Int32.ofNat p) a i (mm g s l r)) 8 (fun _ x => x ||| lbF C x) (fun a => some (ib (hasb a p), mm g s l r)) ?_ ?_ gF x (gF_gt (by omega))
  · intro n i a hi
    simp only [p12_ring_L30, lt8_y hi, if_true, m_lentBy h, obs, i_succ]
  · intro n a
    simp only [p12_ring_L30, lt8_n, if_false, m_has, obs, bZ_ib]
theorem ring_eq {p : Nat} (hz : Zc C) (hp : p < sz C) : hasb (iter (fun _ x => ulF C x) 8 (lnF C p)) p = hasb (iter (fun _ x => x ||| lbF C x) 8 (lbF C (bt p))) p := by
  have p8 : p < 8 := zc_8 hz hp
  have h8 : ∀ i j, lnB C i j = true → j < 8 := fun i j h => by
    unfold lnB at h
    rw [Bool.and_eq_true] at h
    have := of_decide_eq_true h.1
    have := hz.2
    omega
  have a1 : ∀ k, rb (itN (ulF C) k (lnF C p)) (itN (fun f => iter (plB (lnB C)) (sz C) f) k (lnB C p)) := by
    intro k
    induction k with
    | zero => exact rb_ln hz
    | succ k ih => exact rb_ul hz ih
  have a0 : rb (lbF C (bt p)) (lnB C p) := by
    refine rb_congr (rb_lb hz (rb_bt p8)) fun j => ?_
    rcases Bool.eq_false_or_eq_true (lnB C p j) with e | e
    · rw [e]
      exact (auB_iff _).mpr (Or.inr ⟨p, hp, decide_eq_true rfl, e⟩)
    · rcases Bool.eq_false_or_eq_true (iter (auB (lnB C) fun j => decide (j = p)) (sz C) (fun _ => false) j) with c | c
      · rcases (auB_iff _).mp c with h1 | ⟨i, h1, h2, h3⟩
        · cases h1
        · rw [of_decide_eq_true h2, e] at h3
          cases h3
      · rw [c, e]
  have a2 : ∀ k, rb (itN (fun x => x ||| lbF C x) k (lbF C (bt p))) (itN (auT (sz C) (lnB C)) k (lnB C p)) := by
    intro k
    induction k with
    | zero => exact a0
    | succ k ih => exact rb_or ih (rb_lb hz ih)
  rw [iter_itN, iter_itN, rb_has (a1 8) p8, rb_has (a2 8) p8, itN_same (pl_good (n := sz C)) au_good h8 (fun j h => h8 p j h)]
theorem op_ring' {x1 : Int32} : Op g H_ring (fun M => (p11_ring (ob g 0) x1 M).map (fun z => match z with | .inl e => .inl e | .inr v => .inr (v, M))) (fun M => p12_ring (ob g 287) x1 M) := by
  refine opP1 (x := x1) (by decide) (fun s l r h => ?_) (fun s l r h => ⟨0, ?_⟩) (fun s l r C G L i hc hr hi ex h => Or.inr ⟨ib (hasb (iter (fun _ x => ulF C x) 8 (lnF C i)) i), s, ?_, RS.refl, fun l1 hc1 h2 => ⟨up2 s 287 0 0, ?_, rs_thr, up2_eq⟩⟩)
  · simp only [p11_ring, a_gd, h, xb, Option.map_some]
  · simp only [p12_ring, w_gd, w_putI, obs, h, m_th1, one_z, if_false]
  · subst ex
    simp only [p11_ring, a_gd, h, xb, a_R17, obs, c_reachL hc.1.1 hi, p11_ring_J27]
    have eh : ∀ a : Int32, hasb a i = true ↔ (((a >>> (Int32.ofNat i &&& 31)) &&& 1) = 1) := fun a => by rw [hasb, decide_eq_true_eq]
    rcases Bool.eq_false_or_eq_true (hasb (iter (fun _ x => ulF C x) 8 (lnF C i)) i) with e | e
    · simp only [(eh _).mp e, if_true, bZ_1, obs, xr, Option.map_some, e, ib_t]
    · have e' : ¬ _ := fun c => by
        have := (eh (iter (fun _ x => ulF C x) 8 (lnF C i))).mpr c
        rw [e] at this
        cases this
      simp only [e', if_false, bZ_0, obs, xr, Option.map_some, e, ib_f]
  · subst ex
    have hM := m287 hc1.1.2.2.1 (v := 0)
    simp only [p12_ring, w_gd, w_putI, obs, h2, m_th0, if_true, m_lentBy hM]
    have := m_ring (g := g) (l := l1) (r := r) (p := i) hM (x := lbF C (bt i))
    rw [ring_eq hc.1.1.2.1 hi]
    exact this
theorem op_ring {x1 : Int32} : OpB g H_ring (fun M => (p11_ring (ob g 0) x1 M).map (fun z => match z with | .inl e => .inl e | .inr v => .inr (v, M))) (fun M => p12_ring (ob g 287) x1 M) := by
  refine opB_of op_ring' fun M => ?_
  intro v M' e
  unfold p11_ring gd at e
  by_cases hc : mK M (ob g 0) = 11
  · rw [if_pos hc] at e
    revert e
    cases p11_mustBe (ob g 0) x1 M with
    | none => intro e; cases e
    | some z =>
      cases z with
      | inl z => intro e; cases e
      | inr z =>
        simp only [xb]
        cases getR M (ob g 0) 11 17 with
        | none => intro e; cases e
        | some w =>
          simp only [obs]
          cases p10_reached w x1 1 M with
          | none => intro e; cases e
          | some q =>
            simp only [obs]
            intro e
            split at e
            · simp only [p11_ring_J27, bZ_1, obs, xr, Option.map_some] at e
              cases e
              exact ⟨true, rfl⟩
            · simp only [p11_ring_J27, bZ_0, obs, xr, Option.map_some] at e
              cases e
              exact ⟨false, rfl⟩
  · rw [if_neg hc] at e
    cases e
end
