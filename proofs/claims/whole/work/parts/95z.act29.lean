section
variable {g : Nat} {s : tS} {l : tL} {r : Nat → Nat} {C : Co} {G : Lg} {L : Lw} {n : Nat}
/-! the TAPE read as what was seen -/
def ub (s : tS) (j : Nat) : Nat := (s 1 j).toInt.toNat
theorem tape_u (ht : Tape s n) {j : Nat} (hj : j < n) : ub s j < 256 ∧ s 1 j = Int32.ofNat (ub s j) ∧ s 293 j = i2b (Int32.ofNat (ub s j)) := by
  obtain ⟨u, h1, h2, h3⟩ := ht.2.2.2 j hj
  have e : ub s j = u := by
    unfold ub
    rw [h2, i_toInt (by omega)]
    rfl
  rw [e]
  exact ⟨h1, h2, h3⟩
def alE (e : Nat → Bool) (k : Nat) : Bool := iter (fun i b => b && e i) k true
theorem alE_s {e : Nat → Bool} {k : Nat} : alE e (k + 1) = (alE e k && e k) := rfl
theorem alE_iff {e : Nat → Bool} : ∀ k, (alE e k = true ↔ ∀ i, i < k → e i = true) := by
  intro k
  induction k with
  | zero => exact ⟨fun _ i h => absurd h (Nat.not_lt_zero i), fun _ => rfl⟩
  | succ k ih =>
    rw [alE_s, Bool.and_eq_true, ih]
    exact ⟨fun h i hi => by
      by_cases c : i = k
      · rw [c]; exact h.2
      · exact h.1 i (by omega), fun h => ⟨fun i hi => h i (by omega), h k (by omega)⟩⟩
theorem alE_f {e : Nat → Bool} {i k : Nat} (h : alE e i = false) (hk : i ≤ k) : alE e k = false := by
  rcases Bool.eq_false_or_eq_true (alE e k) with c | c
  · have := (alE_iff k).mp c
    have : alE e i = true := (alE_iff i).mpr (fun j hj => this j (by omega))
    rw [h] at this
    cases this
  · exact c
theorem alE_b {e : Nat → Bool} {b : Bool} : ∀ k, iter (fun i b => b && e i) k b = (b && alE e k) := by
  intro k
  induction k with
  | zero => exact (Bool.and_true b).symm
  | succ k ih =>
    show (iter (fun i b => b && e i) k b && e k) = _
    rw [ih, alE_s, Bool.and_assoc]
def seB (C : Co) (u : Nat → Nat) (i : Nat) : Bool := decide (u i < rnd C)
def tlB (C : Co) (n : Nat) (u : Nat → Nat) : Bool := decide (n ≤ 40) && (decide (n % 2 = 0) && alE (seB C u) n)
theorem c_sight {b : Bool} {u : Nat → Nat} (h : Is s 2 C) (hC : VC C) (hn : n ≤ 400) (hu : ∀ j, j < n → s 1 j = Int32.ofNat (u j) ∧ u j < 256) : p11_mustBeSightings_J17 (mm g s l r) (ob g 0) (Int32.ofNat n) (ib b) = if (b && alE (seB C u) n) = true then some (.inr ()) else some (.inl (0, mm g s l r)) := by
  have hR := rnd_b hC
  rw [p11_mustBeSightings_J17]
  refine (it_up (fun m (b : Bool) i => p11_mustBeSightings_L20 (mm g s l r) (p11_mustBeSightings_J66 (mm g s l r)) m (ob g 0) (Int32.ofNat n) (ib b) i) n (fun i b => b && seB C u i) (fun b => p11_mustBeSightings_J66 (mm g s l r) (ib b)) (fun m i b hi => ?_) (fun m b => ?_) gF b (gF_gt (by omega))).trans ?_
  · obtain ⟨u1, u2⟩ := hu i hi
    have l4 : (Int32.ofNat i < 400) = True := eq_true ((i_lt (b := 400) (by omega) (by decide)).mpr (by omega))
    cases b with
    | false => simp only [p11_mustBeSightings_L20, ltk (show n < 2147483648 by omega) hi, if_true, a_R0, obs, t1_len, l4, ib_f, p11_mustBeSightings_J59, p11_mustBeSightings_J58, p11_mustBeSightings_J66, p11_mustBeSightings_J17, p11_mustBeSightings_J16, p11_mustBeSightings, i_succ, Bool.false_and]
    | true =>
      have lt := ltNN (show u i < 2147483648 by omega) (show rnd C < 2147483648 by omega)
      by_cases c : u i < rnd C
      · have e : seB C u i = true := decide_eq_true c
        simp only [p11_mustBeSightings_L20, ltk (show n < 2147483648 by omega) hi, if_true, a_R0, obs, t1_len, l4, ib_t, one_z, if_false, t1_ald (show i < 400 by omega), u1, a_R3, c_round h, hR.2.2, lt, c, p11_mustBeSightings_J59, p11_mustBeSightings_J58, p11_mustBeSightings_J66, p11_mustBeSightings_J17, p11_mustBeSightings_J16, p11_mustBeSightings, i_succ, e, Bool.true_and]
      · have e : seB C u i = false := decide_eq_false c
        simp only [p11_mustBeSightings_L20, ltk (show n < 2147483648 by omega) hi, if_true, a_R0, obs, t1_len, l4, ib_t, one_z, if_false, t1_ald (show i < 400 by omega), u1, a_R3, c_round h, hR.2.2, lt, c, p11_mustBeSightings_J59, p11_mustBeSightings_J58, p11_mustBeSightings_J66, p11_mustBeSightings_J17, p11_mustBeSightings_J16, p11_mustBeSightings, i_succ, e, Bool.true_and, ib_f]
  · simp only [p11_mustBeSightings_L20, ltk_n, if_false]
  · rw [alE_b]
    cases (b && alE (seB C u) n) with
    | false =>
      simp only [p11_mustBeSightings_J66, ib_f, if_true, thr, mm_X]
      rfl
    | true =>
      simp only [p11_mustBeSightings_J66, ib_t, one_z, if_false, xr, Option.map_some]
      rfl
theorem c_sights {u : Nat → Nat} (h : Is s 2 C) (hC : VC C) (hn : n ≤ 400) (hu : ∀ j, j < n → s 1 j = Int32.ofNat (u j) ∧ u j < 256) : p11_mustBeSightings (ob g 0) (Int32.ofNat n) (mm g s l r) = if tlB C n u = true then some (.inr ()) else some (.inl (0, mm g s l r)) := by
  have c0 := c_sight (g := g) (l := l) (r := r) (b := false) h hC hn hu
  have c1 := c_sight (g := g) (l := l) (r := r) (b := true) h hC hn hu
  have lt : ((40 : Int32) < Int32.ofNat n) = (40 < n) := propext (i_lt (a := 40) (by decide) (by omega))
  have rz : (Int32.ofNat (n % 2) = 0) = (n % 2 = 0) := propext (i_eq (b := 0) (by omega) (by omega))
  have e0 : ib false = 0 := rfl
  have e1 : ib true = 1 := rfl
  rw [e0, Bool.false_and] at c0
  rw [e1, Bool.true_and] at c1
  have ff : ∀ {α : Type} {x y : α}, (if false = true then x else y) = y := fun {α x y} => if_neg (by decide)
  rw [ff] at c0
  unfold tlB
  by_cases h4 : 40 < n
  · have d : decide (n ≤ 40) = false := decide_eq_false (by omega)
    simp only [p11_mustBeSightings, a_gd, lt, h4, if_true, p11_mustBeSightings_J16, c0, d, Bool.false_and, Bool.false_eq_true, if_false]
  · have d : decide (n ≤ 40) = true := decide_eq_true (by omega)
    by_cases h2 : n % 2 = 0
    · have d2 : decide (n % 2 = 0) = true := decide_eq_true h2
      have rt : (Int32.ofNat (n % 2) = 0) = True := by rw [rz]; exact eq_true h2
      simp only [p11_mustBeSightings, a_gd, lt, h4, if_false, (dm2 (show n < 1000 by omega)).2, obs, rt, if_true, c1, d, d2, Bool.true_and]
    · have d2 : decide (n % 2 = 0) = false := decide_eq_false h2
      have rf : (Int32.ofNat (n % 2) = 0) = False := by rw [rz]; exact eq_false h2
      simp only [p11_mustBeSightings, a_gd, lt, h4, if_false, (dm2 (show n < 1000 by omega)).2, obs, rf, p11_mustBeSightings_J16, c0, d, d2, Bool.true_and, Bool.false_and, Bool.false_eq_true]
theorem i2b_v : ∀ u, u < 256 → (i2b (Int32.ofNat u)).toInt = if u < 128 then (u : Int) else (u : Int) - 256 := by decide +kernel
theorem i2b_s {u : Nat} (h : u < 128) : i2b (Int32.ofNat u) = Int32.ofNat u := by
  apply i_ext
  rw [i2b_v u (by omega), if_pos h, i_toInt (by omega)]
theorem age_in {u : Nat} (hC : VC C) (h : u < 256) : inL 0 (C.1 4 - 1) (i2b (Int32.ofNat u)) = decide (u < rnd C) := by
  have hR := rnd_b hC
  have v := i2b_v u h
  have z0 : (0 : Int32).toInt = 0 := rfl
  rw [rnd_1 hC]
  unfold inL
  apply decide_eq_decide.mpr
  rw [i_ltI, i_ltI, v, i_toInt (by omega), z0]
  split <;> constructor <;> omega
theorem w_B {k : Nat} (hk : k < 400) : aldI (mm g s l r) (ob g 293) 21 (Int32.ofNat k) = some (s 293 k) := mm_aldB k_293 n_293 hk (by decide)
theorem m_told1 {b : Bool} {u : Nat → Nat} (h : Ms s C) (hC : VC C) (hn : n ≤ 400) (he : s 287 11 = Int32.ofNat n) (hu : ∀ j, j < n → s 293 j = i2b (Int32.ofNat (u j)) ∧ u j < 256) : p12_isTold_J23 (mm g s l r) (ob g 287) (ib b) = some (ib (b && alE (seB C u) n)) := by
  rw [p12_isTold_J23]
  refine it_inv (L := fun m (a : Int32) i => p12_isTold_L26 (mm g s l r) m (ob g 287) a i) (P := fun i a => a = ib (b && alE (seB C u) i)) (Q := fun B => B = some (ib (b && alE (seB C u) n))) (N := n) (fun m i a hi hP => ?_) (fun m a hP => ?_) n gF 0 (ib b) (by omega) (gF_gt (by omega)) (by show ib b = ib (b && true); rw [Bool.and_true])
  · obtain ⟨u1, u2⟩ := hu i hi
    subst hP
    cases hb : (b && alE (seB C u) i) with
    | false =>
      right
      have : (b && alE (seB C u) n) = false := by
        cases b with
        | false => rfl
        | true =>
          rw [Bool.true_and] at hb ⊢
          exact alE_f hb (by omega)
      simp only [p12_isTold_L26, w_getI, he, obs, ltk (show n < 2147483648 by omega) hi, if_true, ib_f, p12_isTold_J63, bZ_0, this]
    | true =>
      left
      have e : (b && alE (seB C u) (i + 1)) = seB C u i := by
        rw [alE_s, ← Bool.and_assoc, hb, Bool.true_and]
      refine ⟨_, rfl, ?_⟩
      rw [e]
      have en := m_noAge (g := g) (l := l) (r := r) (x := i2b (Int32.ofNat (u i))) h
      rw [age_in hC u2] at en
      unfold seB
      by_cases c : u i < rnd C
      · rw [decide_eq_true c] at en ⊢
        simp only [p12_isTold_L26, w_getI, he, obs, ltk (show n < 2147483648 by omega) hi, if_true, ib_t, one_z, if_false, w_R8, w_B (show i < 400 by omega), u1, en, Bool.not_true, ib_f, p12_isTold_J56, i_succ]
      · rw [decide_eq_false c] at en ⊢
        simp only [p12_isTold_L26, w_getI, he, obs, ltk (show n < 2147483648 by omega) hi, if_true, ib_t, one_z, if_false, w_R8, w_B (show i < 400 by omega), u1, en, Bool.not_false, ib_f, p12_isTold_J56, i_succ]
  · subst hP
    simp only [p12_isTold_L26, w_getI, he, obs, ltk_n, if_false, p12_isTold_J63, bZ_ib]
theorem m_told {u : Nat → Nat} (h : Ms s C) (hC : VC C) (hn : n ≤ 400) (he : s 287 11 = Int32.ofNat n) (hu : ∀ j, j < n → s 293 j = i2b (Int32.ofNat (u j)) ∧ u j < 256) : p12_isTold (ob g 287) (mm g s l r) = some (ib (tlB C n u)) := by
  have c0 := m_told1 (g := g) (l := l) (r := r) (b := false) h hC hn he hu
  have c1 := m_told1 (g := g) (l := l) (r := r) (b := true) h hC hn he hu
  have lt : ((40 : Int32) < Int32.ofNat n) = (40 < n) := propext (i_lt (a := 40) (by decide) (by omega))
  have rz : (Int32.ofNat (n % 2) = 0) = (n % 2 = 0) := propext (i_eq (b := 0) (by omega) (by omega))
  have e0 : ib false = 0 := rfl
  have e1 : ib true = 1 := rfl
  rw [e0, Bool.false_and] at c0
  rw [e1, Bool.true_and] at c1
  unfold tlB
  by_cases h2 : n % 2 = 0
  · have d2 : decide (n % 2 = 0) = true := decide_eq_true h2
    have rt : (Int32.ofNat (n % 2) = 0) = True := by rw [rz]; exact eq_true h2
    by_cases h4 : 40 < n
    · have d : decide (n ≤ 40) = false := decide_eq_false (by omega)
      simp only [p12_isTold, w_gd, w_getI, he, obs, (dm2 (show n < 1000 by omega)).2, rt, if_true, lt, h4, p12_isTold_J22, c0, d, Bool.false_and, ib_f]
    · have d : decide (n ≤ 40) = true := decide_eq_true (by omega)
      simp only [p12_isTold, w_gd, w_getI, he, obs, (dm2 (show n < 1000 by omega)).2, rt, if_true, lt, h4, if_false, c1, d, d2, Bool.true_and]
  · have d2 : decide (n % 2 = 0) = false := decide_eq_false h2
    have rf : (Int32.ofNat (n % 2) = 0) = False := by rw [rz]; exact eq_false h2
    simp only [p12_isTold, w_gd, w_getI, he, obs, (dm2 (show n < 1000 by omega)).2, rf, if_false, p12_isTold_J22, c0, d2, Bool.false_and, Bool.and_false, ib_f]
/-! those that fit -/
def feB (L : Lw) (C : Co) (q : Nat) (u : Nat → Nat) (sy i : Nat) : Bool := decide (abF L C q (Int32.ofNat (u (2 * i))) sy = Int32.ofNat (u (2 * i + 1)))
def ftB (L : Lw) (C : Co) (q : Nat) (u : Nat → Nat) (n sy : Nat) : Bool := alE (feB L C q u sy) (n / 2)
def fitS (L : Lw) (C : Co) (q : Nat) (u : Nat → Nat) (n sy : Nat) (x : Int32) : Int32 := if (csB C q sy && ftB L C q u n sy) = true then x ||| bt sy else x
def fitV (L : Lw) (C : Co) (q : Nat) (u : Nat → Nat) (n : Nat) : Int32 := itF (fitS L C q u n) (2 * sz C) 0 0
theorem fit_16 {q : Nat} {u : Nat → Nat} (h8 : sz C ≤ 8) : itF (fitS L C q u n) 16 0 0 = fitV L C q u n := by
  have e : 16 = 2 * sz C + (16 - 2 * sz C) := by omega
  rw [e, itF_add]
  refine itF_id _ _ (fun j h1 h2 => ?_)
  have : csB C q j = false := by
    unfold csB
    rw [decide_eq_false (show ¬ j / 2 < sz C by omega)]
    rfl
  unfold fitS
  rw [this]
  rfl
def FPs (L : Lw) (C : Co) (q : Nat) (s0 s : tS) : Prop := (∃ a0, Is s 96 (stP C q 0 a0)) ∧ LIs s 30 L ∧ Fr fPo s0 s
theorem dbl {i : Nat} : (2 : Int32) * Int32.ofNat i = Int32.ofNat (2 * i) := by
  rw [show (2 : Int32) = Int32.ofNat 2 from rfl, i_mul]
theorem dbl_0 : (2 : Int32) * Int32.ofNat 0 = 0 := by decide
theorem c_fits {q sy : Nat} {u : Nat → Nat} {s0 : tS} (h : FPs L C q s0 s) (hV : VL L) (hC : VC C) (hq : q < sz C) (hs : sy / 2 < sz C) (hs2 : sy < 1000) (hn : n ≤ 40) (hn2 : n % 2 = 0) (hu : ∀ j, j < n → s0 1 j = Int32.ofNat (u j)) : ∃ s', p0_fits (ob g 95) (Int32.ofNat q) (Int32.ofNat sy) (ob g 1) (Int32.ofNat n) (mm g s l r) = some (ib (ftB L C q u n sy), mm g s' l r) ∧ FPs L C q s0 s' := by
  have key : ∃ s', p0_fits_L3 gF (ob g 95) (Int32.ofNat q) (Int32.ofNat sy) (ob g 1) (Int32.ofNat n) (2 * Int32.ofNat 0) (mm g s l r) = some (ib (ftB L C q u n sy), mm g s' l r) ∧ FPs L C q s0 s' := by
    refine it_inv (L := fun m (a : tS) x => p0_fits_L3 m (ob g 95) (Int32.ofNat q) (Int32.ofNat sy) (ob g 1) (Int32.ofNat n) (2 * x) (mm g a l r)) (P := fun i a => FPs L C q s0 a ∧ alE (feB L C q u sy) i = true) (Q := fun B => ∃ s', B = some (ib (ftB L C q u n sy), mm g s' l r) ∧ FPs L C q s0 s') (N := n / 2) (fun m i a hi hP => ?_) (fun m a hP => ?_) (n / 2) gF 0 s (by omega) (gF_gt (by omega)) ⟨h, rfl⟩
    · obtain ⟨⟨⟨a0, h96⟩, h30, hf⟩, ha⟩ := hP
      have t1 : a 1 = s0 1 := hf 1 (by unfold fPo inF fQ; omega)
      have u1 : a 1 (2 * i) = Int32.ofNat (u (2 * i)) := by rw [t1]; exact hu _ (by omega)
      have l1 := ltNN (show 2 * i + 1 < 2147483648 by omega) (show n < 2147483648 by omega)
      have l2 : (Int32.ofNat (2 * i + 1) < 400) = True := eq_true ((i_lt (b := 400) (by omega) (by decide)).mpr (by omega))
      have c1 : 2 * i + 1 < n := by omega
      obtain ⟨s1, e1, h96', h30', f1⟩ := c_behind (g := g) (l := l) (r := r) (a := Int32.ofNat (u (2 * i))) h96 h30 hV (by have := vc_r hC; omega) hq hs hs2
      have t2 : s1 1 = s0 1 := by rw [f1 1 (by unfold inF; omega), t1]
      have u2 : s1 1 (2 * i + 1) = Int32.ofNat (u (2 * i + 1)) := by rw [t2]; exact hu _ (by omega)
      have F1 : FPs L C q s0 s1 := ⟨⟨_, h96'⟩, h30', hf.trans (f1.mono (fun o ho => Or.inl ho))⟩
      by_cases c : abF L C q (Int32.ofNat (u (2 * i))) sy = Int32.ofNat (u (2 * i + 1))
      · left
        refine ⟨s1, ⟨F1, by rw [alE_s, ha, Bool.true_and]; exact decide_eq_true c⟩, ?_⟩
        have e2 : Int32.ofNat (2 * i) + 2 = 2 * Int32.ofNat (i + 1) := by
          rw [dbl, i_add2]
          congr 1
        show p0_fits_L3 (m + 1) (ob g 95) (Int32.ofNat q) (Int32.ofNat sy) (ob g 1) (Int32.ofNat n) (2 * Int32.ofNat i) (mm g a l r) = p0_fits_L3 m (ob g 95) (Int32.ofNat q) (Int32.ofNat sy) (ob g 1) (Int32.ofNat n) (2 * Int32.ofNat (i + 1)) (mm g s1 l r)
        rw [← e2, dbl]
        simp only [p0_fits_L3, i_add1, l1, c1, if_true, t1_len, obs, l2, t1_ald (show 2 * i < 400 by omega), u1, e1, t1_ald (show 2 * i + 1 < 400 by omega), u2, c]
      · right
        have ef : ftB L C q u n sy = false := by
          unfold ftB
          refine alE_f (i := i + 1) ?_ (by omega)
          rw [alE_s, ha, Bool.true_and]
          exact decide_eq_false c
        refine ⟨s1, ?_, F1⟩
        show p0_fits_L3 (m + 1) (ob g 95) (Int32.ofNat q) (Int32.ofNat sy) (ob g 1) (Int32.ofNat n) (2 * Int32.ofNat i) (mm g a l r) = _
        rw [dbl]
        simp only [p0_fits_L3, i_add1, l1, c1, if_true, t1_len, obs, l2, t1_ald (show 2 * i < 400 by omega), u1, e1, t1_ald (show 2 * i + 1 < 400 by omega), u2, c, if_false, ef, ib_f]
    · obtain ⟨hF, ha⟩ := hP
      refine ⟨a, ?_, hF⟩
      show p0_fits_L3 (m + 1) (ob g 95) (Int32.ofNat q) (Int32.ofNat sy) (ob g 1) (Int32.ofNat n) (2 * Int32.ofNat (n / 2)) (mm g a l r) = _
      rw [dbl]
      have l1 := ltNN (show 2 * (n / 2) + 1 < 2147483648 by omega) (show n < 2147483648 by omega)
      have c1 : ¬ 2 * (n / 2) + 1 < n := by omega
      have ef : ftB L C q u n sy = true := ha
      simp only [p0_fits_L3, i_add1, l1, c1, if_false, p0_fits_J48, ef, ib_t]
  rw [dbl_0] at key
  obtain ⟨s', e1, h1⟩ := key
  exact ⟨s', by rw [p0_fits, e_gd]; exact e1, h1⟩
theorem fps_rs {q : Nat} {s' : tS} (h : FPs L C q s s') : RS s s' := by
  obtain ⟨⟨a0, h96⟩, -, f⟩ := h
  refine ⟨fun o k ho => by rw [f o (fun hp => ho (by unfold fPo inF fQ at hp; unfold scr; omega))], fun z => z.rs (f _ (by unfold fPo inF fQ; omega)), fun z => z.rs (f _ (by unfold fPo inF fQ; omega)), fun _ => h96.2.2.2.2.2.2⟩
theorem c_fitting {q : Nat} {u : Nat → Nat} (hI2 : Is s 2 C) (hg2 : LgC s 2 G) (hL30 : LIs s 30 L) (hnb : Nob s 96) (hV : VL L) (hC : VC C) (hq : q < sz C) (hn : n ≤ 40) (hn2 : n % 2 = 0) (hu : ∀ j, j < n → s 1 j = Int32.ofNat (u j)) : ∃ s', p0_fitting (ob g 95) (Int32.ofNat q) (ob g 1) (Int32.ofNat n) (mm g s l r) = some (fitV L C q u n, mm g s' l r) ∧ FPs L C q s s' := by
  obtain ⟨s1, e1, I1, -, f1⟩ := c_take (g := g) (l := l) (r := r) (d := 96) (c := 2) (by decide) (by decide) hI2 hg2 hnb
  have f1' : Fr fPo s s1 := f1.mono (fun o ho => by unfold fPo inF; omega)
  have F1 : FPs L C q s s1 := ⟨⟨C.2 q 0, by rw [setP_same]; exact I1⟩, hL30.fr f1' (fun o ho => by unfold fPo inF fQ at ho; omega), f1'⟩
  have key : ∃ s', p0_fitting_L17 gF (ob g 95) (Int32.ofNat q) (ob g 1) (Int32.ofNat n) 0 0 (mm g s1 l r) = some (itF (fitS L C q u n) 16 0 0, mm g s' l r) ∧ FPs L C q s s' := by
    refine it_sf (L := fun m (a : Int32 × tS) i => p0_fitting_L17 m (ob g 95) (Int32.ofNat q) (ob g 1) (Int32.ofNat n) a.1 i (mm g a.2 l r)) (R := fun _ a x => a.1 = x ∧ FPs L C q s a.2) (f := fitS L C q u n) (Q := fun B x => ∃ s', B = some (x, mm g s' l r) ∧ FPs L C q s s') (N := 16) (fun m i a x hi hR => ?_) (fun m a x hR => ?_) 16 gF 0 (0, s1) 0 (by omega) (gF_gt (by omega)) ⟨rfl, F1⟩
    · obtain ⟨a1, sa⟩ := a
      obtain ⟨hx, hF⟩ := hR
      have hx : a1 = x := hx
      have hF : FPs L C q s sa := hF
      subst hx
      have I2a : Is sa 2 C := hI2.fr hF.2.2 (fun o ho => by unfold fPo inF fQ at ho; omega)
      have ecan := c_can (g := g) (l := l) (r := r) I2a hq (show i < 1000 by omega)
      unfold fitS
      rcases Bool.eq_false_or_eq_true (csB C q i) with cs | cs
      · have hs : i / 2 < sz C := by
          unfold csB at cs
          rw [Bool.and_eq_true] at cs
          exact of_decide_eq_true cs.1
        obtain ⟨s2, e2, F2⟩ := c_fits (g := g) (l := l) (r := r) hF hV hC hq hs (show i < 1000 by omega) hn hn2 hu
        rcases Bool.eq_false_or_eq_true (ftB L C q u n i) with ft | ft
        · refine ⟨(a1 ||| bt i, s2), ⟨by rw [cs, ft]; rfl, F2⟩, ?_⟩
          simp only [p0_fitting_L17, lt16 hi, if_true, ecan, cs, ib_t, obs, one_z, if_false, e2, ft, p0_fitting_J55, i_succ, bt]
        · refine ⟨(a1, s2), ⟨by rw [cs, ft]; rfl, F2⟩, ?_⟩
          simp only [p0_fitting_L17, lt16 hi, if_true, ecan, cs, ib_t, ib_f, obs, one_z, if_false, e2, ft, p0_fitting_J55, i_succ]
      · refine ⟨(a1, sa), ⟨by rw [cs]; rfl, hF⟩, ?_⟩
        simp only [p0_fitting_L17, lt16 hi, if_true, ecan, cs, ib_f, obs, p0_fitting_J55, i_succ]
    · obtain ⟨hx, hF⟩ := hR
      refine ⟨a.2, ?_, hF⟩
      simp only [p0_fitting_L17, lt16_n, if_false, hx]
  obtain ⟨s', e2, F2⟩ := key
  rw [fit_16 hC.1.2] at e2
  refine ⟨s', ?_, F2⟩
  simp only [p0_fitting, e_gd, e_R2, e_R0, obs, e1]
  exact e2
/-! the reference -/
def MPs (L : Lw) (C : Co) (s0 s : tS) : Prop := Ms s C ∧ LMs s L ∧ (∀ o, o ≠ 288 → o ≠ 295 → s o = s0 o) ∧ ∀ k, ¬ pC k → s 288 k = s0 288 k
theorem m_fits {q sy m : Nat} {u : Nat → Nat} {s0 : tS} {b : Bool} {x2 : Int32} (h : MPs L C s0 s) (hV : VL L) (hC : VC C) (hq : q < sz C) (hs : b = true → sy / 2 < sz C) (hs2 : sy < 1000) (hn : n ≤ 40) (hn2 : n % 2 = 0) (he : s0 287 11 = Int32.ofNat n) (hu : ∀ j, j < n → s0 293 j = i2b (Int32.ofNat (u j)) ∧ u j < rnd C) : ∃ s', p12_allThatFit_L27 (p12_allThatFit_J79 (p12_allThatFit_L4 m)) gF (ob g 287) (Int32.ofNat q) x2 (Int32.ofNat sy) (ib b) 0 (mm g s l r) = p12_allThatFit_J79 (p12_allThatFit_L4 m) (ob g 287) (Int32.ofNat q) x2 (Int32.ofNat sy) (ib (b && ftB L C q u n sy)) (mm g s' l r) ∧ MPs L C s0 s' := by
  have hR := rnd_b hC
  have key : ∃ s', p12_allThatFit_L27 (p12_allThatFit_J79 (p12_allThatFit_L4 m)) gF (ob g 287) (Int32.ofNat q) x2 (Int32.ofNat sy) (ib b) (2 * Int32.ofNat 0) (mm g s l r) = p12_allThatFit_J79 (p12_allThatFit_L4 m) (ob g 287) (Int32.ofNat q) x2 (Int32.ofNat sy) (ib (b && ftB L C q u n sy)) (mm g s' l r) ∧ MPs L C s0 s' := by
    refine it_inv (L := fun m' (a : Int32 × tS) x => p12_allThatFit_L27 (p12_allThatFit_J79 (p12_allThatFit_L4 m)) m' (ob g 287) (Int32.ofNat q) x2 (Int32.ofNat sy) a.1 (2 * x) (mm g a.2 l r)) (P := fun i a => a.1 = ib (b && alE (feB L C q u sy) i) ∧ MPs L C s0 a.2) (Q := fun B => ∃ s', B = p12_allThatFit_J79 (p12_allThatFit_L4 m) (ob g 287) (Int32.ofNat q) x2 (Int32.ofNat sy) (ib (b && ftB L C q u n sy)) (mm g s' l r) ∧ MPs L C s0 s') (N := n / 2) (fun m' i a hi hP => ?_) (fun m' a hP => ?_) (n / 2) gF 0 (ib b, s) (by omega) (gF_gt (by omega)) ⟨by show ib b = ib (b && true); rw [Bool.and_true], h⟩
    · obtain ⟨a1, sa⟩ := a
      obtain ⟨hx, hM⟩ := hP
      have hx : a1 = ib (b && alE (feB L C q u sy) i) := hx
      have hM : MPs L C s0 sa := hM
      subst hx
      obtain ⟨M1, L1, o1, p1⟩ := hM
      have M1 : Ms sa C := M1
      have L1 : LMs sa L := L1
      have o1 : ∀ o, o ≠ 288 → o ≠ 295 → sa o = s0 o := o1
      have p1 : ∀ k, ¬ pC k → sa 288 k = s0 288 k := p1
      have e11 : sa 287 11 = Int32.ofNat n := by rw [o1 287 (by decide) (by decide)]; exact he
      have l1 := ltNN (show 2 * i < 2147483648 by omega) (show n < 2147483648 by omega)
      have c1 : 2 * i < n := by omega
      cases hb : (b && alE (feB L C q u sy) i) with
      | false =>
        right
        have ef : (b && ftB L C q u n sy) = false := by
          cases b with
          | false => rfl
          | true =>
            rw [Bool.true_and] at hb ⊢
            exact alE_f hb (by omega)
        refine ⟨sa, ?_, M1, L1, o1, p1⟩
        show p12_allThatFit_L27 (p12_allThatFit_J79 (p12_allThatFit_L4 m)) (m' + 1) (ob g 287) (Int32.ofNat q) x2 (Int32.ofNat sy) (ib false) (2 * Int32.ofNat i) (mm g sa l r) = _
        rw [dbl]
        simp only [p12_allThatFit_L27, w_getI, e11, obs, l1, c1, if_true, ib_f, ef]
      | true =>
        left
        have hbt : b = true := by
          cases b with
          | false => cases hb
          | true => rfl
        have ha : alE (feB L C q u sy) i = true := by
          rw [hbt, Bool.true_and] at hb
          exact hb
        obtain ⟨v1, v1'⟩ := hu (2 * i) (by omega)
        obtain ⟨v2, v2'⟩ := hu (2 * i + 1) (by omega)
        have w1 : sa 293 (2 * i) = Int32.ofNat (u (2 * i)) := by rw [o1 293 (by decide) (by decide), v1, i2b_s (by omega)]
        have hcb : 0 ≤ (Int32.ofNat (u (2 * i))).toInt ∧ (Int32.ofNat (u (2 * i))).toInt < (C.1 4).toInt := by
          rw [hR.2.2, i_toInt (by omega), i_toInt (by omega)]
          omega
        obtain ⟨s1, e1, M2, L2, f2⟩ := m_from (g := g) (l := l) (r := r) (sy := sy) M1 L1 hV hC hq (hs hbt) hs2 hcb
        have w2 : s1 293 (2 * i + 1) = Int32.ofNat (u (2 * i + 1)) := by rw [f2.1 293 (by decide) (by decide), o1 293 (by decide) (by decide), v2, i2b_s (by omega)]
        have MP : MPs L C s0 s1 := ⟨M2, L2, fun o x y => (f2.1 o x y).trans (o1 o x y), fun k hk => (f2.2 k hk).trans (p1 k hk)⟩
        have e2 : Int32.ofNat (2 * i) + 2 = 2 * Int32.ofNat (i + 1) := by
          rw [dbl, i_add2]
          congr 1
        refine ⟨(ib (feB L C q u sy i), s1), ⟨by rw [alE_s, ha, hbt, Bool.true_and, Bool.true_and], MP⟩, ?_⟩
        show p12_allThatFit_L27 (p12_allThatFit_J79 (p12_allThatFit_L4 m)) (m' + 1) (ob g 287) (Int32.ofNat q) x2 (Int32.ofNat sy) (ib true) (2 * Int32.ofNat i) (mm g sa l r) = p12_allThatFit_L27 (p12_allThatFit_J79 (p12_allThatFit_L4 m)) m' (ob g 287) (Int32.ofNat q) x2 (Int32.ofNat sy) (ib (feB L C q u sy i)) (2 * Int32.ofNat (i + 1)) (mm g s1 l r)
        rw [← e2, dbl]
        unfold feB
        by_cases c : abF L C q (Int32.ofNat (u (2 * i))) sy = Int32.ofNat (u (2 * i + 1))
        · simp only [p12_allThatFit_L27, w_getI, e11, obs, l1, c1, if_true, ib_t, one_z, if_false, w_R8, w_B (show 2 * i < 400 by omega), w1, e1, i_add1, w_B (show 2 * i + 1 < 400 by omega), w2, c, p12_allThatFit_J71, decide_true]
        · simp only [p12_allThatFit_L27, w_getI, e11, obs, l1, c1, if_true, ib_t, one_z, if_false, w_R8, w_B (show 2 * i < 400 by omega), w1, e1, i_add1, w_B (show 2 * i + 1 < 400 by omega), w2, c, p12_allThatFit_J71, decide_false, ib_f]
    · obtain ⟨a1, sa⟩ := a
      obtain ⟨hx, hM⟩ := hP
      have hx : a1 = ib (b && alE (feB L C q u sy) (n / 2)) := hx
      subst hx
      have hM : MPs L C s0 sa := hM
      have e11 : sa 287 11 = Int32.ofNat n := by rw [hM.2.2.1 287 (by decide) (by decide)]; exact he
      have l1 := ltNN (show 2 * (n / 2) < 2147483648 by omega) (show n < 2147483648 by omega)
      have c1 : ¬ 2 * (n / 2) < n := by omega
      refine ⟨sa, ?_, hM⟩
      show p12_allThatFit_L27 (p12_allThatFit_J79 (p12_allThatFit_L4 m)) (m' + 1) (ob g 287) (Int32.ofNat q) x2 (Int32.ofNat sy) (ib (b && alE (feB L C q u sy) (n / 2))) (2 * Int32.ofNat (n / 2)) (mm g sa l r) = _
      rw [dbl]
      simp only [p12_allThatFit_L27, w_getI, e11, obs, l1, c1, if_false]
      rfl
  rw [dbl_0] at key
  exact key
theorem m_fitting {q : Nat} {u : Nat → Nat} (hM : Ms s C) (hL : LMs s L) (hV : VL L) (hC : VC C) (hq : q < sz C) (hn : n ≤ 40) (hn2 : n % 2 = 0) (he : s 287 11 = Int32.ofNat n) (hu : ∀ j, j < n → s 293 j = i2b (Int32.ofNat (u j)) ∧ u j < rnd C) : ∃ s', p12_allThatFit (ob g 287) (Int32.ofNat q) (mm g s l r) = some (fitV L C q u n, mm g s' l r) ∧ MPs L C s s' := by
  have h8 := hC.1.2
  rw [p12_allThatFit, w_gd]
  refine it_sf (L := fun m (a : Int32 × tS) i => p12_allThatFit_L4 m (ob g 287) (Int32.ofNat q) a.1 i (mm g a.2 l r)) (R := fun _ a x => a.1 = x ∧ MPs L C s a.2) (f := fitS L C q u n) (Q := fun B x => ∃ s', B = some (x, mm g s' l r) ∧ MPs L C s s') (N := 2 * sz C) (fun m i a x hi hR => ?_) (fun m a x hR => ?_) (2 * sz C) gF 0 (0, s) 0 (by omega) (gF_gt (by omega)) ⟨rfl, hM, hL, fun _ _ _ => rfl, fun _ _ => rfl⟩
  · obtain ⟨a1, sa⟩ := a
    obtain ⟨hx, hP⟩ := hR
    have hx : a1 = x := hx
    have hP : MPs L C s sa := hP
    subst hx
    have lt := ltNN (show i < 2147483648 by omega) (show 2 * sz C < 2147483648 by omega)
    obtain ⟨s2, e2, P2⟩ := m_fits (g := g) (l := l) (r := r) (m := m) (sy := i) (b := gv C (i / 2) q) (x2 := a1) hP hV hC hq (fun _ => by omega) (by omega) hn hn2 he hu
    have ecs : fitS L C q u n i a1 = if (gv C (i / 2) q && ftB L C q u n i) = true then a1 ||| bt i else a1 := by
      unfold fitS
      rw [cs_in hi]
    refine ⟨(fitS L C q u n i a1, s2), ⟨rfl, P2⟩, ?_⟩
    simp only [p12_allThatFit_L4, m_people hP.1, two_sz hP.1.1, obs, lt, hi, if_true, (dm2 (show i < 1000 by omega)).1, m_gov hP.1 hq, e2, ecs]
    cases (gv C (i / 2) q && ftB L C q u n i) with
    | false => simp only [p12_allThatFit_J79, ib_f, if_true, p12_allThatFit_J92, or0, i_succ, Bool.false_eq_true, if_false]
    | true => simp only [p12_allThatFit_J79, ib_t, one_z, if_false, p12_allThatFit_J92, i_succ, if_true, bt]
  · obtain ⟨hx, hP⟩ := hR
    refine ⟨a.2, ?_, hP⟩
    have lt : (Int32.ofNat (2 * sz C) < Int32.ofNat (2 * sz C)) = False := ltk_n
    simp only [p12_allThatFit_L4, m_people hP.1, two_sz hP.1.1, obs, lt, if_false, hx]
end
