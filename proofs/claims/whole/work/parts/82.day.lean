/-! days -/
/-- the one of a place among some; k more from i on -/
def nth (f : Nat → Bool) : Nat → Nat → Nat → Nat
  | 0, i, _ => i
  | k + 1, i, t => if f i = true then (if t = 0 then i else nth f k (i + 1) (t - 1)) else nth f k (i + 1) t
def cnt (f : Nat → Bool) : Nat → Nat → Nat
  | 0, _ => 0
  | k + 1, i => (if f i = true then 1 else 0) + cnt f k (i + 1)
theorem nth_ok {f : Nat → Bool} : ∀ (k i t : Nat), t < cnt f k i → i ≤ nth f k i t ∧ nth f k i t < i + k ∧ f (nth f k i t) = true := by
  intro k
  induction k with
  | zero => intro i t h; exact absurd h (Nat.not_lt_zero t)
  | succ k ih =>
    intro i t h
    simp only [cnt] at h
    simp only [nth]
    by_cases e : f i = true
    · simp only [e, if_true] at h ⊢
      by_cases e0 : t = 0
      · simp only [e0, if_true]
        exact ⟨Nat.le_refl _, by omega, e⟩
      · simp only [e0, if_false]
        have := ih (i + 1) (t - 1) (by omega)
        exact ⟨by omega, by omega, this.2.2⟩
    · simp only [e] at h ⊢
      simp only [Bool.false_eq_true, if_false] at h ⊢
      have := ih (i + 1) t (by omega)
      exact ⟨by omega, by omega, this.2.2⟩
theorem nth_more {f : Nat → Bool} : ∀ (k m i t : Nat), t < cnt f k i → nth f (k + m) i t = nth f k i t := by
  intro k
  induction k with
  | zero => intro m i t h; exact absurd h (Nat.not_lt_zero t)
  | succ k ih =>
    intro m i t h
    rw [show k + 1 + m = (k + m) + 1 by omega]
    simp only [cnt] at h
    simp only [nth]
    by_cases e : f i = true
    · simp only [e, if_true] at h ⊢
      by_cases e0 : t = 0
      · simp only [e0, if_true]
      · simp only [e0, if_false]
        exact ih m (i + 1) (t - 1) (by omega)
    · simp only [e] at h ⊢
      simp only [Bool.false_eq_true, if_false] at h ⊢
      exact ih m (i + 1) t (by omega)
theorem nth_congr {f f' : Nat → Bool} : ∀ (k i t : Nat), (∀ j, i ≤ j → j < i + k → f j = f' j) → nth f k i t = nth f' k i t := by
  intro k
  induction k with
  | zero => intro i t _; rfl
  | succ k ih =>
    intro i t h
    simp only [nth, h i (by omega) (by omega)]
    rw [ih (i + 1) (t - 1) (fun j a b => h j (by omega) (by omega)), ih (i + 1) t (fun j a b => h j (by omega) (by omega))]
theorem cnt_le {f : Nat → Bool} : ∀ (k i : Nat), cnt f k i ≤ k := by
  intro k
  induction k with
  | zero => intro i; exact Nat.le_refl _
  | succ k ih =>
    intro i
    have := ih (i + 1)
    simp only [cnt]
    split <;> omega
theorem cnt_more {f : Nat → Bool} : ∀ (k m i : Nat), (∀ j, i + k ≤ j → j < i + k + m → f j = false) → cnt f (k + m) i = cnt f k i := by
  intro k
  induction k with
  | zero =>
    intro m
    induction m with
    | zero => intro i _; rfl
    | succ m ihm =>
      intro i h
      show (if f i = true then 1 else 0) + cnt f (0 + m) (i + 1) = 0
      rw [ihm (i + 1) (fun j a b => h j (by omega) (by omega)), h i (by omega) (by omega)]
      rfl
  | succ k ih =>
    intro m i h
    rw [show k + 1 + m = (k + m) + 1 by omega]
    simp only [cnt]
    rw [ih m (i + 1) (fun j a b => h j (by omega) (by omega))]
/-- the memory that nothing holds: words that read none of it are the same by every memory -/
def mNil : mMem := (fun _ => 0, fun _ => 0, fun _ _ => 0, fun _ _ => 0, fun _ _ => 0, 0)
theorem bits_tab : ∀ m, m < 256 → ∀ i, i < 8 → hasb (Int32.ofNat m) i = m.testBit i := by decide +kernel
theorem bc_tab : ∀ m, m < 256 → pJ6_bitCount (Int32.ofNat m) mNil = some (Int32.ofNat (cnt (fun i => m.testBit i) 8 0)) := by decide +kernel
theorem bc_mem {x : Int32} {M : mMem} : pJ6_bitCount x M = pJ6_bitCount x mNil := rfl
theorem cnt_congr {f f' : Nat → Bool} : ∀ (k i : Nat), (∀ j, i ≤ j → j < i + k → f j = f' j) → cnt f k i = cnt f' k i := by
  intro k
  induction k with
  | zero => intro i _; rfl
  | succ k ih =>
    intro i h
    simp only [cnt, h i (by omega) (by omega)]
    rw [ih (i + 1) (fun j a b => h j (by omega) (by omega))]
section
variable {C : Co} {q : Nat}
def ngov (C : Co) (q : Nat) : Nat := cnt (fun i => gv C i q) (sz C) 0
theorem gov_bits (hC : VC C) (hq : q < sz C) : ∃ m, m < 256 ∧ m < 2 ^ sz C ∧ C.2 q 8 = Int32.ofNat m ∧ (∀ i, i < 8 → gv C i q = m.testBit i) ∧ ngov C q = cnt (fun i => m.testBit i) 8 0 := by
  obtain ⟨m, h1, h2⟩ := (hC.2.2.2.2.2.2 q hq).2.2.2.2.2.2.2.2.1
  have hz := hC.1.2
  have h256 : m < 256 := Nat.lt_of_lt_of_le h1 (Nat.pow_le_pow_right (by decide) hz)
  have hb : ∀ i, i < 8 → gv C i q = m.testBit i := fun i hi => by rw [gv, h2, bits_tab m h256 i hi]
  refine ⟨m, h256, h1, h2, hb, ?_⟩
  rw [ngov, cnt_congr (f' := fun i => m.testBit i) (sz C) 0 (fun j _ hj => hb j (by omega))]
  have := cnt_more (f := fun i => m.testBit i) (sz C) (8 - sz C) 0 (fun j hj _ => Nat.testBit_lt_two_pow (Nat.lt_of_lt_of_le h1 (Nat.pow_le_pow_right (by decide) (by omega))))
  rw [show sz C + (8 - sz C) = 8 by omega] at this
  exact this.symm
theorem bc_gov (hC : VC C) (hq : q < sz C) {M : mMem} : pJ6_bitCount (C.2 q 8) M = some (Int32.ofNat (ngov C q)) := by
  obtain ⟨m, h1, -, h2, -, h3⟩ := gov_bits hC hq
  rw [h2, bc_mem, bc_tab m h1, h3]
theorem cnt_z : ∀ m, m < 256 → (cnt (fun i => m.testBit i) 8 0 = 0 ↔ m = 0) := by decide +kernel
theorem ngov_z (hC : VC C) (hq : q < sz C) : ngov C q = 0 ↔ C.2 q 8 = 0 := by
  obtain ⟨m, h1, -, h2, -, h3⟩ := gov_bits hC hq
  rw [h3, cnt_z m h1, h2]
  exact (i_eq (b := 0) (by omega) (by omega)).symm
theorem ngov_8 (hC : VC C) : ngov C q ≤ 8 := Nat.le_trans (cnt_le _ _) hC.1.2
/-- who governs it, of a place -/
def gAt (C : Co) (q t : Nat) : Nat := nth (fun i => gv C i q) (sz C) 0 t
theorem gAt_ok {t : Nat} (h : t < ngov C q) : gAt C q t < sz C ∧ gv C (gAt C q t) q = true := by
  have := nth_ok (f := fun i => gv C i q) (sz C) 0 t h
  exact ⟨by unfold gAt; omega, this.2.2⟩
end
section
variable {g : Nat} {s : tS} {l : tL} {r : Nat → Nat} {b : Nat} {C : Co} {L : Lw} {G : Lg} {q : Nat}
theorem c_govAt' (h : Is s b C) (hq : q < sz C) {place : Nat} (hp : place < 8) : ∀ (k fuel i t : Nat), i + k = sz C → k < fuel → t ≤ place → t < cnt (fun i => gv C i q) k i → p2_governorAt_L5 (mm g s l r) fuel (ob g b) (Int32.ofNat q) (Int32.ofNat place) (Int32.ofNat (place - t)) (Int32.ofNat i) = some (Int32.ofNat (nth (fun i => gv C i q) k i t)) := by
  intro k
  induction k with
  | zero => intro fuel i t h1 h2 _ h3; exact absurd h3 (Nat.not_lt_zero t)
  | succ k ih =>
    intro fuel i t h1 h2 h4 h3
    obtain ⟨n, rfl⟩ : ∃ n, fuel = n + 1 := ⟨fuel - 1, by omega⟩
    have hi : i < sz C := by omega
    rw [p2_governorAt_L5]
    simp only [c_n h, Option.bind_some, zc_yes h.2.1 hi, if_true, c_gov h hi hq, ib_z]
    simp only [cnt] at h3
    simp only [nth]
    rcases Bool.eq_false_or_eq_true (gv C i q) with e | e
    · simp only [e, if_true] at h3
      have ep : (Int32.ofNat (place - t) = Int32.ofNat place) = (t = 0) := by
        rw [i_eq (by omega) (by omega)]
        exact propext (by omega)
      simp only [e, Bool.true_eq_false, if_false, if_true, ep]
      by_cases e0 : t = 0
      · simp only [e0, if_true]
      · simp only [e0, if_false, p2_governorAt_J35, p2_governorAt, i_succ]
        have := ih n (i + 1) (t - 1) (by omega) (by omega) (by omega) (by omega)
        rw [show place - (t - 1) = place - t + 1 by omega] at this
        exact this
    · simp only [e, Bool.false_eq_true, if_false] at h3
      simp only [e, if_true, Bool.false_eq_true, if_false, p2_governorAt_J35, p2_governorAt, i_succ]
      exact ih n (i + 1) t (by omega) (by omega) h4 (by omega)
theorem c_govAt (h : Is s b C) (hq : q < sz C) {t : Nat} (ht : t < ngov C q) : p2_governorAt (ob g b) (Int32.ofNat q) (Int32.ofNat t) (mm g s l r) = some (Int32.ofNat (gAt C q t)) := by
  rw [p2_governorAt, c_gd h]
  have h8 : ngov C q ≤ sz C := cnt_le _ _
  have := h.2.1.2
  have k := c_govAt' (g := g) (l := l) (r := r) h hq (place := t) (by omega) (sz C) gF 0 t (by omega) (gF_gt (by omega)) (Nat.le_refl _) ht
  rw [Nat.sub_self] at k
  exact k
theorem m_oneOf' {x : Int32} {M : mMem} (hM : M = mm g s l r) : ∀ (k fuel i t : Nat), i + k ≤ 8 → k < fuel → t < 8 → t < cnt (hasb x) k i → p12_oneOf_L4 M fuel x (Int32.ofNat t) (Int32.ofNat i) = some (Int32.ofNat (nth (hasb x) k i t)) := by
  intro k
  subst hM
  induction k with
  | zero => intro fuel i t h1 h2 _ h3; exact absurd h3 (Nat.not_lt_zero t)
  | succ k ih =>
    intro fuel i t h1 h2 h4 h3
    obtain ⟨n, rfl⟩ : ∃ n, fuel = n + 1 := ⟨fuel - 1, by omega⟩
    rw [p12_oneOf_L4]
    simp only [m_has, Option.bind_some, ib_z]
    simp only [cnt] at h3
    simp only [nth]
    have c0 : ((0 : Int32) < Int32.ofNat t) = (0 < t) := propext (i_lt (a := 0) (by omega) (by omega))
    rcases Bool.eq_false_or_eq_true (hasb x i) with e | e
    · simp only [e, if_true] at h3
      simp only [e, Bool.true_eq_false, if_false, if_true, c0]
      by_cases e0 : t = 0
      · subst e0
        simp only [Nat.lt_irrefl, if_false, if_true]
      · simp only [e0, if_false, show 0 < t by omega, if_true, p12_oneOf_J30, p12_oneOf_J16, p12_oneOf, m_has, Option.bind_some, e, ib_t, one_z, i_succ, i_sub1 (show 0 < t by omega) (by omega)]
        exact ih n (i + 1) (t - 1) (by omega) (by omega) (by omega) (by omega)
    · simp only [e, Bool.false_eq_true, if_false] at h3
      simp only [e, if_true, Bool.false_eq_true, if_false, p12_oneOf_J30, p12_oneOf_J16, p12_oneOf, m_has, Option.bind_some, ib_f, i_succ, Int32.sub_zero]
      exact ih n (i + 1) t (by omega) (by omega) h4 (by omega)
/-- the one of a place among those who govern it -/
theorem m_oneOf (hC : VC C) (hq : q < sz C) {t : Nat} (ht : t < ngov C q) : p12_oneOf (C.2 q 8) (Int32.ofNat t) (mm g s l r) = some (Int32.ofNat (gAt C q t)) := by
  have hz := hC.1.2
  have h8 : ngov C q ≤ sz C := cnt_le _ _
  have k := m_oneOf' (g := g) (s := s) (l := l) (r := r) (x := C.2 q 8) rfl (sz C) gF 0 t (by omega) (gF_gt (by omega)) (by omega) ht
  rw [p12_oneOf]
  exact k
/-! draws -/
def nextSeed (x : Int32) : Int32 := 1103515245 * x + 12345
def drawC (C : Co) : Co := stG C 8 (nextSeed (C.1 8))
def drV (x : Int32) : Int32 := ushr x 16 &&& 32767
theorem and_mask (y : Int32) : 0 ≤ (y &&& 32767).toInt ∧ (y &&& 32767).toInt ≤ 32767 := by
  have h : (y &&& 32767).toBitVec.toNat ≤ 32767 := by
    rw [Int32.toBitVec_and, BitVec.toNat_and]
    exact Nat.and_le_right
  have e : (y &&& 32767).toInt = (y &&& 32767).toBitVec.toInt := rfl
  rw [e, BitVec.toInt_eq_toNat_of_lt (by omega)]
  omega
theorem drV_eq (x : Int32) : ((x >>> (16 &&& 31)) &&& 32767) = drV x := by
  apply Int32.toBitVec_inj.mp
  apply BitVec.eq_of_getLsbD_eq
  intro i hi
  have e1 : ((x >>> (16 &&& 31)) &&& 32767).toBitVec = (x.toBitVec.sshiftRight 16) &&& 32767#32 := rfl
  have e2 : (drV x).toBitVec = (x.toBitVec >>> 16) &&& 32767#32 := rfl
  rw [e1, e2, BitVec.getLsbD_and, BitVec.getLsbD_and]
  by_cases h : i < 15
  · rw [BitVec.getLsbD_sshiftRight, BitVec.getLsbD_ushiftRight]
    have a : ¬ 32 ≤ i := by omega
    have c : 16 + i < 32 := by omega
    simp [a, c, hi]
  · have : (32767#32).getLsbD i = false := by
      have hk : ∀ i, i < 32 → ¬ i < 15 → (32767#32).getLsbD i = false := by decide
      exact hk i hi h
    rw [this, Bool.and_false, Bool.and_false]
theorem c_draw (h : Is s b C) : p2_draw (ob g b) (mm g s l r) = some (drV (nextSeed (C.1 8)), mm g (up2 s b 9 (nextSeed (C.1 8))) l r) ∧ Is (up2 s b 9 (nextSeed (C.1 8))) b (drawC C) := by
  have h2 : Is (up2 s b 9 (nextSeed (C.1 8))) b (drawC C) := h.setG (k := 9) (by decide) (by decide)
  refine ⟨?_, h2⟩
  rw [p2_draw, c_gd h]
  simp only [c_seed h, Option.bind_some, c_G h]
  have := c_seed (g := g) (l := l) (r := r) h2
  rw [show (1103515245 : Int32) * C.1 8 + 12345 = nextSeed (C.1 8) from rfl, this]
  rfl
theorem m_drawn (h : Ms s C) {n : Int32} (hn : n ≠ 0) : p12_drawn (ob g 287) n (mm g s l r) = some (rem32 (drV (nextSeed (C.1 8))) n, mm g (up2 s 288 8 (nextSeed (C.1 8))) l r) ∧ Ms (up2 s 288 8 (nextSeed (C.1 8))) (drawC C) := by
  have h2 : Ms (up2 s 288 8 (nextSeed (C.1 8))) (drawC C) := h.setG (k := 8) (by decide) (by decide) (by decide)
  refine ⟨?_, h2⟩
  have w8 : ∀ {v : Int32}, astI (mm g s l r) (ob g 288) 8 v = some (mm g (up2 s 288 8 v) l r) := w_ast (k := 8) (by decide)
  rw [p12_drawn, w_gd]
  simp only [w_R1, Option.bind_some, m_8 h, w8]
  rw [show (1103515245 : Int32) * C.1 8 + 12345 = nextSeed (C.1 8) from rfl]
  simp only [m_8 h2, Option.bind_some, drV_eq, remI_ne hn]
  rfl
theorem VC.setG {C : Co} (h : VC C) {k : Nat} {v : Int32} (h0 : k ≠ 0) (h1 : k = 1 → bw 0 12 v) (h3 : k = 3 → bw 0 9999 v) (h4 : k ≠ 4) (h5 : k = 5 → bw 0 99 v) (h6 : k = 6 → bw 0 20 v) : VC (stG C k v) := by
  obtain ⟨a1, a2, a3, a4, a5, a6, a7⟩ := h
  have key : ∀ (j : Nat) (P : Int32 → Prop), P (C.1 j) → (k = j → P v) → P (up1 C.1 k v j) := by
    intro j P p1 p2
    by_cases e : j = k
    · have := p2 e.symm
      rw [e, up1_eq]
      exact this
    · rw [up1_ne e]
      exact p1
  have e4 : up1 C.1 k v 4 = C.1 4 := up1_ne (Ne.symm h4)
  have hs : sz (stG C k v) = sz C := sz_G h0
  refine ⟨zc_G a1 h0, key 4 (bw 2 99) a2 (fun e => absurd e h4), key 5 (bw 0 99) a3 h5, key 6 (bw 0 20) a4 h6, key 3 (bw 0 9999) a5 h3, key 1 (bw 0 12) a6 h1, fun i hi => ?_⟩
  rw [hs] at hi ⊢
  show (0 ≤ (C.2 i 0).toInt ∧ (C.2 i 0).toInt < (up1 C.1 k v 4).toInt) ∧ _
  rw [e4]
  exact a7 i hi
theorem VC.draw (h : VC C) : VC (drawC C) := h.setG (by decide) (by omega) (by omega) (by decide) (by omega) (by omega)
theorem sz_draw : sz (drawC C) = sz C := sz_G (by decide)
def enC (C : Co) : Co := stG C 3 (minI 9999 (C.1 3 + 1))
theorem VC.endC (h : VC C) : VC (enC C) := by
  refine h.setG (by decide) (by omega) (fun _ => ?_) (by decide) (by omega) (by omega)
  obtain ⟨-, -, -, -, ⟨d1, d2⟩, -⟩ := h
  have o1 : (1 : Int32).toInt = 1 := rfl
  have z : (9999 : Int32).toInt = 9999 := rfl
  have e : (C.1 3 + 1).toInt = (C.1 3).toInt + 1 := by rw [i_tadd] <;> omega
  rw [minI]
  by_cases c : C.1 3 + 1 < 9999
  · have := i_ltI.mp c
    rw [if_pos c]
    constructor <;> omega
  · rw [if_neg c]
    constructor <;> omega
theorem c_endDay (h : Is s b C) : p2_endDay (ob g b) (mm g s l r) = some (mm g (up2 s b 8 (minI 9999 (C.1 3 + 1))) l r) ∧ Is (up2 s b 8 (minI 9999 (C.1 3 + 1))) b (enC C) := by
  refine ⟨?_, h.setG (k := 8) (by decide) (by decide)⟩
  rw [p2_endDay, c_gd h]
  simp only [c_day h, Option.bind_some, c_G h]
theorem m_endDay (h : Ms s C) : p12_dayEnds (ob g 287) (mm g s l r) = some (mm g (up2 s 288 3 (minI 9999 (C.1 3 + 1))) l r) ∧ Ms (up2 s 288 3 (minI 9999 (C.1 3 + 1))) (enC C) := by
  refine ⟨?_, h.setG (k := 3) (by decide) (by decide) (by decide)⟩
  have w3 : ∀ {v : Int32}, astI (mm g s l r) (ob g 288) 3 v = some (mm g (up2 s 288 3 v) l r) := w_ast (k := 3) (by decide)
  rw [p12_dayEnds, w_gd]
  simp only [w_R1, Option.bind_some, m_3 h, w3]
end
