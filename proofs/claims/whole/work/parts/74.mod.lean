/-! the reference's world -/
theorem k287 : lK 287 = 12 := by decide +kernel
theorem k288 : lK 288 = 20 := by decide +kernel
theorem n288 : lNn 288 = 2143 := by decide +kernel
section
variable {g : Nat} {s : tS} {l : tL} {r : Nat → Nat}
theorem w_gd {β : Type} {T : Option β} : gd (mm g s l r) (ob g 287) 12 T = T := mm_gd k287
theorem w_getI {k : Nat} : getI (mm g s l r) (ob g 287) 12 k = some (s 287 k) := mm_getI k287
theorem w_putI {k : Nat} {v : Int32} : putI (mm g s l r) (ob g 287) 12 k v = some (mm g (up2 s 287 k v) l r) := mm_putI k287
theorem w_R1 : getR (mm g s l r) (ob g 287) 12 1 = some (ob g 288) := mm_getR k287 (by decide +kernel) (by decide)
theorem w_ald {k : Nat} (hk : k < 2143) : aldI (mm g s l r) (ob g 288) 20 (Int32.ofNat k) = some (s 288 k) := mm_aldI k288 n288 hk (by decide)
theorem w_ast {k : Nat} {v : Int32} (hk : k < 2143) : astI (mm g s l r) (ob g 288) (Int32.ofNat k) v = some (mm g (up2 s 288 k v) l r) := mm_astI k288 n288 hk (by decide)
theorem w_at {i j : Nat} : (9 : Int32) + 17 * Int32.ofNat i + Int32.ofNat j = Int32.ofNat (9 + 17 * i + j) := by
  rw [← i_add, ← i_add, ← i_mul]
  rfl
end
/-! cores: what a family is, but its log -/
abbrev Co : Type := (Nat → Int32) × (Nat → Nat → Int32)
def sz (C : Co) : Nat := i2n (C.1 0)
def Zc (C : Co) : Prop := C.1 0 = Int32.ofNat (sz C) ∧ sz C ≤ 8
def gIx (k : Nat) : Nat := if k = 4 then 0 else if k = 10 then 1 else if k = 8 then 3 else if k = 5 then 4 else if k = 6 then 5 else if k = 7 then 6 else 8
/-- the family's object b is this -/
def Is (s : tS) (b : Nat) (C : Co) : Prop := b ∈ fBL ∧ Zc C ∧ (∀ k, 4 ≤ k → k ≤ 10 → s b k = C.1 (gIx k)) ∧ (∀ i j, i < sz C → j < 9 → s (b + 6 + i) j = C.2 i j) ∧ (∀ i j, i < sz C → j < 8 → s (b + 3) (8 * i + j) = C.2 i (9 + j)) ∧ (∀ i j, sz C ≤ i → i < 8 → j < 8 → s (b + 3) (8 * i + j) = 0) ∧ (∀ j, j < 9 → s (b + 2) j = nob j)
/-- the row w is this -/
def Mw (w : Nat → Int32) (C : Co) : Prop := Zc C ∧ (∀ k, k < 9 → k ≠ 2 → k ≠ 7 → w k = C.1 k) ∧ ∀ i j, i < sz C → j < 17 → w (9 + 17 * i + j) = C.2 i j
abbrev Ms (s : tS) (C : Co) : Prop := Mw (s 288) C
def stP (C : Co) (i k : Nat) (v : Int32) : Co := (C.1, up2 C.2 i k v)
def stG (C : Co) (k : Nat) (v : Int32) : Co := (up1 C.1 k v, C.2)
theorem sz_P {C : Co} {i k : Nat} {v : Int32} : sz (stP C i k v) = sz C := rfl
theorem sz_G {C : Co} {k : Nat} {v : Int32} (h : k ≠ 0) : sz (stG C k v) = sz C := by
  show i2n (if 0 = k then v else C.1 0) = _
  rw [if_neg (Ne.symm h)]
  rfl
theorem zc_P {C : Co} {i k : Nat} {v : Int32} (h : Zc C) : Zc (stP C i k v) := h
theorem zc_G {C : Co} {k : Nat} {v : Int32} (h : Zc C) (hk : k ≠ 0) : Zc (stG C k v) := by
  refine ⟨?_, ?_⟩
  · rw [sz_G hk]
    show (if 0 = k then v else C.1 0) = _
    rw [if_neg (Ne.symm hk)]
    exact h.1
  · rw [sz_G hk]
    exact h.2
theorem up2_eq {α : Type} {f : Nat → Nat → α} {a k : Nat} {v : α} : up2 f a k v a k = v := if_pos ⟨rfl, rfl⟩
theorem up2_ne {α : Type} {f : Nat → Nat → α} {a k b j : Nat} {v : α} (h : ¬ (b = a ∧ j = k)) : up2 f a k v b j = f b j := if_neg h
theorem up1_eq {α : Type} {f : Nat → α} {a : Nat} {v : α} : up1 f a v a = v := if_pos rfl
theorem up1_ne {α : Type} {f : Nat → α} {a b : Nat} {v : α} (h : b ≠ a) : up1 f a v b = f b := if_neg h
theorem P_1 {C : Co} {i k : Nat} {v : Int32} : (stP C i k v).1 = C.1 := rfl
theorem G_2 {C : Co} {k : Nat} {v : Int32} : (stG C k v).2 = C.2 := rfl
theorem P_2 {C : Co} {i k a b : Nat} {v : Int32} : (stP C i k v).2 a b = if a = i ∧ b = k then v else C.2 a b := rfl
theorem G_1 {C : Co} {k a : Nat} {v : Int32} : (stG C k v).1 a = if a = k then v else C.1 a := rfl
/-- what lies outside stays -/
def Fr (P : Nat → Prop) (s s' : tS) : Prop := ∀ o, ¬ P o → s' o = s o
theorem Fr.refl {P : Nat → Prop} {s : tS} : Fr P s s := fun _ _ => rfl
theorem Fr.trans {P : Nat → Prop} {a b c : tS} (h : Fr P a b) (k : Fr P b c) : Fr P a c := fun o ho => (k o ho).trans (h o ho)
theorem Fr.up {P : Nat → Prop} {s : tS} {o k : Nat} {v : Int32} (h : P o) : Fr P s (up2 s o k v) := by
  intro q hq
  funext j
  exact up2_ne (fun hc => hq (hc.1 ▸ h))
theorem Fr.mono {P Q : Nat → Prop} {a b : tS} (h : Fr P a b) (k : ∀ o, P o → Q o) : Fr Q a b := fun o ho => h o (fun hp => ho (k o hp))
def inF (b o : Nat) : Prop := (b ≤ o ∧ o < b + 14) ∨ o = 37 ∨ o = 38
def inW (o : Nat) : Prop := o = 37 ∨ o = 38
theorem Is.fr {s s' : tS} {b : Nat} {C : Co} {P : Nat → Prop} (h : Is s b C) (hf : Fr P s s') (hP : ∀ o, P o → o < b ∨ b + 14 ≤ o) : Is s' b C := by
  have e : ∀ k, k < 14 → s' (b + k) = s (b + k) := fun k hk => hf _ (fun hp => by have := hP _ hp; omega)
  obtain ⟨h1, h2, h3, h4, h5, h6, h7⟩ := h
  refine ⟨h1, h2, ?_, ?_, ?_, ?_, ?_⟩
  · intro k a c
    rw [show s' b = s b from e 0 (by omega)]
    exact h3 k a c
  · intro i j a c
    have := h2.2
    rw [show b + 6 + i = b + (6 + i) by omega, e (6 + i) (by omega), ← Nat.add_assoc]
    exact h4 i j a c
  · intro i j a c
    rw [e 3 (by omega)]
    exact h5 i j a c
  · intro i j a c d
    rw [e 3 (by omega)]
    exact h6 i j a c d
  · intro j a
    rw [e 2 (by omega)]
    exact h7 j a
theorem fb_lt {b : Nat} (h : b ∈ fBL) : b + 14 ≤ 287 := (fB_one h).2.2.2.2.2.2.2.2.2.2.2.2.2.2.2.1
theorem fb_37 : ∀ b ∈ fBL, b + 14 ≤ 37 ∨ 39 ≤ b := by decide +kernel
theorem Is.frW {s s' : tS} {b : Nat} {C : Co} (h : Is s b C) (hf : Fr inW s s') : Is s' b C := h.fr hf (fun o ho => by
  have := fb_37 b h.1
  unfold inW at ho
  omega)
theorem Ms.fr {s s' : tS} {C : Co} {P : Nat → Prop} (h : Ms s C) (hf : Fr P s s') (hP : ∀ o, P o → o ≠ 288) : Ms s' C := by
  show Mw (s' 288) C
  rw [hf 288 (fun hp => hP _ hp rfl)]
  exact h
/-! bits as truth -/
def ib (b : Bool) : Int32 := if b = true then 1 else 0
theorem one_z : ((1 : Int32) = 0) = False := eq_false (by decide)
theorem ib_t : ib true = 1 := rfl
theorem ib_f : ib false = 0 := rfl
theorem ib_z {b : Bool} : (ib b = 0) = (b = false) := by cases b <;> decide
theorem ib_1 {b : Bool} : (ib b = 1) = (b = true) := by cases b <;> decide
theorem bZ_ib {b : Bool} : bZ (ib b) = some (ib b) := by cases b <;> decide
theorem bZ_0 : bZ 0 = some 0 := by decide
theorem bZ_1 : bZ 1 = some 1 := by decide
theorem ib_pos {b : Bool} : ((0 : Int32) < ib b) = (b = true) := by cases b <;> decide
def bt (i : Nat) : Int32 := (1 : Int32) <<< (Int32.ofNat i &&& 31)
def hasb (x : Int32) (i : Nat) : Bool := decide (((x >>> (Int32.ofNat i &&& 31)) &&& 1) = 1)
def inR (C : Co) (x : Int32) : Bool := decide (0 ≤ x ∧ x < C.1 0)
def gv (C : Co) (i j : Nat) : Bool := hasb (C.2 j 8) i
theorem ib_dec {p : Prop} {h : Decidable p} : ib (decide p) = if p then 1 else 0 := by
  by_cases k : p <;> simp [ib, k]
theorem i_toInt {k : Nat} (h : k < 2147483648) : (Int32.ofNat k).toInt = (k : Int) := Int32.toInt_ofNat_of_lt h
theorem i_ext {x y : Int32} (h : x.toInt = y.toInt) : x = y := Int32.toInt_inj.mp h
theorem i_bm {v : Int} (h1 : -2147483648 ≤ v) (h2 : v < 2147483648) : v.bmod 4294967296 = v := by
  rw [Int.bmod_def]
  split <;> omega
theorem i_tadd {x y : Int32} (h1 : -2147483648 ≤ x.toInt + y.toInt) (h2 : x.toInt + y.toInt < 2147483648) : (x + y).toInt = x.toInt + y.toInt := by
  rw [Int32.toInt_add]
  exact i_bm h1 h2
theorem i_tsub {x y : Int32} (h1 : -2147483648 ≤ x.toInt - y.toInt) (h2 : x.toInt - y.toInt < 2147483648) : (x - y).toInt = x.toInt - y.toInt := by
  rw [Int32.toInt_sub]
  exact i_bm h1 h2
theorem i_tmul {x y : Int32} (h1 : -2147483648 ≤ x.toInt * y.toInt) (h2 : x.toInt * y.toInt < 2147483648) : (x * y).toInt = x.toInt * y.toInt := by
  rw [Int32.toInt_mul]
  exact i_bm h1 h2
theorem i_tneg {x : Int32} (h1 : -2147483648 < x.toInt) : (-x).toInt = -x.toInt := by
  rw [Int32.toInt_neg]
  have := Int32.toInt_lt x
  exact i_bm (by omega) (by omega)
theorem i_ltI {x y : Int32} : x < y ↔ x.toInt < y.toInt := Int32.lt_iff_toInt_lt
theorem i_leI {x y : Int32} : x ≤ y ↔ x.toInt ≤ y.toInt := Int32.le_iff_toInt_le
/-- a number between bounds -/
def bw (a b : Int) (x : Int32) : Prop := a ≤ x.toInt ∧ x.toInt ≤ b
theorem bw_nat {a : Int} {n : Nat} {x : Int32} (h : bw a n x) (ha : 0 ≤ a) (hn : n < 2147483648) : ∃ k, k ≤ n ∧ a ≤ (k : Int) ∧ x = Int32.ofNat k := by
  obtain ⟨h1, h2⟩ := h
  refine ⟨x.toInt.toNat, by omega, by omega, ?_⟩
  apply i_ext
  rw [i_toInt (by omega)]
  omega
section
variable {C : Co}
theorem zc_n (h : Zc C) : C.1 0 = Int32.ofNat (sz C) := h.1
theorem zc_lt (h : Zc C) {i : Nat} (hi : i < 2147483648) : Int32.ofNat i < C.1 0 ↔ i < sz C := by
  rw [h.1]
  exact i_lt hi (by have := h.2; omega)
theorem zc_yes (h : Zc C) {i : Nat} (hi : i < sz C) : Int32.ofNat i < C.1 0 := (zc_lt h (by have := h.2; omega)).mpr hi
theorem zc_no (h : Zc C) : ¬ Int32.ofNat (sz C) < C.1 0 := by
  rw [← h.1]
  exact Int32.lt_irrefl
theorem zc_8 (h : Zc C) {i : Nat} (hi : i < sz C) : i < 8 := Nat.lt_of_lt_of_le hi h.2
theorem inR_i (h : Zc C) {x : Int32} (hx : inR C x = true) : ∃ i, i < sz C ∧ x = Int32.ofNat i := by
  have h2 := of_decide_eq_true hx
  rw [h.1] at h2
  exact i_small (by have := h.2; omega) h2.1 h2.2
theorem inR_of (h : Zc C) {i : Nat} (hi : i < sz C) : inR C (Int32.ofNat i) = true := decide_eq_true ⟨i0_le (by have := h.2; omega), zc_yes h hi⟩
end
section
variable {g : Nat} {s : tS} {l : tL} {r : Nat → Nat} {b : Nat} {C : Co}
theorem c_gd {β : Type} {T : Option β} (h : Is s b C) : gd (mm g s l r) (ob g b) 3 T = T := f_gd h.1
theorem c_z (h : Is s b C) : Zc C := h.2.1
theorem c_n (h : Is s b C) : getI (mm g s l r) (ob g b) 3 4 = some (C.1 0) := by rw [f_getI h.1, h.2.2.1 4 (by decide) (by decide)]; rfl
theorem c_round (h : Is s b C) : getI (mm g s l r) (ob g b) 3 5 = some (C.1 4) := by rw [f_getI h.1, h.2.2.1 5 (by decide) (by decide)]; rfl
theorem c_ripe (h : Is s b C) : getI (mm g s l r) (ob g b) 3 6 = some (C.1 5) := by rw [f_getI h.1, h.2.2.1 6 (by decide) (by decide)]; rfl
theorem c_step (h : Is s b C) : getI (mm g s l r) (ob g b) 3 7 = some (C.1 6) := by rw [f_getI h.1, h.2.2.1 7 (by decide) (by decide)]; rfl
theorem c_day (h : Is s b C) : getI (mm g s l r) (ob g b) 3 8 = some (C.1 3) := by rw [f_getI h.1, h.2.2.1 8 (by decide) (by decide)]; rfl
theorem c_seed (h : Is s b C) : getI (mm g s l r) (ob g b) 3 9 = some (C.1 8) := by rw [f_getI h.1, h.2.2.1 9 (by decide) (by decide)]; rfl
theorem c_texts (h : Is s b C) : getI (mm g s l r) (ob g b) 3 10 = some (C.1 1) := by rw [f_getI h.1, h.2.2.1 10 (by decide) (by decide)]; rfl
theorem c_at (h : Is s b C) {i : Nat} (hi : i < sz C) : p2_at (ob g b) (Int32.ofNat i) (mm g s l r) = some (ob g (b + 6 + i)) := f_at h.1 (zc_8 h.2.1 hi)
theorem c_p (h : Is s b C) {i j : Nat} (hi : i < sz C) (hj : j < 9) : getI (mm g s l r) (ob g (b + 6 + i)) 9 j = some (C.2 i j) := by
  rw [f_pI h.1 (zc_8 h.2.1 hi), h.2.2.2.1 i j hi hj]
theorem c_has (h : Is s b C) {x : Int32} : p2_has (ob g b) x (mm g s l r) = some (ib (inR C x)) := by
  rw [p2_has, c_gd h]
  by_cases h1 : x < 0
  · have e : inR C x = false := decide_eq_false (fun hc => Int32.not_lt.mpr hc.1 h1)
    simp only [h1, if_true, p2_has_J17, p2_has_J16, p2_has, bZ_0, Option.bind_some, e, ib_f]
  · by_cases h2 : x < C.1 0
    · have e : inR C x = true := decide_eq_true ⟨Int32.not_lt.mp h1, h2⟩
      simp only [h1, if_false, c_n h, Option.bind_some, h2, if_true, p2_has_J17, p2_has_J16, p2_has, bZ_1, e, ib_t]
    · have e : inR C x = false := decide_eq_false (fun hc => h2 hc.2)
      simp only [h1, if_false, c_n h, Option.bind_some, h2, p2_has_J17, p2_has_J16, p2_has, bZ_0, e, ib_f]
theorem c_gov (h : Is s b C) {i j : Nat} (hi : i < sz C) (hj : j < sz C) : p2_governs (ob g b) (Int32.ofNat i) (Int32.ofNat j) (mm g s l r) = some (ib (gv C i j)) := by
  rw [p2_governs, c_gd h]
  simp only [c_has h, inR_of h.2.1 hi, ib_t, Option.bind_some, one_z, if_false, c_at h hj, c_p h hj (show 8 < 9 by decide), gv, hasb]
  by_cases e : ((C.2 j 8 >>> (Int32.ofNat i &&& 31)) &&& 1) = 1
  · simp only [e, if_true, p2_governs_J29, p2_governs_J28, p2_governs, bZ_1, Option.bind_some, decide_true, ib_t]
  · simp only [e, if_false, p2_governs_J29, p2_governs_J28, p2_governs, bZ_0, Option.bind_some, decide_false, ib_f]
theorem m_n (h : Ms s C) : aldI (mm g s l r) (ob g 288) 20 0 = some (C.1 0) := by
  have := w_ald (g := g) (s := s) (l := l) (r := r) (k := 0) (by decide)
  rw [h.2.1 0 (by decide) (by decide) (by decide)] at this
  exact this
theorem m_1 (h : Ms s C) : aldI (mm g s l r) (ob g 288) 20 1 = some (C.1 1) := by
  have := w_ald (g := g) (s := s) (l := l) (r := r) (k := 1) (by decide)
  rw [h.2.1 1 (by decide) (by decide) (by decide)] at this
  exact this
theorem m_3 (h : Ms s C) : aldI (mm g s l r) (ob g 288) 20 3 = some (C.1 3) := by
  have := w_ald (g := g) (s := s) (l := l) (r := r) (k := 3) (by decide)
  rw [h.2.1 3 (by decide) (by decide) (by decide)] at this
  exact this
theorem m_4 (h : Ms s C) : aldI (mm g s l r) (ob g 288) 20 4 = some (C.1 4) := by
  have := w_ald (g := g) (s := s) (l := l) (r := r) (k := 4) (by decide)
  rw [h.2.1 4 (by decide) (by decide) (by decide)] at this
  exact this
theorem m_5 (h : Ms s C) : aldI (mm g s l r) (ob g 288) 20 5 = some (C.1 5) := by
  have := w_ald (g := g) (s := s) (l := l) (r := r) (k := 5) (by decide)
  rw [h.2.1 5 (by decide) (by decide) (by decide)] at this
  exact this
theorem m_6 (h : Ms s C) : aldI (mm g s l r) (ob g 288) 20 6 = some (C.1 6) := by
  have := w_ald (g := g) (s := s) (l := l) (r := r) (k := 6) (by decide)
  rw [h.2.1 6 (by decide) (by decide) (by decide)] at this
  exact this
theorem m_8 (h : Ms s C) : aldI (mm g s l r) (ob g 288) 20 8 = some (C.1 8) := by
  have := w_ald (g := g) (s := s) (l := l) (r := r) (k := 8) (by decide)
  rw [h.2.1 8 (by decide) (by decide) (by decide)] at this
  exact this
theorem m_people (h : Ms s C) : p12_people (ob g 287) (mm g s l r) = some (C.1 0) := by
  simp only [p12_people, w_gd, w_R1, Option.bind_some, m_n h]
theorem m_of (h : Ms s C) {i : Nat} (hi : i < sz C) {j : Nat} (hj : j < 17) : p12_of (ob g 287) (Int32.ofNat i) (Int32.ofNat j) (mm g s l r) = some (C.2 i j) := by
  have := zc_8 h.1 hi
  simp only [p12_of, w_gd, w_R1, p12_at, Option.bind_some, w_at, w_ald (k := 9 + 17 * i + j) (by omega), h.2.2 i j hi hj]
theorem m_of0 (h : Ms s C) {i : Nat} (hi : i < sz C) : p12_of (ob g 287) (Int32.ofNat i) 0 (mm g s l r) = some (C.2 i 0) := m_of h hi (j := 0) (by decide)
theorem m_of1 (h : Ms s C) {i : Nat} (hi : i < sz C) : p12_of (ob g 287) (Int32.ofNat i) 1 (mm g s l r) = some (C.2 i 1) := m_of h hi (j := 1) (by decide)
theorem m_of2 (h : Ms s C) {i : Nat} (hi : i < sz C) : p12_of (ob g 287) (Int32.ofNat i) 2 (mm g s l r) = some (C.2 i 2) := m_of h hi (j := 2) (by decide)
theorem m_of3 (h : Ms s C) {i : Nat} (hi : i < sz C) : p12_of (ob g 287) (Int32.ofNat i) 3 (mm g s l r) = some (C.2 i 3) := m_of h hi (j := 3) (by decide)
theorem m_of4 (h : Ms s C) {i : Nat} (hi : i < sz C) : p12_of (ob g 287) (Int32.ofNat i) 4 (mm g s l r) = some (C.2 i 4) := m_of h hi (j := 4) (by decide)
theorem m_of5 (h : Ms s C) {i : Nat} (hi : i < sz C) : p12_of (ob g 287) (Int32.ofNat i) 5 (mm g s l r) = some (C.2 i 5) := m_of h hi (j := 5) (by decide)
theorem m_of6 (h : Ms s C) {i : Nat} (hi : i < sz C) : p12_of (ob g 287) (Int32.ofNat i) 6 (mm g s l r) = some (C.2 i 6) := m_of h hi (j := 6) (by decide)
theorem m_of7 (h : Ms s C) {i : Nat} (hi : i < sz C) : p12_of (ob g 287) (Int32.ofNat i) 7 (mm g s l r) = some (C.2 i 7) := m_of h hi (j := 7) (by decide)
theorem m_of8 (h : Ms s C) {i : Nat} (hi : i < sz C) : p12_of (ob g 287) (Int32.ofNat i) 8 (mm g s l r) = some (C.2 i 8) := m_of h hi (j := 8) (by decide)
theorem m_ofL (h : Ms s C) {i j : Nat} (hi : i < sz C) (hj : j < 8) : p12_of (ob g 287) (Int32.ofNat i) (9 + Int32.ofNat j) (mm g s l r) = some (C.2 i (9 + j)) := by
  have e : (9 : Int32) + Int32.ofNat j = Int32.ofNat (9 + j) := by rw [← i_add]; rfl
  rw [e]
  exact m_of h hi (by omega)
theorem m_has {x : Int32} {i : Nat} : p12_has x (Int32.ofNat i) (mm g s l r) = some (ib (hasb x i)) := by
  unfold p12_has hasb
  by_cases e : ((x >>> (Int32.ofNat i &&& 31)) &&& 1) = 1
  · simp only [e, if_true, p12_has_J14, p12_has, bZ_1, Option.bind_some, decide_true, ib_t]
  · simp only [e, if_false, p12_has_J14, p12_has, bZ_0, Option.bind_some, decide_false, ib_f]
theorem m_gov (h : Ms s C) {i j : Nat} (hj : j < sz C) : p12_governs (ob g 287) (Int32.ofNat i) (Int32.ofNat j) (mm g s l r) = some (ib (gv C i j)) := by
  simp only [p12_governs, w_gd, m_of8 h hj, Option.bind_some, m_has, bZ_ib, gv]
theorem m_parent (h : Ms s C) {x : Int32} {j : Nat} (hj : j < sz C) : p12_isParent (ob g 287) x (Int32.ofNat j) (mm g s l r) = some (ib (decide (C.2 j 3 = x))) := by
  simp only [p12_isParent, w_gd, m_of3 h hj, Option.bind_some, ib_dec]
  by_cases e : C.2 j 3 = x <;> simp only [e, if_true, if_false, p12_isParent_J15, p12_isParent, bZ_0, bZ_1, Option.bind_some]
theorem m_boy (h : Ms s C) {j : Nat} (hj : j < sz C) : p12_isBoy (ob g 287) (Int32.ofNat j) (mm g s l r) = some (ib (decide (C.2 j 2 = 0))) := by
  simp only [p12_isBoy, w_gd, m_of2 h hj, Option.bind_some, ib_dec]
  by_cases e : C.2 j 2 = 0 <;> simp only [e, if_true, if_false, p12_isBoy_J14, p12_isBoy, bZ_0, bZ_1, Option.bind_some]
theorem m_single (h : Ms s C) {j : Nat} (hj : j < sz C) : p12_isSingle (ob g 287) (Int32.ofNat j) (mm g s l r) = some (ib (decide (C.2 j 4 = -1))) := by
  simp only [p12_isSingle, w_gd, m_of4 h hj, Option.bind_some, ib_dec]
  by_cases e : C.2 j 4 = -1 <;> simp only [e, if_true, if_false, p12_isSingle_J15, p12_isSingle, bZ_0, bZ_1, Option.bind_some]
def close (C : Co) (i j : Nat) : Bool := decide (C.2 j 3 = Int32.ofNat i ∨ C.2 i 3 = Int32.ofNat j)
theorem close_comm {i j : Nat} : close C i j = close C j i := by
  unfold close
  congr 1
  exact propext Or.comm
theorem m_close (h : Ms s C) {i j : Nat} (hi : i < sz C) (hj : j < sz C) : p12_areClose (ob g 287) (Int32.ofNat i) (Int32.ofNat j) (mm g s l r) = some (ib (close C i j)) := by
  simp only [p12_areClose, w_gd, m_parent h hj, m_parent h hi, Option.bind_some, ib_z, close]
  by_cases e : C.2 j 3 = Int32.ofNat i
  · simp [e, p12_areClose_J23, p12_areClose_J18, p12_areClose, bZ_1, ib_t]
  · by_cases e2 : C.2 i 3 = Int32.ofNat j
    · simp [e, e2, p12_areClose_J23, p12_areClose_J18, p12_areClose, bZ_1, ib_t]
    · simp [e, e2, p12_areClose_J23, p12_areClose_J18, p12_areClose, bZ_0, ib_f]
theorem c_close (h : Is s b C) {i j : Nat} (hi : i < sz C) (hj : j < sz C) : p2_areParentAndChild (ob g b) (Int32.ofNat i) (Int32.ofNat j) (mm g s l r) = some (ib (close C i j)) := by
  simp only [p2_areParentAndChild, c_gd h, c_at h hi, c_at h hj, Option.bind_some, c_p h hi (show 3 < 9 by decide), c_p h hj (show 3 < 9 by decide), close]
  by_cases e : C.2 i 3 = Int32.ofNat j
  · simp [e, p2_areParentAndChild_J29, p2_areParentAndChild_J24, p2_areParentAndChild, bZ_1, ib_t]
  · by_cases e2 : C.2 j 3 = Int32.ofNat i
    · simp [e, e2, p2_areParentAndChild_J29, p2_areParentAndChild_J24, p2_areParentAndChild, bZ_1, ib_t]
    · simp [e, e2, p2_areParentAndChild_J29, p2_areParentAndChild_J24, p2_areParentAndChild, bZ_0, ib_f]
def may (C : Co) (i j : Nat) : Bool := decide (C.2 i 2 ≠ C.2 j 2 ∧ C.2 i 4 = -1 ∧ C.2 j 4 = -1 ∧ close C i j = false)
theorem m_may (h : Ms s C) {i j : Nat} (hi : i < sz C) (hj : j < sz C) : p12_mayWed (ob g 287) (Int32.ofNat i) (Int32.ofNat j) (mm g s l r) = some (ib (may C i j)) := by
  simp only [p12_mayWed, w_gd, m_of2 h hi, m_of2 h hj, m_single h hi, m_single h hj, m_close h hi hj, Option.bind_some, ib_z, may]
  by_cases e : C.2 i 2 = C.2 j 2
  · simp [e, p12_mayWed_J45, p12_mayWed_J44, p12_mayWed, bZ_0, ib_f]
  · by_cases e2 : C.2 i 4 = -1
    · by_cases e3 : C.2 j 4 = -1
      · cases e4 : close C i j <;> simp [e, e2, e3, p12_mayWed_J45, p12_mayWed_J44, p12_mayWed, bZ_0, bZ_1, ib_f, ib_t]
      · simp [e, e2, e3, p12_mayWed_J45, p12_mayWed_J44, p12_mayWed, bZ_0, ib_f]
    · simp [e, e2, p12_mayWed_J45, p12_mayWed_J44, p12_mayWed, bZ_0, ib_f]
theorem c_may (h : Is s b C) {i j : Nat} (hi : i < sz C) (hj : j < sz C) : p2_mayWed (ob g b) (Int32.ofNat i) (Int32.ofNat j) (mm g s l r) = some (ib (may C i j)) := by
  simp only [p2_mayWed, c_gd h, c_at h hi, c_at h hj, Option.bind_some, c_p h hi (show 2 < 9 by decide), c_p h hj (show 2 < 9 by decide), c_p h hi (show 4 < 9 by decide), c_p h hj (show 4 < 9 by decide), c_close h hi hj, ib_z, may]
  by_cases e : C.2 i 2 = C.2 j 2
  · simp [e, p2_mayWed_J57, p2_mayWed_J56, p2_mayWed, bZ_0, ib_f]
  · by_cases e2 : C.2 i 4 = -1
    · by_cases e3 : C.2 j 4 = -1
      · cases e4 : close C i j <;> simp [e, e2, e3, p2_mayWed_J57, p2_mayWed_J56, p2_mayWed, bZ_0, bZ_1, ib_f, ib_t]
      · simp [e, e2, e3, p2_mayWed_J57, p2_mayWed_J56, p2_mayWed, bZ_0, ib_f]
    · simp [e, e2, p2_mayWed_J57, p2_mayWed_J56, p2_mayWed, bZ_0, ib_f]
def gapF (C : Co) (i j : Nat) : Int32 := minI (absI (C.2 i 0 - C.2 j 0)) (C.1 4 - absI (C.2 i 0 - C.2 j 0))
theorem m_gap (h : Ms s C) {i j : Nat} (hi : i < sz C) (hj : j < sz C) : p12_gapOf (ob g 287) (Int32.ofNat i) (Int32.ofNat j) (mm g s l r) = some (gapF C i j) := by
  simp only [p12_gapOf, w_gd, m_of0 h hi, m_of0 h hj, w_R1, m_4 h, Option.bind_some, gapF]
theorem c_gap (h : Is s b C) {i j : Nat} (hi : i < sz C) (hj : j < sz C) : p2_gapOf (ob g b) (Int32.ofNat i) (Int32.ofNat j) (mm g s l r) = some (gapF C i j) := by
  simp only [p2_gapOf, c_gd h, c_at h hi, c_at h hj, Option.bind_some, c_p h hi (show 0 < 9 by decide), c_p h hj (show 0 < 9 by decide), p2_gapOf_J28, p2_gapOf, c_round h, gapF, absI]
  by_cases e : C.2 i 0 - C.2 j 0 < 0
  · have e2 : ¬ 0 ≤ C.2 i 0 - C.2 j 0 := Int32.not_le.mpr e
    simp only [e, if_true, e2, if_false, Int32.zero_sub]
  · have e2 : 0 ≤ C.2 i 0 - C.2 j 0 := Int32.not_lt.mp e
    simp only [e, if_false, e2, if_true]
theorem m_nobody (h : Ms s C) {x : Int32} : p12_nobody (ob g 287) x (mm g s l r) = some (ib (!inR C x)) := by
  have hz := h.1
  have hn : (C.1 0).toInt = (sz C : Int) := by rw [hz.1, i_toInt (by have := hz.2; omega)]
  have hn1 : (C.1 0 - 1).toInt = (sz C : Int) - 1 := by
    rw [i_tsub] <;> rw [hn] <;> simp <;> have := hz.2 <;> omega
  simp only [p12_nobody, w_gd, m_people h, Option.bind_some, p12_in]
  by_cases h1 : x < 0
  · have e : inR C x = false := decide_eq_false (fun hc => Int32.not_lt.mpr hc.1 h1)
    simp [h1, p12_in_J15, p12_in_J14, p12_in, p12_nobody_J19, p12_nobody, bZ_0, bZ_1, e, ib_t]
  · by_cases h2 : C.1 0 - 1 < x
    · have e : inR C x = false := decide_eq_false (fun hc => by
        have a := i_ltI.mp h2
        have c := i_ltI.mp hc.2
        omega)
      simp [h1, h2, p12_in_J15, p12_in_J14, p12_in, p12_nobody_J19, p12_nobody, bZ_0, bZ_1, e, ib_t]
    · have e : inR C x = true := decide_eq_true ⟨Int32.not_lt.mp h1, by
        have a : ¬ (C.1 0 - 1).toInt < x.toInt := fun hc => h2 (i_ltI.mpr hc)
        apply i_ltI.mpr
        omega⟩
      simp [h1, h2, p12_in_J15, p12_in_J14, p12_in, p12_nobody_J19, p12_nobody, bZ_0, bZ_1, e, ib_f]
end
