/-! loops, families in the memory -/
def iter {α : Type} (f : Nat → α → α) : Nat → α → α
  | 0, a => a
  | n + 1, a => f n (iter f n a)
theorem iter_congr {α : Type} {f f' : Nat → α → α} {n : Nat} {a : α} (h : ∀ i x, i < n → f i x = f' i x) : iter f n a = iter f' n a := by
  induction n with
  | zero => rfl
  | succ n ih =>
    show f n (iter f n a) = f' n (iter f' n a)
    rw [ih (fun i x hi => h i x (by omega)), h n _ (by omega)]
theorem it_up' {α β : Type} (L : Nat → α → Int32 → β) (N : Nat) (f : Nat → α → α) (hs : ∀ (n i : Nat) (a : α), i < N → L (n + 1) a (Int32.ofNat i) = L n (f i a) (Int32.ofNat (i + 1))) : ∀ (k fuel : Nat) (a : α), k ≤ N → k < fuel → L fuel a 0 = L (fuel - k) (iter f k a) (Int32.ofNat k) := by
  intro k
  induction k with
  | zero => intro fuel a _ _; rfl
  | succ k ih =>
    intro fuel a h1 h2
    rw [ih fuel a (by omega) (by omega)]
    obtain ⟨n, hn⟩ : ∃ n, fuel - k = n + 1 := ⟨fuel - k - 1, by omega⟩
    rw [hn, hs n k _ (by omega)]
    have e : fuel - (k + 1) = n := by omega
    rw [e]
    rfl
/-- a loop up to N: its steps, its end -/
theorem it_up {α β : Type} (L : Nat → α → Int32 → β) (N : Nat) (f : Nat → α → α) (K : α → β) (hs : ∀ (n i : Nat) (a : α), i < N → L (n + 1) a (Int32.ofNat i) = L n (f i a) (Int32.ofNat (i + 1))) (he : ∀ (n : Nat) (a : α), L (n + 1) a (Int32.ofNat N) = K a) (fuel : Nat) (a : α) (hf : N < fuel) : L fuel a 0 = K (iter f N a) := by
  rw [it_up' L N f hs N fuel a (Nat.le_refl _) hf]
  obtain ⟨n, hn⟩ : ∃ n, fuel - N = n + 1 := ⟨fuel - N - 1, by omega⟩
  rw [hn, he]
theorem gF_gt {n : Nat} (h : n < 4294967296) : n < gF := h
/-- a loop with its invariant: it steps on, or comes to its end -/
theorem lp_wp {α β : Type} (L : Nat → α → Nat → β) (P : Nat → α → Prop) (Q : β → Prop) (N : Nat) (hs : ∀ (n i : Nat) (a : α), i ≤ N → P i a → Q (L (n + 1) a i) ∨ (i < N ∧ ∃ a', P (i + 1) a' ∧ L (n + 1) a i = L n a' (i + 1))) : ∀ (fuel i : Nat) (a : α), i ≤ N → N < fuel + i → P i a → Q (L fuel a i) := by
  intro fuel
  induction fuel with
  | zero => intro i a h1 h2; omega
  | succ n ih =>
    intro i a h1 h2 hP
    rcases hs n i a h1 hP with h | ⟨h3, a', h4, h5⟩
    · exact h
    · rw [h5]
      exact ih (i + 1) a' (by omega) (by omega) h4
abbrev tS : Type := Nat → Nat → Int32
abbrev tL : Type := Nat → Nat → Int64
def i2n (x : Int32) : Nat := x.toNatClampNeg
theorem i2n_of {k : Nat} (h : k < 2147483648) : i2n (Int32.ofNat k) = k := i_cl h
/-- an Int32 that lies below a small length is a Nat -/
theorem i_nat {x : Int32} (h0 : 0 ≤ x) : x = Int32.ofNat (i2n x) := by
  apply Int32.toInt_inj.mp
  have h1 : (0 : Int) ≤ x.toInt := by simpa using Int32.le_iff_toInt_le.mp h0
  have h2 : x.toInt < 2147483648 := Int32.toInt_lt x
  rw [Int32.toInt_ofNat_of_lt (by show x.toInt.toNat < _; omega)]
  show x.toInt = ((x.toInt.toNat : Nat) : Int)
  omega
theorem i_small {x : Int32} {n : Nat} (hn : n < 2147483648) (h0 : 0 ≤ x) (h1 : x < Int32.ofNat n) : ∃ k, k < n ∧ x = Int32.ofNat k := by
  have e := i_nat h0
  have hb : i2n x < 2147483648 := by
    have := Int32.toInt_lt x
    show x.toInt.toNat < _
    omega
  refine ⟨i2n x, ?_, e⟩
  rw [e] at h1
  exact (i_lt hb hn).mp h1
/-- the families' objects -/
def fBL : List Nat := [2, 16, 57, 81, 96, 119, 133, 147, 161, 175, 189, 203, 217, 231, 245, 259, 273]
set_option maxRecDepth 100000 in
theorem fB_all : fBL.all (fun b => decide (lK b = 3) && decide (lR b 0 = b + 2) && decide (lR b 1 = b + 3) && decide (lR b 2 = b + 4) && decide (lR b 3 = b + 5) && decide (lK (b + 1) = 24) && decide (lNn (b + 1) = 8) && (List.range 8).all (fun i => decide (lR (b + 1) i = b + 7 + i) && decide (lK (b + 6 + i) = 9)) && decide (lK (b + 2) = 9) && decide (lK (b + 3) = 20) && decide (lNn (b + 3) = 64) && decide (lK (b + 4) = 7) && decide (lR (b + 4) 0 = b + 6) && decide (lK (b + 5) = 20) && decide (lNn (b + 5) = 300) && decide (b + 14 ≤ 287) && (decide (b + 13 < 56) || decide (56 < b))) = true := by decide +kernel
theorem fB_one {b : Nat} (hb : b ∈ fBL) : lK b = 3 ∧ lR b 0 = b + 2 ∧ lR b 1 = b + 3 ∧ lR b 2 = b + 4 ∧ lR b 3 = b + 5 ∧ lK (b + 1) = 24 ∧ lNn (b + 1) = 8 ∧ (∀ i, i < 8 → lR (b + 1) i = b + 7 + i ∧ lK (b + 6 + i) = 9) ∧ lK (b + 2) = 9 ∧ lK (b + 3) = 20 ∧ lNn (b + 3) = 64 ∧ lK (b + 4) = 7 ∧ lR (b + 4) 0 = b + 6 ∧ lK (b + 5) = 20 ∧ lNn (b + 5) = 300 ∧ b + 14 ≤ 287 ∧ (b + 13 < 56 ∨ 56 < b) := by
  have h := List.all_eq_true.mp fB_all b hb
  simp only [Bool.and_eq_true, Bool.or_eq_true, decide_eq_true_eq, List.all_eq_true, List.mem_range] at h
  obtain ⟨⟨⟨⟨⟨⟨⟨⟨⟨⟨⟨⟨⟨⟨⟨⟨h1, h2⟩, h3⟩, h4⟩, h5⟩, h6⟩, h7⟩, h8⟩, h9⟩, h10⟩, h11⟩, h12⟩, h13⟩, h14⟩, h15⟩, h16⟩, h17⟩ := h
  exact ⟨h1, h2, h3, h4, h5, h6, h7, h8, h9, h10, h11, h12, h13, h14, h15, h16, h17⟩
section
variable {g : Nat} {s : tS} {l : tL} {r : Nat → Nat} {b : Nat}
theorem fb_ne {k : Nat} (hb : b ∈ fBL) (hk : k < 14) : b + k ≠ 56 := by
  have h := (fB_one hb).2.2.2.2.2.2.2.2.2.2.2.2.2.2.2
  omega
theorem f_gd {β : Type} {T : Option β} (hb : b ∈ fBL) : gd (mm g s l r) (ob g b) 3 T = T := mm_gd (fB_one hb).1
theorem f_getI {k : Nat} (hb : b ∈ fBL) : getI (mm g s l r) (ob g b) 3 k = some (s b k) := mm_getI (fB_one hb).1
theorem f_putI {k : Nat} {v : Int32} (hb : b ∈ fBL) : putI (mm g s l r) (ob g b) 3 k v = some (mm g (up2 s b k v) l r) := mm_putI (fB_one hb).1
theorem f_R0 (hb : b ∈ fBL) : getR (mm g s l r) (ob g b) 3 0 = some (ob g (b + 1)) := mm_getR (fB_one hb).1 (fB_one hb).2.1 (fb_ne (k := 0) hb (by decide))
theorem f_R1 (hb : b ∈ fBL) : getR (mm g s l r) (ob g b) 3 1 = some (ob g (b + 2)) := mm_getR (fB_one hb).1 (fB_one hb).2.2.1 (fb_ne (k := 0) hb (by decide))
theorem f_R2 (hb : b ∈ fBL) : getR (mm g s l r) (ob g b) 3 2 = some (ob g (b + 3)) := mm_getR (fB_one hb).1 (fB_one hb).2.2.2.1 (fb_ne (k := 0) hb (by decide))
theorem f_R3 (hb : b ∈ fBL) : getR (mm g s l r) (ob g b) 3 3 = some (ob g (b + 4)) := mm_getR (fB_one hb).1 (fB_one hb).2.2.2.2.1 (fb_ne (k := 0) hb (by decide))
theorem f_len1 (hb : b ∈ fBL) : lenA (mm g s l r) (ob g (b + 1)) = some 8 := by
  obtain ⟨h1, h2, h3, h4, h5, h6, h7, h8, h9⟩ := fB_one hb
  rw [mm_lenA (by rw [h6]; decide), h7]
  rfl
theorem f_len3 (hb : b ∈ fBL) : lenA (mm g s l r) (ob g (b + 3)) = some 64 := by
  obtain ⟨h1, h2, h3, h4, h5, h6, h7, h8, h9, h10, h11, h12⟩ := fB_one hb
  rw [mm_lenA (by rw [h10]; decide), h11]
  rfl
theorem f_len5 (hb : b ∈ fBL) : lenA (mm g s l r) (ob g (b + 5)) = some 300 := by
  obtain ⟨h1, h2, h3, h4, h5, h6, h7, h8, h9, h10, h11, h12, h13, h14, h15, h16⟩ := fB_one hb
  rw [mm_lenA (by rw [h14]; decide), h15]
  rfl
theorem f_pK {i : Nat} (hb : b ∈ fBL) (hi : i < 8) : lK (b + 6 + i) = 9 := ((fB_one hb).2.2.2.2.2.2.2.1 i hi).2
theorem f_pgd {β : Type} {i : Nat} {T : Option β} (hb : b ∈ fBL) (hi : i < 8) : gd (mm g s l r) (ob g (b + 6 + i)) 9 T = T := mm_gd (f_pK hb hi)
theorem f_pI {i k : Nat} (hb : b ∈ fBL) (hi : i < 8) : getI (mm g s l r) (ob g (b + 6 + i)) 9 k = some (s (b + 6 + i) k) := mm_getI (f_pK hb hi)
theorem f_pP {i k : Nat} {v : Int32} (hb : b ∈ fBL) (hi : i < 8) : putI (mm g s l r) (ob g (b + 6 + i)) 9 k v = some (mm g (up2 s (b + 6 + i) k v) l r) := mm_putI (f_pK hb hi)
theorem f_nI {k : Nat} (hb : b ∈ fBL) : getI (mm g s l r) (ob g (b + 2)) 9 k = some (s (b + 2) k) := mm_getI (fB_one hb).2.2.2.2.2.2.2.2.1
theorem f_p {i : Nat} (hb : b ∈ fBL) (hi : i < 8) : aldR (mm g s l r) (ob g (b + 1)) 24 (Int32.ofNat i) = some (ob g (b + 6 + i)) := by
  have h0 := fB_one hb
  obtain ⟨h1, h2, h3, h4, h5, h6, h7, h8, h9⟩ := h0
  have hi2 : i < 2147483648 := by omega
  refine mm_aldR h6 (i0_le hi2) (by rw [i_cl hi2, h7]; exact hi) ?_ (fb_ne (k := 1) hb (by decide))
  rw [i_cl hi2, (h8 i hi).1]
  omega
theorem f_logI {k : Nat} (hb : b ∈ fBL) : getI (mm g s l r) (ob g (b + 4)) 7 k = some (s (b + 4) k) := mm_getI (fB_one hb).2.2.2.2.2.2.2.2.2.2.2.1
theorem f_logP {k : Nat} {v : Int32} (hb : b ∈ fBL) : putI (mm g s l r) (ob g (b + 4)) 7 k v = some (mm g (up2 s (b + 4) k v) l r) := mm_putI (fB_one hb).2.2.2.2.2.2.2.2.2.2.2.1
theorem f_loggd {β : Type} {T : Option β} (hb : b ∈ fBL) : gd (mm g s l r) (ob g (b + 4)) 7 T = T := mm_gd (fB_one hb).2.2.2.2.2.2.2.2.2.2.2.1
theorem f_logR (hb : b ∈ fBL) : getR (mm g s l r) (ob g (b + 4)) 7 0 = some (ob g (b + 5)) := mm_getR (fB_one hb).2.2.2.2.2.2.2.2.2.2.2.1 (fB_one hb).2.2.2.2.2.2.2.2.2.2.2.2.1 (fb_ne (k := 4) hb (by decide))
theorem f_loan {k : Nat} (hb : b ∈ fBL) (hk : k < 64) : aldI (mm g s l r) (ob g (b + 3)) 20 (Int32.ofNat k) = some (s (b + 3) k) := by
  obtain ⟨h1, h2, h3, h4, h5, h6, h7, h8, h9, h10, h11, h12⟩ := fB_one hb
  exact mm_aldI h10 h11 hk (by decide)
theorem f_loanS {k : Nat} {v : Int32} (hb : b ∈ fBL) (hk : k < 64) : astI (mm g s l r) (ob g (b + 3)) (Int32.ofNat k) v = some (mm g (up2 s (b + 3) k v) l r) := by
  obtain ⟨h1, h2, h3, h4, h5, h6, h7, h8, h9, h10, h11, h12⟩ := fB_one hb
  exact mm_astI h10 h11 hk (by decide)
theorem f_cell {k : Nat} (hb : b ∈ fBL) (hk : k < 300) : aldI (mm g s l r) (ob g (b + 5)) 20 (Int32.ofNat k) = some (s (b + 5) k) := by
  obtain ⟨h1, h2, h3, h4, h5, h6, h7, h8, h9, h10, h11, h12, h13, h14, h15, h16⟩ := fB_one hb
  exact mm_aldI h14 h15 hk (by decide)
theorem f_cellS {k : Nat} {v : Int32} (hb : b ∈ fBL) (hk : k < 300) : astI (mm g s l r) (ob g (b + 5)) (Int32.ofNat k) v = some (mm g (up2 s (b + 5) k v) l r) := by
  obtain ⟨h1, h2, h3, h4, h5, h6, h7, h8, h9, h10, h11, h12, h13, h14, h15, h16⟩ := fB_one hb
  exact mm_astI h14 h15 hk (by decide)
theorem lt8 {i : Nat} (hi : i < 8) : Int32.ofNat i < 8 := (i_lt (b := 8) (by omega) (by decide)).mpr hi
theorem nlt0 {i : Nat} (hi : i < 8) : ¬ Int32.ofNat i < 0 := i_nlt0 (by omega)
/-- a person by its number -/
theorem f_at {i : Nat} (hb : b ∈ fBL) (hi : i < 8) : p2_at (ob g b) (Int32.ofNat i) (mm g s l r) = some (ob g (b + 6 + i)) := by
  rw [p2_at, f_gd hb, if_neg (nlt0 hi)]
  simp only [f_R0 hb, Option.bind_some, f_len1 hb, if_pos (lt8 hi), f_p hb hi, p2_at_J26]
end
/-- what a family is: numbers 0 size, 1 texts, 3 day, 4 round, 5 ripe, 6 step, 7 logged, 8 seed; people; rows of the log, the latest first -/
abbrev Fm : Type := (Nat → Int32) × (Nat → Nat → Int32) × (Nat → Nat → Int32)
def szF (F : Fm) : Nat := i2n (F.1 0)
def szC (s : tS) (b : Nat) : Nat := i2n (s b 4)
def glC (s : tS) (b k : Nat) : Int32 := if k = 0 then s b 4 else if k = 1 then s b 10 else if k = 3 then s b 8 else if k = 4 then s b 5 else if k = 5 then s b 6 else if k = 6 then s b 7 else if k = 7 then s (b + 4) 2 else if k = 8 then s b 9 else 0
def peC (s : tS) (b i j : Nat) : Int32 := if j < 9 then s (b + 6 + i) j else s (b + 3) (8 * i + (j - 9))
def rowC (s : tS) (b k : Nat) : Nat := (i2n (s (b + 4) 1) + 59 - k) % 60
def FC (s : tS) (b : Nat) : Fm := (glC s b, fun i j => if i < szC s b ∧ j < 17 then peC s b i j else 0, fun k j => if k < i2n (s (b + 4) 2) ∧ j < 5 then s (b + 5) (5 * rowC s b k + j) else 0)
def FW (w : Nat → Int32) : Fm := (fun k => if k < 9 ∧ k ≠ 2 then w k else 0, fun i j => if i < i2n (w 0) ∧ j < 17 then w (9 + 17 * i + j) else 0, fun k j => if k < i2n (w 7) ∧ j < 5 then w (145 + 5 * k + j) else 0)
def FM (s : tS) : Fm := FW (s 288)
def nob (j : Nat) : Int32 := if j = 3 ∨ j = 4 then -1 else if j = 6 then 50 else 0
/-- a family's object is well made -/
def WfC (s : tS) (b : Nat) : Prop := s b 4 = Int32.ofNat (szC s b) ∧ szC s b ≤ 8 ∧ s (b + 4) 2 = Int32.ofNat (i2n (s (b + 4) 2)) ∧ i2n (s (b + 4) 2) ≤ 60 ∧ s (b + 4) 1 = Int32.ofNat (i2n (s (b + 4) 1)) ∧ i2n (s (b + 4) 1) < 60 ∧ (∀ i j : Nat, szC s b ≤ i → i < 8 → j < 8 → s (b + 3) (8 * i + j) = 0) ∧ ∀ j, j < 9 → s (b + 2) j = nob j
def WfM (s : tS) : Prop := s 288 0 = Int32.ofNat (i2n (s 288 0)) ∧ i2n (s 288 0) ≤ 8 ∧ s 288 7 = Int32.ofNat (i2n (s 288 7)) ∧ i2n (s 288 7) ≤ 60
theorem FC_n {s : tS} {b : Nat} : szF (FC s b) = szC s b := rfl
theorem FW_n {w : Nat → Int32} : szF (FW w) = i2n (w 0) := rfl
theorem FM_n {s : tS} : szF (FM s) = i2n (s 288 0) := rfl
theorem FC_p {s : tS} {b i j : Nat} (hi : i < szC s b) (hj : j < 9) : (FC s b).2.1 i j = s (b + 6 + i) j := by
  show (if i < szC s b ∧ j < 17 then peC s b i j else 0) = _
  rw [if_pos ⟨hi, by omega⟩, peC, if_pos hj]
theorem FC_l {s : tS} {b i j : Nat} (hi : i < szC s b) (hj : j < 8) : (FC s b).2.1 i (9 + j) = s (b + 3) (8 * i + j) := by
  show (if i < szC s b ∧ 9 + j < 17 then peC s b i (9 + j) else 0) = _
  rw [if_pos ⟨hi, by omega⟩, peC, if_neg (by omega), Nat.add_sub_cancel_left]
theorem FM_p {s : tS} {i j : Nat} (hi : i < i2n (s 288 0)) (hj : j < 17) : (FM s).2.1 i j = s 288 (9 + 17 * i + j) := by
  show (if i < i2n (s 288 0) ∧ j < 17 then s 288 (9 + 17 * i + j) else 0) = _
  rw [if_pos ⟨hi, hj⟩]
theorem FC_g {s : tS} {b : Nat} : (FC s b).1 = glC s b := rfl
theorem FM_g {s : tS} {k : Nat} (hk : k < 9 ∧ k ≠ 2) : (FM s).1 k = s 288 k := if_pos hk
