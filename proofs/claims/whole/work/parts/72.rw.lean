/-! reads and writes of the running law's memory -/
theorem ob_sub {g i : Nat} : ob g i - g - 1 = i := by unfold ob; omega
theorem ob_nle {g i : Nat} : ¬ ob g i ≤ g := by unfold ob; omega
theorem ob_nz {g i : Nat} : ob g i ≠ 0 := by unfold ob; omega
theorem ob_eq {g i b : Nat} : (b = ob g i) ↔ (¬ b ≤ g ∧ b - g - 1 = i) := by unfold ob; omega
theorem ob_inj {g i j : Nat} : ob g i = ob g j ↔ i = j := by unfold ob; omega
section
variable {g : Nat} {s : Nat → Nat → Int32} {l : Nat → Nat → Int64} {r : Nat → Nat}
theorem mm_K {i : Nat} : mK (mm g s l r) (ob g i) = lK i := by
  show (if ob g i ≤ g then 0 else lK (ob g i - g - 1)) = _
  rw [if_neg ob_nle, ob_sub]
theorem mm_N {i : Nat} : mN (mm g s l r) (ob g i) = lNn i := by
  show (if ob g i ≤ g then 0 else lNn (ob g i - g - 1)) = _
  rw [if_neg ob_nle, ob_sub]
theorem mm_I {i j : Nat} : mI (mm g s l r) (ob g i) j = s i j := by
  show (if ob g i ≤ g then 0 else s (ob g i - g - 1) j) = _
  rw [if_neg ob_nle, ob_sub]
theorem mm_If {i : Nat} : mI (mm g s l r) (ob g i) = s i := funext fun _ => mm_I
theorem mm_L {i j : Nat} : mL (mm g s l r) (ob g i) j = l i j := by
  show (if ob g i ≤ g then 0 else l (ob g i - g - 1) j) = _
  rw [if_neg ob_nle, ob_sub]
theorem mm_R {i j : Nat} (h : i ≠ 56) : mR (mm g s l r) (ob g i) j = rl g (lR i j) := by
  show (if ob g i ≤ g then 0 else if ob g i - g - 1 = 56 then (if j < 12 then ob g (r j) else 0) else rl g (lR (ob g i - g - 1) j)) = _
  rw [if_neg ob_nle, ob_sub, if_neg h]
theorem mm_R56 {j : Nat} (h : j < 12) : mR (mm g s l r) (ob g 56) j = ob g (r j) := by
  show (if ob g 56 ≤ g then 0 else if ob g 56 - g - 1 = 56 then (if j < 12 then ob g (r j) else 0) else rl g (lR (ob g 56 - g - 1) j)) = _
  rw [if_neg ob_nle, ob_sub, if_pos rfl, if_pos h]
theorem mm_X : mX (mm g s l r) = 0 := rfl
theorem mm_sI {i k : Nat} {v : Int32} : sI (mm g s l r) (ob g i) k v = mm g (up2 s i k v) l r := by
  apply m_ext
  · intro _; rfl
  · intro _; rfl
  · intro b j
    show (if b = ob g i ∧ j = k then v else if b ≤ g then 0 else s (b - g - 1) j) = (if b ≤ g then 0 else if b - g - 1 = i ∧ j = k then v else s (b - g - 1) j)
    simp only [ob_eq]
    by_cases h : b ≤ g <;> simp [h]
  · intro _ _; rfl
  · intro _ _; rfl
  · rfl
theorem mm_sL {i k : Nat} {v : Int64} : sL (mm g s l r) (ob g i) k v = mm g s (up2 l i k v) r := by
  apply m_ext
  · intro _; rfl
  · intro _; rfl
  · intro _ _; rfl
  · intro _ _; rfl
  · intro b j
    show (if b = ob g i ∧ j = k then v else if b ≤ g then 0 else l (b - g - 1) j) = (if b ≤ g then 0 else if b - g - 1 = i ∧ j = k then v else l (b - g - 1) j)
    simp only [ob_eq]
    by_cases h : b ≤ g <;> simp [h]
  · rfl
theorem mm_sR {k v : Nat} (hk : k < 12) : sR (mm g s l r) (ob g 56) k (ob g v) = mm g s l (up1 r k v) := by
  apply m_ext
  · intro _; rfl
  · intro _; rfl
  · intro _ _; rfl
  · intro b j
    show (if b = ob g 56 ∧ j = k then ob g v else if b ≤ g then 0 else if b - g - 1 = 56 then (if j < 12 then ob g (r j) else 0) else rl g (lR (b - g - 1) j)) = (if b ≤ g then 0 else if b - g - 1 = 56 then (if j < 12 then ob g (if j = k then v else r j) else 0) else rl g (lR (b - g - 1) j))
    simp only [ob_eq]
    by_cases h : b ≤ g
    · simp [h]
    · by_cases h2 : b - g - 1 = 56
      · by_cases h3 : j = k
        · subst h3
          simp [h, h2, hk]
        · simp [h, h2, h3]
      · simp [h, h2]
  · intro _ _; rfl
  · rfl
def cpy (s : Nat → Nat → Int32) (a b sp dp n : Nat) : Nat → Nat → Int32 := up1 s b (fun k => if dp ≤ k ∧ k < dp + n then s a (sp + (k - dp)) else s b k)
theorem mm_cI {a b sp dp n : Nat} : cI (mm g s l r) (ob g a) (ob g b) sp dp n = mm g (cpy s a b sp dp n) l r := by
  apply m_ext
  · intro _; rfl
  · intro _; rfl
  · intro o j
    show (if o = ob g b then (fun k => if dp ≤ k ∧ k < dp + n then mI (mm g s l r) (ob g a) (sp + (k - dp)) else mI (mm g s l r) (ob g b) k) else mI (mm g s l r) o) j = (if o ≤ g then 0 else (if o - g - 1 = b then (fun k => if dp ≤ k ∧ k < dp + n then s a (sp + (k - dp)) else s b k) else s (o - g - 1)) j)
    simp only [mm_I, ob_eq]
    by_cases h : o ≤ g
    · have e : mI (mm g s l r) o j = 0 := if_pos h
      simp [h, e]
    · have e : mI (mm g s l r) o j = s (o - g - 1) j := if_neg h
      by_cases h2 : o - g - 1 = b
      · simp [h, h2]
      · simp [h, h2, e]
  · intro _ _; rfl
  · intro _ _; rfl
  · rfl
theorem mm_gd {β : Type} {i c : Nat} {T : Option β} (h : lK i = c) : gd (mm g s l r) (ob g i) c T = T := by
  rw [gd, mm_K, if_pos h]
theorem mm_getI {i c k : Nat} (h : lK i = c) : getI (mm g s l r) (ob g i) c k = some (s i k) := by
  rw [getI, mm_K, mm_I, if_pos h]
theorem mm_putI {i c k : Nat} {v : Int32} (h : lK i = c) : putI (mm g s l r) (ob g i) c k v = some (mm g (up2 s i k v) l r) := by
  rw [putI, mm_K, mm_sI, if_pos h]
theorem mm_getR {i c k v : Nat} (h : lK i = c) (h2 : lR i k = v + 1) (h3 : i ≠ 56) : getR (mm g s l r) (ob g i) c k = some (ob g v) := by
  have e : rl g (lR i k) = ob g v := by
    rw [h2, rl, if_neg (Nat.succ_ne_zero _), ob]
    omega
  rw [getR, mm_K, mm_R h3, e, if_pos ⟨h, ob_nz⟩]
theorem mm_aldR {i c v : Nat} {j : Int32} (h : lK i = c) (hj : 0 ≤ j) (hl : j.toNatClampNeg < lNn i) (h2 : lR i j.toNatClampNeg = v + 1) (h3 : i ≠ 56) : aldR (mm g s l r) (ob g i) c j = some (ob g v) := by
  have e : rl g (lR i j.toNatClampNeg) = ob g v := by
    rw [h2, rl, if_neg (Nat.succ_ne_zero _), ob]
    omega
  rw [aldR, mm_K, mm_N, mm_R h3, e, if_pos ⟨h, ⟨hj, hl⟩, ob_nz⟩]
theorem mm_lenA {i : Nat} (h : 20 ≤ lK i ∧ lK i ≤ 24) : lenA (mm g s l r) (ob g i) = some (Int32.ofNat (lNn i)) := by
  rw [lenA, mm_K, mm_N, if_pos h]
theorem i0_le {k : Nat} (h : k < 2147483648) : (0 : Int32) ≤ Int32.ofNat k := (Int32.ofNat_le_ofNat (by decide) h).mpr (Nat.zero_le k)
theorem i_cl {k : Nat} (h : k < 2147483648) : (Int32.ofNat k).toNatClampNeg = k := Int32.toNatClampNeg_ofNat_of_lt h
theorem i_lt {a b : Nat} (ha : a < 2147483648) (hb : b < 2147483648) : Int32.ofNat a < Int32.ofNat b ↔ a < b := Int32.ofNat_lt_ofNat ha hb
theorem i_le {a b : Nat} (ha : a < 2147483648) (hb : b < 2147483648) : Int32.ofNat a ≤ Int32.ofNat b ↔ a ≤ b := Int32.ofNat_le_ofNat ha hb
theorem i_eq {a b : Nat} (ha : a < 2147483648) (hb : b < 2147483648) : Int32.ofNat a = Int32.ofNat b ↔ a = b := by
  constructor
  · intro h
    have h2 := congrArg Int32.toNatClampNeg h
    rwa [i_cl ha, i_cl hb] at h2
  · intro h
    rw [h]
theorem i_succ {k : Nat} : Int32.ofNat k + 1 = Int32.ofNat (k + 1) := (Int32.ofNat_add k 1).symm
theorem i_add {a b : Nat} : Int32.ofNat a + Int32.ofNat b = Int32.ofNat (a + b) := (Int32.ofNat_add a b).symm
theorem i_mul {a b : Nat} : Int32.ofNat a * Int32.ofNat b = Int32.ofNat (a * b) := (Int32.ofNat_mul a b).symm
theorem i_nlt0 {k : Nat} (h : k < 2147483648) : ¬ Int32.ofNat k < 0 := Int32.not_lt.mpr (i0_le h)
theorem mm_aldI {i k n : Nat} (h : lK i = 20) (hn : lNn i = n) (hk : k < n) (hb : n ≤ 2147483648) : aldI (mm g s l r) (ob g i) 20 (Int32.ofNat k) = some (s i k) := by
  have h1 : k < 2147483648 := by omega
  rw [aldI, mm_K, mm_N, mm_I, i_cl h1, if_pos ⟨h, i0_le h1, by omega⟩]
theorem mm_aldB {i k n : Nat} (h : lK i = 21) (hn : lNn i = n) (hk : k < n) (hb : n ≤ 2147483648) : aldI (mm g s l r) (ob g i) 21 (Int32.ofNat k) = some (s i k) := by
  have h1 : k < 2147483648 := by omega
  rw [aldI, mm_K, mm_N, mm_I, i_cl h1, if_pos ⟨h, i0_le h1, by omega⟩]
theorem mm_astI {i k n : Nat} {v : Int32} (h : lK i = 20) (hn : lNn i = n) (hk : k < n) (hb : n ≤ 2147483648) : astI (mm g s l r) (ob g i) (Int32.ofNat k) v = some (mm g (up2 s i k v) l r) := by
  have h1 : k < 2147483648 := by omega
  rw [astI, mm_K, mm_N, mm_sI, i_cl h1, if_pos ⟨h, i0_le h1, by omega⟩]
theorem mm_astB {i k n : Nat} {v : Int32} (h : lK i = 21) (hn : lNn i = n) (hk : k < n) (hb : n ≤ 2147483648) : astB (mm g s l r) (ob g i) (Int32.ofNat k) v = some (mm g (up2 s i k (vp_nar .byte v)) l r) := by
  have h1 : k < 2147483648 := by omega
  rw [astB, mm_K, mm_N, mm_sI, i_cl h1, if_pos ⟨rfl, h, i0_le h1, by omega⟩]
theorem mm_aldL {i k n : Nat} (h : lK i = 22) (hn : lNn i = n) (hk : k < n) (hb : n ≤ 2147483648) : aldL (mm g s l r) (ob g i) (Int32.ofNat k) = some (l i k) := by
  have h1 : k < 2147483648 := by omega
  rw [aldL, mm_K, mm_N, mm_L, i_cl h1, if_pos ⟨h, i0_le h1, by omega⟩]
theorem mm_astL {i k n : Nat} {v : Int64} (h : lK i = 22) (hn : lNn i = n) (hk : k < n) (hb : n ≤ 2147483648) : astL (mm g s l r) (ob g i) (Int32.ofNat k) v = some (mm g s (up2 l i k v) r) := by
  have h1 : k < 2147483648 := by omega
  rw [astL, mm_K, mm_N, mm_sL, i_cl h1, if_pos ⟨rfl, h, i0_le h1, by omega⟩]
theorem k56 : lK 56 = 23 := by decide +kernel
theorem n56 : lNn 56 = 12 := by decide +kernel
theorem mm_aldF {k : Nat} (hk : k < 12) : aldR (mm g s l r) (ob g 56) 23 (Int32.ofNat k) = some (ob g (r k)) := by
  have h1 : k < 2147483648 := by omega
  rw [aldR, mm_K, mm_N, i_cl h1, mm_R56 hk, if_pos ⟨k56, ⟨i0_le h1, by rw [n56]; exact hk⟩, ob_nz⟩]
theorem mm_astF {k v : Nat} (hk : k < 12) (hv : lK v = 3) : astR (mm g s l r) (ob g 56) 23 3 (Int32.ofNat k) (ob g v) = some (mm g s l (up1 r k v)) := by
  have h1 : k < 2147483648 := by omega
  rw [astR, mm_K, mm_N, mm_K, i_cl h1, mm_sR hk, if_pos ⟨k56, ⟨i0_le h1, by rw [n56]; exact hk⟩, hv, ob_nz⟩]
theorem mm_cpyI {a b sp dp n : Nat} (ha : lK a = 20) (hb : lK b = 20) (h1 : sp + n ≤ lNn a) (h2 : dp + n ≤ lNn b) (h3 : lNn a < 2147483648) (h4 : lNn b < 2147483648) : cpyI (mm g s l r) (ob g a) (Int32.ofNat sp) (ob g b) (Int32.ofNat dp) (Int32.ofNat n) = some (mm g (cpy s a b sp dp n) l r) := by
  have q1 : sp < 2147483648 := by omega
  have q2 : dp < 2147483648 := by omega
  have q3 : n < 2147483648 := by omega
  rw [cpyI, mm_K, mm_K, mm_N, mm_N, i_cl q1, i_cl q2, i_cl q3, mm_cI, if_pos ⟨rfl, ha, hb, i0_le q1, i0_le q2, i0_le q3, h1, h2⟩]
end
