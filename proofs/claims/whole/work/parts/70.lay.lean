/-! memories laid behind a base: relative numbers from 1 on, 0 is none -/
def rl (g r : Nat) : Nat := if r = 0 then 0 else g + r
def mq (g : Nat) (T : mMem) : mMem := (fun a => if a ≤ g then 0 else mK T (a - g), fun a => if a ≤ g then 0 else mN T (a - g), fun a j => if a ≤ g then 0 else mI T (a - g) j, fun a j => if a ≤ g then 0 else rl g (mR T (a - g) j), fun a j => if a ≤ g then 0 else mL T (a - g) j, rl g (mX T))
def nCx (T : mMem) (x kind len : Nat) : mMem := (up1 (mK T) x kind, up1 (mN T) x len, up1 (mI T) x (fun _ => 0), up1 (mR T) x (fun _ => 0), up1 (mL T) x (fun _ => 0), x + 1)
theorem mq_K {g a : Nat} {T : mMem} (ha : a ≠ 0) : mK (mq g T) (g + a) = mK T a := by
  have h : ¬ g + a ≤ g := by omega
  show (if g + a ≤ g then 0 else mK T (g + a - g)) = _
  rw [if_neg h, Nat.add_sub_cancel_left]
theorem mq_N {g a : Nat} {T : mMem} (ha : a ≠ 0) : mN (mq g T) (g + a) = mN T a := by
  have h : ¬ g + a ≤ g := by omega
  show (if g + a ≤ g then 0 else mN T (g + a - g)) = _
  rw [if_neg h, Nat.add_sub_cancel_left]
theorem mq_I {g a j : Nat} {T : mMem} (ha : a ≠ 0) : mI (mq g T) (g + a) j = mI T a j := by
  have h : ¬ g + a ≤ g := by omega
  show (if g + a ≤ g then 0 else mI T (g + a - g) j) = _
  rw [if_neg h, Nat.add_sub_cancel_left]
theorem mq_L {g a j : Nat} {T : mMem} (ha : a ≠ 0) : mL (mq g T) (g + a) j = mL T a j := by
  have h : ¬ g + a ≤ g := by omega
  show (if g + a ≤ g then 0 else mL T (g + a - g) j) = _
  rw [if_neg h, Nat.add_sub_cancel_left]
theorem mq_R {g a j : Nat} {T : mMem} (ha : a ≠ 0) : mR (mq g T) (g + a) j = rl g (mR T a j) := by
  have h : ¬ g + a ≤ g := by omega
  show (if g + a ≤ g then 0 else rl g (mR T (g + a - g) j)) = _
  rw [if_neg h, Nat.add_sub_cancel_left]
theorem mq_X {g : Nat} {T : mMem} : mX (mq g T) = rl g (mX T) := rfl
theorem rl_ne {g r : Nat} (h : r ≠ 0) : rl g r = g + r := if_neg h
theorem rl_nz {g r : Nat} : rl g r ≠ 0 ↔ r ≠ 0 := by
  unfold rl
  by_cases h : r = 0
  · simp [h]
  · simp only [h, if_false, ne_eq, not_false_eq_true, iff_true]
    omega
theorem rl_z {g r : Nat} : rl g r = 0 ↔ r = 0 := by
  unfold rl
  by_cases h : r = 0
  · simp [h]
  · simp only [h, if_false, iff_false]
    omega
theorem mq_ext {M : mMem} {g : Nat} {T : mMem} (h1 : ∀ a, mK M a = mK (mq g T) a) (h2 : ∀ a, mN M a = mN (mq g T) a) (h3 : ∀ a j, mI M a j = mI (mq g T) a j) (h4 : ∀ a j, mR M a j = mR (mq g T) a j) (h5 : ∀ a j, mL M a j = mL (mq g T) a j) (h6 : mX M = mX (mq g T)) : M = mq g T := by
  obtain ⟨m1, m2, m3, m4, m5, m6⟩ := M
  have e1 : m1 = mK (mq g T) := funext h1
  have e2 : m2 = mN (mq g T) := funext h2
  have e3 : m3 = mI (mq g T) := funext fun a => funext fun j => h3 a j
  have e4 : m4 = mR (mq g T) := funext fun a => funext fun j => h4 a j
  have e5 : m5 = mL (mq g T) := funext fun a => funext fun j => h5 a j
  have e6 : m6 = mX (mq g T) := h6
  subst e1 e2 e3 e4 e5 e6
  rfl
theorem off_eq {g a b : Nat} (ha : a ≠ 0) : (b = g + a) ↔ (¬ b ≤ g ∧ b - g = a) := by omega
theorem q_sI {g a k : Nat} {v : Int32} {T : mMem} (ha : a ≠ 0) : sI (mq g T) (g + a) k v = mq g (sI T a k v) := by
  apply mq_ext
  · intro _; rfl
  · intro _; rfl
  · intro b j
    show (if b = g + a ∧ j = k then v else if b ≤ g then 0 else mI T (b - g) j) = (if b ≤ g then 0 else if b - g = a ∧ j = k then v else mI T (b - g) j)
    simp only [off_eq ha]
    by_cases h : b ≤ g <;> simp [h]
  · intro _ _; rfl
  · intro _ _; rfl
  · rfl
theorem q_sL {g a k : Nat} {v : Int64} {T : mMem} (ha : a ≠ 0) : sL (mq g T) (g + a) k v = mq g (sL T a k v) := by
  apply mq_ext
  · intro _; rfl
  · intro _; rfl
  · intro _ _; rfl
  · intro _ _; rfl
  · intro b j
    show (if b = g + a ∧ j = k then v else if b ≤ g then 0 else mL T (b - g) j) = (if b ≤ g then 0 else if b - g = a ∧ j = k then v else mL T (b - g) j)
    simp only [off_eq ha]
    by_cases h : b ≤ g <;> simp [h]
  · rfl
theorem q_sR {g a k v : Nat} {T : mMem} (ha : a ≠ 0) (hv : v ≠ 0) : sR (mq g T) (g + a) k (g + v) = mq g (sR T a k v) := by
  apply mq_ext
  · intro _; rfl
  · intro _; rfl
  · intro _ _; rfl
  · intro b j
    show (if b = g + a ∧ j = k then g + v else if b ≤ g then 0 else rl g (mR T (b - g) j)) = (if b ≤ g then 0 else rl g (if b - g = a ∧ j = k then v else mR T (b - g) j))
    simp only [off_eq ha]
    by_cases h : b ≤ g
    · simp [h]
    · by_cases h2 : b - g = a ∧ j = k
      · simp [h, h2, rl_ne hv]
      · simp [h, h2]
  · intro _ _; rfl
  · rfl
theorem q_nC {g k n : Nat} {T : mMem} (hX : mX T ≠ 0) : nC (mq g T) k n = mq g (nCx T (mX T) k n) := by
  apply mq_ext
  · intro b
    show (if b = rl g (mX T) then k else if b ≤ g then 0 else mK T (b - g)) = (if b ≤ g then 0 else if b - g = mX T then k else mK T (b - g))
    rw [rl_ne hX]
    simp only [off_eq hX]
    by_cases h : b ≤ g <;> simp [h]
  · intro b
    show (if b = rl g (mX T) then n else if b ≤ g then 0 else mN T (b - g)) = (if b ≤ g then 0 else if b - g = mX T then n else mN T (b - g))
    rw [rl_ne hX]
    simp only [off_eq hX]
    by_cases h : b ≤ g <;> simp [h]
  · intro b j
    show (if b = rl g (mX T) then (fun _ => 0) else fun j => if b ≤ g then 0 else mI T (b - g) j) j = (if b ≤ g then 0 else (if b - g = mX T then (fun _ => 0) else mI T (b - g)) j)
    rw [rl_ne hX]
    simp only [off_eq hX]
    by_cases h : b ≤ g
    · simp [h]
    · by_cases h2 : b - g = mX T <;> simp [h, h2]
  · intro b j
    show (if b = rl g (mX T) then (fun _ => 0) else fun j => if b ≤ g then 0 else rl g (mR T (b - g) j)) j = (if b ≤ g then 0 else rl g ((if b - g = mX T then (fun _ => 0) else mR T (b - g)) j))
    rw [rl_ne hX]
    simp only [off_eq hX]
    by_cases h : b ≤ g
    · simp [h]
    · by_cases h2 : b - g = mX T <;> simp [h, h2, rl]
  · intro b j
    show (if b = rl g (mX T) then (fun _ => 0) else fun j => if b ≤ g then 0 else mL T (b - g) j) j = (if b ≤ g then 0 else (if b - g = mX T then (fun _ => 0) else mL T (b - g)) j)
    rw [rl_ne hX]
    simp only [off_eq hX]
    by_cases h : b ≤ g
    · simp [h]
    · by_cases h2 : b - g = mX T <;> simp [h, h2]
  · show rl g (mX T) + 1 = rl g (mX T + 1)
    rw [rl_ne hX, rl_ne (Nat.succ_ne_zero _)]
    omega
theorem q_newC {g k n : Nat} {T : mMem} (hX : mX T ≠ 0) : newC (mq g T) k n = some (g + mX T, mq g (nCx T (mX T) k n)) := by
  have h : mX (mq g T) ≠ 0 := rl_nz.mpr hX
  rw [newC, if_pos h, q_nC hX, mq_X, rl_ne hX]
theorem q_getI {g a c k : Nat} {T : mMem} (ha : a ≠ 0) : getI (mq g T) (g + a) c k = if mK T a = c then some (mI T a k) else none := by
  rw [getI, mq_K ha, mq_I ha]
theorem q_getR {g a c k : Nat} {T : mMem} (ha : a ≠ 0) : getR (mq g T) (g + a) c k = if mK T a = c ∧ mR T a k ≠ 0 then some (g + mR T a k) else none := by
  rw [getR, mq_K ha, mq_R ha]
  by_cases h : mR T a k = 0
  · simp [h, rl]
  · simp only [ne_eq, rl_z, h, not_false_eq_true, rl_ne h]
theorem q_putI {g a c k : Nat} {v : Int32} {T : mMem} (ha : a ≠ 0) : putI (mq g T) (g + a) c k v = if mK T a = c then some (mq g (sI T a k v)) else none := by
  rw [putI, mq_K ha, q_sI ha]
theorem q_putR {g a c k v : Nat} {T : mMem} (ha : a ≠ 0) (hv : v ≠ 0) : putR (mq g T) (g + a) c k (g + v) = if mK T a = c then some (mq g (sR T a k v)) else none := by
  have h : g + v ≠ 0 := by omega
  rw [putR, mq_K ha, q_sR ha hv]
  simp [h]
theorem q_gd {β : Type} {g a c : Nat} {T : mMem} {P : Option β} (ha : a ≠ 0) : gd (mq g T) (g + a) c P = if mK T a = c then P else none := by
  rw [gd, mq_K ha]
theorem q_aldI {g a c : Nat} {j : Int32} {T : mMem} (ha : a ≠ 0) : aldI (mq g T) (g + a) c j = if mK T a = c ∧ 0 ≤ j ∧ j.toNatClampNeg < mN T a then some (mI T a j.toNatClampNeg) else none := by
  rw [aldI, mq_K ha, mq_N ha, mq_I ha]
theorem q_aldL {g a : Nat} {j : Int32} {T : mMem} (ha : a ≠ 0) : aldL (mq g T) (g + a) j = if mK T a = 22 ∧ 0 ≤ j ∧ j.toNatClampNeg < mN T a then some (mL T a j.toNatClampNeg) else none := by
  rw [aldL, mq_K ha, mq_N ha, mq_L ha]
theorem q_aldR {g a c : Nat} {j : Int32} {T : mMem} (ha : a ≠ 0) : aldR (mq g T) (g + a) c j = if mK T a = c ∧ (0 ≤ j ∧ j.toNatClampNeg < mN T a) ∧ mR T a j.toNatClampNeg ≠ 0 then some (g + mR T a j.toNatClampNeg) else none := by
  rw [aldR, mq_K ha, mq_N ha, mq_R ha]
  by_cases h : mR T a j.toNatClampNeg = 0
  · simp [h, rl]
  · simp only [ne_eq, rl_z, h, not_false_eq_true, rl_ne h]
theorem q_astI {g a : Nat} {j v : Int32} {T : mMem} (ha : a ≠ 0) : astI (mq g T) (g + a) j v = if mK T a = 20 ∧ 0 ≤ j ∧ j.toNatClampNeg < mN T a then some (mq g (sI T a j.toNatClampNeg v)) else none := by
  rw [astI, mq_K ha, mq_N ha, q_sI ha]
theorem q_astB {g a : Nat} {j v : Int32} {T : mMem} (ha : a ≠ 0) : astB (mq g T) (g + a) j v = if mX T = 0 ∧ mK T a = 21 ∧ 0 ≤ j ∧ j.toNatClampNeg < mN T a then some (mq g (sI T a j.toNatClampNeg (vp_nar .byte v))) else none := by
  rw [astB, mq_K ha, mq_N ha, q_sI ha, mq_X]
  simp only [rl_z]
theorem q_astL {g a : Nat} {j : Int32} {v : Int64} {T : mMem} (ha : a ≠ 0) : astL (mq g T) (g + a) j v = if mX T = 0 ∧ mK T a = 22 ∧ 0 ≤ j ∧ j.toNatClampNeg < mN T a then some (mq g (sL T a j.toNatClampNeg v)) else none := by
  rw [astL, mq_K ha, mq_N ha, q_sL ha, mq_X]
  simp only [rl_z]
theorem q_astR {g a c d v : Nat} {j : Int32} {T : mMem} (ha : a ≠ 0) (hv : v ≠ 0) : astR (mq g T) (g + a) c d j (g + v) = if mK T a = c ∧ (0 ≤ j ∧ j.toNatClampNeg < mN T a) ∧ mK T v = d then some (mq g (sR T a j.toNatClampNeg v)) else none := by
  have h : g + v ≠ 0 := by omega
  rw [astR, mq_K ha, mq_N ha, mq_K hv, q_sR ha hv]
  simp [h]
theorem q_lenA {g a : Nat} {T : mMem} (ha : a ≠ 0) : lenA (mq g T) (g + a) = if 20 ≤ mK T a ∧ mK T a ≤ 24 then some (Int32.ofNat (mN T a)) else none := by
  rw [lenA, mq_K ha, mq_N ha]
theorem q_cI {g a b sp dp n : Nat} {T : mMem} (ha : a ≠ 0) (hb : b ≠ 0) : cI (mq g T) (g + a) (g + b) sp dp n = mq g (cI T a b sp dp n) := by
  apply mq_ext
  · intro _; rfl
  · intro _; rfl
  · intro o j
    show (if o = g + b then (fun k => if dp ≤ k ∧ k < dp + n then mI (mq g T) (g + a) (sp + (k - dp)) else mI (mq g T) (g + b) k) else mI (mq g T) o) j = (if o ≤ g then 0 else (if o - g = b then (fun k => if dp ≤ k ∧ k < dp + n then mI T a (sp + (k - dp)) else mI T b k) else mI T (o - g)) j)
    simp only [mq_I ha, mq_I hb, off_eq hb]
    by_cases h : o ≤ g
    · have e : mI (mq g T) o j = 0 := if_pos h
      simp [h, e]
    · have e : mI (mq g T) o j = mI T (o - g) j := if_neg h
      by_cases h2 : o - g = b
      · simp [h, h2]
      · simp [h, h2, e]
  · intro _ _; rfl
  · intro _ _; rfl
  · rfl
theorem q_mF {g : Nat} {T : mMem} : mF (mq g T) = mq g (mF T) := by
  apply mq_ext
  · intro _; rfl
  · intro _; rfl
  · intro _ _; rfl
  · intro _ _; rfl
  · intro _ _; rfl
  · rfl
theorem k_nCx {T : mMem} {x k n o : Nat} : mK (nCx T x k n) o = if o = x then k else mK T o := rfl
theorem k_sR {T : mMem} {a k v o : Nat} : mK (sR T a k v) o = mK T o := rfl
theorem k_sI {T : mMem} {a k o : Nat} {v : Int32} : mK (sI T a k v) o = mK T o := rfl
theorem n_nCx {T : mMem} {x k n o : Nat} : mN (nCx T x k n) o = if o = x then n else mN T o := rfl
theorem n_sR {T : mMem} {a k v o : Nat} : mN (sR T a k v) o = mN T o := rfl
theorem n_sI {T : mMem} {a k o : Nat} {v : Int32} : mN (sI T a k v) o = mN T o := rfl
theorem r_nCx {T : mMem} {x k n o j : Nat} : mR (nCx T x k n) o j = if o = x then 0 else mR T o j := by
  show (if o = x then (fun _ => 0) else mR T o) j = _
  by_cases h : o = x <;> simp [h]
theorem r_sR {T : mMem} {a k v o j : Nat} : mR (sR T a k v) o j = if o = a ∧ j = k then v else mR T o j := rfl
theorem r_sI {T : mMem} {a k o j : Nat} {v : Int32} : mR (sI T a k v) o j = mR T o j := rfl
theorem x_nCx {T : mMem} {x k n : Nat} : mX (nCx T x k n) = x + 1 := rfl
theorem x_sR {T : mMem} {a k v : Nat} : mX (sR T a k v) = mX T := rfl
theorem x_sI {T : mMem} {a k : Nat} {v : Int32} : mX (sI T a k v) = mX T := rfl
def kc8 (T : mMem) (a : Nat) : mMem := (sI (sI (sI T a 3 (-1)) a 4 (-1)) a 6 50)
set_option maxHeartbeats 4000000 in
theorem kc8_eq {g a : Nat} {T : mMem} (ha : a ≠ 0) (hk : mK T a = 9) : p8_init (g + a) (mq g T) = some (mq g (kc8 T a)) := by
  simp [p8_init, kc8, q_newC, q_getI, q_getR, q_putI, q_putR, q_gd, q_aldI, q_aldR, q_astI, q_astR, q_lenA, k_nCx, k_sR, k_sI, n_nCx, n_sR, n_sI, r_nCx, r_sR, r_sI, x_nCx, x_sR, x_sI, ha, hk]
theorem x_kc8 {T : mMem} {a : Nat} : mX (kc8 T a) = mX T := by
  simp [kc8, x_nCx, x_sR, x_sI]
theorem k_kc8 {T : mMem} {a : Nat} {o : Nat} : mK (kc8 T a) o = mK T o := by
  simp [kc8, k_nCx, k_sR, k_sI]
def kc6 (T : mMem) (a : Nat) (x : Nat) : mMem := (sI (sI (sR (nCx T x 20 300) a 0 x) a 1 0) a 2 0)
set_option maxHeartbeats 4000000 in
theorem kc6_eq {g a : Nat} {T : mMem} {x : Nat} (ha : a ≠ 0) (hk : mK T a = 7) (hX : mX T = x) (hx : x ≠ 0) (hax : a < x) : p6_init (g + a) (mq g T) = some (mq g (kc6 T a x)) := by
  have n0 : x ≠ a := by omega
  have n0r : a ≠ x := by omega
  simp [p6_init, kc6, q_newC, q_getI, q_getR, q_putI, q_putR, q_gd, q_aldI, q_aldR, q_astI, q_astR, q_lenA, k_nCx, k_sR, k_sI, n_nCx, n_sR, n_sI, r_nCx, r_sR, r_sI, x_nCx, x_sR, x_sI, ha, hk, hX, hx, n0, n0r, kc8_eq, k_kc8, x_kc8]
theorem x_kc6 {T : mMem} {a : Nat} {x : Nat} : mX (kc6 T a x) = x + 1 := by
  simp [kc6, x_nCx, x_sR, x_sI, x_kc8]
theorem k_kc6 {T : mMem} {a : Nat} {x o : Nat} (ho : o < x) : mK (kc6 T a x) o = mK T o := by
  have e0 : ¬ o = x := by omega
  have f0 : o < x := by omega
  simp [kc6, k_nCx, k_sR, k_sI, k_kc8, ho, e0, f0]
def kc2 (T : mMem) (a : Nat) (x : Nat) : mMem := (sR (kc8 (nCx (sR (kc8 (nCx (sR (kc8 (nCx (sR (kc8 (nCx (sR (kc8 (nCx (sR (kc8 (nCx (sR (kc8 (nCx (sR (kc8 (nCx (sI (sI (sI (sI (sI (sI (sI (sR (kc6 (nCx (sR (nCx (sR (kc8 (nCx (sR (nCx T x 24 8) a 0 x) (x + 1) 9 0) (x + 1)) a 1 (x + 1)) (x + 2) 20 64) a 2 (x + 2)) (x + 3) 7 0) (x + 3) (x + 4)) a 3 (x + 3)) a 4 0) a 5 90) a 6 5) a 7 1) a 8 0) a 9 1) a 10 0) (x + 5) 9 0) (x + 5)) x 0 (x + 5)) (x + 6) 9 0) (x + 6)) x 1 (x + 6)) (x + 7) 9 0) (x + 7)) x 2 (x + 7)) (x + 8) 9 0) (x + 8)) x 3 (x + 8)) (x + 9) 9 0) (x + 9)) x 4 (x + 9)) (x + 10) 9 0) (x + 10)) x 5 (x + 10)) (x + 11) 9 0) (x + 11)) x 6 (x + 11)) (x + 12) 9 0) (x + 12)) x 7 (x + 12))
set_option maxHeartbeats 4000000 in
theorem kc2_eq {g a : Nat} {T : mMem} {x : Nat} (ha : a ≠ 0) (hk : mK T a = 3) (hX : mX T = x) (hx : x ≠ 0) (hax : a < x) : p2_init (g + a) (mq g T) = some (mq g (kc2 T a x)) := by
  have n0 : x ≠ a := by omega
  have n0r : a ≠ x := by omega
  have n1 : x + 1 ≠ a := by omega
  have n2 : x + 2 ≠ a := by omega
  have n3 : x + 3 ≠ a := by omega
  have n4 : x + 4 ≠ a := by omega
  have n5 : x + 5 ≠ a := by omega
  have n6 : x + 6 ≠ a := by omega
  have n7 : x + 7 ≠ a := by omega
  have n8 : x + 8 ≠ a := by omega
  have n9 : x + 9 ≠ a := by omega
  have n10 : x + 10 ≠ a := by omega
  have n11 : x + 11 ≠ a := by omega
  have n12 : x + 12 ≠ a := by omega
  have m1 : a ≠ x + 1 := by omega
  have m2 : a ≠ x + 2 := by omega
  have m3 : a ≠ x + 3 := by omega
  have m4 : a ≠ x + 4 := by omega
  have m5 : a ≠ x + 5 := by omega
  have m6 : a ≠ x + 6 := by omega
  have m7 : a ≠ x + 7 := by omega
  have m8 : a ≠ x + 8 := by omega
  have m9 : a ≠ x + 9 := by omega
  have m10 : a ≠ x + 10 := by omega
  have m11 : a ≠ x + 11 := by omega
  have m12 : a ≠ x + 12 := by omega
  simp [p2_init, p2_init_L81, kc2, q_newC, q_getI, q_getR, q_putI, q_putR, q_gd, q_aldI, q_aldR, q_astI, q_astR, q_lenA, k_nCx, k_sR, k_sI, n_nCx, n_sR, n_sI, r_nCx, r_sR, r_sI, x_nCx, x_sR, x_sI, ha, hk, hX, hx, n0, n0r, n1, n2, n3, n4, n5, n6, n7, n8, n9, n10, n11, n12, m1, m2, m3, m4, m5, m6, m7, m8, m9, m10, m11, m12, kc8_eq, k_kc8, x_kc8, kc6_eq, k_kc6, x_kc6]
theorem x_kc2 {T : mMem} {a : Nat} {x : Nat} : mX (kc2 T a x) = x + 13 := by
  simp [kc2, x_nCx, x_sR, x_sI, x_kc8, x_kc6]
theorem k_kc2 {T : mMem} {a : Nat} {x o : Nat} (ho : o < x) : mK (kc2 T a x) o = mK T o := by
  have e0 : ¬ o = x := by omega
  have f0 : o < x := by omega
  have e1 : ¬ o = x + 1 := by omega
  have f1 : o < x + 1 := by omega
  have e2 : ¬ o = x + 2 := by omega
  have f2 : o < x + 2 := by omega
  have e3 : ¬ o = x + 3 := by omega
  have f3 : o < x + 3 := by omega
  have e4 : ¬ o = x + 4 := by omega
  have f4 : o < x + 4 := by omega
  have e5 : ¬ o = x + 5 := by omega
  have f5 : o < x + 5 := by omega
  have e6 : ¬ o = x + 6 := by omega
  have f6 : o < x + 6 := by omega
  have e7 : ¬ o = x + 7 := by omega
  have f7 : o < x + 7 := by omega
  have e8 : ¬ o = x + 8 := by omega
  have f8 : o < x + 8 := by omega
  have e9 : ¬ o = x + 9 := by omega
  have f9 : o < x + 9 := by omega
  have e10 : ¬ o = x + 10 := by omega
  have f10 : o < x + 10 := by omega
  have e11 : ¬ o = x + 11 := by omega
  have f11 : o < x + 11 := by omega
  have e12 : ¬ o = x + 12 := by omega
  have f12 : o < x + 12 := by omega
  simp [kc2, k_nCx, k_sR, k_sI, k_kc8, k_kc6, ho, e0, f0, e1, f1, e2, f2, e3, f3, e4, f4, e5, f5, e6, f6, e7, f7, e8, f8, e9, f9, e10, f10, e11, f11, e12, f12]
def kc4 (T : mMem) (a : Nat) (x : Nat) : mMem := (sI (sI (sR (nCx (sR (nCx (sR (nCx (sR (nCx (sR (nCx (sR (nCx (sR (nCx (sR (nCx T x 20 12) a 0 x) (x + 1) 20 12) a 1 (x + 1)) (x + 2) 20 12) a 2 (x + 2)) (x + 3) 20 12) a 3 (x + 3)) (x + 4) 20 400) a 4 (x + 4)) (x + 5) 20 400) a 5 (x + 5)) (x + 6) 20 30) a 6 (x + 6)) (x + 7) 20 400) a 7 (x + 7)) a 8 0) a 9 (-1))
set_option maxHeartbeats 4000000 in
theorem kc4_eq {g a : Nat} {T : mMem} {x : Nat} (ha : a ≠ 0) (hk : mK T a = 5) (hX : mX T = x) (hx : x ≠ 0) (hax : a < x) : p4_init (g + a) (mq g T) = some (mq g (kc4 T a x)) := by
  have n0 : x ≠ a := by omega
  have n0r : a ≠ x := by omega
  have n1 : x + 1 ≠ a := by omega
  have n2 : x + 2 ≠ a := by omega
  have n3 : x + 3 ≠ a := by omega
  have n4 : x + 4 ≠ a := by omega
  have n5 : x + 5 ≠ a := by omega
  have n6 : x + 6 ≠ a := by omega
  have n7 : x + 7 ≠ a := by omega
  have m1 : a ≠ x + 1 := by omega
  have m2 : a ≠ x + 2 := by omega
  have m3 : a ≠ x + 3 := by omega
  have m4 : a ≠ x + 4 := by omega
  have m5 : a ≠ x + 5 := by omega
  have m6 : a ≠ x + 6 := by omega
  have m7 : a ≠ x + 7 := by omega
  simp [p4_init, kc4, q_newC, q_getI, q_getR, q_putI, q_putR, q_gd, q_aldI, q_aldR, q_astI, q_astR, q_lenA, k_nCx, k_sR, k_sI, n_nCx, n_sR, n_sI, r_nCx, r_sR, r_sI, x_nCx, x_sR, x_sI, ha, hk, hX, hx, n0, n0r, n1, n2, n3, n4, n5, n6, n7, m1, m2, m3, m4, m5, m6, m7, kc8_eq, k_kc8, x_kc8, kc6_eq, k_kc6, x_kc6, kc2_eq, k_kc2, x_kc2]
theorem x_kc4 {T : mMem} {a : Nat} {x : Nat} : mX (kc4 T a x) = x + 8 := by
  simp [kc4, x_nCx, x_sR, x_sI, x_kc8, x_kc6, x_kc2]
theorem k_kc4 {T : mMem} {a : Nat} {x o : Nat} (ho : o < x) : mK (kc4 T a x) o = mK T o := by
  have e0 : ¬ o = x := by omega
  have f0 : o < x := by omega
  have e1 : ¬ o = x + 1 := by omega
  have f1 : o < x + 1 := by omega
  have e2 : ¬ o = x + 2 := by omega
  have f2 : o < x + 2 := by omega
  have e3 : ¬ o = x + 3 := by omega
  have f3 : o < x + 3 := by omega
  have e4 : ¬ o = x + 4 := by omega
  have f4 : o < x + 4 := by omega
  have e5 : ¬ o = x + 5 := by omega
  have f5 : o < x + 5 := by omega
  have e6 : ¬ o = x + 6 := by omega
  have f6 : o < x + 6 := by omega
  have e7 : ¬ o = x + 7 := by omega
  have f7 : o < x + 7 := by omega
  simp [kc4, k_nCx, k_sR, k_sI, k_kc8, k_kc6, k_kc2, ho, e0, f0, e1, f1, e2, f2, e3, f3, e4, f4, e5, f5, e6, f6, e7, f7]
def kc3s (T : mMem) (a : Nat) (v1 : Int32) (x : Nat) : mMem := (sI (sI (sI (sI (sI (sR (nCx (sR (nCx (sR (nCx T x 20 400) a 0 x) (x + 1) 20 400) a 1 (x + 1)) (x + 2) 20 400) a 2 (x + 2)) a 4 0) a 5 0) a 6 0) a 7 0) a 3 v1)
set_option maxHeartbeats 4000000 in
theorem kc3s_eq {g a : Nat} {T : mMem} {v1 : Int32} {x : Nat} (ha : a ≠ 0) (hk : mK T a = 4) (hX : mX T = x) (hx : x ≠ 0) (hax : a < x) : p3_sinit (g + a) v1 (mq g T) = some (mq g (kc3s T a v1 x)) := by
  have n0 : x ≠ a := by omega
  have n0r : a ≠ x := by omega
  have n1 : x + 1 ≠ a := by omega
  have n2 : x + 2 ≠ a := by omega
  have m1 : a ≠ x + 1 := by omega
  have m2 : a ≠ x + 2 := by omega
  simp [p3_sinit, kc3s, q_newC, q_getI, q_getR, q_putI, q_putR, q_gd, q_aldI, q_aldR, q_astI, q_astR, q_lenA, k_nCx, k_sR, k_sI, n_nCx, n_sR, n_sI, r_nCx, r_sR, r_sI, x_nCx, x_sR, x_sI, ha, hk, hX, hx, n0, n0r, n1, n2, m1, m2, kc8_eq, k_kc8, x_kc8, kc6_eq, k_kc6, x_kc6, kc2_eq, k_kc2, x_kc2, kc4_eq, k_kc4, x_kc4]
theorem x_kc3s {T : mMem} {a : Nat} {v1 : Int32} {x : Nat} : mX (kc3s T a v1 x) = x + 3 := by
  simp [kc3s, x_nCx, x_sR, x_sI, x_kc8, x_kc6, x_kc2, x_kc4]
theorem k_kc3s {T : mMem} {a : Nat} {v1 : Int32} {x o : Nat} (ho : o < x) : mK (kc3s T a v1 x) o = mK T o := by
  have e0 : ¬ o = x := by omega
  have f0 : o < x := by omega
  have e1 : ¬ o = x + 1 := by omega
  have f1 : o < x + 1 := by omega
  have e2 : ¬ o = x + 2 := by omega
  have f2 : o < x + 2 := by omega
  simp [kc3s, k_nCx, k_sR, k_sI, k_kc8, k_kc6, k_kc2, k_kc4, ho, e0, f0, e1, f1, e2, f2]
def kc5s (T : mMem) (a : Nat) (v1 : Int32) (x : Nat) : mMem := (sI (sI (sI (sI (sI (sR (nCx (sR (nCx (sR (nCx T x 20 400) a 0 x) (x + 1) 20 400) a 1 (x + 1)) (x + 2) 20 400) a 2 (x + 2)) a 4 0) a 5 0) a 6 0) a 7 0) a 3 v1)
set_option maxHeartbeats 4000000 in
theorem kc5s_eq {g a : Nat} {T : mMem} {v1 : Int32} {x : Nat} (ha : a ≠ 0) (hk : mK T a = 6) (hX : mX T = x) (hx : x ≠ 0) (hax : a < x) : p5_sinit (g + a) v1 (mq g T) = some (mq g (kc5s T a v1 x)) := by
  have n0 : x ≠ a := by omega
  have n0r : a ≠ x := by omega
  have n1 : x + 1 ≠ a := by omega
  have n2 : x + 2 ≠ a := by omega
  have m1 : a ≠ x + 1 := by omega
  have m2 : a ≠ x + 2 := by omega
  simp [p5_sinit, kc5s, q_newC, q_getI, q_getR, q_putI, q_putR, q_gd, q_aldI, q_aldR, q_astI, q_astR, q_lenA, k_nCx, k_sR, k_sI, n_nCx, n_sR, n_sI, r_nCx, r_sR, r_sI, x_nCx, x_sR, x_sI, ha, hk, hX, hx, n0, n0r, n1, n2, m1, m2, kc8_eq, k_kc8, x_kc8, kc6_eq, k_kc6, x_kc6, kc2_eq, k_kc2, x_kc2, kc4_eq, k_kc4, x_kc4, kc3s_eq, k_kc3s, x_kc3s]
theorem x_kc5s {T : mMem} {a : Nat} {v1 : Int32} {x : Nat} : mX (kc5s T a v1 x) = x + 3 := by
  simp [kc5s, x_nCx, x_sR, x_sI, x_kc8, x_kc6, x_kc2, x_kc4, x_kc3s]
theorem k_kc5s {T : mMem} {a : Nat} {v1 : Int32} {x o : Nat} (ho : o < x) : mK (kc5s T a v1 x) o = mK T o := by
  have e0 : ¬ o = x := by omega
  have f0 : o < x := by omega
  have e1 : ¬ o = x + 1 := by omega
  have f1 : o < x + 1 := by omega
  have e2 : ¬ o = x + 2 := by omega
  have f2 : o < x + 2 := by omega
  simp [kc5s, k_nCx, k_sR, k_sI, k_kc8, k_kc6, k_kc2, k_kc4, k_kc3s, ho, e0, f0, e1, f1, e2, f2]
def kc3 (T : mMem) (a : Nat) (y1 : Nat) (x : Nat) : mMem := (sR (kc3s T a 14 x) a 8 y1)
set_option maxHeartbeats 4000000 in
theorem kc3_eq {g a : Nat} {T : mMem} {y1 : Nat} {x : Nat} (ha : a ≠ 0) (hy1 : y1 ≠ 0) (hk : mK T a = 4) (hX : mX T = x) (hx : x ≠ 0) (hax : a < x) : p3_init (g + a) (g + y1) (mq g T) = some (mq g (kc3 T a y1 x)) := by
  have n0 : x ≠ a := by omega
  have n0r : a ≠ x := by omega
  have n1 : x + 1 ≠ a := by omega
  have n2 : x + 2 ≠ a := by omega
  have m1 : a ≠ x + 1 := by omega
  have m2 : a ≠ x + 2 := by omega
  simp [p3_init, kc3, q_newC, q_getI, q_getR, q_putI, q_putR, q_gd, q_aldI, q_aldR, q_astI, q_astR, q_lenA, k_nCx, k_sR, k_sI, n_nCx, n_sR, n_sI, r_nCx, r_sR, r_sI, x_nCx, x_sR, x_sI, ha, hk, hy1, hX, hx, n0, n0r, n1, n2, m1, m2, kc8_eq, k_kc8, x_kc8, kc6_eq, k_kc6, x_kc6, kc2_eq, k_kc2, x_kc2, kc4_eq, k_kc4, x_kc4, kc3s_eq, k_kc3s, x_kc3s, kc5s_eq, k_kc5s, x_kc5s]
theorem x_kc3 {T : mMem} {a : Nat} {y1 : Nat} {x : Nat} : mX (kc3 T a y1 x) = x + 3 := by
  simp [kc3, x_nCx, x_sR, x_sI, x_kc8, x_kc6, x_kc2, x_kc4, x_kc3s, x_kc5s]
theorem k_kc3 {T : mMem} {a : Nat} {y1 : Nat} {x o : Nat} (ho : o < x) : mK (kc3 T a y1 x) o = mK T o := by
  have e0 : ¬ o = x := by omega
  have f0 : o < x := by omega
  have e1 : ¬ o = x + 1 := by omega
  have f1 : o < x + 1 := by omega
  have e2 : ¬ o = x + 2 := by omega
  have f2 : o < x + 2 := by omega
  simp [kc3, k_nCx, k_sR, k_sI, k_kc8, k_kc6, k_kc2, k_kc4, k_kc3s, k_kc5s, ho, e0, f0, e1, f1, e2, f2]
def kc5 (T : mMem) (a : Nat) (y1 : Nat) (x : Nat) : mMem := (sR (kc5s T a 12 x) a 8 y1)
set_option maxHeartbeats 4000000 in
theorem kc5_eq {g a : Nat} {T : mMem} {y1 : Nat} {x : Nat} (ha : a ≠ 0) (hy1 : y1 ≠ 0) (hk : mK T a = 6) (hX : mX T = x) (hx : x ≠ 0) (hax : a < x) : p5_init (g + a) (g + y1) (mq g T) = some (mq g (kc5 T a y1 x)) := by
  have n0 : x ≠ a := by omega
  have n0r : a ≠ x := by omega
  have n1 : x + 1 ≠ a := by omega
  have n2 : x + 2 ≠ a := by omega
  have m1 : a ≠ x + 1 := by omega
  have m2 : a ≠ x + 2 := by omega
  simp [p5_init, kc5, q_newC, q_getI, q_getR, q_putI, q_putR, q_gd, q_aldI, q_aldR, q_astI, q_astR, q_lenA, k_nCx, k_sR, k_sI, n_nCx, n_sR, n_sI, r_nCx, r_sR, r_sI, x_nCx, x_sR, x_sI, ha, hk, hy1, hX, hx, n0, n0r, n1, n2, m1, m2, kc8_eq, k_kc8, x_kc8, kc6_eq, k_kc6, x_kc6, kc2_eq, k_kc2, x_kc2, kc4_eq, k_kc4, x_kc4, kc3s_eq, k_kc3s, x_kc3s, kc5s_eq, k_kc5s, x_kc5s, kc3_eq, k_kc3, x_kc3]
theorem x_kc5 {T : mMem} {a : Nat} {y1 : Nat} {x : Nat} : mX (kc5 T a y1 x) = x + 3 := by
  simp [kc5, x_nCx, x_sR, x_sI, x_kc8, x_kc6, x_kc2, x_kc4, x_kc3s, x_kc5s, x_kc3]
theorem k_kc5 {T : mMem} {a : Nat} {y1 : Nat} {x o : Nat} (ho : o < x) : mK (kc5 T a y1 x) o = mK T o := by
  have e0 : ¬ o = x := by omega
  have f0 : o < x := by omega
  have e1 : ¬ o = x + 1 := by omega
  have f1 : o < x + 1 := by omega
  have e2 : ¬ o = x + 2 := by omega
  have f2 : o < x + 2 := by omega
  simp [kc5, k_nCx, k_sR, k_sI, k_kc8, k_kc6, k_kc2, k_kc4, k_kc3s, k_kc5s, k_kc3, ho, e0, f0, e1, f1, e2, f2]
def kc1 (T : mMem) (a : Nat) (y1 : Nat) (y2 : Nat) (x : Nat) : mMem := (sR (sR (sR (kc2 (nCx T x 3 0) x (x + 1)) a 2 x) a 0 y1) a 1 y2)
set_option maxHeartbeats 4000000 in
theorem kc1_eq {g a : Nat} {T : mMem} {y1 : Nat} {y2 : Nat} {x : Nat} (ha : a ≠ 0) (hy1 : y1 ≠ 0) (hy2 : y2 ≠ 0) (hk : mK T a = 2) (hX : mX T = x) (hx : x ≠ 0) (hax : a < x) : p1_init (g + a) (g + y1) (g + y2) (mq g T) = some (mq g (kc1 T a y1 y2 x)) := by
  have n0 : x ≠ a := by omega
  have n0r : a ≠ x := by omega
  have n1 : x + 1 ≠ a := by omega
  have n2 : x + 2 ≠ a := by omega
  have n3 : x + 3 ≠ a := by omega
  have n4 : x + 4 ≠ a := by omega
  have n5 : x + 5 ≠ a := by omega
  have n6 : x + 6 ≠ a := by omega
  have n7 : x + 7 ≠ a := by omega
  have n8 : x + 8 ≠ a := by omega
  have n9 : x + 9 ≠ a := by omega
  have n10 : x + 10 ≠ a := by omega
  have n11 : x + 11 ≠ a := by omega
  have n12 : x + 12 ≠ a := by omega
  have n13 : x + 13 ≠ a := by omega
  have m1 : a ≠ x + 1 := by omega
  have m2 : a ≠ x + 2 := by omega
  have m3 : a ≠ x + 3 := by omega
  have m4 : a ≠ x + 4 := by omega
  have m5 : a ≠ x + 5 := by omega
  have m6 : a ≠ x + 6 := by omega
  have m7 : a ≠ x + 7 := by omega
  have m8 : a ≠ x + 8 := by omega
  have m9 : a ≠ x + 9 := by omega
  have m10 : a ≠ x + 10 := by omega
  have m11 : a ≠ x + 11 := by omega
  have m12 : a ≠ x + 12 := by omega
  have m13 : a ≠ x + 13 := by omega
  simp [p1_init, kc1, q_newC, q_getI, q_getR, q_putI, q_putR, q_gd, q_aldI, q_aldR, q_astI, q_astR, q_lenA, k_nCx, k_sR, k_sI, n_nCx, n_sR, n_sI, r_nCx, r_sR, r_sI, x_nCx, x_sR, x_sI, ha, hk, hy1, hy2, hX, hx, n0, n0r, n1, n2, n3, n4, n5, n6, n7, n8, n9, n10, n11, n12, n13, m1, m2, m3, m4, m5, m6, m7, m8, m9, m10, m11, m12, m13, kc8_eq, k_kc8, x_kc8, kc6_eq, k_kc6, x_kc6, kc2_eq, k_kc2, x_kc2, kc4_eq, k_kc4, x_kc4, kc3s_eq, k_kc3s, x_kc3s, kc5s_eq, k_kc5s, x_kc5s, kc3_eq, k_kc3, x_kc3, kc5_eq, k_kc5, x_kc5]
theorem x_kc1 {T : mMem} {a : Nat} {y1 : Nat} {y2 : Nat} {x : Nat} : mX (kc1 T a y1 y2 x) = x + 14 := by
  simp [kc1, x_nCx, x_sR, x_sI, x_kc8, x_kc6, x_kc2, x_kc4, x_kc3s, x_kc5s, x_kc3, x_kc5]
theorem k_kc1 {T : mMem} {a : Nat} {y1 : Nat} {y2 : Nat} {x o : Nat} (ho : o < x) : mK (kc1 T a y1 y2 x) o = mK T o := by
  have e0 : ¬ o = x := by omega
  have f0 : o < x := by omega
  have e1 : ¬ o = x + 1 := by omega
  have f1 : o < x + 1 := by omega
  have e2 : ¬ o = x + 2 := by omega
  have f2 : o < x + 2 := by omega
  have e3 : ¬ o = x + 3 := by omega
  have f3 : o < x + 3 := by omega
  have e4 : ¬ o = x + 4 := by omega
  have f4 : o < x + 4 := by omega
  have e5 : ¬ o = x + 5 := by omega
  have f5 : o < x + 5 := by omega
  have e6 : ¬ o = x + 6 := by omega
  have f6 : o < x + 6 := by omega
  have e7 : ¬ o = x + 7 := by omega
  have f7 : o < x + 7 := by omega
  have e8 : ¬ o = x + 8 := by omega
  have f8 : o < x + 8 := by omega
  have e9 : ¬ o = x + 9 := by omega
  have f9 : o < x + 9 := by omega
  have e10 : ¬ o = x + 10 := by omega
  have f10 : o < x + 10 := by omega
  have e11 : ¬ o = x + 11 := by omega
  have f11 : o < x + 11 := by omega
  have e12 : ¬ o = x + 12 := by omega
  have f12 : o < x + 12 := by omega
  have e13 : ¬ o = x + 13 := by omega
  have f13 : o < x + 13 := by omega
  simp [kc1, k_nCx, k_sR, k_sI, k_kc8, k_kc6, k_kc2, k_kc4, k_kc3s, k_kc5s, k_kc3, k_kc5, ho, e0, f0, e1, f1, e2, f2, e3, f3, e4, f4, e5, f5, e6, f6, e7, f7, e8, f8, e9, f9, e10, f10, e11, f11, e12, f12, e13, f13]
def kc0 (T : mMem) (a : Nat) (y1 : Nat) (y2 : Nat) (x : Nat) : mMem := (sR (sR (sI (sR (nCx (sR (nCx (sR (nCx (sR (nCx (sR (kc2 (nCx T x 3 0) x (x + 1)) a 2 x) (x + 14) 20 99) a 3 (x + 14)) (x + 15) 20 99) a 4 (x + 15)) (x + 16) 20 99) a 5 (x + 16)) (x + 17) 20 99) a 6 (x + 17)) a 7 0) a 0 y1) a 1 y2)
set_option maxHeartbeats 4000000 in
theorem kc0_eq {g a : Nat} {T : mMem} {y1 : Nat} {y2 : Nat} {x : Nat} (ha : a ≠ 0) (hy1 : y1 ≠ 0) (hy2 : y2 ≠ 0) (hk : mK T a = 1) (hX : mX T = x) (hx : x ≠ 0) (hax : a < x) : p0_init (g + a) (g + y1) (g + y2) (mq g T) = some (mq g (kc0 T a y1 y2 x)) := by
  have n0 : x ≠ a := by omega
  have n0r : a ≠ x := by omega
  have n1 : x + 1 ≠ a := by omega
  have n2 : x + 2 ≠ a := by omega
  have n3 : x + 3 ≠ a := by omega
  have n4 : x + 4 ≠ a := by omega
  have n5 : x + 5 ≠ a := by omega
  have n6 : x + 6 ≠ a := by omega
  have n7 : x + 7 ≠ a := by omega
  have n8 : x + 8 ≠ a := by omega
  have n9 : x + 9 ≠ a := by omega
  have n10 : x + 10 ≠ a := by omega
  have n11 : x + 11 ≠ a := by omega
  have n12 : x + 12 ≠ a := by omega
  have n13 : x + 13 ≠ a := by omega
  have n14 : x + 14 ≠ a := by omega
  have n15 : x + 15 ≠ a := by omega
  have n16 : x + 16 ≠ a := by omega
  have n17 : x + 17 ≠ a := by omega
  have m1 : a ≠ x + 1 := by omega
  have m2 : a ≠ x + 2 := by omega
  have m3 : a ≠ x + 3 := by omega
  have m4 : a ≠ x + 4 := by omega
  have m5 : a ≠ x + 5 := by omega
  have m6 : a ≠ x + 6 := by omega
  have m7 : a ≠ x + 7 := by omega
  have m8 : a ≠ x + 8 := by omega
  have m9 : a ≠ x + 9 := by omega
  have m10 : a ≠ x + 10 := by omega
  have m11 : a ≠ x + 11 := by omega
  have m12 : a ≠ x + 12 := by omega
  have m13 : a ≠ x + 13 := by omega
  have m14 : a ≠ x + 14 := by omega
  have m15 : a ≠ x + 15 := by omega
  have m16 : a ≠ x + 16 := by omega
  have m17 : a ≠ x + 17 := by omega
  simp [p0_init, kc0, q_newC, q_getI, q_getR, q_putI, q_putR, q_gd, q_aldI, q_aldR, q_astI, q_astR, q_lenA, k_nCx, k_sR, k_sI, n_nCx, n_sR, n_sI, r_nCx, r_sR, r_sI, x_nCx, x_sR, x_sI, ha, hk, hy1, hy2, hX, hx, n0, n0r, n1, n2, n3, n4, n5, n6, n7, n8, n9, n10, n11, n12, n13, n14, n15, n16, n17, m1, m2, m3, m4, m5, m6, m7, m8, m9, m10, m11, m12, m13, m14, m15, m16, m17, kc8_eq, k_kc8, x_kc8, kc6_eq, k_kc6, x_kc6, kc2_eq, k_kc2, x_kc2, kc4_eq, k_kc4, x_kc4, kc3s_eq, k_kc3s, x_kc3s, kc5s_eq, k_kc5s, x_kc5s, kc3_eq, k_kc3, x_kc3, kc5_eq, k_kc5, x_kc5, kc1_eq, k_kc1, x_kc1]
theorem x_kc0 {T : mMem} {a : Nat} {y1 : Nat} {y2 : Nat} {x : Nat} : mX (kc0 T a y1 y2 x) = x + 18 := by
  simp [kc0, x_nCx, x_sR, x_sI, x_kc8, x_kc6, x_kc2, x_kc4, x_kc3s, x_kc5s, x_kc3, x_kc5, x_kc1]
theorem k_kc0 {T : mMem} {a : Nat} {y1 : Nat} {y2 : Nat} {x o : Nat} (ho : o < x) : mK (kc0 T a y1 y2 x) o = mK T o := by
  have e0 : ¬ o = x := by omega
  have f0 : o < x := by omega
  have e1 : ¬ o = x + 1 := by omega
  have f1 : o < x + 1 := by omega
  have e2 : ¬ o = x + 2 := by omega
  have f2 : o < x + 2 := by omega
  have e3 : ¬ o = x + 3 := by omega
  have f3 : o < x + 3 := by omega
  have e4 : ¬ o = x + 4 := by omega
  have f4 : o < x + 4 := by omega
  have e5 : ¬ o = x + 5 := by omega
  have f5 : o < x + 5 := by omega
  have e6 : ¬ o = x + 6 := by omega
  have f6 : o < x + 6 := by omega
  have e7 : ¬ o = x + 7 := by omega
  have f7 : o < x + 7 := by omega
  have e8 : ¬ o = x + 8 := by omega
  have f8 : o < x + 8 := by omega
  have e9 : ¬ o = x + 9 := by omega
  have f9 : o < x + 9 := by omega
  have e10 : ¬ o = x + 10 := by omega
  have f10 : o < x + 10 := by omega
  have e11 : ¬ o = x + 11 := by omega
  have f11 : o < x + 11 := by omega
  have e12 : ¬ o = x + 12 := by omega
  have f12 : o < x + 12 := by omega
  have e13 : ¬ o = x + 13 := by omega
  have f13 : o < x + 13 := by omega
  have e14 : ¬ o = x + 14 := by omega
  have f14 : o < x + 14 := by omega
  have e15 : ¬ o = x + 15 := by omega
  have f15 : o < x + 15 := by omega
  have e16 : ¬ o = x + 16 := by omega
  have f16 : o < x + 16 := by omega
  have e17 : ¬ o = x + 17 := by omega
  have f17 : o < x + 17 := by omega
  simp [kc0, k_nCx, k_sR, k_sI, k_kc8, k_kc6, k_kc2, k_kc4, k_kc3s, k_kc5s, k_kc3, k_kc5, k_kc1, ho, e0, f0, e1, f1, e2, f2, e3, f3, e4, f4, e5, f5, e6, f6, e7, f7, e8, f8, e9, f9, e10, f10, e11, f11, e12, f12, e13, f13, e14, f14, e15, f15, e16, f16, e17, f17]
def kc7 (T : mMem) (a : Nat) (y1 : Nat) (x : Nat) : mMem := (sR (sI (sI (sR (nCx (sR (nCx (sR (nCx T x 20 8) a 1 x) (x + 1) 20 8) a 2 (x + 1)) (x + 2) 20 8) a 3 (x + 2)) a 4 0) a 5 0) a 0 y1)
set_option maxHeartbeats 4000000 in
theorem kc7_eq {g a : Nat} {T : mMem} {y1 : Nat} {x : Nat} (ha : a ≠ 0) (hy1 : y1 ≠ 0) (hk : mK T a = 8) (hX : mX T = x) (hx : x ≠ 0) (hax : a < x) : p7_init (g + a) (g + y1) (mq g T) = some (mq g (kc7 T a y1 x)) := by
  have n0 : x ≠ a := by omega
  have n0r : a ≠ x := by omega
  have n1 : x + 1 ≠ a := by omega
  have n2 : x + 2 ≠ a := by omega
  have m1 : a ≠ x + 1 := by omega
  have m2 : a ≠ x + 2 := by omega
  simp [p7_init, kc7, q_newC, q_getI, q_getR, q_putI, q_putR, q_gd, q_aldI, q_aldR, q_astI, q_astR, q_lenA, k_nCx, k_sR, k_sI, n_nCx, n_sR, n_sI, r_nCx, r_sR, r_sI, x_nCx, x_sR, x_sI, ha, hk, hy1, hX, hx, n0, n0r, n1, n2, m1, m2, kc8_eq, k_kc8, x_kc8, kc6_eq, k_kc6, x_kc6, kc2_eq, k_kc2, x_kc2, kc4_eq, k_kc4, x_kc4, kc3s_eq, k_kc3s, x_kc3s, kc5s_eq, k_kc5s, x_kc5s, kc3_eq, k_kc3, x_kc3, kc5_eq, k_kc5, x_kc5, kc1_eq, k_kc1, x_kc1, kc0_eq, k_kc0, x_kc0]
theorem x_kc7 {T : mMem} {a : Nat} {y1 : Nat} {x : Nat} : mX (kc7 T a y1 x) = x + 3 := by
  simp [kc7, x_nCx, x_sR, x_sI, x_kc8, x_kc6, x_kc2, x_kc4, x_kc3s, x_kc5s, x_kc3, x_kc5, x_kc1, x_kc0]
theorem k_kc7 {T : mMem} {a : Nat} {y1 : Nat} {x o : Nat} (ho : o < x) : mK (kc7 T a y1 x) o = mK T o := by
  have e0 : ¬ o = x := by omega
  have f0 : o < x := by omega
  have e1 : ¬ o = x + 1 := by omega
  have f1 : o < x + 1 := by omega
  have e2 : ¬ o = x + 2 := by omega
  have f2 : o < x + 2 := by omega
  simp [kc7, k_nCx, k_sR, k_sI, k_kc8, k_kc6, k_kc2, k_kc4, k_kc3s, k_kc5s, k_kc3, k_kc5, k_kc1, k_kc0, ho, e0, f0, e1, f1, e2, f2]
def kc10 (T : mMem) (a : Nat) (y1 : Nat) : mMem := (sR T a 0 y1)
set_option maxHeartbeats 4000000 in
theorem kc10_eq {g a : Nat} {T : mMem} {y1 : Nat} (ha : a ≠ 0) (hy1 : y1 ≠ 0) (hk : mK T a = 10) : p10_init (g + a) (g + y1) (mq g T) = some (mq g (kc10 T a y1)) := by
  simp [p10_init, kc10, q_newC, q_getI, q_getR, q_putI, q_putR, q_gd, q_aldI, q_aldR, q_astI, q_astR, q_lenA, k_nCx, k_sR, k_sI, n_nCx, n_sR, n_sI, r_nCx, r_sR, r_sI, x_nCx, x_sR, x_sI, ha, hk, hy1, kc8_eq, k_kc8, x_kc8, kc6_eq, k_kc6, x_kc6, kc2_eq, k_kc2, x_kc2, kc4_eq, k_kc4, x_kc4, kc3s_eq, k_kc3s, x_kc3s, kc5s_eq, k_kc5s, x_kc5s, kc3_eq, k_kc3, x_kc3, kc5_eq, k_kc5, x_kc5, kc1_eq, k_kc1, x_kc1, kc0_eq, k_kc0, x_kc0, kc7_eq, k_kc7, x_kc7]
theorem x_kc10 {T : mMem} {a : Nat} {y1 : Nat} : mX (kc10 T a y1) = mX T := by
  simp [kc10, x_nCx, x_sR, x_sI]
theorem k_kc10 {T : mMem} {a : Nat} {y1 : Nat} {o : Nat} : mK (kc10 T a y1) o = mK T o := by
  simp [kc10, k_nCx, k_sR, k_sI]
def kc11 (T : mMem) (a : Nat) (x : Nat) : mMem := (sR (kc2 (nCx (sR (kc2 (nCx (sR (kc2 (nCx (sR (kc2 (nCx (sR (kc2 (nCx (sR (kc2 (nCx (sR (kc2 (nCx (sR (kc2 (nCx (sR (kc2 (nCx (sR (kc2 (nCx (sR (kc2 (nCx (sR (kc2 (nCx (sR (kc10 (nCx (sR (kc7 (nCx (sR (kc0 (nCx (sR (kc1 (nCx (sI (sR (kc4 (nCx (sR (kc2 (nCx (sI (sR (nCx (sR (kc5 (nCx (sR (kc3 (nCx (sR (kc4 (nCx (sR (kc4 (nCx (sR (kc2 (nCx (sR (kc2 (nCx (sI (sI (sR (nCx T x 20 400) a 0 x) a 1 0) a 2 (-1)) (x + 1) 3 0) (x + 1) (x + 2)) a 3 (x + 1)) (x + 15) 3 0) (x + 15) (x + 16)) a 4 (x + 15)) (x + 29) 5 0) (x + 29) (x + 30)) a 5 (x + 29)) (x + 38) 5 0) (x + 38) (x + 39)) a 6 (x + 38)) (x + 47) 4 0) (x + 47) (x + 15) (x + 48)) a 7 (x + 47)) (x + 51) 6 0) (x + 51) (x + 38) (x + 52)) a 8 (x + 51)) (x + 55) 23 12) a 9 (x + 55)) a 10 0) (x + 56) 3 0) (x + 56) (x + 57)) a 11 (x + 56)) (x + 70) 5 0) (x + 70) (x + 71)) a 12 (x + 70)) a 13 0) (x + 79) 2 0) (x + 79) (x + 1) (x + 29) (x + 80)) a 14 (x + 79)) (x + 94) 1 0) (x + 94) (x + 1) (x + 29) (x + 95)) a 15 (x + 94)) (x + 113) 8 0) (x + 113) (x + 1) (x + 114)) a 16 (x + 113)) (x + 117) 10 0) (x + 117) (x + 1)) a 17 (x + 117)) (x + 118) 3 0) (x + 118) (x + 119)) (x + 55) 0 (x + 118)) (x + 132) 3 0) (x + 132) (x + 133)) (x + 55) 1 (x + 132)) (x + 146) 3 0) (x + 146) (x + 147)) (x + 55) 2 (x + 146)) (x + 160) 3 0) (x + 160) (x + 161)) (x + 55) 3 (x + 160)) (x + 174) 3 0) (x + 174) (x + 175)) (x + 55) 4 (x + 174)) (x + 188) 3 0) (x + 188) (x + 189)) (x + 55) 5 (x + 188)) (x + 202) 3 0) (x + 202) (x + 203)) (x + 55) 6 (x + 202)) (x + 216) 3 0) (x + 216) (x + 217)) (x + 55) 7 (x + 216)) (x + 230) 3 0) (x + 230) (x + 231)) (x + 55) 8 (x + 230)) (x + 244) 3 0) (x + 244) (x + 245)) (x + 55) 9 (x + 244)) (x + 258) 3 0) (x + 258) (x + 259)) (x + 55) 10 (x + 258)) (x + 272) 3 0) (x + 272) (x + 273)) (x + 55) 11 (x + 272))
def kc12 (T : mMem) (a : Nat) (x : Nat) : mMem := (sI (sI (sI (sI (sR (nCx (sR (nCx (sR (nCx (sR (nCx (sR (nCx (sR (nCx (sR (nCx (sR (nCx (sR (nCx (sR (nCx (sI (sR (nCx (sR (nCx (sR (nCx (sR (nCx (sR (nCx (sR (nCx T x 20 2143) a 1 x) (x + 1) 20 1294) a 2 (x + 1)) (x + 2) 20 1294) a 3 (x + 2)) (x + 3) 20 445) a 4 (x + 3)) (x + 4) 20 5340) a 5 (x + 4)) (x + 5) 21 400) a 8 (x + 5)) a 14 (-1)) (x + 6) 20 5) a 15 (x + 6)) (x + 7) 20 400) a 17 (x + 7)) (x + 8) 20 99) a 18 (x + 8)) (x + 9) 20 99) a 19 (x + 9)) (x + 10) 20 99) a 20 (x + 10)) (x + 11) 20 99) a 22 (x + 11)) (x + 12) 20 2304) a 23 (x + 12)) (x + 13) 20 8) a 24 (x + 13)) (x + 14) 20 8) a 25 (x + 14)) (x + 15) 22 4) a 26 (x + 15)) x 4 90) x 5 5) x 6 1) x 8 1)
set_option maxHeartbeats 4000000 in
theorem kc12_eq {g a : Nat} {T : mMem} {x : Nat} (ha : a ≠ 0) (hk : mK T a = 12) (hX : mX T = x) (hx : x ≠ 0) (hax : a < x) : p12_init (g + a) (mq g T) = some (mq g (kc12 T a x)) := by
  have n0 : x ≠ a := by omega
  have n0r : a ≠ x := by omega
  have n1 : x + 1 ≠ a := by omega
  have n2 : x + 2 ≠ a := by omega
  have n3 : x + 3 ≠ a := by omega
  have n4 : x + 4 ≠ a := by omega
  have n5 : x + 5 ≠ a := by omega
  have n6 : x + 6 ≠ a := by omega
  have n7 : x + 7 ≠ a := by omega
  have n8 : x + 8 ≠ a := by omega
  have n9 : x + 9 ≠ a := by omega
  have n10 : x + 10 ≠ a := by omega
  have n11 : x + 11 ≠ a := by omega
  have n12 : x + 12 ≠ a := by omega
  have n13 : x + 13 ≠ a := by omega
  have n14 : x + 14 ≠ a := by omega
  have n15 : x + 15 ≠ a := by omega
  have m1 : a ≠ x + 1 := by omega
  have m2 : a ≠ x + 2 := by omega
  have m3 : a ≠ x + 3 := by omega
  have m4 : a ≠ x + 4 := by omega
  have m5 : a ≠ x + 5 := by omega
  have m6 : a ≠ x + 6 := by omega
  have m7 : a ≠ x + 7 := by omega
  have m8 : a ≠ x + 8 := by omega
  have m9 : a ≠ x + 9 := by omega
  have m10 : a ≠ x + 10 := by omega
  have m11 : a ≠ x + 11 := by omega
  have m12 : a ≠ x + 12 := by omega
  have m13 : a ≠ x + 13 := by omega
  have m14 : a ≠ x + 14 := by omega
  have m15 : a ≠ x + 15 := by omega
  simp [p12_init, kc12, q_newC, q_getI, q_getR, q_putI, q_putR, q_gd, q_aldI, q_aldR, q_astI, q_astR, q_lenA, k_nCx, k_sR, k_sI, n_nCx, n_sR, n_sI, r_nCx, r_sR, r_sI, x_nCx, x_sR, x_sI, ha, hk, hX, hx, n0, n0r, n1, n2, n3, n4, n5, n6, n7, n8, n9, n10, n11, n12, n13, n14, n15, m1, m2, m3, m4, m5, m6, m7, m8, m9, m10, m11, m12, m13, m14, m15, kc8_eq, k_kc8, x_kc8, kc6_eq, k_kc6, x_kc6, kc2_eq, k_kc2, x_kc2, kc4_eq, k_kc4, x_kc4, kc3s_eq, k_kc3s, x_kc3s, kc5s_eq, k_kc5s, x_kc5s, kc3_eq, k_kc3, x_kc3, kc5_eq, k_kc5, x_kc5, kc1_eq, k_kc1, x_kc1, kc0_eq, k_kc0, x_kc0, kc7_eq, k_kc7, x_kc7, kc10_eq, k_kc10, x_kc10]
theorem x_kc12 {T : mMem} {a : Nat} {x : Nat} : mX (kc12 T a x) = x + 16 := by
  simp [kc12, x_nCx, x_sR, x_sI, x_kc8, x_kc6, x_kc2, x_kc4, x_kc3s, x_kc5s, x_kc3, x_kc5, x_kc1, x_kc0, x_kc7, x_kc10]
theorem k_kc12 {T : mMem} {a : Nat} {x o : Nat} (ho : o < x) : mK (kc12 T a x) o = mK T o := by
  have e0 : ¬ o = x := by omega
  have f0 : o < x := by omega
  have e1 : ¬ o = x + 1 := by omega
  have f1 : o < x + 1 := by omega
  have e2 : ¬ o = x + 2 := by omega
  have f2 : o < x + 2 := by omega
  have e3 : ¬ o = x + 3 := by omega
  have f3 : o < x + 3 := by omega
  have e4 : ¬ o = x + 4 := by omega
  have f4 : o < x + 4 := by omega
  have e5 : ¬ o = x + 5 := by omega
  have f5 : o < x + 5 := by omega
  have e6 : ¬ o = x + 6 := by omega
  have f6 : o < x + 6 := by omega
  have e7 : ¬ o = x + 7 := by omega
  have f7 : o < x + 7 := by omega
  have e8 : ¬ o = x + 8 := by omega
  have f8 : o < x + 8 := by omega
  have e9 : ¬ o = x + 9 := by omega
  have f9 : o < x + 9 := by omega
  have e10 : ¬ o = x + 10 := by omega
  have f10 : o < x + 10 := by omega
  have e11 : ¬ o = x + 11 := by omega
  have f11 : o < x + 11 := by omega
  have e12 : ¬ o = x + 12 := by omega
  have f12 : o < x + 12 := by omega
  have e13 : ¬ o = x + 13 := by omega
  have f13 : o < x + 13 := by omega
  have e14 : ¬ o = x + 14 := by omega
  have f14 : o < x + 14 := by omega
  have e15 : ¬ o = x + 15 := by omega
  have f15 : o < x + 15 := by omega
  simp [kc12, k_nCx, k_sR, k_sI, k_kc8, k_kc6, k_kc2, k_kc4, k_kc3s, k_kc5s, k_kc3, k_kc5, k_kc1, k_kc0, k_kc7, k_kc10, ho, e0, f0, e1, f1, e2, f2, e3, f3, e4, f4, e5, f5, e6, f6, e7, f7, e8, f8, e9, f9, e10, f10, e11, f11, e12, f12, e13, f13, e14, f14, e15, f15]
