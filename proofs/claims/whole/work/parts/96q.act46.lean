section
variable {g : Nat} {s s0 : tS} {l : tL} {r : Nat → Nat} {n p b q e k N : Nat} {u : Nat → Nat} {M : mMem}
/-! the reader: object 48 -/
theorem k_48 : lK 48 = 4 := by decide +kernel
theorem k_49 : lK 49 = 20 := by decide +kernel
theorem n_49 : lNn 49 = 400 := by decide +kernel
theorem k_50 : lK 50 = 20 := by decide +kernel
theorem n_50 : lNn 50 = 400 := by decide +kernel
theorem k_51 : lK 51 = 20 := by decide +kernel
theorem n_51 : lNn 51 = 400 := by decide +kernel
theorem rF_gd {β : Type} {T : Option β} : gd (mm g s l r) (ob g 48) 4 T = T := mm_gd k_48
theorem rF_I {k : Nat} : getI (mm g s l r) (ob g 48) 4 k = some (s 48 k) := mm_getI k_48
theorem rF_P {k : Nat} {v : Int32} : putI (mm g s l r) (ob g 48) 4 k v = some (mm g (up2 s 48 k v) l r) := mm_putI k_48
theorem rF_R0 : getR (mm g s l r) (ob g 48) 4 0 = some (ob g 49) := mm_getR k_48 (by decide +kernel) (by decide)
theorem rF_R1 : getR (mm g s l r) (ob g 48) 4 1 = some (ob g 50) := mm_getR k_48 (by decide +kernel) (by decide)
theorem rF_R2 : getR (mm g s l r) (ob g 48) 4 2 = some (ob g 51) := mm_getR k_48 (by decide +kernel) (by decide)
theorem rF_lt : lenA (mm g s l r) (ob g 49) = some 400 := by rw [mm_lenA (by rw [k_49]; decide), n_49]; rfl
theorem rF_lb : lenA (mm g s l r) (ob g 50) = some 400 := by rw [mm_lenA (by rw [k_50]; decide), n_50]; rfl
theorem rF_ln : lenA (mm g s l r) (ob g 51) = some 400 := by rw [mm_lenA (by rw [k_51]; decide), n_51]; rfl
theorem rF_at {k : Nat} (hk : k < 400) : aldI (mm g s l r) (ob g 49) 20 (Int32.ofNat k) = some (s 49 k) := mm_aldI k_49 n_49 hk (by decide)
theorem rF_ab {k : Nat} (hk : k < 400) : aldI (mm g s l r) (ob g 50) 20 (Int32.ofNat k) = some (s 50 k) := mm_aldI k_50 n_50 hk (by decide)
theorem rF_an {k : Nat} (hk : k < 400) : aldI (mm g s l r) (ob g 51) 20 (Int32.ofNat k) = some (s 51 k) := mm_aldI k_51 n_51 hk (by decide)
theorem rF_st {k : Nat} {v : Int32} (hk : k < 400) : astI (mm g s l r) (ob g 49) (Int32.ofNat k) v = some (mm g (up2 s 49 k v) l r) := mm_astI k_49 n_49 hk (by decide)
theorem rF_sb {k : Nat} {v : Int32} (hk : k < 400) : astI (mm g s l r) (ob g 50) (Int32.ofNat k) v = some (mm g (up2 s 50 k v) l r) := mm_astI k_50 n_50 hk (by decide)
theorem rF_sn {k : Nat} {v : Int32} (hk : k < 400) : astI (mm g s l r) (ob g 51) (Int32.ofNat k) v = some (mm g (up2 s 51 k v) l r) := mm_astI k_51 n_51 hk (by decide)
theorem rF_end {i : Nat} (h : CT s n u) (h5 : s 48 5 = Int32.ofNat n) (hi : i < n) : p3_endOfThing (ob g 48) (ob g 1) (Int32.ofNat i) (mm g s l r) = some (Int32.ofNat (enX u n i)) := by
  have hn := h.1
  obtain ⟨v1, v2⟩ := h.2 i hi
  rw [p3_endOfThing, rF_gd]
  refine (rU_lp (f := fun j => (isL (u i) && isL (u j)) || (isD (u i) && isD (u j))) (n := n) (fun m x => p3_endOfThing_L2 (mm g s l r) m (ob g 48) (ob g 1) (Int32.ofNat i) (Int32.ofNat x)) (fun x => some (Int32.ofNat x)) 0 (fun m x _ hx hf => ?_) (fun m x _ hx hf => ?_) gF i (Nat.zero_le _) (by omega) (Nat.lt_of_lt_of_le (gF_gt (n := n) (by omega)) (Nat.le_add_right _ _))).trans ?_
  · obtain ⟨u1, u2⟩ := h.2 x hx
    have l4 : (Int32.ofNat x < 400) = True := eq_true ((i_lt (b := 400) (by omega) (by decide)).mpr (by omega))
    have hf' : ((isL (u i) && isL (u x)) || (isD (u i) && isD (u x))) = true := hf
    cases a1 : isL (u i) with
    | true =>
      have a2 := isLD a1
      rw [a1, a2, Bool.true_and, Bool.false_and, Bool.or_false] at hf'
      simp only [p3_endOfThing_L2, rF_I, h5, obs, ltNN (show x < 2147483648 by omega) (show n < 2147483648 by omega), hx, if_true, t1_len, l4, t1_ald (show i < 400 by omega), v1, c_isL v2, a1, ib_t, one_z, if_false, t1_ald (show x < 400 by omega), u1, c_isL u2, hf', p3_endOfThing_J52, p3_endOfThing_J57, i_succ]
    | false =>
      rw [a1, Bool.false_and, Bool.false_or, Bool.and_eq_true] at hf'
      simp only [p3_endOfThing_L2, rF_I, h5, obs, ltNN (show x < 2147483648 by omega) (show n < 2147483648 by omega), hx, if_true, t1_len, l4, t1_ald (show i < 400 by omega), v1, c_isL v2, a1, ib_f, ib_t, one_z, if_false, t1_ald (show x < 400 by omega), u1, c_isD v2, c_isD u2, hf'.1, hf'.2, p3_endOfThing_J34, p3_endOfThing_J52, p3_endOfThing_J57, i_succ]
  · by_cases hx' : x < n
    · obtain ⟨u1, u2⟩ := h.2 x hx'
      have l4 : (Int32.ofNat x < 400) = True := eq_true ((i_lt (b := 400) (by omega) (by decide)).mpr (by omega))
      have hf' : ((isL (u i) && isL (u x)) || (isD (u i) && isD (u x))) = false := hf hx'
      rw [Bool.or_eq_false_iff] at hf'
      obtain ⟨f1, f2⟩ := hf'
      cases a1 : isL (u i) with
      | true =>
        have a2 := isLD a1
        rw [a1, Bool.true_and] at f1
        simp only [p3_endOfThing_L2, rF_I, h5, obs, ltNN (show x < 2147483648 by omega) (show n < 2147483648 by omega), hx', if_true, t1_len, l4, t1_ald (show i < 400 by omega), v1, c_isL v2, a1, ib_t, ib_f, one_z, if_false, t1_ald (show x < 400 by omega), u1, c_isL u2, f1, c_isD v2, a2, p3_endOfThing_J34, p3_endOfThing_J56, p3_endOfThing_J57]
      | false =>
        cases a2 : isD (u i) with
        | true =>
          rw [a2, Bool.true_and] at f2
          simp only [p3_endOfThing_L2, rF_I, h5, obs, ltNN (show x < 2147483648 by omega) (show n < 2147483648 by omega), hx', if_true, t1_len, l4, t1_ald (show i < 400 by omega), v1, c_isL v2, a1, ib_t, ib_f, one_z, if_false, t1_ald (show x < 400 by omega), u1, c_isD u2, f2, c_isD v2, a2, p3_endOfThing_J34, p3_endOfThing_J56, p3_endOfThing_J57]
        | false =>
          simp only [p3_endOfThing_L2, rF_I, h5, obs, ltNN (show x < 2147483648 by omega) (show n < 2147483648 by omega), hx', if_true, t1_len, l4, t1_ald (show i < 400 by omega), v1, c_isL v2, a1, ib_t, ib_f, c_isD v2, a2, p3_endOfThing_J34, p3_endOfThing_J56, p3_endOfThing_J57]
    · have e : x = n := by omega
      rw [e]
      simp only [p3_endOfThing_L2, rF_I, h5, obs, ltk_n, if_false, p3_endOfThing_J72]
  · show some (Int32.ofNat (rU (fun j => (isL (u i) && isL (u j)) || (isD (u i) && isD (u j))) n i)) = _
    congr 2
    unfold enX
    cases a1 : isL (u i) with
    | true =>
      have a2 := isLD a1
      rw [if_pos rfl]
      unfold eL
      congr 1
      funext j
      rw [a2, Bool.true_and, Bool.false_and, Bool.or_false]
    | false =>
      rw [if_neg (by decide)]
      cases a2 : isD (u i) with
      | true =>
        rw [if_pos rfl]
        unfold eD
        congr 1
      | false =>
        rw [if_neg (by decide)]
        refine rU_f hi ?_
        rfl
theorem rF_add {i : Nat} (h : CT s n u) (h4 : s 48 4 = Int32.ofNat k) (hi : i < n) (hk : k < 400) : ∃ s', p3_addThing (ob g 48) (ob g 1) (Int32.ofNat i) (Int32.ofNat (enT u n i)) (mm g s l r) = some (mm g s' l r) ∧ s' 49 k = Int32.ofNat (th u n i) ∧ s' 50 k = Int32.ofNat i ∧ s' 51 k = Int32.ofNat (nu u n i) ∧ s' 48 4 = Int32.ofNat (k + 1) ∧ ∀ o j, ¬ ((o = 49 ∨ o = 50 ∨ o = 51) ∧ j = k) → ¬ (o = 48 ∧ j = 4) → s' o j = s o j := by
  have hn := h.1
  obtain ⟨v1, v2⟩ := h.2 i hi
  have het := enT_gt (u := u) hi
  have c0 : (Int32.ofNat k < 0) = False := eq_false (i_nlt0 (by omega))
  have c4 : (Int32.ofNat k < 400) = True := eq_true ((i_lt (b := 400) (by omega) (by decide)).mpr hk)
  have a4 : up2 s 50 k (Int32.ofNat i) 48 4 = Int32.ofNat k := by rw [up2_ne (by omega)]; exact h4
  have b4 : up2 (up2 s 50 k (Int32.ofNat i)) 51 k 0 48 4 = Int32.ofNat k := by rw [up2_ne (by omega)]; exact a4
  have b1 : up2 (up2 s 50 k (Int32.ofNat i)) 51 k 0 1 i = Int32.ofNat (u i) := by rw [up2_ne (by omega), up2_ne (by omega)]; exact v1
  have hT : CT (up2 (up2 s 50 k (Int32.ofNat i)) 51 k 0) n u := ⟨hn, fun j hj => by rw [up2_ne (by omega), up2_ne (by omega)]; exact h.2 j hj⟩
  have c4' : ∀ v, up2 (up2 (up2 s 50 k (Int32.ofNat i)) 51 k 0) 49 k v 48 4 = Int32.ofNat k := fun v => by rw [up2_ne (by omega)]; exact b4
  cases a1 : isL (u i) with
  | true =>
    have ee : enT u n i = eL u n i := by unfold enT; rw [a1, if_pos rfl]
    have et : th u n i = fw (wdB u i (eL u n i)) 27 0 := by unfold th; rw [if_pos hi, a1, if_pos rfl]
    have en : nu u n i = 0 := by
      unfold nu nuB
      rw [isLD a1, Bool.false_and, Bool.and_false]
      rfl
    have ew := c_wordOf (g := g) (l := l) (r := r) (q := i) (e := eL u n i) hT (by omega) (by omega)
    refine ⟨up2 (up2 (up2 (up2 s 50 k (Int32.ofNat i)) 51 k 0) 49 k (Int32.ofNat (th u n i))) 48 4 (Int32.ofNat (k + 1)), ?_, ?_, ?_, ?_, up2_eq, fun o j ho hr => by rw [up2_ne hr, up2_ne (by omega), up2_ne (by omega), up2_ne (by omega)]⟩
    · rw [ee, et]
      simp only [p3_addThing, rF_gd, rF_I, h4, obs, c0, if_false, rF_R0, rF_lt, c4, if_true, rF_R1, rF_sb hk, rF_R2, a4, rF_sn hk, t1_ald (show i < 400 by omega), b1, c_isL v2, a1, ib_t, one_z, b4, ew, rF_st hk, p3_addThing_J151, c4', rF_P, i_succ]
    · rw [up2_ne (by omega), up2_eq]
    · rw [up2_ne (by omega), up2_ne (by omega), up2_ne (by omega), up2_eq]
    · rw [up2_ne (by omega), up2_ne (by omega), up2_eq, en]
      rfl
  | false =>
    cases a2 : isD (u i) with
    | false =>
      have et : th u n i = if sgB (u i) = true then u i else 0 := by unfold th; rw [if_pos hi, a1, if_neg (by decide), a2, if_neg (by decide)]
      have en : nu u n i = 0 := by
        unfold nu nuB
        rw [a2, Bool.false_and, Bool.and_false]
        rfl
      refine ⟨up2 (up2 (up2 (up2 s 50 k (Int32.ofNat i)) 51 k 0) 49 k (Int32.ofNat (th u n i))) 48 4 (Int32.ofNat (k + 1)), ?_, ?_, ?_, ?_, up2_eq, fun o j ho hr => by rw [up2_ne hr, up2_ne (by omega), up2_ne (by omega), up2_ne (by omega)]⟩
      · rw [et]
        cases a3 : sgB (u i) with
        | true => simp only [p3_addThing, rF_gd, rF_I, h4, obs, c0, if_false, rF_R0, rF_lt, c4, if_true, rF_R1, rF_sb hk, rF_R2, a4, rF_sn hk, t1_ald (show i < 400 by omega), b1, c_isL v2, a1, ib_f, ib_t, one_z, b4, c_isD v2, a2, c_isSg v2, a3, p3_addThing_J150, rF_st hk, p3_addThing_J151, c4', rF_P, i_succ]
        | false =>
          simp only [p3_addThing, rF_gd, rF_I, h4, obs, c0, if_false, rF_R0, rF_lt, c4, if_true, rF_R1, rF_sb hk, rF_R2, a4, rF_sn hk, t1_ald (show i < 400 by omega), b1, c_isL v2, a1, ib_f, b4, c_isD v2, a2, c_isSg v2, a3, p3_addThing_J150, rF_st hk, p3_addThing_J151, c4', rF_P, i_succ, Bool.false_eq_true]
          rfl
      · rw [up2_ne (by omega), up2_eq]
      · rw [up2_ne (by omega), up2_ne (by omega), up2_ne (by omega), up2_eq]
      · rw [up2_ne (by omega), up2_ne (by omega), up2_eq, en]
        rfl
    | true =>
      have ee : enT u n i = eD u n i := by unfold enT; rw [a1, if_neg (by decide), a2, if_pos rfl]
      have et : th u n i = if eD u n i ≤ i + 3 then 2 else 0 := by unfold th; rw [if_pos hi, a1, if_neg (by decide), a2, if_pos rfl]
      have hge : i ≤ eD u n i := by omega
      have l3 : ((3 : Int32) < Int32.ofNat (eD u n i) - Int32.ofNat i) = ¬ (eD u n i ≤ i + 3) := by
        rw [i_subN hge]
        exact propext ((i_lt (a := 3) (by decide) (by omega)).trans (by omega))
      have d4 : ∀ v w, up2 (up2 (up2 (up2 s 50 k (Int32.ofNat i)) 51 k 0) 49 k v) 51 k w 48 4 = Int32.ofNat k := fun v w => by rw [up2_ne (by omega)]; exact c4' v
      refine ⟨up2 (up2 (up2 (up2 (up2 s 50 k (Int32.ofNat i)) 51 k 0) 49 k (Int32.ofNat (th u n i))) 51 k (Int32.ofNat (nu u n i))) 48 4 (Int32.ofNat (k + 1)), ?_, ?_, ?_, ?_, up2_eq, fun o j ho hr => by rw [up2_ne hr, up2_ne (by omega), up2_ne (by omega), up2_ne (by omega), up2_ne (by omega)]⟩
      · by_cases c3 : eD u n i ≤ i + 3
        · have l3' : ((3 : Int32) < Int32.ofNat (eD u n i) - Int32.ofNat i) = False := by rw [l3]; exact eq_false (fun hh => hh c3)
          have en : nu u n i = vl u i (eD u n i - i) := by
            unfold nu nuB
            rw [decide_eq_true hi, a2, decide_eq_true c3]
            rfl
          have hT2 : CT (up2 (up2 (up2 s 50 k (Int32.ofNat i)) 51 k 0) 49 k 2) n u := ⟨hn, fun j hj => by rw [up2_ne (by omega)]; exact hT.2 j hj⟩
          have ew := c_numberOf (g := g) (l := l) (r := r) (q := i) (e := eD u n i) hT2 hge (by omega) (fun j h1 h2 => rU_in (f := fun j => isD (u j)) (n := n) (p := i) h1 h2)
          rw [ee, et, if_pos c3, en]
          show _ = some (mm g (up2 (up2 (up2 (up2 (up2 s 50 k (Int32.ofNat i)) 51 k 0) 49 k 2) 51 k (Int32.ofNat (vl u i (eD u n i - i)))) 48 4 (Int32.ofNat (k + 1))) l r)
          simp only [p3_addThing, rF_gd, rF_I, h4, obs, c0, if_false, rF_R0, rF_lt, c4, if_true, rF_R1, rF_sb hk, rF_R2, a4, rF_sn hk, t1_ald (show i < 400 by omega), b1, c_isL v2, a1, ib_f, ib_t, one_z, b4, c_isD v2, a2, l3', p3_addThing_J96, rF_st hk, c4', ew, p3_addThing_J122, p3_addThing_J151, d4, rF_P, i_succ]
        · have l3' : ((3 : Int32) < Int32.ofNat (eD u n i) - Int32.ofNat i) = True := by rw [l3]; exact eq_true c3
          have en : nu u n i = 0 := by
            unfold nu nuB
            rw [decide_eq_false c3, Bool.and_false, Bool.and_false]
            rfl
          rw [ee, et, if_neg c3, en]
          show _ = some (mm g (up2 (up2 (up2 (up2 (up2 s 50 k (Int32.ofNat i)) 51 k 0) 49 k 0) 51 k 0) 48 4 (Int32.ofNat (k + 1))) l r)
          simp only [p3_addThing, rF_gd, rF_I, h4, obs, c0, if_false, rF_R0, rF_lt, c4, if_true, rF_R1, rF_sb hk, rF_R2, a4, rF_sn hk, t1_ald (show i < 400 by omega), b1, c_isL v2, a1, ib_f, ib_t, one_z, b4, c_isD v2, a2, l3', p3_addThing_J96, rF_st hk, c4', p3_addThing_J122, p3_addThing_J151, d4, rF_P, i_succ]
      · rw [up2_ne (by omega), up2_ne (by omega), up2_eq]
      · rw [up2_ne (by omega), up2_ne (by omega), up2_ne (by omega), up2_ne (by omega), up2_eq]
      · rw [up2_ne (by omega), up2_eq]
def RDrF (s : tS) (n : Nat) (u : Nat → Nat) (N : Nat) : Prop := N ≤ n ∧ tk u n N = n ∧ s 48 4 = Int32.ofNat N ∧ s 48 5 = Int32.ofNat n ∧ ∀ k, k < N → tk u n k < n ∧ s 49 k = Int32.ofNat (th u n (tk u n k)) ∧ s 50 k = Int32.ofNat (tk u n k) ∧ s 51 k = Int32.ofNat (nu u n (tk u n k))
theorem rF_parts : ∀ m (s : tS) i k, CT s n u → i ≤ n → n < m + i → k ≤ i → sk u n i = tk u n k → s 48 4 = Int32.ofNat k → s 48 5 = Int32.ofNat n → (∀ j, j < k → tk u n j < n ∧ s 49 j = Int32.ofNat (th u n (tk u n j)) ∧ s 50 j = Int32.ofNat (tk u n j) ∧ s 51 j = Int32.ofNat (nu u n (tk u n j))) → ∃ s' N, p3_partText_L15 m (ob g 48) (ob g 1) (Int32.ofNat i) (mm g s l r) = some (mm g s' l r) ∧ RDrF s' n u N ∧ ∀ o j, o ≠ 49 → o ≠ 50 → o ≠ 51 → ¬ (o = 48 ∧ j = 4) → s' o j = s o j := by
  intro m
  induction m with
  | zero => intro s i k h hi hf; omega
  | succ m ih =>
    intro s i k h hi hf hk hsk h4 h5 he
    have hn := h.1
    by_cases c : i < n
    · obtain ⟨v1, v2⟩ := h.2 i c
      have een := rF_end (g := g) (l := l) (r := r) h h5 c
      have emx := enX_max (u := u) c hn
      have het := enT_gt (u := u) c
      have e32 : (Int32.ofNat (u i) = 32) = (u i = 32) := propext (i_eq (b := 32) (by omega) (by decide))
      by_cases c32 : u i = 32
      · have hB : isB (u i) = true := decide_eq_true c32
        have c32t : (u i = 32) = True := eq_true c32
        have hE : enT u n i = i + 1 := by
          unfold enT
          rw [show isL (u i) = false by rw [c32]; rfl, show isD (u i) = false by rw [c32]; rfl]
          rfl
        have hs1 : sk u n (i + 1) = tk u n k := by rw [← hsk]; exact (rU_t c hB).symm
        obtain ⟨s', N, e1, R1, f1⟩ := ih s (i + 1) k h (by omega) (by omega) (by omega) hs1 h4 h5 he
        refine ⟨s', N, ?_, R1, f1⟩
        rw [← e1]
        simp only [p3_partText_L15, rF_I, h5, obs, ltNN (show i < 2147483648 by omega) (show n < 2147483648 by omega), c, if_true, een, t1_ald (show i < 400 by omega), v1, e32, c32t, if_true, p3_partText_J56, i_succ, emx, hE]
      · have hB : isB (u i) = false := decide_eq_false c32
        have htk : tk u n k = i := by rw [← hsk]; exact rU_f c hB
        obtain ⟨s1, e1, w1, w2, w3, w4, fr⟩ := rF_add (g := g) (l := l) (r := r) h h4 c (show k < 400 by omega)
        have h' : CT s1 n u := ⟨hn, fun j hj => by rw [fr 1 j (by omega) (by omega)]; exact h.2 j hj⟩
        have hs1 : sk u n (enT u n i) = tk u n (k + 1) := by rw [tk_s (by omega), htk]
        obtain ⟨s', N, e2, R1, f1⟩ := ih s1 (enT u n i) (k + 1) h' het.2 (by omega) (by omega) hs1 w4 (by rw [fr 48 5 (by omega) (by omega)]; exact h5) (fun j hj => by
          by_cases cj : j = k
          · rw [cj, htk]
            exact ⟨c, w1, w2, w3⟩
          · rw [fr 49 j (by omega) (by omega), fr 50 j (by omega) (by omega), fr 51 j (by omega) (by omega)]
            exact he j (by omega))
        refine ⟨s', N, ?_, R1, fun o j a1 a2 a3 a4 => by rw [f1 o j a1 a2 a3 a4, fr o j (by omega) a4]⟩
        rw [← e2]
        simp only [p3_partText_L15, rF_I, h5, obs, ltNN (show i < 2147483648 by omega) (show n < 2147483648 by omega), c, if_true, een, t1_ald (show i < 400 by omega), v1, e32, c32, if_false, i_succ, emx, e1, p3_partText_J56]
    · have e : i = n := by omega
      refine ⟨s, k, ?_, ⟨by omega, ?_, h4, h5, he⟩, fun _ _ _ _ _ _ => rfl⟩
      · simp only [p3_partText_L15, rF_I, h5, obs, ltNN (show i < 2147483648 by omega) (show n < 2147483648 by omega), c, if_false]
      · rw [← hsk, e]
        exact rU_n (Nat.le_refl _)
theorem rF_part (h : CT s n u) : ∃ s' N, p3_partText (ob g 48) (ob g 1) (Int32.ofNat n) (mm g s l r) = some (mm g s' l r) ∧ RDrF s' n u N ∧ ∀ o j, o ≠ 49 → o ≠ 50 → o ≠ 51 → ¬ (o = 48 ∧ (j = 4 ∨ j = 5)) → s' o j = s o j := by
  have hn := h.1
  obtain ⟨s', N, e1, R1, f1⟩ := rF_parts (g := g) (l := l) (r := r) (n := n) (u := u) gF (up2 (up2 s 48 4 0) 48 5 (Int32.ofNat n)) 0 0 ⟨hn, fun j hj => by rw [up2_ne (by omega), up2_ne (by omega)]; exact h.2 j hj⟩ (Nat.zero_le _) (Nat.lt_of_lt_of_le (gF_gt (n := n) (by omega)) (Nat.le_add_right _ _)) (Nat.le_refl _) rfl (by rw [up2_ne (by omega), up2_eq]; rfl) up2_eq (fun j hj => absurd hj (Nat.not_lt_zero j))
  refine ⟨s', N, ?_, R1, fun o j a b c d => by rw [f1 o j a b c (by omega), up2_ne (by omega), up2_ne (by omega)]⟩
  simp only [p3_partText, rF_gd, rF_P, obs]
  exact e1
end
