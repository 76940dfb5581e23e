section
variable {g : Nat} {s : tS} {l : tL} {r : Nat → Nat} {C : Co} {G : Lg} {L : Lw} {b : Nat}
/-! somebody new -/
def nwP (so ag pa : Int32) (j : Nat) : Int32 := if j = 0 then ag else if j = 2 then so else if j = 3 then pa else if j = 4 then -1 else if j = 6 then 50 else 0
def adC (C : Co) (so ag pa : Int32) : Co := (up1 C.1 0 (C.1 0 + 1), fun i j => if i = sz C then nwP so ag pa j else C.2 i j)
theorem ad_0 {so ag pa : Int32} : (adC C so ag pa).1 0 = C.1 0 + 1 := show up1 C.1 0 (C.1 0 + 1) 0 = _ from up1_eq
theorem ad_G {so ag pa : Int32} {k : Nat} (h : k ≠ 0) : (adC C so ag pa).1 k = C.1 k := show up1 C.1 0 (C.1 0 + 1) k = _ from up1_ne h
theorem ad_n {so ag pa : Int32} {j : Nat} : (adC C so ag pa).2 (sz C) j = nwP so ag pa j := if_pos rfl
theorem ad_o {so ag pa : Int32} {i j : Nat} (h : i ≠ sz C) : (adC C so ag pa).2 i j = C.2 i j := if_neg h
theorem ad_zc {so ag pa : Int32} (h : Zc C) (h8 : sz C < 8) : Zc (adC C so ag pa) ∧ sz (adC C so ag pa) = sz C + 1 := by
  have e : (adC C so ag pa).1 0 = Int32.ofNat (sz C + 1) := by rw [ad_0, h.1, i_succ]
  have z : sz (adC C so ag pa) = sz C + 1 := by
    show i2n ((adC C so ag pa).1 0) = _
    rw [e, i2n_of (by omega)]
  exact ⟨⟨by rw [z]; exact e, by omega⟩, z⟩
theorem nw_9 {so ag pa : Int32} {j : Nat} : nwP so ag pa (9 + j) = 0 := by
  unfold nwP
  rw [if_neg (by omega), if_neg (by omega), if_neg (by omega), if_neg (by omega), if_neg (by omega)]
theorem VC.ad {so ag pa : Int32} (h : VC C) (h8 : sz C < 8) (ha : 0 ≤ ag.toInt ∧ ag.toInt < (C.1 4).toInt) (hs : so = 0 ∨ so = 1) (hp : pa = -1 ∨ ∃ k, k < sz C ∧ pa = Int32.ofNat k) : VC (adC C so ag pa) := by
  obtain ⟨a1, a2, a3, a4, a5, a6, a7⟩ := h
  obtain ⟨z1, z2⟩ := ad_zc (so := so) (ag := ag) (pa := pa) a1 h8
  refine ⟨z1, by rw [ad_G (by decide)]; exact a2, by rw [ad_G (by decide)]; exact a3, by rw [ad_G (by decide)]; exact a4, by rw [ad_G (by decide)]; exact a5, by rw [ad_G (by decide)]; exact a6, fun i hi => ?_⟩
  rw [z2] at hi
  rw [z2, ad_G (by decide)]
  by_cases e : i = sz C
  · subst e
    simp only [ad_n]
    have z0 : (0 : Int32).toInt = 0 := rfl
    have z50 : (50 : Int32).toInt = 50 := rfl
    refine ⟨ha, ?_, hs, hp, Or.inl rfl, ?_, ?_, ?_, ⟨0, Nat.two_pow_pos _, rfl⟩, fun j hj => ?_⟩
    · show bw (-99) 99 0
      exact ⟨by omega, by omega⟩
    · show bw 0 100 0
      exact ⟨by omega, by omega⟩
    · show bw 0 100 50
      exact ⟨by omega, by omega⟩
    · show bw 0 9 0
      exact ⟨by omega, by omega⟩
    · rw [nw_9]
      exact ⟨by omega, by omega⟩
  · simp only [ad_o e]
    obtain ⟨b0, b1, b2, b3, b4, b5, b6, b7, ⟨m, b8, b8'⟩, b9⟩ := a7 i (by omega)
    refine ⟨b0, b1, b2, b3, ?_, b5, b6, b7, ⟨m, Nat.lt_of_lt_of_le b8 (Nat.pow_le_pow_right (by decide) (by omega)), b8'⟩, b9⟩
    rcases b4 with b4 | ⟨k, k1, k2⟩
    · exact Or.inl b4
    · exact Or.inr ⟨k, by omega, k2⟩
def adS (s : tS) (b n : Nat) (so ag pa : Int32) : tS := up2 (up2 (up2 (up2 (cpP s (b + 6 + n) (b + 2)) (b + 6 + n) 2 so) (b + 6 + n) 0 ag) (b + 6 + n) 3 pa) b 4 (s b 4 + 1)
theorem adS_o {n o : Nat} {so ag pa : Int32} (h1 : o ≠ b) (h2 : o ≠ b + 6 + n) : adS s b n so ag pa o = s o := by
  funext k
  unfold adS
  rw [up2_ne (by omega), up2_ne (by omega), up2_ne (by omega), up2_ne (by omega)]
  exact congrFun (up1_ne h2) k
theorem adS_b {n k : Nat} {so ag pa : Int32} (h : k ≠ 4) : adS s b n so ag pa b k = s b k := by
  unfold adS
  rw [up2_ne (by omega), up2_ne (by omega), up2_ne (by omega), up2_ne (by omega)]
  exact congrFun (up1_ne (by omega)) k
theorem adS_4 {n : Nat} {so ag pa : Int32} : adS s b n so ag pa b 4 = s b 4 + 1 := up2_eq
theorem adS_n {n j : Nat} {so ag pa : Int32} (hj : j < 9) (hn : s (b + 2) j = nob j) : adS s b n so ag pa (b + 6 + n) j = nwP so ag pa j := by
  unfold adS nwP
  rw [up2_ne (by omega)]
  by_cases h3 : j = 3
  · subst h3
    rw [up2_eq, if_neg (by decide), if_neg (by decide), if_pos rfl]
  · rw [up2_ne (by omega)]
    by_cases h0 : j = 0
    · subst h0
      rw [up2_eq, if_pos rfl]
    · rw [up2_ne (by omega), if_neg h0]
      by_cases h2 : j = 2
      · subst h2
        rw [up2_eq, if_pos rfl]
      · rw [up2_ne (by omega), if_neg h2, if_neg h3]
        show up1 s (b + 6 + n) (fun j => if j < 9 then s (b + 2) j else s (b + 6 + n) j) (b + 6 + n) j = _
        rw [up1_eq, if_pos hj, hn]
        unfold nob
        by_cases h4 : j = 4
        · rw [if_pos (Or.inr h4), if_pos h4]
        · rw [if_neg (by omega), if_neg h4]
theorem c_add' {so ag pa : Int32} (h : Is s b C) (h8 : sz C < 8) : p2_add (ob g b) so ag pa (mm g s l r) = some (Int32.ofNat (sz C), mm g (adS s b (sz C) so ag pa) l r) ∧ Is (adS s b (sz C) so ag pa) b (adC C so ag pa) := by
  have hz := h.2.1
  have ea : p2_at (ob g b) (C.1 0) (mm g s l r) = some (ob g (b + 6 + sz C)) := by
    rw [hz.1]
    exact f_at h.1 h8
  have e4 : s b 4 = C.1 0 := h.2.2.1 4 (by decide) (by decide)
  have et := f_take8 (g := g) (s := s) (l := l) (r := r) (d := b + 6 + sz C) (c := b + 2) (f_pK h.1 h8) (fB_one h.1).2.2.2.2.2.2.2.2.1 (by omega)
  have v4 : ∀ {a c d : Int32}, up2 (up2 (up2 (cpP s (b + 6 + sz C) (b + 2)) (b + 6 + sz C) 2 a) (b + 6 + sz C) 0 c) (b + 6 + sz C) 3 d b 4 = s b 4 := by
    intro a c d
    rw [up2_ne (by omega), up2_ne (by omega), up2_ne (by omega)]
    exact congrFun (up1_ne (by omega)) 4
  refine ⟨?_, h.1, (ad_zc hz h8).1, ?_, ?_, ?_, ?_, ?_⟩
  · simp only [p2_add, c_gd h, c_n h, obs, ea, f_R1 h.1, et, f_pP h.1 h8, f_getI h.1, f_putI h.1, v4, up2_eq]
    have : s b 4 + 1 - 1 = Int32.ofNat (sz C) := by rw [e4, Int32.add_sub_cancel, hz.1]
    rw [this]
    rfl
  · intro k k1 k2
    by_cases e : k = 4
    · subst e
      rw [adS_4, e4]
      exact ad_0.symm
    · rw [adS_b e, h.2.2.1 k k1 k2, ad_G (gIx_nz k (by omega) (by omega))]
  · intro i j hi hj
    rw [(ad_zc hz h8).2] at hi
    by_cases e : i = sz C
    · subst e
      rw [adS_n hj (h.2.2.2.2.2.2 j hj), ad_n]
    · rw [adS_o (by omega) (by omega), ad_o e]
      exact h.2.2.2.1 i j (by omega) hj
  · intro i j hi hj
    rw [(ad_zc hz h8).2] at hi
    rw [adS_o (by omega) (by omega)]
    by_cases e : i = sz C
    · subst e
      rw [ad_n, nw_9]
      exact h.2.2.2.2.2.1 _ j (by omega) h8 hj
    · rw [ad_o e]
      exact h.2.2.2.2.1 i j (by omega) hj
  · intro i j hi h8' hj
    rw [(ad_zc hz h8).2] at hi
    rw [adS_o (by omega) (by omega)]
    exact h.2.2.2.2.2.1 i j (by omega) h8' hj
  · intro j hj
    rw [adS_o (by omega) (by omega)]
    exact h.2.2.2.2.2.2 j hj
theorem adS_fr {n : Nat} {so ag pa : Int32} : Fr (fun o => o = b ∨ o = b + 6 + n) s (adS s b n so ag pa) := fun o ho => adS_o (fun e => ho (Or.inl e)) (fun e => ho (Or.inr e))
/-! the same in the reference -/
def znS (s : tS) (n k : Nat) : tS := iter (fun i a => up2 a 288 (9 + 17 * n + i) 0) k s
theorem znS_o {n k o : Nat} (h : o ≠ 288) : znS s n k o = s o := by
  induction k with
  | zero => rfl
  | succ k ih =>
    show up2 (znS s n k) 288 (9 + 17 * n + k) 0 o = s o
    rw [← ih]
    exact funext fun j => up2_ne (by omega)
theorem znS_v {n j : Nat} : ∀ k, znS s n k 288 j = if 9 + 17 * n ≤ j ∧ j < 9 + 17 * n + k then 0 else s 288 j := by
  intro k
  induction k with
  | zero =>
    rw [if_neg (by omega)]
    rfl
  | succ k ih =>
    show up2 (znS s n k) 288 (9 + 17 * n + k) 0 288 j = _
    by_cases e : j = 9 + 17 * n + k
    · rw [e, up2_eq, if_pos (by omega)]
    · rw [up2_ne (by omega), ih]
      by_cases c : 9 + 17 * n ≤ j ∧ j < 9 + 17 * n + k
      · rw [if_pos c, if_pos (by omega)]
      · rw [if_neg c, if_neg (by omega)]
def bnS (s : tS) (n : Nat) (so ag pa : Int32) : tS := up2 (up2 (up2 (up2 (up2 (up2 (znS s n 17) 288 (9 + 17 * n + 0) ag) 288 (9 + 17 * n + 2) so) 288 (9 + 17 * n + 3) pa) 288 (9 + 17 * n + 4) (-1)) 288 (9 + 17 * n + 6) 50) 288 0 (s 288 0 + 1)
theorem bnS_o {n o : Nat} {so ag pa : Int32} (h : o ≠ 288) : bnS s n so ag pa o = s o := by
  rw [← znS_o (s := s) (n := n) (k := 17) h]
  funext k
  unfold bnS
  rw [up2_ne (by omega), up2_ne (by omega), up2_ne (by omega), up2_ne (by omega), up2_ne (by omega), up2_ne (by omega)]
theorem bnS_k {n k : Nat} {so ag pa : Int32} (h0 : k ≠ 0) (h : k < 9 + 17 * n ∨ 9 + 17 * n + 17 ≤ k) : bnS s n so ag pa 288 k = s 288 k := by
  unfold bnS
  rw [up2_ne (by omega), up2_ne (by omega), up2_ne (by omega), up2_ne (by omega), up2_ne (by omega), up2_ne (by omega), znS_v, if_neg (by omega)]
theorem bnS_n {n j : Nat} {so ag pa : Int32} (hj : j < 17) : bnS s n so ag pa 288 (9 + 17 * n + j) = nwP so ag pa j := by
  unfold bnS nwP
  rw [up2_ne (by omega)]
  by_cases h6 : j = 6
  · subst h6
    rw [up2_eq, if_neg (by decide), if_neg (by decide), if_neg (by decide), if_neg (by decide), if_pos rfl]
  · rw [up2_ne (by omega)]
    by_cases h4 : j = 4
    · subst h4
      rw [up2_eq, if_neg (by decide), if_neg (by decide), if_neg (by decide), if_pos rfl]
    · rw [up2_ne (by omega)]
      by_cases h3 : j = 3
      · subst h3
        rw [up2_eq, if_neg (by decide), if_neg (by decide), if_pos rfl]
      · rw [up2_ne (by omega)]
        by_cases h2 : j = 2
        · subst h2
          rw [up2_eq, if_neg (by decide), if_pos rfl]
        · rw [up2_ne (by omega)]
          by_cases h0 : j = 0
          · subst h0
            rw [up2_eq, if_pos rfl]
          · rw [up2_ne (by omega), znS_v, if_pos (by omega), if_neg h0, if_neg h2, if_neg h3, if_neg h4, if_neg h6]
theorem w_at2 {i : Nat} : p12_at (Int32.ofNat i) 2 (mm g s l r) = some (Int32.ofNat (9 + 17 * i + 2)) := by
  rw [p12_at]
  exact congrArg some (w_at (j := 2))
theorem w_at5 {i : Nat} : p12_at (Int32.ofNat i) 5 (mm g s l r) = some (Int32.ofNat (9 + 17 * i + 5)) := by
  rw [p12_at]
  exact congrArg some (w_at (j := 5))
theorem w_ast0 {v : Int32} : astI (mm g s l r) (ob g 288) 0 v = some (mm g (up2 s 288 0 v) l r) := w_ast (k := 0) (by decide)
theorem w_ald0 : aldI (mm g s l r) (ob g 288) 20 0 = some (s 288 0) := w_ald (k := 0) (by decide)
theorem m_born {n : Nat} {so ag pa : Int32} (hn : n < 8) : p12_isBorn (ob g 287) (Int32.ofNat n) so ag pa (mm g s l r) = some (mm g (bnS s n so ag pa) l r) := by
  rw [p12_isBorn, w_gd]
  refine (it_up (fun m (a : tS) i => p12_isBorn_L3 m (ob g 287) (Int32.ofNat n) so ag pa i (mm g a l r)) 17 (fun i a => up2 a 288 (9 + 17 * n + i) 0) (fun a => p12_isBorn_L3 (gF - 17) (ob g 287) (Int32.ofNat n) so ag pa 17 (mm g a l r)) (fun m i a hi => ?_) (fun m a => ?_) gF s (gF_gt (by omega))).trans ?_
  · have c : (Int32.ofNat i < 17) = True := eq_true ((i_lt (b := 17) (by omega) (by decide)).mpr hi)
    simp only [p12_isBorn_L3, c, if_true, w_R1, obs, w_atJ, m_astP hn hi, i_succ]
  · have c : ((Int32.ofNat 17 : Int32) < 17) = False := eq_false (by decide)
    have c' : ((17 : Int32) < 17) = False := eq_false (by decide)
    show p12_isBorn_L3 (m + 1) (ob g 287) (Int32.ofNat n) so ag pa (Int32.ofNat 17) (mm g a l r) = p12_isBorn_L3 (gF - 18 + 1) (ob g 287) (Int32.ofNat n) so ag pa 17 (mm g a l r)
    simp only [p12_isBorn_L3, c, c', if_false]
  · have c' : ((17 : Int32) < 17) = False := eq_false (by decide)
    show p12_isBorn_L3 (gF - 18 + 1) (ob g 287) (Int32.ofNat n) so ag pa 17 (mm g (znS s n 17) l r) = _
    have v0 : ∀ {a c d e f : Int32}, up2 (up2 (up2 (up2 (up2 (znS s n 17) 288 (9 + 17 * n + 0) a) 288 (9 + 17 * n + 2) c) 288 (9 + 17 * n + 3) d) 288 (9 + 17 * n + 4) e) 288 (9 + 17 * n + 6) f 288 0 = s 288 0 := by
      intro a c d e f
      rw [up2_ne (by omega), up2_ne (by omega), up2_ne (by omega), up2_ne (by omega), up2_ne (by omega), znS_v, if_neg (by omega)]
    simp only [p12_isBorn_L3, c', if_false, w_R1, obs, w_at0, w_at2, w_at3, w_at4, w_at6, m_astP hn (show 0 < 17 by decide), m_astP hn (show 2 < 17 by decide), m_astP hn (show 3 < 17 by decide), m_astP hn (show 4 < 17 by decide), m_astP hn (show 6 < 17 by decide), w_ald0, v0, w_ast0]
    rfl
theorem bn_Ms {so ag pa : Int32} (h : Ms s C) (h8 : sz C < 8) : Ms (bnS s (sz C) so ag pa) (adC C so ag pa) := by
  obtain ⟨h1, h2, h3⟩ := h
  obtain ⟨z1, z2⟩ := ad_zc (so := so) (ag := ag) (pa := pa) h1 h8
  refine ⟨z1, fun k a c d => ?_, fun i j hi hj => ?_⟩
  · by_cases e : k = 0
    · subst e
      rw [ad_0]
      show up2 _ 288 0 (s 288 0 + 1) 288 0 = _
      rw [up2_eq, h2 0 (by decide) (by decide) (by decide)]
    · rw [bnS_k e (by omega), ad_G e]
      exact h2 k a c d
  · rw [z2] at hi
    by_cases e : i = sz C
    · subst e
      rw [bnS_n hj, ad_n]
    · rw [bnS_k (by omega) (by omega), ad_o e]
      exact h3 i j (by omega) hj
theorem bn_Fw {n : Nat} {so ag pa : Int32} (hn : n < 8) : Fw pC s (bnS s n so ag pa) := ⟨fun o h _ => bnS_o h, fun k hk => by
  unfold pC at hk
  exact bnS_k (by omega) (by omega)⟩
theorem bt_val {i n : Nat} (hi : i < n) (hn : n ≤ 8) : ∃ m, m < 2 ^ n ∧ bt i = Int32.ofNat m := by
  refine ⟨2 ^ i, Nat.pow_lt_pow_right (by decide) hi, ?_⟩
  have := bt_tab 0 (by decide) i (by omega)
  rw [Nat.zero_or] at this
  rw [← this]
  exact z_or.symm
theorem or_0 {x : Int32} : (0 : Int32) ||| x = x := z_or
/-! BEAR -/
theorem lt8_C (h : Zc C) (h8 : sz C < 8) : (C.1 0 < 8) = True := eq_true (by
  rw [h.1]
  exact (i_lt (b := 8) (by omega) (by decide)).mpr h8)
theorem n8_C (h : Zc C) (h8 : sz C < 8) : (C.1 0 = 8) = False := eq_false (by
  rw [h.1]
  intro e
  have := (i_eq (a := sz C) (b := 8) (by omega) (by omega)).mp e
  omega)
theorem one2 : (1 : Int32) ≠ 0 := by decide
theorem two_nz : (2 : Int32) ≠ 0 := by decide
theorem op_bear {x1 : Int32} {x2 : Bool} : Op g H_bear (fun M => p11_bear (ob g 0) x1 (ib x2) M) (fun M => p12_bear (ob g 287) x1 (ib x2) M) := by
  refine opP2 (x := x1) (by decide) (fun s l r h => ?_) (fun s l r h => ⟨0, ?_⟩) (fun s l r C G L i hI hc hi ex h hn => ?_)
  · simp only [p11_bear, a_gd, h, xb]
  · simp only [p12_bear, w_gd, w_putI, obs, h, m_th1, one_z, if_false, p12_bear_J48, p12_bear_J70, p12_bear_J41, p12_bear_J36, p12_bear]
  · subst ex
    have hC := hc.1.2.2.2.2.1
    have hz := hC.1
    have hi8 := zc_8 hz hi
    have h1 := hc.1.1
    have MA := m287 hc.1.2.2.1 (v := 0)
    have z1 : ((0 : Int32) = 1) = False := eq_false (by decide)
    rcases (hC.2.2.2.2.2.2 i hi).2.2.1 with hs | hs
    · refine Or.inl ⟨1, ?_, by decide, 0, up2 (up2 s 287 0 0) 287 0 2, ?_, rs_thr2, up2_eq⟩
      · simp only [p11_bear, a_gd, h, xb, a_R3, obs, c_at h1 hi, c_p h1 hi (show 2 < 9 by decide), hs, z1, if_false, p11_bear_J36, p11_bear_J37, a_hold_f]
      · simp only [p12_bear, w_gd, w_putI, obs, hn _ _ _ MA, m_th0, if_true, m_boy MA hi, hs, decide_true, ib_t, one_z, if_false, p12_bear_J36, p12_bear_J41, m_th1, p12_bear_J48]
    · have hsd : decide ((1 : Int32) = 0) = false := by decide
      by_cases h8 : sz C < 8
      · refine Or.inr (act_of hI hc fun s1 r1 e1 I1 g1 L1 => ?_)
        obtain ⟨ea, I2⟩ := c_add' (g := g) (l := l) (r := r1) (so := ib x2) (ag := C.1 4 / 2) (pa := Int32.ofNat i) I1 h8
        obtain ⟨z1', z2⟩ := ad_zc (so := ib x2) (ag := C.1 4 / 2) (pa := Int32.ofNat i) hz h8
        have hrr := vc_r hC
        have t2 : (2 : Int32).toInt = 2 := rfl
        have hage : 0 ≤ (C.1 4 / 2).toInt ∧ (C.1 4 / 2).toInt < (C.1 4).toInt := by
          rw [i_tdiv (by omega) (by rw [t2]; omega), t2]
          omega
        have hC2 : VC (adC C (ib x2) (C.1 4 / 2) (Int32.ofNat i)) := hC.ad h8 hage (by cases x2; exact Or.inl rfl; exact Or.inr rfl) (Or.inr ⟨i, hi, rfl⟩)
        have hn' : sz C < sz (adC C (ib x2) (C.1 4 / 2) (Int32.ofNat i)) := by omega
        have hi' : i < sz (adC C (ib x2) (C.1 4 / 2) (Int32.ofNat i)) := by omega
        have I3 := I2.setP (i := sz C) (k := 8) (v := bt i) hn' (by decide)
        have hC3 : VC (stP (adC C (ib x2) (C.1 4 / 2) (Int32.ofNat i)) (sz C) 8 (bt i)) := hC2.setP (by omega) (by omega) (by omega) (by omega) (by omega) (by omega) (by omega) (fun _ => by rw [z2]; exact bt_val (by omega) (by omega)) (by omega)
        have fr2 : Fr (inF 2) s1 (adS s1 2 (sz C) (ib x2) (C.1 4 / 2) (Int32.ofNat i)) := adS_fr.mono (fun o ho => by unfold inF; omega)
        have g2 : LgC (adS s1 2 (sz C) (ib x2) (C.1 4 / 2) (Int32.ofNat i)) 2 G := g1.fr (adS_fr (n := sz C)) (by omega) (by omega)
        have gv8 : (adC C (ib x2) (C.1 4 / 2) (Int32.ofNat i)).2 (sz C) 8 = 0 := ad_n
        refine ⟨Int32.ofNat (sz C), _, _, G, ?_, fr2.trans (fr_P h8), I3, lg_P h8 g2, hC3, hc.1.2.2.2.2.2, fun l1 s4 e4 M2 MA M4 g4 L4 => ?_⟩
        · have hset : p2_setGoverns (ob g 2) (Int32.ofNat i) (Int32.ofNat (sz C)) 1 (mm g (adS s1 2 (sz C) (ib x2) (C.1 4 / 2) (Int32.ofNat i)) l r1) = some (mm g (up2 (adS s1 2 (sz C) (ib x2) (C.1 4 / 2) (Int32.ofNat i)) (2 + 6 + sz C) 8 (bt i)) l r1) := by
            simp only [p2_setGoverns, c_gd I2, c_has I2, obs, inR_of z1' hi', inR_of z1' hn', ib_t, one_z, if_false, c_at I2 hn', c_p I2 hn' (show 8 < 9 by decide), gv8, or_0, p2_setGoverns_J52, p2_setGoverns_J55, c_P I2 hn']
            rfl
          cases x2
          · simp only [p11_bear, a_gd, h, xb, a_R3, obs, c_at h1 hi, c_p h1 hi (show 2 < 9 by decide), hs, if_true, c_n h1, lt8_C hz h8, p11_bear_J37, a_hold_t, e1, ib_f, p11_bear_J57, c_round I1, divI_ne two_nz]
            rw [ib_f] at ea hset
            simp only [ea, obs, a_R3, hset, xr, Option.map_some]
          · simp only [p11_bear, a_gd, h, xb, a_R3, obs, c_at h1 hi, c_p h1 hi (show 2 < 9 by decide), hs, if_true, c_n h1, lt8_C hz h8, p11_bear_J37, a_hold_t, e1, ib_t, one_z, if_false, p11_bear_J57, c_round I1, divI_ne two_nz]
            rw [ib_t] at ea hset
            simp only [ea, obs, a_R3, hset, xr, Option.map_some]
        · have M5 := bn_Ms (so := ib x2) (ag := C.1 4 / 2) (pa := Int32.ofNat i) M4 h8
          have eb := m_born (g := g) (s := s4) (l := l1) (r := r1) (n := sz C) (so := ib x2) (ag := C.1 4 / 2) (pa := Int32.ofNat i) h8
          have M6 := M5.setP (i := sz C) (k := 8) (v := bt i) hn' (by decide)
          refine ⟨_, ?_, (((bn_Fw h8).mono (fun k hk => pCL hk)).trans (fw_P h8 (by decide))), M6, lm_P h8 (by decide) (g4.fm (bn_Fw h8))⟩
          have p4 : p12_people (ob g 287) (mm g s4 l1 r1) = some (Int32.ofNat (sz C)) := by rw [m_people M4, hz.1]
          have bt' : (1 : Int32) <<< (Int32.ofNat i &&& 31) = bt i := rfl
          cases x2
          · rw [ib_f] at eb e4 MA
            simp only [p12_bear, w_gd, w_putI, obs, hn _ _ _ MA, m_th0, if_true, m_boy MA hi, hs, hsd, decide_false, ib_f, m_people MA, n8_C hz h8, if_false, p12_bear_J41, e4, p4, p12_bear_J70, w_R1, m_4 M4, divI_ne two_nz, eb, w_at8, m_astP h8 (show 8 < 17 by decide), bt']
          · rw [ib_t] at eb e4 MA
            simp only [p12_bear, w_gd, w_putI, obs, hn _ _ _ MA, m_th0, if_true, m_boy MA hi, hs, hsd, decide_false, ib_f, ib_t, one_z, m_people MA, n8_C hz h8, if_false, p12_bear_J41, e4, p4, p12_bear_J70, w_R1, m_4 M4, divI_ne two_nz, eb, w_at8, m_astP h8 (show 8 < 17 by decide), bt']
      · have e8 : C.1 0 = 8 := by
          rw [hz.1, show sz C = 8 by have := hz.2; omega]
          rfl
        have n8 : ((8 : Int32) < 8) = False := eq_false (by decide)
        refine Or.inl ⟨1, ?_, by decide, 0, up2 (up2 s 287 0 0) 287 0 2, ?_, rs_thr2, up2_eq⟩
        · simp only [p11_bear, a_gd, h, xb, a_R3, obs, c_at h1 hi, c_p h1 hi (show 2 < 9 by decide), hs, if_true, c_n h1, e8, n8, if_false, p11_bear_J36, p11_bear_J37, a_hold_f]
        · simp only [p12_bear, w_gd, w_putI, obs, hn _ _ _ MA, m_th0, if_true, m_boy MA hi, hs, hsd, decide_false, ib_f, m_people MA, e8, p12_bear_J36, p12_bear_J41, m_th1, one_z, if_false, p12_bear_J48]
end
