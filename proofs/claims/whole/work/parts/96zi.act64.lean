section
variable {g : Nat} {s s' s0 : tS} {l : tL} {r : Nat → Nat} {n p b q e k N dp t : Nat} {u : Nat → Nat} {D : Dq} {M : mMem}
/-! a part of a sum -/
def pKq (t : Nat) : Nat := if t = 26 then 0 else if t = 27 then 1 else if t = 6 then 2 else if t = 28 then 3 else if t = 29 then 4 else if t = 16 then 5 else if t = 2 then 9 else 16
def wKq (t : Nat) : Int32 := if t = 26 then 0 else if t = 27 then 1 else if t = 6 then 2 else if t = 28 then 3 else if t = 29 then 4 else if t = 16 then 5 else -1
theorem pk_t (h : pKq t < 16) : t = 26 ∨ t = 27 ∨ t = 6 ∨ t = 28 ∨ t = 29 ∨ t = 16 ∨ t = 2 := by
  by_cases a : t = 26 ∨ t = 27 ∨ t = 6 ∨ t = 28 ∨ t = 29 ∨ t = 16 ∨ t = 2
  · exact a
  · unfold pKq at h
    rw [if_neg (by omega), if_neg (by omega), if_neg (by omega), if_neg (by omega), if_neg (by omega), if_neg (by omega), if_neg (by omega)] at h
    omega
theorem pk_f (h : ¬ pKq t < 16) : ¬ (t = 26 ∨ t = 27 ∨ t = 6 ∨ t = 28 ∨ t = 29 ∨ t = 16 ∨ t = 2) := by
  intro a
  apply h
  rcases a with rfl | rfl | rfl | rfl | rfl | rfl | rfl <;> decide
theorem pk_cls (h : pKq t < 16) : Int32.ofNat t = Int32.ofNat (clS (pKq t)) := by
  rcases pk_t h with rfl | rfl | rfl | rfl | rfl | rfl | rfl <;> rfl
theorem pk_ty (h : pKq t < 16) : pKq t ≤ 5 ∨ pKq t = 9 := by
  rcases pk_t h with rfl | rfl | rfl | rfl | rfl | rfl | rfl <;> decide
theorem pk_w (h : pKq t < 16) (h2 : t ≠ 2) : wKq t = Int32.ofNat (pKq t) ∧ ∃ w, w < 27 ∧ t = 3 + w := by
  rcases pk_t h with rfl | rfl | rfl | rfl | rfl | rfl | rfl
  · exact ⟨rfl, 23, by decide, rfl⟩
  · exact ⟨rfl, 24, by decide, rfl⟩
  · exact ⟨rfl, 3, by decide, rfl⟩
  · exact ⟨rfl, 25, by decide, rfl⟩
  · exact ⟨rfl, 26, by decide, rfl⟩
  · exact ⟨rfl, 13, by decide, rfl⟩
  · exact absurd rfl h2
theorem wk_f (h : ¬ pKq t < 16) : wKq t = -1 := by
  have := pk_f h
  unfold wKq
  rw [if_neg (by omega), if_neg (by omega), if_neg (by omega), if_neg (by omega), if_neg (by omega), if_neg (by omega)]
theorem c_isPart_t (h : pKq t < 16) : p5_isPart (Int32.ofNat t) M = some 1 := by
  rcases pk_t h with rfl | rfl | rfl | rfl | rfl | rfl | rfl <;> rfl
theorem th_ne {x c : Nat} (ht : t < 256) (hc : c < 256) (h : t ≠ c) : (Int32.ofNat t = Int32.ofNat c) = False := eq_false (fun e => h ((i_eq (by omega) (by omega)).mp e))
theorem c_isPart_f (ht : t < 256) (h : ¬ pKq t < 16) : p5_isPart (Int32.ofNat t) M = some 0 := by
  have hf := pk_f h
  have n26 : (Int32.ofNat t = 26) = False := th_ne (x := 0) (c := 26) ht (by decide) (by omega)
  have n27 : (Int32.ofNat t = 27) = False := th_ne (x := 0) (c := 27) ht (by decide) (by omega)
  have n6 : (Int32.ofNat t = 6) = False := th_ne (x := 0) (c := 6) ht (by decide) (by omega)
  have n28 : (Int32.ofNat t = 28) = False := th_ne (x := 0) (c := 28) ht (by decide) (by omega)
  have n29 : (Int32.ofNat t = 29) = False := th_ne (x := 0) (c := 29) ht (by decide) (by omega)
  have n16 : (Int32.ofNat t = 16) = False := th_ne (x := 0) (c := 16) ht (by decide) (by omega)
  have n2 : (Int32.ofNat t = 2) = False := th_ne (x := 0) (c := 2) ht (by decide) (by omega)
  simp only [p5_isPart, n26, n27, n6, n28, n29, n16, n2, if_false, p5_isPart_J46, bZ_0, obs]
theorem c_prt (hD : DqC s D) (hA : ATrL s n u N k) (hz : dqZ D < 400) (hk : k < N) (hp : pKq (th u n (tk u n k)) < 16) : ∃ s1, p4_put (ob g 39) (Int32.ofNat (th u n (tk u n k))) (Int32.ofNat (nu u n (tk u n k))) (mm g s l r) = some (mm g s1 l r) ∧ s1 52 6 = Int32.ofNat k ∧ cLq s (up2 s1 52 6 (Int32.ofNat (k + 1))) ∧ DqC (up2 s1 52 6 (Int32.ofNat (k + 1))) (dqP D (pKq (th u n (tk u n k))) (Int32.ofNat (nu u n (tk u n k)))) ∧ ATrL (up2 s1 52 6 (Int32.ofNat (k + 1))) n u N (k + 1) := by
  obtain ⟨s1, e1, F1, D1, A1⟩ := lq_put (g := g) (l := l) (r := r) (n := n) (u := u) (N := N) (v := Int32.ofNat (nu u n (tk u n k))) hD hz (pk_cls hp)
  have A1' := A1 k hA
  exact ⟨s1, e1, A1'.2.2.1, F1.trans (cLq.up (by omega)), D1.up (by decide), A1'.go hk⟩
theorem c_L2_0 {m : Nat} (hD : DqC s D) (hA : ATrL s n u N k) (hz : dqZ D < 400) (hk : k < N) (hp : pKq (th u n (tk u n k)) < 16) : ∃ s2, p5_readSum_L2 (m + 1) (ob g 52) 0 (mm g s l r) = p5_readSum_J59 (p5_readSum_L2 m) (ob g 52) 0 (mm g s2 l r) ∧ cLq s s2 ∧ DqC s2 (dqP D (pKq (th u n (tk u n k))) (Int32.ofNat (nu u n (tk u n k)))) ∧ ATrL s2 n u N (k + 1) := by
  obtain ⟨s1, e1, e6, F1, D1, A1⟩ := c_prt (g := g) (l := l) (r := r) hD hA hz hk hp
  refine ⟨_, ?_, F1, D1, A1⟩
  have l4 : ((0 : Int32) < 400) = True := by decide
  have l0 : ((0 : Int32) < 0) = False := by decide
  simp only [p5_readSum_L2, l4, if_true, rL_next hA, obs, c_isPart_t hp, one_z, if_false, lq_R8, rL_num hA, e1, rL_I, e6, rL_P, i_succ, l0]
theorem c_L2_s {m i : Nat} (hD : DqC s D) (hA : ATrL s n u N k) (hz : dqZ D + 1 < 400) (hk : k < N) (hp : pKq (th u n (tk u n k)) < 16) (h0 : 0 < i) (hi : i < 400) : ∃ s2, p5_readSum_L2 (m + 1) (ob g 52) (Int32.ofNat i) (mm g s l r) = p5_readSum_J59 (p5_readSum_L2 m) (ob g 52) (Int32.ofNat i) (mm g s2 l r) ∧ cLq s s2 ∧ DqC s2 (dqP (dqP D (pKq (th u n (tk u n k))) (Int32.ofNat (nu u n (tk u n k)))) 10 0) ∧ ATrL s2 n u N (k + 1) := by
  obtain ⟨s1, e1, e6, F1, D1, A1⟩ := c_prt (g := g) (l := l) (r := r) hD hA (by omega) hk hp
  obtain ⟨s2, e2, F2, D2, A2⟩ := lq_put (g := g) (l := l) (r := r) (n := n) (u := u) (N := N) (x := 43) (o := 10) (v := 0) D1 hz rfl
  refine ⟨s2, ?_, F1.trans F2, D2, A2 _ A1⟩
  have l4 : (Int32.ofNat i < 400) = True := eq_true ((i_lt (b := 400) (by omega) (by decide)).mpr hi)
  have l0 : ((0 : Int32) < Int32.ofNat i) = True := eq_true ((i_lt (a := 0) (by decide) (by omega)).mpr h0)
  simp only [p5_readSum_L2, l4, if_true, rL_next hA, obs, c_isPart_t hp, one_z, if_false, lq_R8, rL_num hA, e1, rL_I, e6, rL_P, i_succ, l0, e2]
theorem c_L2_f {m i : Nat} (hA : ATrL s n u N k) (hp : ¬ pKq (th u n (tk u n k)) < 16) (hi : i < 400) : p5_readSum_L2 (m + 1) (ob g 52) (Int32.ofNat i) (mm g s l r) = some (0, mm g s l r) := by
  have l4 : (Int32.ofNat i < 400) = True := eq_true ((i_lt (b := 400) (by omega) (by decide)).mpr hi)
  simp only [p5_readSum_L2, l4, if_true, rL_next hA, obs, c_isPart_f (th_b (q := tk u n k) hA.2.2.2.2) hp]
/-! a part, in the reference -/
theorem m_wop (h : RT s n u) : p12_wordOfPart (ob g 287) (mm g (sc s (eL u n (tk u n k)) (tk u n k)) l r) = some (wKq (th u n (tk u n k))) := by
  unfold wKq
  by_cases c26 : th u n (tk u n k) = 26
  · rw [if_pos c26]
    simp only [p12_wordOfPart, w_gd, mW_t h (w := 23) (by decide) c26, obs, one_z, if_false]
  rw [if_neg c26]
  by_cases c27 : th u n (tk u n k) = 27
  · rw [if_pos c27]
    simp only [p12_wordOfPart, w_gd, mW_f h (w := 23) (by decide) c26, mW_t h (w := 24) (by decide) c27, obs, one_z, if_true, if_false]
  rw [if_neg c27]
  by_cases c6 : th u n (tk u n k) = 6
  · rw [if_pos c6]
    simp only [p12_wordOfPart, w_gd, mW_f h (w := 23) (by decide) c26, mW_f h (w := 24) (by decide) c27, mW_t h (w := 3) (by decide) c6, obs, one_z, if_true, if_false]
  rw [if_neg c6]
  by_cases c28 : th u n (tk u n k) = 28
  · rw [if_pos c28]
    simp only [p12_wordOfPart, w_gd, mW_f h (w := 23) (by decide) c26, mW_f h (w := 24) (by decide) c27, mW_f h (w := 3) (by decide) c6, mW_t h (w := 25) (by decide) c28, obs, one_z, if_true, if_false]
  rw [if_neg c28]
  by_cases c29 : th u n (tk u n k) = 29
  · rw [if_pos c29]
    simp only [p12_wordOfPart, w_gd, mW_f h (w := 23) (by decide) c26, mW_f h (w := 24) (by decide) c27, mW_f h (w := 3) (by decide) c6, mW_f h (w := 25) (by decide) c28, mW_t h (w := 26) (by decide) c29, obs, one_z, if_true, if_false]
  rw [if_neg c29]
  by_cases c16 : th u n (tk u n k) = 16
  · rw [if_pos c16]
    simp only [p12_wordOfPart, w_gd, mW_f h (w := 23) (by decide) c26, mW_f h (w := 24) (by decide) c27, mW_f h (w := 3) (by decide) c6, mW_f h (w := 25) (by decide) c28, mW_f h (w := 26) (by decide) c29, mW_t h (w := 13) (by decide) c16, obs, one_z, if_true, if_false, p12_wordOfPart_J69]
  · rw [if_neg c16]
    simp only [p12_wordOfPart, w_gd, mW_f h (w := 23) (by decide) c26, mW_f h (w := 24) (by decide) c27, mW_f h (w := 3) (by decide) c6, mW_f h (w := 25) (by decide) c28, mW_f h (w := 26) (by decide) c29, mW_f h (w := 13) (by decide) c16, obs, if_true, p12_wordOfPart_J69]
theorem el_q {q : Nat} (hq : q ≤ n) (h : q < n → isL (u q) = false) : eL u n q = q := by
  unfold eL
  by_cases c : q < n
  · exact rU_f c (h c)
  · exact rU_n (by omega)
theorem el_gt {q : Nat} (hq : q < n) (h : isL (u q) = true) : q < eL u n q := by
  unfold eL
  rw [rU_t hq h]
  have := rU_ge (f := fun j => isL (u j)) (n := n) (p := q + 1)
  omega
theorem m_part_t (hD : DqM s D) (hR : RT s n u) (hp : p ≤ n) (hs : sk u n p = tk u n k) (hz : dqZ D < 400) (hk : pKq (th u n (tk u n k)) < 16) : ∃ s' p', p12_readPart (ob g 287) (mm g (sc s p b) l r) = some (1, mm g (sc s' p' (tk u n k)) l r) ∧ mLq s s' ∧ p' ≤ n ∧ DqM s' (dqP D (pKq (th u n (tk u n k))) (Int32.ofNat (nu u n (tk u n k)))) ∧ s' 287 13 = s 287 13 ∧ sk u n p' = tk u n (k + 1) := by
  have hq := tk_le (u := u) (n := n) k
  have hn := hR.2.1
  have el := m_let (g := g) (l := l) (r := r) (b := b) hR hp hs
  by_cases c2 : th u n (tk u n k) = 2
  · have hb := th_2.mp c2
    have hv := nuV_b hb
    have hin : inN u n (tk u n k) 0 1000 = true := by
      unfold inN
      rw [hb, decide_eq_true (show 0 ≤ nuV u n (tk u n k) ∧ nuV u n (tk u n k) < 1000 by omega)]
      rfl
    obtain ⟨k1, k2⟩ := num_sk hin
    have eq : eL u n (tk u n k) = tk u n k := el_q hq (fun _ => by
      cases c : isL (u (tk u n k)) with
      | false => rfl
      | true =>
        have hd := isLD c
        unfold nuB at hb
        rw [hd, Bool.false_and, Bool.and_false] at hb
        cases hb)
    rw [eq] at el
    have en : p12_number (ob g 287) 0 999 _ = _ := m_num_t (g := g) (l := l) (r := r) (lo := 0) (hi := 999) (p := tk u n k) (b := tk u n k) hR hq (by decide) (lit_hh (m := 999) (by decide)) (sk_tk k) hin
    obtain ⟨s1, e1, F1, D1, h13⟩ := lq_emD (g := g) (l := l) (r := r) (p := eD u n (tk u n k)) (b := tk u n k) (o := 9) (x := 9) (v := Int32.ofNat (nu u n (tk u n k))) hD hz rfl
    have e8 : (Int32.ofNat (nuV u n (tk u n k)) < 0) = False := eq_false (i_nlt0 (by omega))
    rw [nu_v hb] at e1 D1
    have e9 : pKq (th u n (tk u n k)) = 9 := by rw [c2]; rfl
    refine ⟨s1, eD u n (tk u n k), ?_, F1, rU_le hq, ?_, h13, k1⟩
    · simp only [p12_readPart, w_gd, el, obs, w_getI, sc_10, sc_12, if_true, p12_readPart_J20, one_z, if_false, en, p12_readPart_J40, p12_readPart_J52, e1, p12_readPart_J61, e8, p12_readPart_J73, bZ_1]
    · rw [e9, nu_v hb]
      exact D1
  · obtain ⟨ek, w, hw, ht⟩ := pk_w hk c2
    obtain ⟨a1, a2, a3⟩ := wd_t hw ht
    obtain ⟨b1, b2, -⟩ := wd_in hw hq a1
    have hgt := el_gt b1 b2
    have hle : eL u n (tk u n k) ≤ n := rU_le hq
    have ne : (Int32.ofNat (eL u n (tk u n k)) = Int32.ofNat (tk u n k)) = False := eq_false (fun h => by have := (i_eq (by omega) (by omega)).mp h; omega)
    have ew := m_wop (g := g) (l := l) (r := r) (k := k) hR
    rw [ek] at ew
    have hb : nu u n (tk u n k) = 0 := by
      unfold nu
      rw [if_neg (fun h => c2 (th_2.mpr h))]
    have h16 : pKq (th u n (tk u n k)) < 16 := hk
    have e8 : (Int32.ofNat (pKq (th u n (tk u n k))) < 0) = False := eq_false (i_nlt0 (by omega))
    obtain ⟨s1, e1, F1, D1, h13⟩ := lq_emD (g := g) (l := l) (r := r) (p := eL u n (tk u n k)) (b := tk u n k) (o := pKq (th u n (tk u n k))) (v := 0) hD hz rfl
    refine ⟨s1, eL u n (tk u n k), ?_, F1, hle, ?_, h13, a3⟩
    · simp only [p12_readPart, w_gd, el, obs, w_getI, sc_10, sc_12, ne, if_false, p12_readPart_J20, if_true, ew, p12_readPart_J40, p12_readPart_J52, e1, p12_readPart_J61, e8, p12_readPart_J73, bZ_1]
    · rw [hb]
      exact D1
theorem m_part_f (hD : DqM s D) (hR : RT s n u) (hp : p ≤ n) (hs : sk u n p = tk u n k) (hz : dqZ D < 400) (hk : ¬ pKq (th u n (tk u n k)) < 16) : ∃ s' p', p12_readPart (ob g 287) (mm g (sc s p b) l r) = some (0, mm g (sc s' p' (tk u n k)) l r) ∧ mLq s s' ∧ p' ≤ n := by
  have hq := tk_le (u := u) (n := n) k
  have hn := hR.2.1
  have el := m_let (g := g) (l := l) (r := r) (b := b) hR hp hs
  have hle : eL u n (tk u n k) ≤ n := rU_le hq
  by_cases c : eL u n (tk u n k) = tk u n k
  · rw [c] at el
    have hin : inN u n (tk u n k) 0 1000 = false := by
      unfold inN
      cases hb : nuB u n (tk u n k) with
      | false => rfl
      | true => exact absurd (th_2.mpr hb) (fun h => pk_f hk (by omega))
    have en : p12_number (ob g 287) 0 999 _ = _ := m_num_f (g := g) (l := l) (r := r) (lo := 0) (hi := 999) (p := tk u n k) (b := tk u n k) hR hq (by decide) (lit_hh (m := 999) (by decide)) (sk_tk k) hin
    have e1 := lq_em (g := g) (l := l) (r := r) (p := eD u n (tk u n k)) (b := tk u n k) (x := 9) (v := -1) hD.1 hz
    refine ⟨_, eD u n (tk u n k), ?_, lq_emF (x := 9) (v := -1) (z := dqZ D), rU_le hq⟩
    simp only [p12_readPart, w_gd, el, obs, w_getI, sc_10, sc_12, if_true, p12_readPart_J20, one_z, if_false, en, p12_readPart_J40, p12_readPart_J52, e1, p12_readPart_J61, m1_lt, p12_readPart_J73, bZ_0]
  · have ne : (Int32.ofNat (eL u n (tk u n k)) = Int32.ofNat (tk u n k)) = False := eq_false (fun h => by have := (i_eq (by omega) (by omega)).mp h; omega)
    have ew := m_wop (g := g) (l := l) (r := r) (k := k) hR
    rw [wk_f hk] at ew
    have e1 := lq_em (g := g) (l := l) (r := r) (p := eL u n (tk u n k)) (b := tk u n k) (x := -1) (v := 0) hD.1 hz
    refine ⟨_, eL u n (tk u n k), ?_, lq_emF (x := -1) (v := 0) (z := dqZ D), hle⟩
    simp only [p12_readPart, w_gd, el, obs, w_getI, sc_10, sc_12, ne, if_false, p12_readPart_J20, if_true, ew, p12_readPart_J40, p12_readPart_J52, e1, p12_readPart_J61, m1_lt, p12_readPart_J73, bZ_0]
/-! a sum -/
theorem jq_sumL (hN : PNq n u N) : ∀ m d k i fc fm (D : Dq), d ≤ m → k + d = N → i < k → d < fc → d < fm → dqZ D + 1 ≤ k → JQ g n u N (p5_readSum_J59 (p5_readSum_L2 fc) (ob g 52) (Int32.ofNat i)) (p12_readSum_L9 fm (ob g 287)) D dp k (fun D' => ∀ D0, tQq D0 D false → tQq D0 D' false) := by
  have hN4 : N ≤ 400 := Nat.le_trans hN.1 hN.2.1
  intro m
  induction m with
  | zero =>
    intro d k i fc fm D hd hk hi hfc hfm hz
    obtain ⟨fm, rfl⟩ : ∃ x, fm = x + 1 := ⟨fm - 1, by omega⟩
    have c : th u n (tk u n k) ≠ 43 := fun h => by have := (pn_lt hN (by omega) h (by decide)).1; omega
    refine ⟨true, D, k, fun s l r hD hA => ?_, fun p b hp hs s l r hD hR h13 => ?_, fun _ => ⟨fun D0 h => h, Nat.le_refl _, by omega, Nat.le_refl _⟩⟩
    · have e : p5_took (ob g 52) 43 (mm g s l r) = _ := rL_took_f hA (c := 43) (by decide) c
      refine ⟨s, ?_, cLq.refl, hA, fun _ => hD⟩
      simp only [p5_readSum_J59, e, obs, if_true, ib_t]
    · have e : p12_sign (ob g 287) 43 (mm g (sc s p b) l r) = _ := m_sign_f hR hp hs (c := 43) (by decide) c
      refine ⟨s, tk u n k, tk u n k, ?_, mLq.refl, tk_le k, fun _ => ⟨hD, h13, sk_tk k⟩, fun h => (by cases h)⟩
      simp only [p12_readSum_L9, e, obs, if_true, ib_t]
  | succ m ih =>
    intro d k i fc fm D hd hk hi hfc hfm hz
    obtain ⟨fm, rfl⟩ : ∃ x, fm = x + 1 := ⟨fm - 1, by omega⟩
    obtain ⟨fc, rfl⟩ : ∃ x, fc = x + 1 := ⟨fc - 1, by omega⟩
    by_cases c : th u n (tk u n k) = 43
    · obtain ⟨hkN, hlt⟩ := pn_lt hN (by omega) c (by decide)
      by_cases c2 : pKq (th u n (tk u n (k + 1))) < 16
      · have hk1 := (pn_lt hN (k := k + 1) (by omega) rfl (fun h => by rw [h] at c2; exact absurd c2 (by decide))).1
        obtain ⟨ok, D', k', hc, hm, ht⟩ := ih (d - 2) (k + 2) (i + 1) fc fm (dqP (dqP D (pKq (th u n (tk u n (k + 1)))) (Int32.ofNat (nu u n (tk u n (k + 1))))) 10 0) (by omega) (by omega) (by omega) (by omega) (by omega) (by rw [dqP_z, dqP_z]; omega)
        refine ⟨ok, D', k', fun s l r hD hA => ?_, fun p b hp hs s l r hD hR h13 => ?_, fun h => ?_⟩
        · have e : p5_took (ob g 52) 43 (mm g s l r) = _ := rL_took_t hA (c := 43) c
          obtain ⟨s2, e2, F2, D2, A2⟩ := c_L2_s (g := g) (l := l) (r := r) (m := fc) (i := i + 1) (hD.up (o := 52) (by decide)) (hA.go hkN) (by omega) hk1 c2 (by omega) (by omega)
          obtain ⟨s3, e3, F3, A3, D3⟩ := hc s2 l r D2 A2
          refine ⟨s3, ?_, ((cLq.up (by omega)).trans F2).trans F3, A3, D3⟩
          rw [← e3, ← e2]
          simp only [p5_readSum_J59, e, obs, one_z, if_false, i_succ]
        · obtain ⟨es, k1, -⟩ := m_sign_t (g := g) (l := l) (r := r) (b := b) hR hp hs (c := 43) (by decide) c
          have es : p12_sign (ob g 287) 43 (mm g (sc s p b) l r) = _ := es
          obtain ⟨s2, p2, e2, F2, hp2, D2, h2, k2⟩ := m_part_t (g := g) (l := l) (r := r) (b := tk u n k) hD hR (show tk u n k + 1 ≤ n by omega) k1 (by omega) c2
          obtain ⟨s3, e3, F3, D3, h3⟩ := lq_emD (g := g) (l := l) (r := r) (p := p2) (b := tk u n (k + 1)) (o := 10) (x := 10) (v := 0) D2 (by rw [dqP_z]; omega) rfl
          have F23 := F2.trans F3
          obtain ⟨s4, p4, b4, e4, F4, hp4, q4⟩ := hm p2 (tk u n (k + 1)) hp2 k2 s3 l r D3 (hR.fq F23) (by rw [h3, h2]; exact h13)
          refine ⟨s4, p4, b4, ?_, F23.trans F4, hp4, q4⟩
          rw [← e4]
          simp only [p12_readSum_L9, es, obs, one_z, if_false, e2, e3]
        · obtain ⟨t1, t2, t3, t4⟩ := ht h
          rw [dqP_z, dqP_z] at t4
          exact ⟨fun D0 h0 => t1 D0 (tq_add h0 (tq_one (pk_ty c2))), by omega, t3, by omega⟩
      · refine ⟨false, D, k + 1, fun s l r hD hA => ?_, fun p b hp hs s l r hD hR h13 => ?_, fun h => (by cases h)⟩
        · have e : p5_took (ob g 52) 43 (mm g s l r) = _ := rL_took_t hA (c := 43) c
          have A1 := hA.go hkN
          have e2 := c_L2_f (g := g) (l := l) (r := r) (m := fc) (i := i + 1) A1 c2 (by omega)
          refine ⟨_, ?_, cLq.up (by omega), A1, fun h => (by cases h)⟩
          simp only [p5_readSum_J59, e, obs, one_z, if_false, i_succ, e2, ib_f]
        · obtain ⟨es, k1, -⟩ := m_sign_t (g := g) (l := l) (r := r) (b := b) hR hp hs (c := 43) (by decide) c
          have es : p12_sign (ob g 287) 43 (mm g (sc s p b) l r) = _ := es
          obtain ⟨s2, p2, e2, F2, hp2⟩ := m_part_f (g := g) (l := l) (r := r) (b := tk u n k) hD hR (show tk u n k + 1 ≤ n by omega) k1 (by omega) c2
          refine ⟨s2, p2, tk u n (k + 1), ?_, F2, hp2, fun h => (by cases h), fun _ => rfl⟩
          simp only [p12_readSum_L9, es, obs, one_z, if_false, e2, if_true, ib_f]
    · refine ⟨true, D, k, fun s l r hD hA => ?_, fun p b hp hs s l r hD hR h13 => ?_, fun _ => ⟨fun D0 h => h, Nat.le_refl _, by omega, Nat.le_refl _⟩⟩
      · have e : p5_took (ob g 52) 43 (mm g s l r) = _ := rL_took_f hA (c := 43) (by decide) c
        refine ⟨s, ?_, cLq.refl, hA, fun _ => hD⟩
        simp only [p5_readSum_J59, e, obs, if_true, ib_t]
      · have e : p12_sign (ob g 287) 43 (mm g (sc s p b) l r) = _ := m_sign_f hR hp hs (c := 43) (by decide) c
        refine ⟨s, tk u n k, tk u n k, ?_, mLq.refl, tk_le k, fun _ => ⟨hD, h13, sk_tk k⟩, fun h => (by cases h)⟩
        simp only [p12_readSum_L9, e, obs, if_true, ib_t]
theorem gF_s : ∃ f, gF = f + 1 ∧ 1000 < f := ⟨gF - 1, rfl, by
  have := gF_gt (n := 1001) (by decide)
  omega⟩
theorem jq_sum (hN : PNq n u N) (hk : k ≤ N) (hz : dqZ D + 1 ≤ k) : JQ g n u N (p5_readSum (ob g 52)) (p12_readSum (ob g 287)) D dp k (fun D' => tQq D D' false) := by
  have hN4 : N ≤ 400 := Nat.le_trans hN.1 hN.2.1
  obtain ⟨f, hf, hf4⟩ := gF_s
  by_cases c2 : pKq (th u n (tk u n k)) < 16
  · obtain ⟨hkN, hlt⟩ := pn_lt hN hk rfl (fun h => by rw [h] at c2; exact absurd c2 (by decide))
    obtain ⟨ok, D', k', hc, hm, ht⟩ := jq_sumL (g := g) (dp := dp) hN (N - (k + 1)) (N - (k + 1)) (k + 1) 0 f (f + 1) (dqP D (pKq (th u n (tk u n k))) (Int32.ofNat (nu u n (tk u n k)))) (Nat.le_refl _) (by omega) (by omega) (by omega) (by omega) (by rw [dqP_z]; omega)
    refine ⟨ok, D', k', fun s l r hD hA => ?_, fun p b hp hs s l r hD hR h13 => ?_, fun h => ?_⟩
    · obtain ⟨s2, e2, F2, D2, A2⟩ := c_L2_0 (g := g) (l := l) (r := r) (m := f) hD hA (by omega) hkN c2
      obtain ⟨s3, e3, F3, A3, D3⟩ := hc s2 l r D2 A2
      refine ⟨s3, ?_, F2.trans F3, A3, D3⟩
      rw [p5_readSum, rL_gd, hf, e2]
      exact e3
    · obtain ⟨s2, p2, e2, F2, hp2, D2, h2, k2⟩ := m_part_t (g := g) (l := l) (r := r) (b := b) hD hR hp hs (by omega) c2
      obtain ⟨s4, p4, b4, e4, F4, hp4, q4⟩ := hm p2 (tk u n k) hp2 k2 s2 l r D2 (hR.fq F2) (by rw [h2]; exact h13)
      refine ⟨s4, p4, b4, ?_, F2.trans F4, hp4, q4⟩
      rw [p12_readSum, w_gd, e2]
      simp only [obs, one_z, if_false]
      rw [hf]
      exact e4
    · obtain ⟨t1, t2, t3, t4⟩ := ht h
      rw [dqP_z] at t4
      exact ⟨t1 D (tq_one (pk_ty c2)), by omega, t3, by omega⟩
  · refine ⟨false, D, k, fun s l r hD hA => ?_, fun p b hp hs s l r hD hR h13 => ?_, fun h => (by cases h)⟩
    · have e2 := c_L2_f (g := g) (l := l) (r := r) (m := f) (i := 0) hA c2 (by decide)
      refine ⟨s, ?_, cLq.refl, hA, fun h => (by cases h)⟩
      rw [p5_readSum, rL_gd, hf]
      exact e2
    · obtain ⟨s2, p2, e2, F2, hp2⟩ := m_part_f (g := g) (l := l) (r := r) (b := b) hD hR hp hs (by omega) c2
      refine ⟨s2, p2, tk u n k, ?_, F2, hp2, fun h => (by cases h), fun _ => rfl⟩
      rw [p12_readSum, w_gd, e2]
      simp only [obs, if_true, ib_f]
end
