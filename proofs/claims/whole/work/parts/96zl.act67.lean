section
variable {g : Nat} {s s' s0 : tS} {l : tL} {r : Nat → Nat} {n p b q e k N dp t : Nat} {u : Nat → Nat} {D : Dq} {M : mMem}
/-! atoms with and, these with or: both loops out of one template (96zl.tpl) -/
theorem jq_allL {fa : Nat → Int32 → mMem → Option (Int32 × mMem)} {qa : Nat → mMem → Option (Int32 × mMem)} (hN : PNq n u N) (hA : ∀ (D : Dq) k, k ≤ N → dqZ D + 1 ≤ k → JQ g n u N (fa (ob g 52) (Int32.ofNat dp)) (qa (ob g 287)) D dp k (fun D' => tQq D D' true)) : ∀ m d k i fc fm (D : Dq), d ≤ m → k + d = N → i < k → d < fc → d < fm → dqZ D + 1 ≤ k → JQ g n u N (p5_readAll_L12 fa fc (ob g 52) (Int32.ofNat dp) (Int32.ofNat i)) (p12_readAllOf_L9 qa fm (ob g 287)) D dp k (fun D' => ∀ D0, tQq D0 D true → tQq D0 D' true) := by
  have hN4 : N ≤ 400 := Nat.le_trans hN.1 hN.2.1
  have stop : ∀ k i fc fm (D : Dq), k ≤ N → i < k → 0 < fc → 0 < fm → th u n (tk u n k) ≠ 22 → JQ g n u N (p5_readAll_L12 fa fc (ob g 52) (Int32.ofNat dp) (Int32.ofNat i)) (p12_readAllOf_L9 qa fm (ob g 287)) D dp k (fun D' => ∀ D0, tQq D0 D true → tQq D0 D' true) := fun k i fc fm D hk hi hfc hfm c => by
    obtain ⟨fm, rfl⟩ : ∃ x, fm = x + 1 := ⟨fm - 1, by omega⟩
    obtain ⟨fc, rfl⟩ : ∃ x, fc = x + 1 := ⟨fc - 1, by omega⟩
    have l4 : (Int32.ofNat i < 400) = True := eq_true ((i_lt (b := 400) (by omega) (by decide)).mpr (by omega))
    refine ⟨true, D, k, fun s l r hD hA => ?_, fun p b hp hs s l r hD hR h13 => ?_, fun _ => ⟨fun D0 h => h, Nat.le_refl _, by omega, Nat.le_refl _⟩⟩
    · have e : p5_took (ob g 52) 22 (mm g s l r) = _ := rL_took_f hA (c := 22) (by decide) c
      refine ⟨s, ?_, cLq.refl, hA, fun _ => hD⟩
      simp only [p5_readAll_L12, l4, e, obs, if_true, p5_readAll_J54, ib_t]
    · have e := m_pass_f (g := g) (l := l) (r := r) (b := b) hR hp hs (w := 19) (by decide) c
      refine ⟨s, tk u n k, tk u n k, ?_, mLq.refl, tk_le k, fun _ => ⟨hD, h13, sk_tk k⟩, fun h => (by cases h)⟩
      simp only [p12_readAllOf_L9, e, obs, if_true, ib_t]
  intro m
  induction m with
  | zero =>
    intro d k i fc fm D hd hk hi hfc hfm hz
    exact stop k i fc fm D (by omega) hi (by omega) (by omega) (fun h => by have := (pn_lt hN (by omega) h (by decide)).1; omega)
  | succ m ih =>
    intro d k i fc fm D hd hk hi hfc hfm hz
    by_cases c : th u n (tk u n k) = 22
    · obtain ⟨fm, rfl⟩ : ∃ x, fm = x + 1 := ⟨fm - 1, by omega⟩
      obtain ⟨fc, rfl⟩ : ∃ x, fc = x + 1 := ⟨fc - 1, by omega⟩
      have l4 : (Int32.ofNat i < 400) = True := eq_true ((i_lt (b := 400) (by omega) (by decide)).mpr (by omega))
      obtain ⟨hkN, hlt⟩ := pn_lt hN (by omega) c (by decide)
      obtain ⟨-, -, ks⟩ := wd_t (w := 19) (by decide) c
      obtain ⟨ok1, D1, k1, hc1, hm1, ht1⟩ := hA D (k + 1) (by omega) (by omega)
      have cls : ∀ (s : tS) (l : tL) (r : Nat → Nat), DqC s D → ATrL s n u N k → p5_took (ob g 52) 22 (mm g s l r) = some (1, mm g (up2 s 52 6 (Int32.ofNat (k + 1))) l r) ∧ ∃ s2, fa (ob g 52) (Int32.ofNat dp) (mm g (up2 s 52 6 (Int32.ofNat (k + 1))) l r) = some (ib ok1, mm g s2 l r) ∧ cLq s s2 ∧ ATrL s2 n u N k1 ∧ (ok1 = true → DqC s2 D1) := fun s l r hD hA => by
        obtain ⟨s2, e2, F2, A2, D2⟩ := hc1 _ l r (hD.up (o := 52) (j := 6) (v := Int32.ofNat (k + 1)) (by decide)) (hA.go hkN)
        exact ⟨rL_took_t hA (c := 22) c, s2, e2, (cLq.up (by omega)).trans F2, A2, D2⟩
      cases ok1 with
      | false =>
        refine ⟨false, D, k1, fun s l r hD hA => ?_, fun p b hp hs s l r hD hR h13 => ?_, fun h => (by cases h)⟩
        · obtain ⟨et, s2, e2, F2, A2, -⟩ := cls s l r hD hA
          refine ⟨s2, ?_, F2, A2, fun h => (by cases h)⟩
          simp only [p5_readAll_L12, l4, if_true, et, obs, one_z, if_false, e2, ib_f]
        · have e := (m_pass_t (g := g) (l := l) (r := r) (b := b) hR hp hs (w := 19) (by decide) c).2.2
          obtain ⟨s4, p4, b4, e4, F4, hp4, -, q4⟩ := hm1 (eL u n (tk u n k)) (tk u n k) (rU_le (tk_le k)) ks s l r hD hR h13
          refine ⟨s4, p4, b4, ?_, F4, hp4, fun h => (by cases h), q4⟩
          simp only [p12_readAllOf_L9, e, obs, one_z, if_false, e4, ib_f, if_true]
      | true =>
        obtain ⟨t1, t2, t3, t4⟩ := ht1 rfl
        obtain ⟨ok, D', k', hc, hm, ht⟩ := ih (N - k1) k1 (i + 1) fc fm (dqP D1 14 0) (by omega) (by omega) (by omega) (by omega) (by omega) (by rw [dqP_z]; omega)
        refine ⟨ok, D', k', fun s l r hD hA => ?_, fun p b hp hs s l r hD hR h13 => ?_, fun h => ?_⟩
        · obtain ⟨et, s2, e2, F2, A2, D2⟩ := cls s l r hD hA
          obtain ⟨s3, e3, F3, D3, A3⟩ := lq_put (g := g) (l := l) (r := r) (n := n) (u := u) (N := N) (x := 22) (o := 14) (v := 0) (D2 rfl) (by omega) rfl
          obtain ⟨s4, e4, F4, A4, D4⟩ := hc s3 l r D3 (A3 _ A2)
          refine ⟨s4, ?_, (F2.trans F3).trans F4, A4, D4⟩
          rw [← e4]
          simp only [p5_readAll_L12, l4, if_true, et, obs, one_z, if_false, e2, ib_t, lq_R8, e3, i_succ]
        · have e := (m_pass_t (g := g) (l := l) (r := r) (b := b) hR hp hs (w := 19) (by decide) c).2.2
          obtain ⟨s4, p4, b4, e4, F4, hp4, q4, -⟩ := hm1 (eL u n (tk u n k)) (tk u n k) (rU_le (tk_le k)) ks s l r hD hR h13
          obtain ⟨D4, h4, k4⟩ := q4 rfl
          obtain ⟨s5, e5, F5, D5, h5⟩ := lq_emD (g := g) (l := l) (r := r) (p := p4) (b := b4) (o := 14) (x := 14) (v := 0) D4 (by omega) rfl
          obtain ⟨s6, p6, b6, e6, F6, hp6, q6⟩ := hm p4 b4 hp4 k4 s5 l r D5 (hR.fq (F4.trans F5)) (h5.trans h4)
          refine ⟨s6, p6, b6, ?_, (F4.trans F5).trans F6, hp6, q6⟩
          rw [← e6]
          simp only [p12_readAllOf_L9, e, obs, one_z, if_false, e4, ib_t, e5]
        · obtain ⟨a1, a2, a3, a4⟩ := ht h
          rw [dqP_z] at a4
          exact ⟨fun D0 h0 => a1 D0 (tq_and (by omega) h0 t1), by omega, a3, by omega⟩
    · exact stop k i fc fm D (by omega) hi (by omega) (by omega) c
theorem jq_all {fa : Nat → Int32 → mMem → Option (Int32 × mMem)} {qa : Nat → mMem → Option (Int32 × mMem)} (hN : PNq n u N) (hA : ∀ (D : Dq) k, k ≤ N → dqZ D + 1 ≤ k → JQ g n u N (fa (ob g 52) (Int32.ofNat dp)) (qa (ob g 287)) D dp k (fun D' => tQq D D' true)) (hk : k ≤ N) (hz : dqZ D + 1 ≤ k) : JQ g n u N (p5_readAll_B fa (ob g 52) (Int32.ofNat dp)) (p12_readAllOf_B qa (ob g 287)) D dp k (fun D' => tQq D D' true) := by
  have hN4 : N ≤ 400 := Nat.le_trans hN.1 hN.2.1
  obtain ⟨ok1, D1, k1, hc1, hm1, ht1⟩ := hA D k hk hz
  cases ok1 with
  | false =>
    refine ⟨false, D, k1, fun s l r hD hA => ?_, fun p b hp hs s l r hD hR h13 => ?_, fun h => (by cases h)⟩
    · obtain ⟨s2, e2, F2, A2, -⟩ := hc1 s l r hD hA
      refine ⟨s2, ?_, F2, A2, fun h => (by cases h)⟩
      simp only [p5_readAll_B, rL_gd, e2, obs, ib_f, if_true]
    · obtain ⟨s4, p4, b4, e4, F4, hp4, -, q4⟩ := hm1 p b hp hs s l r hD hR h13
      refine ⟨s4, p4, b4, ?_, F4, hp4, fun h => (by cases h), q4⟩
      simp only [p12_readAllOf_B, w_gd, e4, obs, ib_f, if_true]
  | true =>
    obtain ⟨t1, t2, t3, t4⟩ := ht1 rfl
    obtain ⟨f, hf, hf4⟩ := gF_s
    obtain ⟨ok, D', k', hc, hm, ht⟩ := jq_allL (g := g) (dp := dp) hN hA (N - k1) (N - k1) k1 0 (f + 1) (f + 1) D1 (Nat.le_refl _) (by omega) (by omega) (by omega) (by omega) (by omega)
    refine ⟨ok, D', k', fun s l r hD hA => ?_, fun p b hp hs s l r hD hR h13 => ?_, fun h => ?_⟩
    · obtain ⟨s2, e2, F2, A2, D2⟩ := hc1 s l r hD hA
      obtain ⟨s3, e3, F3, A3, D3⟩ := hc s2 l r (D2 rfl) A2
      refine ⟨s3, ?_, F2.trans F3, A3, D3⟩
      have e3' : p5_readAll_L12 fa (f + 1) (ob g 52) (Int32.ofNat dp) 0 (mm g s2 l r) = _ := e3
      rw [← hf] at e3'
      simp only [p5_readAll_B, rL_gd, e2, obs, ib_t, one_z, if_false, e3']
    · obtain ⟨s4, p4, b4, e4, F4, hp4, q4, -⟩ := hm1 p b hp hs s l r hD hR h13
      obtain ⟨D4, h4, k4⟩ := q4 rfl
      obtain ⟨s6, p6, b6, e6, F6, hp6, q6⟩ := hm p4 b4 hp4 k4 s4 l r D4 (hR.fq F4) h4
      refine ⟨s6, p6, b6, ?_, F4.trans F6, hp6, q6⟩
      rw [← hf] at e6
      simp only [p12_readAllOf_B, w_gd, e4, obs, ib_t, one_z, if_false, e6]
    · obtain ⟨a1, a2, a3, a4⟩ := ht h
      exact ⟨a1 D t1, by omega, a3, by omega⟩
theorem jq_anyL {fa : Nat → Int32 → mMem → Option (Int32 × mMem)} {qa : Nat → mMem → Option (Int32 × mMem)} (hN : PNq n u N) (hA : ∀ (D : Dq) k, k ≤ N → dqZ D + 1 ≤ k → JQ g n u N (fa (ob g 52) (Int32.ofNat dp)) (qa (ob g 287)) D dp k (fun D' => tQq D D' true)) : ∀ m d k i fc fm (D : Dq), d ≤ m → k + d = N → i < k → d < fc → d < fm → dqZ D + 1 ≤ k → JQ g n u N (p5_readAny_L12 fa fc (ob g 52) (Int32.ofNat dp) (Int32.ofNat i)) (p12_readCond_L9 qa fm (ob g 287)) D dp k (fun D' => ∀ D0, tQq D0 D true → tQq D0 D' true) := by
  have hN4 : N ≤ 400 := Nat.le_trans hN.1 hN.2.1
  have stop : ∀ k i fc fm (D : Dq), k ≤ N → i < k → 0 < fc → 0 < fm → th u n (tk u n k) ≠ 21 → JQ g n u N (p5_readAny_L12 fa fc (ob g 52) (Int32.ofNat dp) (Int32.ofNat i)) (p12_readCond_L9 qa fm (ob g 287)) D dp k (fun D' => ∀ D0, tQq D0 D true → tQq D0 D' true) := fun k i fc fm D hk hi hfc hfm c => by
    obtain ⟨fm, rfl⟩ : ∃ x, fm = x + 1 := ⟨fm - 1, by omega⟩
    obtain ⟨fc, rfl⟩ : ∃ x, fc = x + 1 := ⟨fc - 1, by omega⟩
    have l4 : (Int32.ofNat i < 400) = True := eq_true ((i_lt (b := 400) (by omega) (by decide)).mpr (by omega))
    refine ⟨true, D, k, fun s l r hD hA => ?_, fun p b hp hs s l r hD hR h13 => ?_, fun _ => ⟨fun D0 h => h, Nat.le_refl _, by omega, Nat.le_refl _⟩⟩
    · have e : p5_took (ob g 52) 21 (mm g s l r) = _ := rL_took_f hA (c := 21) (by decide) c
      refine ⟨s, ?_, cLq.refl, hA, fun _ => hD⟩
      simp only [p5_readAny_L12, l4, e, obs, if_true, p5_readAny_J54, ib_t]
    · have e := m_pass_f (g := g) (l := l) (r := r) (b := b) hR hp hs (w := 18) (by decide) c
      refine ⟨s, tk u n k, tk u n k, ?_, mLq.refl, tk_le k, fun _ => ⟨hD, h13, sk_tk k⟩, fun h => (by cases h)⟩
      simp only [p12_readCond_L9, e, obs, if_true, ib_t]
  intro m
  induction m with
  | zero =>
    intro d k i fc fm D hd hk hi hfc hfm hz
    exact stop k i fc fm D (by omega) hi (by omega) (by omega) (fun h => by have := (pn_lt hN (by omega) h (by decide)).1; omega)
  | succ m ih =>
    intro d k i fc fm D hd hk hi hfc hfm hz
    by_cases c : th u n (tk u n k) = 21
    · obtain ⟨fm, rfl⟩ : ∃ x, fm = x + 1 := ⟨fm - 1, by omega⟩
      obtain ⟨fc, rfl⟩ : ∃ x, fc = x + 1 := ⟨fc - 1, by omega⟩
      have l4 : (Int32.ofNat i < 400) = True := eq_true ((i_lt (b := 400) (by omega) (by decide)).mpr (by omega))
      obtain ⟨hkN, hlt⟩ := pn_lt hN (by omega) c (by decide)
      obtain ⟨-, -, ks⟩ := wd_t (w := 18) (by decide) c
      obtain ⟨ok1, D1, k1, hc1, hm1, ht1⟩ := hA D (k + 1) (by omega) (by omega)
      have cls : ∀ (s : tS) (l : tL) (r : Nat → Nat), DqC s D → ATrL s n u N k → p5_took (ob g 52) 21 (mm g s l r) = some (1, mm g (up2 s 52 6 (Int32.ofNat (k + 1))) l r) ∧ ∃ s2, fa (ob g 52) (Int32.ofNat dp) (mm g (up2 s 52 6 (Int32.ofNat (k + 1))) l r) = some (ib ok1, mm g s2 l r) ∧ cLq s s2 ∧ ATrL s2 n u N k1 ∧ (ok1 = true → DqC s2 D1) := fun s l r hD hA => by
        obtain ⟨s2, e2, F2, A2, D2⟩ := hc1 _ l r (hD.up (o := 52) (j := 6) (v := Int32.ofNat (k + 1)) (by decide)) (hA.go hkN)
        exact ⟨rL_took_t hA (c := 21) c, s2, e2, (cLq.up (by omega)).trans F2, A2, D2⟩
      cases ok1 with
      | false =>
        refine ⟨false, D, k1, fun s l r hD hA => ?_, fun p b hp hs s l r hD hR h13 => ?_, fun h => (by cases h)⟩
        · obtain ⟨et, s2, e2, F2, A2, -⟩ := cls s l r hD hA
          refine ⟨s2, ?_, F2, A2, fun h => (by cases h)⟩
          simp only [p5_readAny_L12, l4, if_true, et, obs, one_z, if_false, e2, ib_f]
        · have e := (m_pass_t (g := g) (l := l) (r := r) (b := b) hR hp hs (w := 18) (by decide) c).2.2
          obtain ⟨s4, p4, b4, e4, F4, hp4, -, q4⟩ := hm1 (eL u n (tk u n k)) (tk u n k) (rU_le (tk_le k)) ks s l r hD hR h13
          refine ⟨s4, p4, b4, ?_, F4, hp4, fun h => (by cases h), q4⟩
          simp only [p12_readCond_L9, e, obs, one_z, if_false, e4, ib_f, if_true]
      | true =>
        obtain ⟨t1, t2, t3, t4⟩ := ht1 rfl
        obtain ⟨ok, D', k', hc, hm, ht⟩ := ih (N - k1) k1 (i + 1) fc fm (dqP D1 15 0) (by omega) (by omega) (by omega) (by omega) (by omega) (by rw [dqP_z]; omega)
        refine ⟨ok, D', k', fun s l r hD hA => ?_, fun p b hp hs s l r hD hR h13 => ?_, fun h => ?_⟩
        · obtain ⟨et, s2, e2, F2, A2, D2⟩ := cls s l r hD hA
          obtain ⟨s3, e3, F3, D3, A3⟩ := lq_put (g := g) (l := l) (r := r) (n := n) (u := u) (N := N) (x := 21) (o := 15) (v := 0) (D2 rfl) (by omega) rfl
          obtain ⟨s4, e4, F4, A4, D4⟩ := hc s3 l r D3 (A3 _ A2)
          refine ⟨s4, ?_, (F2.trans F3).trans F4, A4, D4⟩
          rw [← e4]
          simp only [p5_readAny_L12, l4, if_true, et, obs, one_z, if_false, e2, ib_t, lq_R8, e3, i_succ]
        · have e := (m_pass_t (g := g) (l := l) (r := r) (b := b) hR hp hs (w := 18) (by decide) c).2.2
          obtain ⟨s4, p4, b4, e4, F4, hp4, q4, -⟩ := hm1 (eL u n (tk u n k)) (tk u n k) (rU_le (tk_le k)) ks s l r hD hR h13
          obtain ⟨D4, h4, k4⟩ := q4 rfl
          obtain ⟨s5, e5, F5, D5, h5⟩ := lq_emD (g := g) (l := l) (r := r) (p := p4) (b := b4) (o := 15) (x := 15) (v := 0) D4 (by omega) rfl
          obtain ⟨s6, p6, b6, e6, F6, hp6, q6⟩ := hm p4 b4 hp4 k4 s5 l r D5 (hR.fq (F4.trans F5)) (h5.trans h4)
          refine ⟨s6, p6, b6, ?_, (F4.trans F5).trans F6, hp6, q6⟩
          rw [← e6]
          simp only [p12_readCond_L9, e, obs, one_z, if_false, e4, ib_t, e5]
        · obtain ⟨a1, a2, a3, a4⟩ := ht h
          rw [dqP_z] at a4
          exact ⟨fun D0 h0 => a1 D0 (tq_and (by omega) h0 t1), by omega, a3, by omega⟩
    · exact stop k i fc fm D (by omega) hi (by omega) (by omega) c
theorem jq_any {fa : Nat → Int32 → mMem → Option (Int32 × mMem)} {qa : Nat → mMem → Option (Int32 × mMem)} (hN : PNq n u N) (hA : ∀ (D : Dq) k, k ≤ N → dqZ D + 1 ≤ k → JQ g n u N (fa (ob g 52) (Int32.ofNat dp)) (qa (ob g 287)) D dp k (fun D' => tQq D D' true)) (hk : k ≤ N) (hz : dqZ D + 1 ≤ k) : JQ g n u N (p5_readAny_B fa (ob g 52) (Int32.ofNat dp)) (p12_readCond_B qa (ob g 287)) D dp k (fun D' => tQq D D' true) := by
  have hN4 : N ≤ 400 := Nat.le_trans hN.1 hN.2.1
  obtain ⟨ok1, D1, k1, hc1, hm1, ht1⟩ := hA D k hk hz
  cases ok1 with
  | false =>
    refine ⟨false, D, k1, fun s l r hD hA => ?_, fun p b hp hs s l r hD hR h13 => ?_, fun h => (by cases h)⟩
    · obtain ⟨s2, e2, F2, A2, -⟩ := hc1 s l r hD hA
      refine ⟨s2, ?_, F2, A2, fun h => (by cases h)⟩
      simp only [p5_readAny_B, rL_gd, e2, obs, ib_f, if_true]
    · obtain ⟨s4, p4, b4, e4, F4, hp4, -, q4⟩ := hm1 p b hp hs s l r hD hR h13
      refine ⟨s4, p4, b4, ?_, F4, hp4, fun h => (by cases h), q4⟩
      simp only [p12_readCond_B, w_gd, e4, obs, ib_f, if_true]
  | true =>
    obtain ⟨t1, t2, t3, t4⟩ := ht1 rfl
    obtain ⟨f, hf, hf4⟩ := gF_s
    obtain ⟨ok, D', k', hc, hm, ht⟩ := jq_anyL (g := g) (dp := dp) hN hA (N - k1) (N - k1) k1 0 (f + 1) (f + 1) D1 (Nat.le_refl _) (by omega) (by omega) (by omega) (by omega) (by omega)
    refine ⟨ok, D', k', fun s l r hD hA => ?_, fun p b hp hs s l r hD hR h13 => ?_, fun h => ?_⟩
    · obtain ⟨s2, e2, F2, A2, D2⟩ := hc1 s l r hD hA
      obtain ⟨s3, e3, F3, A3, D3⟩ := hc s2 l r (D2 rfl) A2
      refine ⟨s3, ?_, F2.trans F3, A3, D3⟩
      have e3' : p5_readAny_L12 fa (f + 1) (ob g 52) (Int32.ofNat dp) 0 (mm g s2 l r) = _ := e3
      rw [← hf] at e3'
      simp only [p5_readAny_B, rL_gd, e2, obs, ib_t, one_z, if_false, e3']
    · obtain ⟨s4, p4, b4, e4, F4, hp4, q4, -⟩ := hm1 p b hp hs s l r hD hR h13
      obtain ⟨D4, h4, k4⟩ := q4 rfl
      obtain ⟨s6, p6, b6, e6, F6, hp6, q6⟩ := hm p4 b4 hp4 k4 s4 l r D4 (hR.fq F4) h4
      refine ⟨s6, p6, b6, ?_, F4.trans F6, hp6, q6⟩
      rw [← hf] at e6
      simp only [p12_readCond_B, w_gd, e4, obs, ib_t, one_z, if_false, e6]
    · obtain ⟨a1, a2, a3, a4⟩ := ht h
      exact ⟨a1 D t1, by omega, a3, by omega⟩
/-! the groups, down to six deep -/
theorem grp1_at {f : Nat} : (grp1 (f + 1)).1 = fun a0 x1 M => p5_readAtom_B ((grp1 f).2.2) ((grp1 f).1) a0 x1 M := rfl
theorem grp1_al {f : Nat} : (grp1 (f + 1)).2.1 = fun a0 x1 M => p5_readAll_B ((grp1 f).1) a0 x1 M := rfl
theorem grp1_an {f : Nat} : (grp1 (f + 1)).2.2 = fun a0 x1 M => p5_readAny_B ((grp1 f).2.1) a0 x1 M := rfl
theorem grp3_at {f : Nat} : (grp3 (f + 1)).2.2 = fun a0 M => p12_readAtom_B ((grp3 f).2.2) ((grp3 f).2.1) a0 M := rfl
theorem grp3_al {f : Nat} : (grp3 (f + 1)).1 = fun a0 M => p12_readAllOf_B ((grp3 f).2.2) a0 M := rfl
theorem grp3_an {f : Nat} : (grp3 (f + 1)).2.1 = fun a0 M => p12_readCond_B ((grp3 f).1) a0 M := rfl
theorem jq_up (hN : PNq n u N) {fc fm : Nat} (h : ∀ (D : Dq) k, k ≤ N → dqZ D + 1 ≤ k → JQ g n u N ((grp1 fc).1 (ob g 52) (Int32.ofNat dp)) ((grp3 fm).2.2 (ob g 287)) D dp k (fun D' => tQq D D' true)) (hk : k ≤ N) (hz : dqZ D + 1 ≤ k) : JQ g n u N ((grp1 (fc + 1 + 1)).2.2 (ob g 52) (Int32.ofNat dp)) ((grp3 (fm + 1 + 1)).2.1 (ob g 287)) D dp k (fun D' => tQq D D' true) := by
  rw [grp1_an, grp3_an]
  refine jq_any hN (fun D k hk hz => ?_) hk hz
  rw [grp1_al, grp3_al]
  exact jq_all hN h hk hz
theorem jq_grp (hN : PNq n u N) : ∀ e dp, dp + e = 6 → ∀ fc fm, 3 * e + 1 ≤ fc → 3 * e + 1 ≤ fm → ∀ (D : Dq) k, k ≤ N → dqZ D + 1 ≤ k → JQ g n u N ((grp1 fc).1 (ob g 52) (Int32.ofNat dp)) ((grp3 fm).2.2 (ob g 287)) D dp k (fun D' => tQq D D' true) := by
  intro e
  induction e with
  | zero =>
    intro dp hdp fc fm hc hm D k hk hz
    have hdp : dp = 6 := hdp
    have hc : 1 ≤ fc := hc
    have hm : 1 ≤ fm := hm
    obtain ⟨fc, rfl⟩ : ∃ x, fc = x + 1 := ⟨fc - 1, by omega⟩
    obtain ⟨fm, rfl⟩ : ∃ x, fm = x + 1 := ⟨fm - 1, by omega⟩
    rw [grp1_at, grp3_at]
    exact jq_atom hN (by omega) (fun h => absurd h (by omega)) (fun h => absurd h (by omega)) hk hz
  | succ e ih =>
    intro dp hdp fc fm hc hm D k hk hz
    obtain ⟨fc, rfl⟩ : ∃ x, fc = x + 1 + 1 + 1 := ⟨fc - 3, by omega⟩
    obtain ⟨fm, rfl⟩ : ∃ x, fm = x + 1 + 1 + 1 := ⟨fm - 3, by omega⟩
    rw [grp1_at, grp3_at]
    exact jq_atom hN (by omega) (fun _ D k hk hz => ih (dp + 1) (by omega) (fc + 1 + 1) (fm + 1 + 1) (by omega) (by omega) D k hk hz) (fun _ D k hk hz => jq_up hN (ih (dp + 1) (by omega) fc fm (by omega) (by omega)) hk hz) hk hz
theorem jq_cond (hN : PNq n u N) (hk : k ≤ N) (hz : dqZ D + 1 ≤ k) : JQ g n u N (p5_readAny (ob g 52) 0) (p12_readCond (ob g 287)) D 0 k (fun D' => tQq D D' true) := jq_up (dp := 0) (fc := 62) (fm := 62) hN (jq_grp hN 6 0 rfl 62 62 (by decide) (by decide)) hk hz
end
