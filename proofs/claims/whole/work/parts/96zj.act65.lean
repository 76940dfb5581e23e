section
variable {g : Nat} {s s' s0 : tS} {l : tL} {r : Nat → Nat} {n p b q e k N dp t : Nat} {u : Nat → Nat} {D : Dq} {M : mMem}
/-! two sums and a sign -/
theorem jq_cmp3 {c o : Nat} {y : Int32} (hN : PNq n u N) (hk : k ≤ N) (hz : dqZ D + 1 ≤ k) (hc : c = 60 ∧ o = 11 ∧ y = 1 ∨ c = 62 ∧ o = 12 ∧ y = 0) (ht : th u n (tk u n k) = c) : ∃ ok D' k', CRq g n u N (p5_readComparison_J28 (ob g 52) (Int32.ofNat c)) D k ok D' k' ∧ (∀ b, MRq g n u (p12_readAtom_J152 (ob g 287) y) D dp (tk u n k + 1) b ok D' k') ∧ (ok = true → (∀ D0, tQq D0 D false → tQq D0 D' true) ∧ k ≤ k' ∧ k' ≤ N ∧ dqZ D' + k ≤ dqZ D + k') := by
  have hN4 : N ≤ 400 := Nat.le_trans hN.1 hN.2.1
  have hsg : sgB c = true := by rcases hc with ⟨rfl, -, -⟩ | ⟨rfl, -, -⟩ <;> rfl
  have hcl : Int32.ofNat c = Int32.ofNat (clS o) := by rcases hc with ⟨rfl, rfl, -⟩ | ⟨rfl, rfl, -⟩ <;> rfl
  have ho : o = 11 ∨ o = 12 := by omega
  obtain ⟨hkN, -⟩ := pn_lt hN hk ht (by omega)
  obtain ⟨hlt, hu⟩ := (th_c hsg).mp ht
  have k1 : sk u n (tk u n k + 1) = tk u n (k + 1) := by rw [tk_s hlt, sg_en (by rw [hu]; exact hsg)]
  obtain ⟨ok, D2, k2, hc2, hm2, ht2⟩ := jq_sum (g := g) (dp := dp) (k := k + 1) (D := D) hN (by omega) (by omega)
  cases ok with
  | false =>
    refine ⟨false, D, k2, fun s l r hD hA => ?_, fun b s l r hD hR h13 => ?_, fun h => (by cases h)⟩
    · have e6 := hA.2.2.1
      obtain ⟨s2, e2, F2, A2, -⟩ := hc2 _ l r (hD.up (o := 52) (j := 6) (v := Int32.ofNat (k + 1)) (by decide)) (hA.go hkN)
      refine ⟨s2, ?_, (cLq.up (by omega)).trans F2, A2, fun h => (by cases h)⟩
      simp only [p5_readComparison_J28, rL_I, e6, obs, rL_P, i_succ, e2, ib_f, if_true]
    · obtain ⟨s4, p4, b4, e4, F4, hp4, -, q4⟩ := hm2 (tk u n k + 1) b (by omega) k1 s l r hD hR h13
      refine ⟨s4, p4, b4, ?_, F4, hp4, fun h => (by cases h), q4⟩
      simp only [p12_readAtom_J152, e4, obs, ib_f, if_true, p12_readAtom_J159]
  | true =>
    obtain ⟨t1, t2, t3, t4⟩ := ht2 rfl
    refine ⟨true, dqP D2 o 0, k2, fun s l r hD hA => ?_, fun b s l r hD hR h13 => ?_, fun _ => ⟨fun D0 h0 => tq_cmp ho h0 t1, by omega, t3, by rw [dqP_z]; omega⟩⟩
    · have e6 := hA.2.2.1
      obtain ⟨s2, e2, F2, A2, D2'⟩ := hc2 _ l r (hD.up (o := 52) (j := 6) (v := Int32.ofNat (k + 1)) (by decide)) (hA.go hkN)
      obtain ⟨s3, e3, F3, D3, A3⟩ := lq_put (g := g) (l := l) (r := r) (n := n) (u := u) (N := N) (v := 0) (D2' rfl) (by omega) hcl
      refine ⟨s3, ?_, ((cLq.up (by omega)).trans F2).trans F3, A3 _ A2, fun _ => D3⟩
      simp only [p5_readComparison_J28, rL_I, e6, obs, rL_P, i_succ, e2, ib_t, one_z, if_false, lq_R8, e3]
    · obtain ⟨s4, p4, b4, e4, F4, hp4, q4, -⟩ := hm2 (tk u n k + 1) b (by omega) k1 s l r hD hR h13
      obtain ⟨D4, h4, k4⟩ := q4 rfl
      obtain ⟨s5, e5, F5, D5, h5⟩ := lq_emD (g := g) (l := l) (r := r) (p := p4) (b := b4) (o := o) (v := 0) D4 (by omega) rfl
      refine ⟨s5, p4, b4, ?_, F4.trans F5, hp4, fun _ => ⟨D5, h5.trans h4, k4⟩, fun h => (by cases h)⟩
      rcases hc with ⟨-, rfl, rfl⟩ | ⟨-, rfl, rfl⟩
      · have e5' : p12_emits (ob g 287) 11 0 _ = _ := e5
        simp only [p12_readAtom_J152, e4, obs, ib_t, one_z, if_false, p12_readAtom_J173, e5']
      · have e5' : p12_emits (ob g 287) 12 0 _ = _ := e5
        simp only [p12_readAtom_J152, e4, obs, ib_t, one_z, if_false, if_true, p12_readAtom_J173, e5']
def cmpQ (g : Nat) (M : mMem) : Option (Int32 × mMem) :=
  (p12_readSum (ob g 287) M).bind fun q_4 =>
  if q_4.1 = 0 then
    some (0, q_4.2)
  else
    (p12_sign (ob g 287) 60 q_4.2).bind fun q_5 =>
    if q_5.1 = 0 then
      (p12_sign (ob g 287) 62 q_5.2).bind fun q_6 =>
      if q_6.1 = 0 then
        p12_readAtom_J159 q_6.2
      else
        p12_readAtom_J152 (ob g 287) q_5.1 q_6.2
    else
      p12_readAtom_J152 (ob g 287) q_5.1 q_5.2
theorem jq_cmp (hN : PNq n u N) (hk : k ≤ N) (hz : dqZ D + 1 ≤ k) : JQ g n u N (p5_readComparison (ob g 52)) (cmpQ g) D dp k (fun D' => tQq D D' true) := by
  obtain ⟨ok1, D1, k1, hc1, hm1, ht1⟩ := jq_sum (g := g) (dp := dp) (D := D) hN hk hz
  cases ok1 with
  | false =>
    refine ⟨false, D, k1, fun s l r hD hA => ?_, fun p b hp hs s l r hD hR h13 => ?_, fun h => (by cases h)⟩
    · obtain ⟨s2, e2, F2, A2, -⟩ := hc1 s l r hD hA
      refine ⟨s2, ?_, F2, A2, fun h => (by cases h)⟩
      simp only [p5_readComparison, rL_gd, e2, obs, ib_f, if_true]
    · obtain ⟨s4, p4, b4, e4, F4, hp4, -, q4⟩ := hm1 p b hp hs s l r hD hR h13
      refine ⟨s4, p4, b4, ?_, F4, hp4, fun h => (by cases h), q4⟩
      simp only [cmpQ, e4, obs, ib_f, if_true]
  | true =>
    obtain ⟨t1, t2, t3, t4⟩ := ht1 rfl
    by_cases c60 : th u n (tk u n k1) = 60
    · obtain ⟨ok, D', k', hc, hm, ht⟩ := jq_cmp3 (g := g) (dp := dp) (o := 11) (y := 1) hN t3 (show dqZ D1 + 1 ≤ k1 by omega) (Or.inl ⟨rfl, rfl, rfl⟩) c60
      refine ⟨ok, D', k', fun s l r hD hA => ?_, fun p b hp hs s l r hD hR h13 => ?_, fun h => ?_⟩
      · obtain ⟨s2, e2, F2, A2, D2⟩ := hc1 s l r hD hA
        obtain ⟨s3, e3, F3, A3, D3⟩ := hc s2 l r (D2 rfl) A2
        refine ⟨s3, ?_, F2.trans F3, A3, D3⟩
        have e3' : p5_readComparison_J28 (ob g 52) 60 (mm g s2 l r) = _ := e3
        have en : (Int32.ofNat (th u n (tk u n k1))) = 60 := congrArg Int32.ofNat c60
        simp only [p5_readComparison, rL_gd, e2, obs, ib_t, one_z, if_false, rL_next A2, en, if_true, e3']
      · obtain ⟨s4, p4, b4, e4, F4, hp4, q4, -⟩ := hm1 p b hp hs s l r hD hR h13
        obtain ⟨D4, h4, k4⟩ := q4 rfl
        have es : p12_sign (ob g 287) 60 _ = _ := (m_sign_t (g := g) (l := l) (r := r) (b := b4) (hR.fq F4) hp4 k4 (c := 60) rfl c60).1
        obtain ⟨s5, p5, b5, e5, F5, hp5, q5⟩ := hm (tk u n k1) s4 l r D4 (hR.fq F4) h4
        refine ⟨s5, p5, b5, ?_, F4.trans F5, hp5, q5⟩
        simp only [cmpQ, e4, obs, ib_t, one_z, if_false, es, e5]
      · obtain ⟨a1, a2, a3, a4⟩ := ht h
        exact ⟨a1 D t1, by omega, a3, by omega⟩
    by_cases c62 : th u n (tk u n k1) = 62
    · obtain ⟨ok, D', k', hc, hm, ht⟩ := jq_cmp3 (g := g) (dp := dp) (o := 12) (y := 0) hN t3 (show dqZ D1 + 1 ≤ k1 by omega) (Or.inr ⟨rfl, rfl, rfl⟩) c62
      refine ⟨ok, D', k', fun s l r hD hA => ?_, fun p b hp hs s l r hD hR h13 => ?_, fun h => ?_⟩
      · obtain ⟨s2, e2, F2, A2, D2⟩ := hc1 s l r hD hA
        obtain ⟨s3, e3, F3, A3, D3⟩ := hc s2 l r (D2 rfl) A2
        refine ⟨s3, ?_, F2.trans F3, A3, D3⟩
        have e3' : p5_readComparison_J28 (ob g 52) 62 (mm g s2 l r) = _ := e3
        have en : (Int32.ofNat (th u n (tk u n k1))) = 62 := congrArg Int32.ofNat c62
        have n60 : ((62 : Int32) = 60) = False := by decide
        simp only [p5_readComparison, rL_gd, e2, obs, ib_t, one_z, if_false, rL_next A2, en, n60, if_true, e3']
      · obtain ⟨s4, p4, b4, e4, F4, hp4, q4, -⟩ := hm1 p b hp hs s l r hD hR h13
        obtain ⟨D4, h4, k4⟩ := q4 rfl
        have es0 : p12_sign (ob g 287) 60 _ = _ := m_sign_f (g := g) (l := l) (r := r) (b := b4) (hR.fq F4) hp4 k4 (c := 60) rfl c60
        have es : p12_sign (ob g 287) 62 _ = _ := (m_sign_t (g := g) (l := l) (r := r) (p := tk u n k1) (b := tk u n k1) (hR.fq F4) (tk_le k1) (sk_tk k1) (c := 62) rfl c62).1
        obtain ⟨s5, p5, b5, e5, F5, hp5, q5⟩ := hm (tk u n k1) s4 l r D4 (hR.fq F4) h4
        refine ⟨s5, p5, b5, ?_, F4.trans F5, hp5, q5⟩
        simp only [cmpQ, e4, obs, ib_t, one_z, if_false, es0, if_true, es, e5]
      · obtain ⟨a1, a2, a3, a4⟩ := ht h
        exact ⟨a1 D t1, by omega, a3, by omega⟩
    · refine ⟨false, D, k1, fun s l r hD hA => ?_, fun p b hp hs s l r hD hR h13 => ?_, fun h => (by cases h)⟩
      · obtain ⟨s2, e2, F2, A2, D2⟩ := hc1 s l r hD hA
        have n60 : (Int32.ofNat (th u n (tk u n k1)) = 60) = False := (rL_eq (c := 60) A2 (by decide)).trans (eq_false c60)
        have n62 : (Int32.ofNat (th u n (tk u n k1)) = 62) = False := (rL_eq (c := 62) A2 (by decide)).trans (eq_false c62)
        refine ⟨s2, ?_, F2, A2, fun h => (by cases h)⟩
        simp only [p5_readComparison, rL_gd, e2, obs, ib_t, one_z, if_false, rL_next A2, n60, n62, ib_f]
      · obtain ⟨s4, p4, b4, e4, F4, hp4, q4, -⟩ := hm1 p b hp hs s l r hD hR h13
        obtain ⟨D4, h4, k4⟩ := q4 rfl
        have es0 : p12_sign (ob g 287) 60 _ = _ := m_sign_f (g := g) (l := l) (r := r) (b := b4) (hR.fq F4) hp4 k4 (c := 60) rfl c60
        have es : p12_sign (ob g 287) 62 _ = _ := m_sign_f (g := g) (l := l) (r := r) (p := tk u n k1) (b := tk u n k1) (hR.fq F4) (tk_le k1) (sk_tk k1) (c := 62) rfl c62
        refine ⟨s4, tk u n k1, tk u n k1, ?_, F4, tk_le k1, fun h => (by cases h), fun _ => rfl⟩
        simp only [cmpQ, e4, obs, ib_t, one_z, if_false, es0, if_true, es, p12_readAtom_J159, ib_f]
/-! a word that is true or not -/
def tgq (t : Nat) : Nat := if t = 12 then 6 else if t = 24 then 7 else if t = 25 then 8 else 16
theorem tg_t (h : tgq t < 16) : t = 12 ∨ t = 24 ∨ t = 25 := by
  by_cases a : t = 12 ∨ t = 24 ∨ t = 25
  · exact a
  · unfold tgq at h
    rw [if_neg (by omega), if_neg (by omega), if_neg (by omega)] at h
    omega
theorem tg_f (h : ¬ tgq t < 16) : t ≠ 12 ∧ t ≠ 24 ∧ t ≠ 25 := by
  refine ⟨?_, ?_, ?_⟩ <;> (rintro rfl; exact h (by decide))
theorem tg_k (h : tgq t < 16) : Int32.ofNat t = Int32.ofNat (clS (tgq t)) ∧ 6 ≤ tgq t ∧ tgq t ≤ 8 ∧ ∃ w, w < 27 ∧ t = 3 + w := by
  rcases tg_t h with rfl | rfl | rfl
  · exact ⟨rfl, by decide, by decide, 9, by decide, rfl⟩
  · exact ⟨rfl, by decide, by decide, 21, by decide, rfl⟩
  · exact ⟨rfl, by decide, by decide, 22, by decide, rfl⟩
theorem m_tag_t (hD : DqM s D) (hR : RT s n u) (hp : p ≤ n) (hs : sk u n p = tk u n k) (hz : dqZ D < 400) (hk : tgq (th u n (tk u n k)) < 16) : ∃ s', p12_readTag (ob g 287) (mm g (sc s p b) l r) = some (1, mm g (sc s' (eL u n (tk u n k)) (tk u n k)) l r) ∧ mLq s s' ∧ DqM s' (dqP D (tgq (th u n (tk u n k))) 0) ∧ s' 287 13 = s 287 13 ∧ sk u n (eL u n (tk u n k)) = tk u n (k + 1) := by
  have el := m_let (g := g) (l := l) (r := r) (b := b) hR hp hs
  obtain ⟨-, -, -, w, hw, ht⟩ := tg_k hk
  obtain ⟨-, -, a3⟩ := wd_t hw ht
  obtain ⟨s1, e1, F1, D1, h13⟩ := lq_emD (g := g) (l := l) (r := r) (p := eL u n (tk u n k)) (b := tk u n k) (o := tgq (th u n (tk u n k))) (v := 0) hD hz rfl
  refine ⟨s1, ?_, F1, D1, h13, a3⟩
  have e8 : (Int32.ofNat (tgq (th u n (tk u n k))) < 0) = False := eq_false (i_nlt0 (by omega))
  rcases tg_t hk with c | c | c
  · have e0 : tgq (th u n (tk u n k)) = 6 := by rw [c]; rfl
    rw [e0] at e1 e8
    have e1' : p12_emits (ob g 287) 6 0 _ = _ := e1
    have e8' : ((6 : Int32) < 0) = False := e8
    simp only [p12_readTag, w_gd, el, obs, mW_t hR (w := 9) (by decide) c, one_z, if_false, p12_readTag_J47, e8', e1', p12_readTag_J69, p12_readTag_J78, bZ_1]
  · have e0 : tgq (th u n (tk u n k)) = 7 := by rw [c]; rfl
    rw [e0] at e1 e8
    have e1' : p12_emits (ob g 287) 7 0 _ = _ := e1
    have e8' : ((7 : Int32) < 0) = False := e8
    simp only [p12_readTag, w_gd, el, obs, mW_f hR (w := 9) (by decide) (show th u n (tk u n k) ≠ 3 + 9 by omega), if_true, mW_t hR (w := 21) (by decide) c, one_z, if_false, p12_readTag_J47, e8', e1', p12_readTag_J69, p12_readTag_J78, bZ_1]
  · have e0 : tgq (th u n (tk u n k)) = 8 := by rw [c]; rfl
    rw [e0] at e1 e8
    have e1' : p12_emits (ob g 287) 8 0 _ = _ := e1
    have e8' : ((8 : Int32) < 0) = False := e8
    simp only [p12_readTag, w_gd, el, obs, mW_f hR (w := 9) (by decide) (show th u n (tk u n k) ≠ 3 + 9 by omega), if_true, mW_f hR (w := 21) (by decide) (show th u n (tk u n k) ≠ 3 + 21 by omega), mW_t hR (w := 22) (by decide) c, one_z, if_false, p12_readTag_J47, e8', e1', p12_readTag_J69, p12_readTag_J78, bZ_1]
theorem m_tag_f (hR : RT s n u) (hp : p ≤ n) (hs : sk u n p = tk u n k) (hk : ¬ tgq (th u n (tk u n k)) < 16) : p12_readTag (ob g 287) (mm g (sc s p b) l r) = some (0, mm g (sc s (tk u n k) (tk u n k)) l r) := by
  have el := m_let (g := g) (l := l) (r := r) (b := b) hR hp hs
  obtain ⟨n1, n2, n3⟩ := tg_f hk
  simp only [p12_readTag, w_gd, el, obs, mW_f hR (w := 9) (by decide) n1, if_true, mW_f hR (w := 21) (by decide) n2, mW_f hR (w := 22) (by decide) n3, p12_readTag_J47, m1_lt, w_getI, sc_12, w_putI, sc_p, p12_readTag_J69, p12_readTag_J78, bZ_0]
end
