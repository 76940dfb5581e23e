section
variable {g : Nat} {s s' s0 : tS} {l : tL} {r : Nat → Nat} {n p b q e k N i kd : Nat} {u : Nat → Nat} {D D' : Dq} {M : mMem} {am : Int32} {I : Lnq}
theorem m_rl0 {i : Nat} (hi : i ≤ 12) (h : RT s n u) (hp : p ≤ n) (hs : sk u n p = tk u n k) : p12_readLine (ob g 287) 0 (Int32.ofNat i) (mm g (sc s p b) l r) = if i < 12 then (p12_readLawLine (ob g 287) (Int32.ofNat i) (mm g (sc s (eL u n (tk u n k)) (tk u n k)) l r)).bind fun q_1 => if q_1.1 = 0 then p12_readLine_J45 q_1.2 else p12_readLine_J41 q_1.2 else some (0, mm g (sc s (eL u n (tk u n k)) (tk u n k)) l r) := by
  by_cases c : i < 12
  · have lt : (Int32.ofNat i < 12) = True := eq_true ((i_lt (b := 12) (by omega) (by decide)).mpr c)
    rw [if_pos c]
    simp only [p12_readLine, w_gd, m_let h hp hs, obs, if_true, p12_readLine_J16, lt]
  · have lt : (Int32.ofNat i < 12) = False := eq_false (fun hh => c ((i_lt (b := 12) (by omega) (by decide)).mp hh))
    rw [if_neg c]
    simp only [p12_readLine, w_gd, m_let h hp hs, obs, if_true, p12_readLine_J16, lt, if_false, p12_readLine_J45, p12_readLine_J46, bZ_0]
theorem jn_loop (hN : PNq n u N) : ∀ d i k (I : Lnq) (D : Dq) fc fm (s : tS) (l : tL) (r : Nat → Nat), i + d = 12 → lnC I = i → d < fc → d < fm → VLn I D → dqZ D ≤ k → LnC s I → DqC s D → ATrL s n u N k → s 52 3 = 12 → ∃ ok I' D' f, (∃ s', p5_readText_L28 fc (ob g 52) (Int32.ofNat i) (mm g s l r) = some (if ok = true then -1 else Int32.ofNat f, mm g s' l r) ∧ cNq s s' ∧ (ok = true → LnC s' I' ∧ DqC s' D')) ∧ (∀ (s : tS) (l : tL) (r : Nat → Nat) p b, LnM s I → DqM s D → RT s n u → p ≤ n → sk u n p = tk u n k → ∃ s' p' b', p12_readAll_L28 fm (ob g 287) 0 (Int32.ofNat i) (mm g (sc s p b) l r) = some (if ok = true then Int32.ofNat (lnC I') else -1, mm g (sc s' p' b') l r) ∧ mNq s s' ∧ (ok = true → LnM s' I' ∧ DqM s' D') ∧ (ok = false → b' = f)) ∧ (ok = true → VLn I' D' ∧ dqZ D' ≤ 400) ∧ f ≤ n := by
  have hN4 : N ≤ 400 := Nat.le_trans hN.1 hN.2.1
  intro d
  induction d with
  | zero =>
    intro i k I D fc fm s l r hi hI hc hm hV hz hIs hDs hA h3
    have e : i = 12 := by omega
    subst e
    obtain ⟨fc, rfl⟩ : ∃ x, fc = x + 1 := ⟨fc - 1, by omega⟩
    obtain ⟨fm, rfl⟩ : ∃ x, fm = x + 1 := ⟨fm - 1, by omega⟩
    have l12 : (Int32.ofNat 12 < 12) = False := by decide
    refine ⟨false, I, D, tk u n k, ⟨s, ?_, cNq.refl, fun h => (by cases h)⟩, fun s l r p b hM hDm hR hp hs => ⟨s, eL u n (tk u n k), tk u n k, ?_, mNq.refl, fun h => (by cases h), fun _ => rfl⟩, fun h => (by cases h), tk_le _⟩
    · simp only [p5_readText_L28, rL_I, h3, obs, l12, if_false, rL_beg hA, Bool.false_eq_true]
    · simp only [p12_readAll_L28, m_rl0 (show 12 ≤ 12 by decide) hR hp hs, Nat.lt_irrefl, if_false, obs, if_true, Bool.false_eq_true]
  | succ d ih =>
    intro i k I D fc fm s l r hi hI hc hm hV hz hIs hDs hA h3
    obtain ⟨fc, rfl⟩ : ∃ x, fc = x + 1 := ⟨fc - 1, by omega⟩
    obtain ⟨fm, rfl⟩ : ∃ x, fm = x + 1 := ⟨fm - 1, by omega⟩
    have hi12 : i < 12 := by omega
    have l12 : (Int32.ofNat i < 12) = True := eq_true ((i_lt (b := 12) (by omega) (by decide)).mpr hi12)
    obtain ⟨ok1, I1, D1, k1, h1, h2, hv⟩ := jn_line (g := g) hN hA.2.1 hV (by omega) hz
    rw [hI] at h2 hv
    obtain ⟨s1, e1, F1, A1, q1⟩ := h1 s l r hIs hDs hA
    cases ok1 with
    | false =>
      refine ⟨false, I, D, tk u n k1, ⟨s1, ?_, F1, fun h => (by cases h)⟩, fun s l r p b hM hDm hR hp hs => ?_, fun h => (by cases h), tk_le _⟩
      · simp only [p5_readText_L28, rL_I, h3, obs, l12, if_true, e1, ib_f, rL_beg A1, Bool.false_eq_true, if_false]
      · obtain ⟨s2, p2, b2, e2, F2, -, -, hb⟩ := h2 s l r hM hDm hR
        refine ⟨s2, p2, b2, ?_, F2, fun h => (by cases h), fun _ => hb rfl⟩
        simp only [p12_readAll_L28, m_rl0 (show i ≤ 12 by omega) hR hp hs, hi12, if_true, e2, obs, ib_f, p12_readLine_J45, p12_readLine_J46, bZ_0, Bool.false_eq_true, if_false]
    | true =>
      obtain ⟨V1, c1, hk1, hz1⟩ := hv rfl
      obtain ⟨I1s, D1s⟩ := q1 rfl
      have hn4 : n ≤ 400 := hA.2.2.2.1
      have e11 : ∀ {s2 : tS} {p b : Nat}, RT s2 n u → sc s2 p b 287 11 = Int32.ofNat n := fun {s2 p b} h => by rw [sc_o (by omega)]; exact h.1
      have htl := tk_le (u := u) (n := n) k1
      have een : (Int32.ofNat (tk u n k1) = Int32.ofNat n) = (tk u n k1 = n) := propext (i_eq (by omega) (by omega))
      by_cases ce : th u n (tk u n k1) = 1
      · have hn1 := (th_1 htl).mp ce
        refine ⟨true, I1, D1, 0, ⟨s1, ?_, F1, fun _ => q1 rfl⟩, fun s l r p b hM hDm hR hp hs => ?_, fun _ => ⟨V1, by omega⟩, Nat.zero_le _⟩
        · have e : (Int32.ofNat (th u n (tk u n k1)) = 1) = True := eq_true (congrArg Int32.ofNat ce)
          simp only [p5_readText_L28, rL_I, h3, obs, l12, if_true, e1, ib_t, one_z, if_false, rL_next A1, e]
        · obtain ⟨s2, p2, b2, e2, F2, hp2, ho, -⟩ := h2 s l r hM hDm hR
          obtain ⟨M2, Dm2, k2⟩ := ho rfl
          have hR2 := hR.fn F2
          have eb := m_blanks (g := g) (l := l) (r := r) (p := p2) (b := b2) hR2 hp2
          rw [k2] at eb
          have een' : (Int32.ofNat (tk u n k1) = Int32.ofNat n) = True := by rw [een]; exact eq_true hn1
          refine ⟨s2, tk u n k1, tk u n k1, ?_, F2, fun _ => ⟨M2, Dm2⟩, fun h => (by cases h)⟩
          rw [c1]
          simp only [p12_readAll_L28, m_rl0 (show i ≤ 12 by omega) hR hp hs, hi12, if_true, e2, obs, ib_t, one_z, if_false, p12_readLine_J41, p12_readLine_J46, bZ_1, eb, w_getI, sc_10, e11 hR2, een', i_succ]
      · have hn1 : ¬ tk u n k1 = n := fun h => ce ((th_1 htl).mpr h)
        have hlt : tk u n k1 < n := by omega
        have een' : (Int32.ofNat (tk u n k1) = Int32.ofNat n) = False := by rw [een]; exact eq_false hn1
        have e1n : (Int32.ofNat (th u n (tk u n k1)) = 1) = False := (rL_eq (c := 1) A1 (by decide)).trans (eq_false ce)
        by_cases c2 : th u n (tk u n k1) = 59
        · obtain ⟨-, hu⟩ := (th_c (c := 59) (by decide)).mp c2
          obtain ⟨hkN, -⟩ := pn_lt hN hk1 c2 (by decide)
          have A3 := A1.go hkN
          have e3 : p5_took (ob g 52) 59 (mm g s1 l r) = _ := rL_took_t A1 (c := 59) c2
          have F3 : cNq s1 (up2 s1 52 6 (Int32.ofNat (k1 + 1))) := cNq.up (by omega)
          have h3' : up2 s1 52 6 (Int32.ofNat (k1 + 1)) 52 3 = 12 := by rw [F3 52 3 (by omega) (by omega), F1 52 3 (by omega) (by omega)]; exact h3
          have I3s : LnC (up2 s1 52 6 (Int32.ofNat (k1 + 1))) I1 := I1s.lq (cLq.up (by omega))
          obtain ⟨ok, I', D', f, ⟨s4, e4, F4, q4⟩, hm4, hv4, hf4⟩ := ih (i + 1) (k1 + 1) I1 D1 fc fm _ l r (by omega) c1 (by omega) (by omega) V1 (by omega) I3s (D1s.up (o := 52) (j := 6) (v := Int32.ofNat (k1 + 1)) (by decide)) A3 h3'
          refine ⟨ok, I', D', f, ⟨s4, ?_, (F1.trans F3).trans F4, q4⟩, fun s l r p b hM hDm hR hp hs => ?_, hv4, hf4⟩
          · simp only [p5_readText_L28, rL_I, h3, obs, l12, if_true, e1, ib_t, one_z, if_false, rL_next A1, e1n, e3, i_succ, e4]
          · obtain ⟨s2, p2, b2, e2, F2, hp2, ho, -⟩ := h2 s l r hM hDm hR
            obtain ⟨M2, Dm2, k2⟩ := ho rfl
            have hR2 := hR.fn F2
            have eb := m_blanks (g := g) (l := l) (r := r) (p := p2) (b := b2) hR2 hp2
            rw [k2] at eb
            have ec : p12_isAt (ob g 287) 59 59 (mm g (sc s2 (tk u n k1) (tk u n k1)) l r) = some (ib (decide (tk u n k1 < n) && decide (u (tk u n k1) = 59))) := m_isC (c := 59) hR2 htl (by decide)
            rw [decide_eq_true hlt, decide_eq_true hu] at ec
            have hsk : sk u n (tk u n k1 + 1) = tk u n (k1 + 1) := by rw [tk_s hlt, sg_en (by rw [hu]; rfl)]
            obtain ⟨s5, p5, b5, e5, F5, q5⟩ := hm4 s2 l r (tk u n k1 + 1) (tk u n k1) M2 Dm2 hR2 (by omega) hsk
            refine ⟨s5, p5, b5, ?_, F2.trans F5, q5⟩
            rw [← e5]
            simp only [p12_readAll_L28, m_rl0 (show i ≤ 12 by omega) hR hp hs, hi12, if_true, e2, obs, ib_t, one_z, if_false, p12_readLine_J41, p12_readLine_J46, bZ_1, eb, w_getI, sc_10, e11 hR2, een', ec, Bool.and_self, w_putI, i_succ, sc_p]
        · refine ⟨false, I, D, tk u n k1, ⟨s1, ?_, F1, fun h => (by cases h)⟩, fun s l r p b hM hDm hR hp hs => ?_, fun h => (by cases h), htl⟩
          · have e3' : p5_took (ob g 52) 59 (mm g s1 l r) = _ := rL_took_f A1 (c := 59) (by decide) c2
            simp only [p5_readText_L28, rL_I, h3, obs, l12, if_true, e1, ib_t, one_z, if_false, rL_next A1, e1n, e3', rL_beg A1, Bool.false_eq_true]
          · obtain ⟨s2, p2, b2, e2, F2, hp2, ho, -⟩ := h2 s l r hM hDm hR
            obtain ⟨M2, Dm2, k2⟩ := ho rfl
            have hR2 := hR.fn F2
            have eb := m_blanks (g := g) (l := l) (r := r) (p := p2) (b := b2) hR2 hp2
            rw [k2] at eb
            have ec : p12_isAt (ob g 287) 59 59 (mm g (sc s2 (tk u n k1) (tk u n k1)) l r) = some (ib (decide (tk u n k1 < n) && decide (u (tk u n k1) = 59))) := m_isC (c := 59) hR2 htl (by decide)
            have hu : ¬ u (tk u n k1) = 59 := fun h => c2 ((th_c (c := 59) (by decide)).mpr ⟨hlt, h⟩)
            rw [decide_eq_true hlt, decide_eq_false hu] at ec
            refine ⟨s2, tk u n k1, tk u n k1, ?_, F2, fun h => (by cases h), fun _ => rfl⟩
            simp only [p12_readAll_L28, m_rl0 (show i ≤ 12 by omega) hR hp hs, hi12, if_true, e2, obs, ib_t, one_z, if_false, p12_readLine_J41, p12_readLine_J46, bZ_1, eb, w_getI, sc_10, e11 hR2, een', ec, Bool.and_false, ib_f, Bool.false_eq_true]
/-! the whole text -/
def cTq (s s' : tS) : Prop := ∀ o j, ¬ (39 ≤ o ∧ o ≤ 45) → ¬ (o = 52 ∧ 4 ≤ j ∧ j ≤ 7) → ¬ (53 ≤ o ∧ o ≤ 55) → s' o j = s o j
def mUq (s s' : tS) : Prop := ∀ o j, ¬ (o = 288 ∧ 1294 ≤ j) → ¬ (o = 287 ∧ (j = 0 ∨ (9 ≤ j ∧ j ≤ 13) ∨ j = 16)) → s' o j = s o j
def I0q : Lnq := (fun _ => 0, fun _ => 0, fun _ => 0, fun _ => 0, 0)
def D0q : Dq := (fun _ => 0, fun _ => 0, 0)
theorem jn_text (hT : CT s n u) (h3 : s 52 3 = 12) (h8 : s 39 8 = 0) (h9 : s 39 9 = 0) : ∃ ok I' D' f, (∃ s', p5_readText (ob g 52) (ob g 1) (Int32.ofNat n) (mm g s l r) = some (if ok = true then -1 else Int32.ofNat f, mm g s' l r) ∧ cTq s s' ∧ (ok = true → LnC s' I' ∧ DqC s' D')) ∧ (∀ (s : tS) (l : tL) (r : Nat → Nat), s 287 9 = Int32.ofNat n → (∀ j, j < n → s 293 j = i2b (Int32.ofNat (u j))) → ∃ s', p12_readAll (ob g 287) 0 (mm g s l r) = some (if ok = true then Int32.ofNat (lnC I') else -1, mm g s' l r) ∧ mUq s s' ∧ s' 287 0 = 0 ∧ s' 287 9 = 0 ∧ (ok = true → LnM s' I' ∧ DqM s' D') ∧ (ok = false → s' 287 12 = Int32.ofNat f)) ∧ (ok = true → VLn I' D' ∧ dqZ D' ≤ 400) ∧ f ≤ n := by
  have hn := hT.1
  have hu : ∀ j, j < n → u j < 256 := fun j hj => (hT.2 j hj).2
  obtain ⟨s1, N, e1, R1, f1⟩ := rL_part (g := g) (l := l) (r := r) hT
  have F2 : cTq s (up2 s1 52 6 0) := fun o j a b c => by rw [up2_ne (by omega), f1 o j (by omega) (by omega) (by omega) (by omega)]
  have A2 : ATrL (up2 s1 52 6 0) n u N 0 := by
    obtain ⟨r1, r2, r3, r4, r5⟩ := R1
    refine ⟨⟨r1, r2, by rw [up2_ne (by omega)]; exact r3, by rw [up2_ne (by omega)]; exact r4, fun k hk => ?_⟩, Nat.zero_le _, up2_eq, hn, hu⟩
    rw [up2_ne (by omega), up2_ne (by omega), up2_ne (by omega)]
    exact r5 k hk
  have h3' : up2 s1 52 6 0 52 3 = 12 := by rw [F2 52 3 (by omega) (by omega) (by omega)]; exact h3
  have L2 : LnC (up2 s1 52 6 0) I0q := ⟨by rw [up2_ne (by omega), f1 39 9 (by omega) (by omega) (by omega) (by omega)]; exact h9, fun i hi => absurd hi (Nat.not_lt_zero i)⟩
  have D2 : DqC (up2 s1 52 6 0) D0q := ⟨by rw [up2_ne (by omega), f1 39 8 (by omega) (by omega) (by omega) (by omega)]; exact h8, fun i hi => absurd hi (Nat.not_lt_zero i)⟩
  have V0 : VLn I0q D0q := ⟨Nat.zero_le _, fun i hi => absurd hi (Nat.not_lt_zero i)⟩
  have hmin : minI (Int32.ofNat n) 400 = Int32.ofNat n := by
    unfold minI
    by_cases c : n = 400
    · rw [c]; decide
    · have h1 : Int32.ofNat n < 400 := (i_lt (b := 400) (by omega) (by decide)).mpr (by omega)
      have h2 : ¬ (400 : Int32) < Int32.ofNat n := fun h => by have := (i_lt (a := 400) (by decide) (by omega)).mp h; omega
      first | rw [if_pos h1] | rw [if_neg h2] | (rw [if_neg (Int32.not_lt.mpr (Int32.le_of_lt h1))])
  have htl := tk_le (u := u) (n := n) 0
  have een : (Int32.ofNat (tk u n 0) = Int32.ofNat n) = (tk u n 0 = n) := propext (i_eq (by omega) (by omega))
  have uses : ∀ (s : tS) (l : tL) (r : Nat → Nat), s 287 9 = Int32.ofNat n → ∃ b, p12_uses (ob g 287) (mm g s l r) = some (mm g (usS s n) l r) ∧ up2 (usS s n) 287 16 0 = sc (usT s n) 0 b := fun s l r h9 => by
    obtain ⟨b, hb⟩ := i_any (usT s n 287 12)
    refine ⟨b, m_uses h9, (sc_id ?_ hb).symm⟩
    show up2 (usS s n) 287 16 0 287 10 = _
    rw [up2_ne (by omega)]
    exact up2_eq
  have rt : ∀ (s : tS), (∀ j, j < n → s 293 j = i2b (Int32.ofNat (u j))) → RT (usT s n) n u := fun s h => ⟨by
    show up2 (usS s n) 287 16 0 287 11 = _
    rw [up2_ne (by omega), usS_11], hn, fun j hj => ⟨by rw [usT_o (by omega)]; exact h j hj, hu j hj⟩⟩
  have z0 : ∀ (s : tS), usT s n 287 0 = 0 ∧ usT s n 287 9 = 0 := fun s => by
    unfold usT
    exact ⟨by rw [up2_ne (by omega), usS_0], by rw [up2_ne (by omega), usS_9]⟩
  have d0 : ∀ (s : tS), DqM (usT s n) D0q := fun s => ⟨show up2 (usS s n) 287 16 0 287 16 = 0 from up2_eq, fun i hi => absurd hi (Nat.not_lt_zero i)⟩
  have l0 : ∀ (s : tS), LnM s I0q := fun s i hi => absurd hi (Nat.not_lt_zero i)
  by_cases c1 : th u n (tk u n 0) = 1
  · have hn1 := (th_1 htl).mp c1
    have een' : (Int32.ofNat (tk u n 0) = Int32.ofNat n) = True := by rw [een]; exact eq_true hn1
    refine ⟨true, I0q, D0q, 0, ⟨_, ?_, F2, fun _ => ⟨L2, D2⟩⟩, fun s l r h9 hb => ?_, fun _ => ⟨V0, Nat.zero_le _⟩, Nat.zero_le _⟩
    · have e : (Int32.ofNat (th u n (tk u n 0)) = 1) = True := eq_true (congrArg Int32.ofNat c1)
      simp only [p5_readText, rL_gd, t1_len, obs, hmin, e1, rL_P, rL_next A2, e, if_true]
    · obtain ⟨b, eu, es⟩ := uses s l r h9
      have hR := rt s hb
      have eb : p12_blanks (ob g 287) (mm g (sc (usT s n) 0 b) l r) = some (mm g (sc (usT s n) (tk u n 0) (tk u n 0)) l r) := m_blanks hR (Nat.zero_le _)
      have e11 : sc (usT s n) (tk u n 0) (tk u n 0) 287 11 = Int32.ofNat n := by rw [sc_o (by omega)]; exact hR.1
      have d := d0 s
      refine ⟨sc (usT s n) (tk u n 0) (tk u n 0), ?_, fun o j x y => by rw [sc_o (by omega), usT_o (by omega)], by rw [sc_o (by omega)]; exact (z0 s).1, by rw [sc_o (by omega)]; exact (z0 s).2, fun _ => ⟨l0 _, by rw [sc_o (by omega)]; exact d.1, fun i hi => absurd hi (Nat.not_lt_zero i)⟩, fun h => (by cases h)⟩
      simp only [p12_readAll, w_gd, eu, obs, w_putI, es, eb, w_getI, sc_10, e11, een', if_true]
      rfl
  · have hn1 : ¬ tk u n 0 = n := fun h => c1 ((th_1 htl).mpr h)
    have een' : (Int32.ofNat (tk u n 0) = Int32.ofNat n) = False := by rw [een]; exact eq_false hn1
    obtain ⟨ok, I', D', f, ⟨s4, e4, F4, q4⟩, hm4, hv4, hf4⟩ := jn_loop (g := g) A2.pn 12 0 0 I0q D0q gF gF (up2 s1 52 6 0) l r rfl rfl (gF_gt (by decide)) (gF_gt (by decide)) V0 (Nat.zero_le _) L2 D2 A2 h3'
    refine ⟨ok, I', D', f, ⟨s4, ?_, fun o j a b c => by rw [F4 o j a (by omega), F2 o j a b c], q4⟩, fun s l r h9 hb => ?_, hv4, hf4⟩
    · have e1n : (Int32.ofNat (th u n (tk u n 0)) = 1) = False := (rL_eq (c := 1) A2 (by decide)).trans (eq_false c1)
      have e4' : p5_readText_L28 gF (ob g 52) 0 _ = _ := e4
      simp only [p5_readText, rL_gd, t1_len, obs, hmin, e1, rL_P, rL_next A2, e1n, if_false, e4']
    · obtain ⟨b, eu, es⟩ := uses s l r h9
      have hR := rt s hb
      have eb : p12_blanks (ob g 287) (mm g (sc (usT s n) 0 b) l r) = some (mm g (sc (usT s n) (tk u n 0) (tk u n 0)) l r) := m_blanks hR (Nat.zero_le _)
      have e11 : sc (usT s n) (tk u n 0) (tk u n 0) 287 11 = Int32.ofNat n := by rw [sc_o (by omega)]; exact hR.1
      obtain ⟨s5, p5, b5, e5, F5, q5, q6⟩ := hm4 (usT s n) l r (tk u n 0) (tk u n 0) (l0 _) (d0 s) hR htl (sk_tk 0)
      have e5' : p12_readAll_L28 gF (ob g 287) 0 0 _ = _ := e5
      refine ⟨sc s5 p5 b5, ?_, fun o j x y => by rw [sc_o (by omega), F5 o j x (by omega), usT_o (by omega)], by rw [sc_o (by omega), F5 287 0 (by omega) (by omega)]; exact (z0 s).1, by rw [sc_o (by omega), F5 287 9 (by omega) (by omega)]; exact (z0 s).2, fun h => ⟨fun i hi => ?_, ?_⟩, fun h => by rw [sc_12, q6 h]⟩
      · simp only [p12_readAll, w_gd, eu, obs, w_putI, es, eb, w_getI, sc_10, e11, een', if_false, e5']
      · rw [sc_o (by omega), sc_o (by omega), sc_o (by omega), sc_o (by omega)]
        exact (q5 h).1 i hi
      · obtain ⟨a1, a2⟩ := (q5 h).2
        refine ⟨by rw [sc_o (by omega)]; exact a1, fun i hi => ?_⟩
        rw [sc_o (by omega), sc_o (by omega)]
        exact a2 i hi
end
