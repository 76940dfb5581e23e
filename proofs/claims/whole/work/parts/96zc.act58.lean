section
variable {g : Nat} {s s' s0 : tS} {l : tL} {r : Nat → Nat} {n p b q e k N : Nat} {u : Nat → Nat} {C C' : Co}
theorem m_rl {i : Nat} (hi : i ≤ 14) (h : RT s n u) (hp : p ≤ n) (hs : sk u n p = tk u n k) : p12_readLine (ob g 287) 1 (Int32.ofNat i) (mm g (sc s p b) l r) = if i < 14 then (p12_readFamilyLine (ob g 287) (mm g (sc s (eL u n (tk u n k)) (tk u n k)) l r)).bind fun q_2 => if q_2.1 = 0 then p12_readLine_J45 q_2.2 else p12_readLine_J41 q_2.2 else some (0, mm g (sc s (eL u n (tk u n k)) (tk u n k)) l r) := by
  by_cases c : i < 14
  · have lt : (Int32.ofNat i < 14) = True := eq_true ((i_lt (b := 14) (by omega) (by decide)).mpr c)
    rw [if_pos c]
    simp only [p12_readLine, w_gd, m_let h hp hs, obs, one_z, if_false, p12_readLine_J16, lt, if_true]
  · have lt : (Int32.ofNat i < 14) = False := eq_false (fun hh => c ((i_lt (b := 14) (by omega) (by decide)).mp hh))
    rw [if_neg c]
    simp only [p12_readLine, w_gd, m_let h hp hs, obs, one_z, if_false, p12_readLine_J16, lt, p12_readLine_J45, p12_readLine_J46, bZ_0]
theorem jl_loop (hN : N ≤ n) : ∀ d i k (C : Co) fc fm (s : tS) (l : tL) (r : Nat → Nat), i + d = 14 → d < fc → d < fm → VC C → Is s 16 C → ATrF s n u N k → s 48 3 = 14 → ∃ ok C' f m, (∃ s' C'', p3_readText_L28 fc (ob g 48) (Int32.ofNat i) (mm g s l r) = some (if ok = true then -1 else Int32.ofNat f, mm g s' l r) ∧ cF s s' ∧ Is s' 16 C'' ∧ (ok = true → C'' = C')) ∧ (∀ (s : tS) (l : tL) (r : Nat → Nat) p b, Ms s C → RT s n u → p ≤ n → sk u n p = tk u n k → ∃ s' p' b', p12_readAll_L28 fm (ob g 287) 1 (Int32.ofNat i) (mm g (sc s p b) l r) = some (if ok = true then Int32.ofNat m else -1, mm g (sc s' p' b') l r) ∧ mF' s s' ∧ (ok = true → Ms s' C') ∧ (ok = false → b' = f)) ∧ (ok = true → VC C') ∧ f ≤ n ∧ m < 100 := by
  intro d
  induction d with
  | zero =>
    intro i k C fc fm s l r hi hc hm hC hI hA h3
    have e : i = 14 := by omega
    subst e
    obtain ⟨fc, rfl⟩ : ∃ x, fc = x + 1 := ⟨fc - 1, by omega⟩
    obtain ⟨fm, rfl⟩ : ∃ x, fm = x + 1 := ⟨fm - 1, by omega⟩
    have l14 : (Int32.ofNat 14 < 14) = False := by decide
    refine ⟨false, C, tk u n k, 0, ⟨s, C, ?_, cF.refl, hI, fun h => (by cases h)⟩, fun s l r p b hM hR hp hs => ⟨s, eL u n (tk u n k), tk u n k, ?_, mF'.refl, fun h => (by cases h), fun _ => rfl⟩, fun h => (by cases h), tk_le _, by decide⟩
    · simp only [p3_readText_L28, rF_I, h3, obs, l14, if_false, rF_beg hA, Bool.false_eq_true]
    · simp only [p12_readAll_L28, m_rl (show 14 ≤ 14 by decide) hR hp hs, Nat.lt_irrefl, if_false, obs, if_true, Bool.false_eq_true]
  | succ d ih =>
    intro i k C fc fm s l r hi hc hm hC hI hA h3
    obtain ⟨fc, rfl⟩ : ∃ x, fc = x + 1 := ⟨fc - 1, by omega⟩
    obtain ⟨fm, rfl⟩ : ∃ x, fm = x + 1 := ⟨fm - 1, by omega⟩
    have hi14 : i < 14 := by omega
    have l14 : (Int32.ofNat i < 14) = True := eq_true ((i_lt (b := 14) (by omega) (by decide)).mpr hi14)
    obtain ⟨ok1, C1, k1, h1, h2, hv⟩ := jl_line (g := g) (n := n) (u := u) (N := N) (k := k) hA.2.1 hN hA.tk.1 hC
    obtain ⟨s1, C1', e1, F1, I1, A1, q1⟩ := h1 s l r hI hA
    cases ok1 with
    | false =>
      refine ⟨false, C, tk u n k1, 0, ⟨s1, C1', ?_, F1, I1, fun h => (by cases h)⟩, fun s l r p b hM hR hp hs => ?_, fun h => (by cases h), tk_le _, by decide⟩
      · simp only [p3_readText_L28, rF_I, h3, obs, l14, if_true, e1, ib_f, rF_beg A1, Bool.false_eq_true, if_false]
      · obtain ⟨s2, p2, b2, e2, F2, -, -, hb⟩ := h2 s l r hM hR
        refine ⟨s2, p2, b2, ?_, F2, fun h => (by cases h), fun _ => hb rfl⟩
        simp only [p12_readAll_L28, m_rl (show i ≤ 14 by omega) hR hp hs, hi14, if_true, e2, obs, ib_f, p12_readLine_J45, p12_readLine_J46, bZ_0, Bool.false_eq_true, if_false]
    | true =>
      have hC1 := hv rfl
      have I1' : Is s1 16 C1 := by rw [← q1 rfl]; exact I1
      have hn4 : n ≤ 400 := hA.2.2.2.1
      have e11 : ∀ {s2 : tS} {p b : Nat}, RT s2 n u → sc s2 p b 287 11 = Int32.ofNat n := fun {s2 p b} h => by rw [sc_o (by omega)]; exact h.1
      have htl := tk_le (u := u) (n := n) k1
      have een : (Int32.ofNat (tk u n k1) = Int32.ofNat n) = (tk u n k1 = n) := propext (i_eq (by omega) (by omega))
      by_cases c1 : th u n (tk u n k1) = 1
      · have hn1 := (th_1 htl).mp c1
        refine ⟨true, C1, 0, i + 1, ⟨s1, C1', ?_, F1, I1, fun _ => q1 rfl⟩, fun s l r p b hM hR hp hs => ?_, fun _ => hC1, Nat.zero_le _, by omega⟩
        · have e : (Int32.ofNat (th u n (tk u n k1)) = 1) = True := eq_true (congrArg Int32.ofNat c1)
          simp only [p3_readText_L28, rF_I, h3, obs, l14, if_true, e1, ib_t, one_z, if_false, rF_next A1, e]
        · obtain ⟨s2, p2, b2, e2, F2, hp2, ho, -⟩ := h2 s l r hM hR
          have hR2 := hR.mF F2
          have eb := m_blanks (g := g) (l := l) (r := r) (p := p2) (b := b2) hR2 hp2
          rw [(ho rfl).2] at eb
          have een' : (Int32.ofNat (tk u n k1) = Int32.ofNat n) = True := by rw [een]; exact eq_true hn1
          refine ⟨s2, tk u n k1, tk u n k1, ?_, F2, fun _ => (ho rfl).1, fun h => (by cases h)⟩
          simp only [p12_readAll_L28, m_rl (show i ≤ 14 by omega) hR hp hs, hi14, if_true, e2, obs, ib_t, one_z, if_false, p12_readLine_J41, p12_readLine_J46, bZ_1, eb, w_getI, sc_10, e11 hR2, een', i_succ]
      · have hn1 : ¬ tk u n k1 = n := fun h => c1 ((th_1 htl).mpr h)
        have hlt : tk u n k1 < n := by omega
        have een' : (Int32.ofNat (tk u n k1) = Int32.ofNat n) = False := by rw [een]; exact eq_false hn1
        have e1n : (Int32.ofNat (th u n (tk u n k1)) = 1) = False := by
          have := rF_eq (c := 1) A1 (by decide)
          have e : (Int32.ofNat 1 : Int32) = 1 := rfl
          rw [e] at this
          rw [this]
          exact eq_false c1
        by_cases c2 : th u n (tk u n k1) = 59
        · obtain ⟨-, hu⟩ := (th_c (c := 59) (by decide)).mp c2
          obtain ⟨s3, e3, F3, I3, A3⟩ := c_tk_t (g := g) (l := l) (r := r) A1 c2 (by decide)
          have e3' : p3_took (ob g 48) 59 (mm g s1 l r) = _ := e3
          have h3' : s3 48 3 = 14 := by rw [F3 48 3 (by omega) (by omega), F1 48 3 (by omega) (by omega)]; exact h3
          obtain ⟨ok, C', f, m, ⟨s4, C4, e4, F4, I4, q4⟩, hm4, hv4, hf4, hm4'⟩ := ih (i + 1) (k1 + 1) C1 fc fm s3 l r (by omega) (by omega) (by omega) hC1 (I3 _ I1') A3 h3'
          refine ⟨ok, C', f, m, ⟨s4, C4, ?_, (F1.trans F3).trans F4, I4, q4⟩, fun s l r p b hM hR hp hs => ?_, hv4, hf4, hm4'⟩
          · simp only [p3_readText_L28, rF_I, h3, obs, l14, if_true, e1, ib_t, one_z, if_false, rF_next A1, e1n, e3', i_succ, e4]
          · obtain ⟨s2, p2, b2, e2, F2, hp2, ho, -⟩ := h2 s l r hM hR
            have hR2 := hR.mF F2
            have eb := m_blanks (g := g) (l := l) (r := r) (p := p2) (b := b2) hR2 hp2
            rw [(ho rfl).2] at eb
            have ec : p12_isAt (ob g 287) 59 59 (mm g (sc s2 (tk u n k1) (tk u n k1)) l r) = some (ib (decide (tk u n k1 < n) && decide (u (tk u n k1) = 59))) := m_isC (c := 59) hR2 htl (by decide)
            rw [decide_eq_true hlt, decide_eq_true hu] at ec
            have hsk : sk u n (tk u n k1 + 1) = tk u n (k1 + 1) := by rw [tk_s hlt, sg_en (by rw [hu]; rfl)]
            obtain ⟨s5, p5, b5, e5, F5, q5⟩ := hm4 s2 l r (tk u n k1 + 1) (tk u n k1) (ho rfl).1 hR2 (by omega) hsk
            refine ⟨s5, p5, b5, ?_, F2.trans F5, q5⟩
            rw [← e5]
            simp only [p12_readAll_L28, m_rl (show i ≤ 14 by omega) hR hp hs, hi14, if_true, e2, obs, ib_t, one_z, if_false, p12_readLine_J41, p12_readLine_J46, bZ_1, eb, w_getI, sc_10, e11 hR2, een', ec, Bool.and_self, w_putI, i_succ, sc_p]
        · refine ⟨false, C, tk u n k1, 0, ⟨s1, C1', ?_, F1, I1, fun h => (by cases h)⟩, fun s l r p b hM hR hp hs => ?_, fun h => (by cases h), htl, by decide⟩
          · have e3' : p3_took (ob g 48) 59 (mm g s1 l r) = _ := rF_took_f A1 (c := 59) (by decide) c2
            simp only [p3_readText_L28, rF_I, h3, obs, l14, if_true, e1, ib_t, one_z, if_false, rF_next A1, e1n, e3', rF_beg A1, Bool.false_eq_true]
          · obtain ⟨s2, p2, b2, e2, F2, hp2, ho, -⟩ := h2 s l r hM hR
            have hR2 := hR.mF F2
            have eb := m_blanks (g := g) (l := l) (r := r) (p := p2) (b := b2) hR2 hp2
            rw [(ho rfl).2] at eb
            have ec : p12_isAt (ob g 287) 59 59 (mm g (sc s2 (tk u n k1) (tk u n k1)) l r) = some (ib (decide (tk u n k1 < n) && decide (u (tk u n k1) = 59))) := m_isC (c := 59) hR2 htl (by decide)
            have hu : ¬ u (tk u n k1) = 59 := fun h => c2 ((th_c (c := 59) (by decide)).mpr ⟨hlt, h⟩)
            rw [decide_eq_true hlt, decide_eq_false hu] at ec
            refine ⟨s2, tk u n k1, tk u n k1, ?_, F2, fun h => (by cases h), fun _ => rfl⟩
            simp only [p12_readAll_L28, m_rl (show i ≤ 14 by omega) hR hp hs, hi14, if_true, e2, obs, ib_t, one_z, if_false, p12_readLine_J41, p12_readLine_J46, bZ_1, eb, w_getI, sc_10, e11 hR2, een', ec, Bool.and_false, ib_f, Bool.false_eq_true]
theorem i_any (x : Int32) : ∃ b : Nat, x = Int32.ofNat b := ⟨x.toBitVec.toNat, by
  apply Int32.toBitVec_inj.mp
  rw [show (Int32.ofNat x.toBitVec.toNat).toBitVec = BitVec.ofNat 32 x.toBitVec.toNat from rfl, BitVec.ofNat_toNat]
  exact (BitVec.setWidth_eq _).symm⟩
end
