section
variable {g : Nat} {s s' s0 : tS} {l : tL} {r : Nat → Nat} {n p b q e k N : Nat} {u : Nat → Nat} {C C' : Co}
def cT (s s' : tS) : Prop := ∀ o j, ¬ ((o = 16 ∧ j ≠ 10) ∨ (22 ≤ o ∧ o < 30)) → ¬ (o = 48 ∧ 4 ≤ j ∧ j ≤ 7) → ¬ (49 ≤ o ∧ o ≤ 51) → s' o j = s o j
def mT (s s' : tS) : Prop := ∀ o j, ¬ (o = 288 ∧ j < 145 ∧ j ≠ 2 ∧ j ≠ 7) → ¬ (o = 287 ∧ (j = 0 ∨ (9 ≤ j ∧ j ≤ 12) ∨ j = 16)) → s' o j = s o j
def usT (s : tS) (n : Nat) : tS := up2 (usS s n) 287 16 0
theorem usT_o {o k : Nat} (h : ¬ (o = 287 ∧ (k = 0 ∨ (9 ≤ k ∧ k ≤ 12) ∨ k = 16))) : usT s n o k = s o k := by
  unfold usT usS
  rw [up2_ne (by omega), up2_ne (by omega), up2_ne (by omega), up2_ne (by omega), up2_ne (by omega)]
theorem jl_text (hC : VC C) (hI : Is s 16 C) (hT : CT s n u) (h3 : s 48 3 = 14) : ∃ ok C' f m, (∃ s' C'', p3_readText (ob g 48) (ob g 1) (Int32.ofNat n) (mm g s l r) = some (if ok = true then -1 else Int32.ofNat f, mm g s' l r) ∧ cT s s' ∧ Is s' 16 C'' ∧ (ok = true → C'' = C')) ∧ (∀ (s : tS) (l : tL) (r : Nat → Nat), Ms s C → s 287 9 = Int32.ofNat n → (∀ j, j < n → s 293 j = i2b (Int32.ofNat (u j))) → ∃ s', p12_readAll (ob g 287) 1 (mm g s l r) = some (if ok = true then Int32.ofNat m else -1, mm g s' l r) ∧ mT s s' ∧ s' 287 0 = 0 ∧ s' 287 9 = 0 ∧ (ok = true → Ms s' C') ∧ (ok = false → s' 287 12 = Int32.ofNat f)) ∧ (ok = true → VC C') ∧ f ≤ n ∧ m < 100 := by
  have hn := hT.1
  have hu : ∀ j, j < n → u j < 256 := fun j hj => (hT.2 j hj).2
  obtain ⟨s1, N, e1, R1, f1⟩ := rF_part (g := g) (l := l) (r := r) hT
  have F2 : cT s (up2 s1 48 6 0) := fun o j a b c => by rw [up2_ne (by omega), f1 o j (by omega) (by omega) (by omega) (by omega)]
  have f1' : Fr (fun o => 48 ≤ o ∧ o ≤ 51) s s1 := fun o ho => funext fun j => f1 o j (by omega) (by omega) (by omega) (by omega)
  have I2 : Is (up2 s1 48 6 0) 16 C := (hI.fr f1' (fun o ho => by omega)).up (o := 48) (by omega)
  have A2 : ATrF (up2 s1 48 6 0) n u N 0 := by
    obtain ⟨r1, r2, r3, r4, r5⟩ := R1
    refine ⟨⟨r1, r2, by rw [up2_ne (by omega)]; exact r3, by rw [up2_ne (by omega)]; exact r4, fun k hk => ?_⟩, Nat.zero_le _, up2_eq, hn, hu⟩
    rw [up2_ne (by omega), up2_ne (by omega), up2_ne (by omega)]
    exact r5 k hk
  have h3' : up2 s1 48 6 0 48 3 = 14 := by rw [F2 48 3 (by omega) (by omega) (by omega)]; exact h3
  have hmin : minI (Int32.ofNat n) 400 = Int32.ofNat n := by
    unfold minI
    by_cases c : n = 400
    · rw [c]; decide
    · have h1 : Int32.ofNat n < 400 := (i_lt (b := 400) (by omega) (by decide)).mpr (by omega)
      have h2 : ¬ (400 : Int32) < Int32.ofNat n := fun h => by have := (i_lt (a := 400) (by decide) (by omega)).mp h; omega
      first | rw [if_pos h1] | rw [if_neg h2] | (rw [if_neg (Int32.not_lt.mpr (Int32.le_of_lt h1))])
  have htl := tk_le (u := u) (n := n) 0
  have een : (Int32.ofNat (tk u n 0) = Int32.ofNat n) = (tk u n 0 = n) := propext (i_eq (by omega) (by omega))
  have uses : ∀ (s : tS) (l : tL) (r : Nat → Nat), s 287 9 = Int32.ofNat n → ∃ b, p12_uses (ob g 287) (mm g s l r) = some (mm g (usS s n) l r) ∧ up2 (usS s n) 287 16 0 = sc (usT s n) 0 b := fun s l r h9 => by
    obtain ⟨b, hb⟩ := i_any (usT s n 287 12)
    refine ⟨b, m_uses h9, (sc_id ?_ hb).symm⟩
    show up2 (usS s n) 287 16 0 287 10 = _
    rw [up2_ne (by omega)]
    exact up2_eq
  have rt : ∀ (s : tS), (∀ j, j < n → s 293 j = i2b (Int32.ofNat (u j))) → RT (usT s n) n u := fun s h => ⟨by
    show up2 (usS s n) 287 16 0 287 11 = _
    rw [up2_ne (by omega), usS_11], hn, fun j hj => ⟨by rw [usT_o (by omega)]; exact h j hj, hu j hj⟩⟩
  have ms : ∀ (s : tS), Ms s C → Ms (usT s n) C := fun s h => ((((h.up (o := 287) (by decide)).up (o := 287) (by decide)).up (o := 287) (by decide)).up (o := 287) (by decide)).up (o := 287) (by decide)
  have z0 : ∀ (s : tS), usT s n 287 0 = 0 ∧ usT s n 287 9 = 0 := fun s => by
    unfold usT
    exact ⟨by rw [up2_ne (by omega), usS_0], by rw [up2_ne (by omega), usS_9]⟩
  by_cases c1 : th u n (tk u n 0) = 1
  · have hn1 := (th_1 htl).mp c1
    have een' : (Int32.ofNat (tk u n 0) = Int32.ofNat n) = True := by rw [een]; exact eq_true hn1
    refine ⟨true, C, 0, 0, ⟨_, C, ?_, F2, I2, fun _ => rfl⟩, fun s l r hM h9 hb => ?_, fun _ => hC, Nat.zero_le _, by decide⟩
    · have e : (Int32.ofNat (th u n (tk u n 0)) = 1) = True := eq_true (congrArg Int32.ofNat c1)
      simp only [p3_readText, rF_gd, t1_len, obs, hmin, e1, rF_P, rF_next A2, e, if_true]
    · obtain ⟨b, eu, es⟩ := uses s l r h9
      have hR := rt s hb
      have eb : p12_blanks (ob g 287) (mm g (sc (usT s n) 0 b) l r) = some (mm g (sc (usT s n) (tk u n 0) (tk u n 0)) l r) := m_blanks hR (Nat.zero_le _)
      have e11 : sc (usT s n) (tk u n 0) (tk u n 0) 287 11 = Int32.ofNat n := by rw [sc_o (by omega)]; exact hR.1
      refine ⟨sc (usT s n) (tk u n 0) (tk u n 0), ?_, fun o j x y => by rw [sc_o (by omega), usT_o y], by rw [sc_o (by omega)]; exact (z0 s).1, by rw [sc_o (by omega)]; exact (z0 s).2, fun _ => ms_sc (ms s hM), fun h => (by cases h)⟩
      simp only [p12_readAll, w_gd, eu, obs, w_putI, es, eb, w_getI, sc_10, e11, een', if_true]
      rfl
  · have hn1 : ¬ tk u n 0 = n := fun h => c1 ((th_1 htl).mpr h)
    have een' : (Int32.ofNat (tk u n 0) = Int32.ofNat n) = False := by rw [een]; exact eq_false hn1
    obtain ⟨ok, C', f, m, ⟨s4, C4, e4, F4, I4, q4⟩, hm4, hv4, hf4, hm4'⟩ := jl_loop (g := g) A2.1.1 14 0 0 C gF gF (up2 s1 48 6 0) l r rfl (gF_gt (by decide)) (gF_gt (by decide)) hC I2 A2 h3'
    refine ⟨ok, C', f, m, ⟨s4, C4, ?_, fun o j a b c => by rw [F4 o j a (by omega), F2 o j a b c], I4, q4⟩, fun s l r hM h9 hb => ?_, hv4, hf4, hm4'⟩
    · have e1n : (Int32.ofNat (th u n (tk u n 0)) = 1) = False := by
        have := rF_eq (c := 1) A2 (by decide)
        have e : (Int32.ofNat 1 : Int32) = 1 := rfl
        rw [e] at this
        rw [this]
        exact eq_false c1
      have e4' : p3_readText_L28 gF (ob g 48) 0 _ = _ := e4
      simp only [p3_readText, rF_gd, t1_len, obs, hmin, e1, rF_P, rF_next A2, e1n, if_false, e4']
    · obtain ⟨b, eu, es⟩ := uses s l r h9
      have hR := rt s hb
      have eb : p12_blanks (ob g 287) (mm g (sc (usT s n) 0 b) l r) = some (mm g (sc (usT s n) (tk u n 0) (tk u n 0)) l r) := m_blanks hR (Nat.zero_le _)
      have e11 : sc (usT s n) (tk u n 0) (tk u n 0) 287 11 = Int32.ofNat n := by rw [sc_o (by omega)]; exact hR.1
      obtain ⟨s5, p5, b5, e5, F5, q5, q6⟩ := hm4 (usT s n) l r (tk u n 0) (tk u n 0) (ms s hM) hR htl (sk_tk 0)
      have e5' : p12_readAll_L28 gF (ob g 287) 1 0 _ = _ := e5
      refine ⟨sc s5 p5 b5, ?_, fun o j x y => by rw [sc_o (by omega), F5 o j x (by omega), usT_o y], by rw [sc_o (by omega), F5 287 0 (by omega) (by omega)]; exact (z0 s).1, by rw [sc_o (by omega), F5 287 9 (by omega) (by omega)]; exact (z0 s).2, fun h => ms_sc (q5 h), fun h => by rw [sc_12, q6 h]⟩
      simp only [p12_readAll, w_gd, eu, obs, w_putI, es, eb, w_getI, sc_10, e11, een', if_false, e5']
end
