section
variable {g : Nat} {s : tS} {l : tL} {r : Nat → Nat} {C : Co} {G : Lg} {L : Lw} {n : Nat}
/-- the best AGE -/
def bkF (gp : Nat → Int32) (a : Nat) (x : Option (Nat × Int32)) : Option (Nat × Int32) := match x with
  | none => some (a, gp a)
  | some (b, v) => if gp a < v then some (a, gp a) else some (b, v)
def bkB (x : Option (Nat × Int32)) : Int32 := match x with | none => -1 | some (b, _) => Int32.ofNat b
def bkL (d : Int32) (x : Option (Nat × Int32)) : Int32 := match x with | none => d | some (_, v) => v
def askV (L : Lw) (C : Co) (q : Nat) (bits : Int32) : Int32 := bkB (itF (bkF (fun a => gpF L C q bits a 16)) (rnd C) 0 none)
theorem c_asks {q : Nat} {bits : Int32} {s0 : tS} (h : FPs L C q s0 s) (I0 : Is s0 2 C) (hV : VL L) (hC : VC C) (hq : q < sz C) (hb : ∀ k, k < 16 → hasb bits k = true → k < 2 * sz C) : ∃ s', p0_bestToAsk_L30 gF (ob g 95) (Int32.ofNat q) bits (-1) 17 0 (mm g s l r) = some (askV L C q bits, mm g s' l r) ∧ FPs L C q s0 s' := by
  have hR := rnd_b hC
  refine it_sf (L := fun m (b : Int32 × Int32 × tS) i => p0_bestToAsk_L30 m (ob g 95) (Int32.ofNat q) bits b.1 b.2.1 i (mm g b.2.2 l r)) (R := fun _ b x => b.1 = bkB x ∧ b.2.1 = bkL 17 x ∧ FPs L C q s0 b.2.2) (f := bkF (fun a => gpF L C q bits a 16)) (Q := fun B x => ∃ s', B = some (bkB x, mm g s' l r) ∧ FPs L C q s0 s') (N := rnd C) (fun m i b x hi hR => ?_) (fun m b x hR => ?_) (rnd C) gF 0 (-1, 17, s) none (by omega) (gF_gt (by omega)) ⟨rfl, rfl, h⟩
  · obtain ⟨b1, b2, sb⟩ := b
    obtain ⟨hx, hy, hF⟩ := hR
    have hx : b1 = bkB x := hx
    have hy : b2 = bkL 17 x := hy
    have hF : FPs L C q s0 sb := hF
    subst hx hy
    have hR := rnd_b hC
    have Ib : Is sb 2 C := I0.fr hF.2.2 (fun o ho => by unfold fPo inF fQ at ho; omega)
    obtain ⟨s1, e1, F1⟩ := c_part (g := g) (l := l) (r := r) hF hV hC hq hi hb
    have lt := ltNN (show i < 2147483648 by omega) (show rnd C < 2147483648 by omega)
    have gl := gp_le (L := L) (C := C) (q := q) (a := i) (bits := bits)
    have t17 : (17 : Int32).toInt = 17 := rfl
    by_cases c : gpF L C q bits i 16 < bkL 17 x
    · have ex : bkF (fun a => gpF L C q bits a 16) i x = some (i, gpF L C q bits i 16) := by
        cases x with
        | none => rfl
        | some z => exact if_pos c
      refine ⟨(Int32.ofNat i, gpF L C q bits i 16, s1), ⟨by rw [ex]; rfl, by rw [ex]; rfl, F1⟩, ?_⟩
      simp only [p0_bestToAsk_L30, e_R0, obs, c_round Ib, hR.2.2, lt, hi, if_true, e1, c, p0_bestToAsk_J68, i_succ]
    · have ex : bkF (fun a => gpF L C q bits a 16) i x = x := by
        cases x with
        | none =>
          exfalso
          apply c
          exact i_ltI.mpr (by show _ < (17 : Int32).toInt; omega)
        | some z => exact if_neg c
      refine ⟨(bkB x, bkL 17 x, s1), ⟨by rw [ex], by rw [ex], F1⟩, ?_⟩
      simp only [p0_bestToAsk_L30, e_R0, obs, c_round Ib, hR.2.2, lt, hi, if_true, e1, c, if_false, p0_bestToAsk_J68, i_succ]
  · obtain ⟨hx, hy, hF⟩ := hR
    have Ib : Is b.2.2 2 C := I0.fr hF.2.2 (fun o ho => by unfold fPo inF fQ at ho; omega)
    refine ⟨b.2.2, ?_, hF⟩
    have hR := rnd_b hC
    simp only [p0_bestToAsk_L30, e_R0, obs, c_round Ib, hR.2.2, ltk_n, if_false, hx]
theorem m_asks {q : Nat} {bits : Int32} {s0 : tS} (h : MPq L C s0 s) (hV : VL L) (hC : VC C) (hq : q < sz C) (hb : ∀ k, k < 16 → hasb bits k = true → k < 2 * sz C) : ∃ s', p12_ask_L64 gF (ob g 287) (Int32.ofNat q) bits (-1) 1000000 0 (mm g s l r) = some (askV L C q bits, mm g s' l r) ∧ MPq L C s0 s' := by
  have hR := rnd_b hC
  refine it_sf (L := fun m (b : Int32 × Int32 × tS) i => p12_ask_L64 m (ob g 287) (Int32.ofNat q) bits b.1 b.2.1 i (mm g b.2.2 l r)) (R := fun _ b x => b.1 = bkB x ∧ b.2.1 = bkL 1000000 x ∧ MPq L C s0 b.2.2) (f := bkF (fun a => gpF L C q bits a 16)) (Q := fun B x => ∃ s', B = some (bkB x, mm g s' l r) ∧ MPq L C s0 s') (N := rnd C) (fun m i b x hi hR => ?_) (fun m b x hR => ?_) (rnd C) gF 0 (-1, 1000000, s) none (by omega) (gF_gt (by omega)) ⟨rfl, rfl, h⟩
  · obtain ⟨b1, b2, sb⟩ := b
    obtain ⟨hx, hy, hM⟩ := hR
    have hx : b1 = bkB x := hx
    have hy : b2 = bkL 1000000 x := hy
    have hM : MPq L C s0 sb := hM
    subst hx hy
    have hR := rnd_b hC
    obtain ⟨s1, e1, M1⟩ := m_part (g := g) (l := l) (r := r) (bits := bits) hM hV hC hq hi
    rw [← gp_same hC.1.2 hb] at e1
    have lt := ltNN (show i < 2147483648 by omega) (show rnd C < 2147483648 by omega)
    have gl := gp_le (L := L) (C := C) (q := q) (a := i) (bits := bits)
    have tm : (1000000 : Int32).toInt = 1000000 := rfl
    by_cases c : gpF L C q bits i 16 < bkL 1000000 x
    · have ex : bkF (fun a => gpF L C q bits a 16) i x = some (i, gpF L C q bits i 16) := by
        cases x with
        | none => rfl
        | some z => exact if_pos c
      have em : minI (bkL 1000000 x) (gpF L C q bits i 16) = gpF L C q bits i 16 := if_pos c
      refine ⟨(Int32.ofNat i, gpF L C q bits i 16, s1), ⟨by rw [ex]; rfl, by rw [ex]; rfl, M1⟩, ?_⟩
      simp only [p12_ask_L64, w_R1, obs, m_4 hM.1, hR.2.2, lt, hi, if_true, e1, c, p12_ask_J98, em, i_succ]
    · have ex : bkF (fun a => gpF L C q bits a 16) i x = x := by
        cases x with
        | none =>
          exfalso
          apply c
          exact i_ltI.mpr (by show _ < (1000000 : Int32).toInt; omega)
        | some z => exact if_neg c
      have em : minI (bkL 1000000 x) (gpF L C q bits i 16) = bkL 1000000 x := if_neg c
      refine ⟨(bkB x, bkL 1000000 x, s1), ⟨by rw [ex], by rw [ex], M1⟩, ?_⟩
      simp only [p12_ask_L64, w_R1, obs, m_4 hM.1, hR.2.2, lt, hi, if_true, e1, c, if_false, p12_ask_J98, em, i_succ]
  · obtain ⟨hx, hy, hM⟩ := hR
    refine ⟨b.2.2, ?_, hM⟩
    have hR := rnd_b hC
    simp only [p12_ask_L64, w_R1, obs, m_4 hM.1, hR.2.2, ltk_n, if_false, hx]
theorem op_ask {x1 : Int32} : Op g H_ask (fun M => p11_ask (ob g 0) x1 M) (fun M => p12_ask (ob g 287) x1 M) := by
  intro s l r hI
  obtain ⟨C, G, L, n, p, hc, ht, hp, hk, hr⟩ := id hI
  obtain ⟨t1, t2, t3, t4⟩ := id ht
  have hC := hc.1.2.2.2.2.1
  have hc0 := core_tp0 hc
  have I0 := hc0.1.1
  have eu : p11_usedTape (ob g 0) (mm g s l r) = some (Int32.ofNat n, mm g (tp0 s) l r) := by
    simp only [p11_usedTape, a_gd, a_I, t2, obs, a_P]
    rfl
  have em : ∀ {l1 : tL} {s2 : tS}, s2 287 9 = s 287 9 → p12_uses (ob g 287) (mm g s2 l1 r) = some (mm g (usS s2 n) l1 r) := fun h => m_uses (by rw [h, t3])
  have MU : ∀ {s2 : tS}, Ms s2 C → Ms (usS s2 n) C := fun {s2} h => by
    show Mw (usS s2 n 288) C
    rw [usS_o (by decide)]
    exact h
  have hu1 : ∀ j, j < n → tp0 s 1 j = Int32.ofNat (ub s j) ∧ ub s j < 256 := fun j hj => by
    rw [tp0_1]
    exact ⟨(tape_u ht hj).2.1, (tape_u ht hj).1⟩
  rcases Bool.eq_false_or_eq_true (inR C x1) with hx | hx
  · obtain ⟨i, hi, rfl⟩ := inR_i I0.2.1 hx
    have hs := c_sights (g := g) (l := l) (r := r) I0 hC t1 hu1
    have htd : ∀ {l1 : tL} {s2 : tS}, Ms s2 C → s2 293 = s 293 → p12_isTold (ob g 287) (mm g (usS s2 n) l1 r) = some (ib (tlB C n (ub s))) := fun {l1 s2} hM h => m_told (MU hM) hC t1 usS_11 (fun j hj => by
      rw [usS_o (by decide), h]
      exact ⟨(tape_u ht hj).2.2, (tape_u ht hj).1⟩)
    rcases Bool.eq_false_or_eq_true (tlB C n (ub s)) with htl | htl
    · obtain ⟨n4, n2, hR⟩ := told_of htl
      rw [htl, if_pos rfl] at hs
      obtain ⟨s2, e2, F2⟩ := c_fitting (g := g) (l := l) (r := r) (u := ub s) I0 hc0.1.2.1 hc0.2.1 (hr.2.2.1.rs (funext fun k => up2_ne (by omega))) hc.2.2.2 hC hi n4 n2 (fun j hj => (hu1 j hj).1)
      have hbits : ∀ k, k < 16 → hasb (fitV L C i (ub s) n) k = true → k < 2 * sz C := fun k hk hh => (fit_has hC.1.2 hk hh).1
      obtain ⟨cv, hcv⟩ : ∃ v, pJ6_bitCount (fitV L C i (ub s) n) mNil = some v := ⟨_, rfl⟩
      have hcm : ∀ {M : mMem}, pJ6_bitCount (fitV L C i (ub s) n) M = some cv := fun {M} => bc_mem.trans hcv
      have ml : ∀ {l1 : tL} {s2 : tS}, RS (tp0 s) s2 → ∃ s3, p12_allThatFit (ob g 287) (Int32.ofNat i) (mm g (usS s2 n) l1 r) = some (fitV L C i (ub s) n, mm g s3 l1 r) ∧ MPs L C (usS s2 n) s3 ∧ Ms (usS s2 n) C := fun {l1 s2} r2 => by
        have hc2 := hc0.rs r2
        obtain ⟨q1, q2, q3⟩ := rs_tape r2
        have M2 := MU hc2.1.2.2.1
        have L2 : LMs (usS s2 n) L := by
          show LMw (usS s2 n 288) L
          rw [usS_o (by decide)]
          exact hc2.2.2.1
        obtain ⟨s3, e3, P3⟩ := m_fitting (g := g) (l := l1) (r := r) (u := ub s) M2 L2 hc.2.2.2 hC hi n4 n2 usS_11 (fun j hj => by
          rw [usS_o (by decide), q2]
          exact ⟨(tape_u ht hj).2.2, hR j hj⟩)
        exact ⟨s3, e3, P3, M2⟩
      by_cases c2 : cv < 2
      · have r2 := fps_rs F2
        obtain ⟨q1, q2, q3⟩ := rs_tape r2
        refine Or.inr ⟨-1, s2, r, ?_, fun l1 => ?_⟩
        · simp only [p11_ask, a_gd, eu, obs, a_be_t I0 hx, xb, hs, a_R15, a_R0, p0_bestToAsk, e_gd, e2, hcm, c2, if_true, xr, Option.map_some]
        · obtain ⟨s3, e3, P3, M2⟩ := ml (l1 := l1) r2
          refine ⟨s3, ?_, ?_, us_inv (n := n) hI hc r2 P3.1 P3.2.1 (fun o k a b c d => by rw [P3.2.2.1 o a b]) (fun k hk => by rw [P3.2.2.2 k hk, usS_o (by decide)])⟩
          · simp only [p12_ask, w_gd, em q3, obs, m_nob_t M2 hx, m_th0, if_true, htd (hc0.rs r2).1.2.2.1 q2, htl, ib_t, one_z, if_false, p12_ask_J30, e3, hcm, c2]
          · rw [P3.2.2.1 287 (by decide) (by decide), usS_0]
      · obtain ⟨s4, e4, F4⟩ := c_asks (g := g) (l := l) (r := r) F2 I0 hc.2.2.2 hC hi hbits
        have r2 := fps_rs F4
        obtain ⟨q1, q2, q3⟩ := rs_tape r2
        refine Or.inr ⟨askV L C i (fitV L C i (ub s) n), s4, r, ?_, fun l1 => ?_⟩
        · simp only [p11_ask, a_gd, eu, obs, a_be_t I0 hx, xb, hs, a_R15, a_R0, p0_bestToAsk, e_gd, e2, hcm, c2, if_false, e4, xr, Option.map_some]
        · obtain ⟨s3, e3, P3, M2⟩ := ml (l1 := l1) r2
          have Q3 : MPq L C (usS s4 n) s3 := ⟨P3.1, P3.2.1, fun o a b _ => P3.2.2.1 o a b, P3.2.2.2⟩
          obtain ⟨s5, e5, P5⟩ := m_asks (g := g) (l := l1) (r := r) Q3 hc.2.2.2 hC hi hbits
          refine ⟨s5, ?_, ?_, us_inv (n := n) hI hc r2 P5.1 P5.2.1 (fun o k a b c d => by rw [P5.2.2.1 o a b c]) (fun k hk => by rw [P5.2.2.2 k hk, usS_o (by decide)])⟩
          · simp only [p12_ask, w_gd, em q3, obs, m_nob_t M2 hx, m_th0, if_true, htd (hc0.rs r2).1.2.2.1 q2, htl, ib_t, one_z, if_false, p12_ask_J30, e3, hcm, c2, e5]
          · rw [P5.2.2.1 287 (by decide) (by decide) (by decide), usS_0]
    · rw [htl, if_neg (by decide)] at hs
      refine Or.inl ⟨0, tp0 s, r, up2 (usS (tp0 s) n) 287 0 2, 0, ?_, by decide, ?_, up2_eq, rs_us (s2 := s) hI hc⟩
      · simp only [p11_ask, a_gd, eu, obs, a_be_t I0 hx, xb, hs]
      · simp only [p12_ask, w_gd, em (s2 := tp0 s) tp0_9, obs, m_nob_t (MU hc0.1.2.2.1) hx, m_th0, if_true, htd hc0.1.2.2.1 tp0_293, htl, ib_f, p12_ask_J30, m_th1, one_z, if_false, p12_ask_J37]
  · refine Or.inl ⟨2, tp0 s, r, up2 (usS (tp0 s) n) 287 0 1, 0, ?_, by decide, ?_, up2_eq, rs_us (s2 := s) hI hc⟩
    · simp only [p11_ask, a_gd, eu, obs, a_be_f (k := 0) I0 hx, xb]
    · simp only [p12_ask, w_gd, em (s2 := tp0 s) tp0_9, obs, m_nob_f (MU hc0.1.2.2.1) hx, m_th1, one_z, if_false, p12_ask_J37]
end
