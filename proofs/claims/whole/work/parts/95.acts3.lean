section
variable {g : Nat} {s : tS} {l : tL} {r : Nat → Nat} {C : Co} {G : Lg} {L : Lw}
def Good (g : Nat) (E : mMem → Option ((Nat × mMem) ⊕ (Int32 × mMem))) (Q : mMem → Option (Int32 × mMem)) (s : tS) (l : tL) (r : Nat → Nat) : Prop := ∃ v s1 r1, E (mm g s l r) = some (.inr (v, mm g s1 l r1)) ∧ ∀ l1 : tL, ∃ s2, Q (mm g s1 l1 r1) = some (v, mm g s2 l1 r1) ∧ s2 287 0 = 0 ∧ INV s2 r1
def Bad (g : Nat) (H : Nat → Int32) (E : mMem → Option ((Nat × mMem) ⊕ (Int32 × mMem))) (Q : mMem → Option (Int32 × mMem)) (s : tS) (l : tL) (r : Nat → Nat) : Prop := ∃ e, E (mm g s l r) = some (.inl (e, mm g s l r)) ∧ H e ≠ 0 ∧ ∃ w s2, Q (mm g s l r) = some (w, mm g s2 l r) ∧ RS s s2 ∧ s2 287 0 = H e
theorem op_of {H : Nat → Int32} {E : mMem → Option ((Nat × mMem) ⊕ (Int32 × mMem))} {Q : mMem → Option (Int32 × mMem)} (h : ∀ (s : tS) (l : tL) (r : Nat → Nat) (C : Co) (G : Lg) (L : Lw), INV s r → Core s C G L → Rest s → Bad g H E Q s l r ∨ Good g E Q s l r) : Op g H E Q := by
  intro s l r hI
  obtain ⟨C, G, L, n, p, hc, ht, hp, hk, hr⟩ := id hI
  rcases h s l r C G L hI hc hr with ⟨e, e1, e2, w, s2, e3, e4, e5⟩ | h
  · exact Or.inl ⟨e, s, r, s2, w, e1, e2, e3, e5, hI.rs e4⟩
  · exact Or.inr h
/-- an act: both remember, then do the same -/
theorem act_of {E : mMem → Option ((Nat × mMem) ⊕ (Int32 × mMem))} {Q : mMem → Option (Int32 × mMem)} (hI : INV s r) (hc : Core s C G L)
    (K : ∀ (s1 : tS) (r1 : Nat → Nat), p11_remember (ob g 0) (mm g s l r) = some (mm g s1 l r1) → Is s1 2 C → LgC s1 2 G → LIs s1 30 L → ∃ v s2 C' G', E (mm g s l r) = some (.inr (v, mm g s2 l r1)) ∧ Fr (inF 2) s1 s2 ∧ Is s2 2 C' ∧ LgC s2 2 G' ∧ VC C' ∧ VG G' ∧ ∀ (l1 : tL) (s4 : tS), p12_remembers (ob g 287) (mm g (up2 s2 287 0 0) l1 r1) = some (mm g s4 l1 r1) → Ms s2 C → Ms (up2 s2 287 0 0) C → Ms s4 C → LgM (s4 288) G → LMs s4 L → ∃ s5, Q (mm g s2 l1 r1) = some (v, mm g s5 l1 r1) ∧ Fw pL s4 s5 ∧ Ms s5 C' ∧ LgM (s5 288) G') : Good g E Q s l r := by
  obtain ⟨C0, G0, L0, n, p, hc0, ht, hp, hk, hr⟩ := id hI
  obtain ⟨F, hPc, hPm⟩ := past_split hp
  obtain ⟨s1, r1, e1, q1, q2, q3⟩ := c_remember (g := g) (l := l) (r := r) hPc hc.1.1 hc.1.2.1 hc.1.2.2.2.2.1 hc.1.2.2.2.2.2
  have fr : Fr (fun o => o = 0 ∨ inP o) s s1 := fun o ho => q2 o (fun h => ho (Or.inl h)) (fun h => ho (Or.inr h))
  have I1 : Is s1 2 C := hc.1.1.fr fr (fun o ho => by unfold inP at ho; omega)
  have g1 : LgC s1 2 G := hc.1.2.1.fr fr (by unfold inP; omega) (by unfold inP; omega)
  have L1 : LIs s1 30 L := hc.2.1.fr fr (fun o ho => by unfold inP at ho; omega)
  obtain ⟨v, s2, C', G', e2, f2, I2, g2, hC', hG', K2⟩ := K s1 r1 e1 I1 g1 L1
  refine ⟨v, s2, r1, e2, fun l1 => ?_⟩
  have e288 : s2 288 = s 288 := by rw [f2 288 (by unfold inF; omega), q2 288 (by decide) (by unfold inP; omega)]
  have e292 : s2 292 = s 292 := by rw [f2 292 (by unfold inF; omega), q2 292 (by decide) (by unfold inP; omega)]
  have e287 : s2 287 = s 287 := by rw [f2 287 (by unfold inF; omega), q2 287 (by decide) (by unfold inP; omega)]
  have M2 : Ms s2 C := by
    show Mw (s2 288) C
    rw [e288]
    exact hc.1.2.2.1
  have MA := m287 M2 (v := 0)
  have u288 : up2 s2 287 0 0 288 = s 288 := by rw [← e288]; exact funext fun j => up2_ne (by omega)
  have gA : LgM (up2 s2 287 0 0 288) G := by rw [u288]; exact hc.1.2.2.2.1
  have PA : Pm (up2 s2 287 0 0) p F := by
    obtain ⟨a1, a2, a3⟩ := hPm
    refine ⟨a1, by rw [up2_ne (by omega), e287]; exact a2, fun j hj => ?_⟩
    have er : rowJ (up2 s2 287 0 0) j = rowJ s j := funext fun k => by unfold rowJ; rw [up2_ne (by omega), e292]
    rw [er, up2_ne (by omega), e288]
    exact a3 j hj
  obtain ⟨s4, e4, p4, f4, f47⟩ := m_remember (g := g) (l := l1) (r := r1) PA MA gA
  have s4288 : s4 288 = s 288 := by rw [f4 288 (by decide) (by decide), u288]
  have M4 : Ms s4 C := by
    show Mw (s4 288) C
    rw [s4288]
    exact hc.1.2.2.1
  have g4 : LgM (s4 288) G := by rw [s4288]; exact hc.1.2.2.2.1
  have L4 : LMs s4 L := by
    show LMw (s4 288) L
    rw [s4288]
    exact hc.2.2.1
  obtain ⟨s5, e5, f5, M5, g5⟩ := K2 l1 s4 e4 M2 MA M4 g4 L4
  refine ⟨s5, e5, ?_, inv_act (p := p) (F := F) (s4 := s4) hc ht hk hr q1 q2 q3 f2 I2 g2 p4 (fun o a b => ?_) (fun k a b => ?_) f5 M5 g5 hC' hG'⟩
  · rw [f5.1 287 (by decide) (by decide), f47 0 (by decide), up2_eq]
  · rw [f4 o a b]
    exact funext fun j => up2_ne (by omega)
  · rw [f47 k a, up2_ne (by omega)]
/-- guards -/
theorem opP2 {x : Int32} {H : Nat → Int32} {E : mMem → Option ((Nat × mMem) ⊕ (Int32 × mMem))} {Q : mMem → Option (Int32 × mMem)} (hH : H 2 = 1)
    (hE : ∀ (s : tS) (l : tL) (r : Nat → Nat), p11_mustBe (ob g 0) x (mm g s l r) = some (.inl (2, mm g s l r)) → E (mm g s l r) = some (.inl (2, mm g s l r)))
    (hQ : ∀ (s : tS) (l : tL) (r : Nat → Nat), p12_nobody (ob g 287) x (mm g (up2 s 287 0 0) l r) = some 1 → ∃ w, Q (mm g s l r) = some (w, mm g (up2 (up2 s 287 0 0) 287 0 1) l r))
    (hG : ∀ (s : tS) (l : tL) (r : Nat → Nat) (C : Co) (G : Lg) (L : Lw) (i : Nat), INV s r → Core s C G L → i < sz C → x = Int32.ofNat i → p11_mustBe (ob g 0) x (mm g s l r) = some (.inr ()) → (∀ (s : tS) (l1 : tL) (r1 : Nat → Nat), Ms s C → p12_nobody (ob g 287) x (mm g s l1 r1) = some 0) → Bad g H E Q s l r ∨ Good g E Q s l r) : Op g H E Q := by
  refine op_of fun s l r C G L hI hc hr => ?_
  have h1 := hc.1.1
  have h3 := hc.1.2.2.1
  rcases Bool.eq_false_or_eq_true (inR C x) with hx | hx
  · obtain ⟨i, hi, rfl⟩ := inR_i h1.2.1 hx
    exact hG s l r C G L i hI hc hi rfl (a_be_t h1 hx) (fun s l1 r1 h => m_nob_t h hx)
  · obtain ⟨w, hw⟩ := hQ s l r (m_nob_f (m287 h3 (v := 0)) hx)
    exact Or.inl ⟨2, hE s l r (a_be_f (k := 0) h1 hx), by rw [hH]; decide, w, _, hw, rs_thr2, by rw [hH, up2_eq]⟩
theorem opT2 {x y : Int32} {H : Nat → Int32} {E : mMem → Option ((Nat × mMem) ⊕ (Int32 × mMem))} {Q : mMem → Option (Int32 × mMem)} (hH : H 2 = 1) (hH0 : H 0 = 2)
    (hE : ∀ (s : tS) (l : tL) (r : Nat → Nat) (e : Nat), p11_mustBeTwo (ob g 0) x y (mm g s l r) = some (.inl (e, mm g s l r)) → E (mm g s l r) = some (.inl (e, mm g s l r)))
    (hQ : ∀ (s s1 : tS) (l : tL) (r : Nat → Nat), p12_noTwo (ob g 287) x y (mm g s l r) = some (1, mm g s1 l r) → ∃ w, Q (mm g s l r) = some (w, mm g s1 l r))
    (hG : ∀ (s : tS) (l : tL) (r : Nat → Nat) (C : Co) (G : Lg) (L : Lw) (i j : Nat), INV s r → Core s C G L → i < sz C → j < sz C → i ≠ j → x = Int32.ofNat i → y = Int32.ofNat j → p11_mustBeTwo (ob g 0) x y (mm g s l r) = some (.inr ()) → (∀ (s1 : tS) (l1 : tL) (r1 : Nat → Nat), Ms s1 C → p12_noTwo (ob g 287) x y (mm g s1 l1 r1) = some (0, mm g (up2 s1 287 0 0) l1 r1)) → Bad g H E Q s l r ∨ Good g E Q s l r) : Op g H E Q := by
  refine op_of fun s l r C G L hI hc hr => ?_
  have h1 := hc.1.1
  have h3 := hc.1.2.2.1
  rcases Bool.eq_false_or_eq_true (inR C x) with hx | hx
  · rcases Bool.eq_false_or_eq_true (inR C y) with hy | hy
    · by_cases hn : x = y
      · subst hn
        obtain ⟨w, hw⟩ := hQ s _ l r (m_two_3 h3 hx)
        exact Or.inl ⟨0, hE s l r 0 (a_two_3 h1 hx), by rw [hH0]; decide, w, _, hw, rs_thr2, by rw [hH0, up2_eq]⟩
      · have t2 : ∀ (s1 : tS) (l1 : tL) (r1 : Nat → Nat), Ms s1 C → p12_noTwo (ob g 287) x y (mm g s1 l1 r1) = some (0, mm g (up2 s1 287 0 0) l1 r1) := fun s1 l1 r1 hM => m_two_4 hM hx hy hn
        have t1 := a_two_4 (g := g) (l := l) (r := r) h1 hx hy hn
        obtain ⟨i, hi, rfl⟩ := inR_i h1.2.1 hx
        obtain ⟨j, hj, rfl⟩ := inR_i h1.2.1 hy
        exact hG s l r C G L i j hI hc hi hj (fun e => hn (by rw [e])) rfl rfl t1 t2
    · obtain ⟨w, hw⟩ := hQ s _ l r (m_two_2 h3 hx hy)
      exact Or.inl ⟨2, hE s l r 2 (a_two_2 h1 hx hy), by rw [hH]; decide, w, _, hw, rs_thr2, by rw [hH, up2_eq]⟩
  · obtain ⟨w, hw⟩ := hQ s _ l r (m_two_1 h3 hx)
    exact Or.inl ⟨2, hE s l r 2 (a_two_1 h1 hx), by rw [hH]; decide, w, _, hw, rs_thr2, by rw [hH, up2_eq]⟩
theorem a_hold_t : p11_mustHold 1 (mm g s l r) = some (.inr ()) := by simp only [p11_mustHold, one_z, if_false, xr, Option.map_some]
theorem a_hold_f : p11_mustHold 0 (mm g s l r) = some (.inl (1, mm g s l r)) := by simp only [p11_mustHold, if_true, thr, mm_X]
theorem fw_P {i k : Nat} {v : Int32} (hi : i < 8) (hk : k < 17) : Fw pL s (up2 s 288 (9 + 17 * i + k) v) := Fw.up (by unfold pL; omega)
theorem fr_P {i k : Nat} {v : Int32} (hi : i < 8) : Fr (inF 2) s (up2 s (2 + 6 + i) k v) := Fr.up (by unfold inF; omega)
theorem lg_P {i k : Nat} {v : Int32} (hi : i < 8) (h : LgC s 2 G) : LgC (up2 s (2 + 6 + i) k v) 2 G := h.fr (P := fun o => o = 2 + 6 + i) (Fr.up rfl) (by omega) (by omega)
theorem lm_P {i k : Nat} {v : Int32} (hi : i < 8) (hk : k < 17) (h : LgM (s 288) G) : LgM (up2 s 288 (9 + 17 * i + k) v 288) G := h.fm (Fw.up (by unfold pC; omega))
/-! STERN -/
theorem op_stern {x1 x2 : Int32} : Op g H_stern (fun M => p11_stern (ob g 0) x1 x2 M) (fun M => p12_stern (ob g 287) x1 x2 M) := by
  refine opP2 (x := x1) (by decide) (fun s l r h => ?_) (fun s l r h => ⟨0, ?_⟩) (fun s l r C G L i hI hc hi ex h hn => ?_)
  · simp only [p11_stern, a_gd, h, xb]
  · simp only [p12_stern, w_gd, w_putI, obs, h, m_th1, one_z, if_false, p12_stern_J41, p12_stern_J34, p12_stern]
  · subst ex
    have h8 := zc_8 hc.1.1.2.1 hi
    have hC := hc.1.2.2.2.2.1
    rcases Bool.eq_false_or_eq_true (inL 0 100 x2) with hx | hx
    · refine Or.inr (act_of hI hc fun s1 r1 e1 I1 g1 L1 => ?_)
      have I2 := I1.setP (k := 6) (v := x2) hi (by decide)
      have hb : bw 0 100 x2 := by
        obtain ⟨k, hk, rfl⟩ := inL_nat (n := 100) (by omega) hx
        have : (Int32.ofNat k).toInt = (k : Int) := i_toInt (by omega)
        constructor <;> omega
      refine ⟨C.2 i 6, up2 s1 (2 + 6 + i) 6 x2, stP C i 6 x2, G, ?_, fr_P h8, I2, lg_P h8 g1, hC.setP (by omega) (by omega) (by omega) (by omega) (by omega) (fun _ => hb) (by omega) (by omega) (by omega), hc.1.2.2.2.2.2, fun l1 s4 e4 M2 MA M4 g4 L4 => ⟨up2 s4 288 (9 + 17 * i + 6) x2, ?_, fw_P h8 (by decide), M4.setP hi (by decide), lm_P h8 (by decide) g4⟩⟩
      · simp only [p11_stern, a_gd, h, xb, a_lie_t hx, e1, obs, a_R3, c_at I1 hi, c_p I1 hi (show 6 < 9 by decide), c_P I1 hi, xr, Option.map_some]
      · simp only [p12_stern, w_gd, w_putI, obs, hn _ _ _ MA, m_th0, if_true, m_in, hx, ib_t, one_z, if_false, p12_stern_J34, e4, m_of6 M4 hi, w_R1, w_at6, m_astP h8 (show 6 < 17 by decide)]
    · refine Or.inl ⟨0, ?_, by decide, 0, up2 (up2 s 287 0 0) 287 0 2, ?_, rs_thr2, up2_eq⟩
      · simp only [p11_stern, a_gd, h, xb, a_lie_f hx]
      · simp only [p12_stern, w_gd, w_putI, obs, hn _ _ _ (m287 hc.1.2.2.1 (v := 0)), m_th0, m_th1, if_true, m_in, hx, ib_f, one_z, if_false, p12_stern_J41, p12_stern_J34, p12_stern]
/-! DAYS -/
theorem vg_push {row : Nat → Int32} (h : VG G) (hr : row 3 = 0 ∨ row 3 = 1) : VG (push G row) := by
  intro k hk
  have hk' : k < min 60 (G.1 + 1) := hk
  show (if k = 0 then row 3 else G.2 (k - 1) 3) = 0 ∨ (if k = 0 then row 3 else G.2 (k - 1) 3) = 1
  by_cases e : k = 0
  · rw [if_pos e]
    exact hr
  · rw [if_neg e]
    exact h (k - 1) (by omega)
theorem row_3 {d x q a : Int32} {y : Bool} : rowF d x q y a 3 = 0 ∨ rowF d x q y a 3 = 1 := by
  have : rowF d x q y a 3 = ib y := rfl
  rw [this]
  exact ib_01
theorem vg_step {x : Int32 × Co × Lg} {i : Nat} (h : VG x.2.2) : VG (dStep L i x).2.2 := by
  unfold dStep
  by_cases h0 : x.2.1.2 i 8 = 0
  · rw [if_pos h0]
    exact h
  · rw [if_neg h0]
    by_cases h1 : rem32 (drV (nextSeed (x.2.1.1 8))) 100 < x.2.1.2 i 5
    · rw [if_pos h1]
      exact vg_push h row_3
    · rw [if_neg h1]
      exact h
theorem vg_day {x : Co × Lg} (h : VG x.2) : VG (dayF L x).2.2 := itF_keep (f := dStep L) (P := fun z => VG z.2.2) (N := sz x.1) (fun i z _ hz => vg_step hz) (sz x.1) 0 (0, x) (by omega) h
theorem vg_go {n : Nat} {x : Co × Lg} (h : VG x.2) : VG (goF L n x).2.2 := itF_keep (f := fun _ (z : Int32 × Co × Lg) => (z.1 + (dayF L z.2).1, (dayF L z.2).2)) (P := fun z => VG z.2.2) (N := n) (fun i z _ hz => vg_day hz) n 0 (0, x) (by omega) h
theorem op_days {x1 : Int32} : Op g H_days (fun M => p11_days (ob g 0) x1 M) (fun M => p12_days (ob g 287) x1 M) := by
  refine op_of fun s l r C G L hI hc hr => ?_
  have hC := hc.1.2.2.2.2.1
  rcases Bool.eq_false_or_eq_true (inL 1 100 x1) with hx | hx
  · have h2 := of_decide_eq_true hx
    have hx0 : inL 0 100 x1 = true := decide_eq_true ⟨fun hc => h2.1 (by
      have a := i_ltI.mp hc
      have z : (0 : Int32).toInt = 0 := rfl
      have o : (1 : Int32).toInt = 1 := rfl
      exact i_ltI.mpr (by omega)), h2.2⟩
    obtain ⟨k, hk, rfl⟩ := inL_nat (n := 100) (by omega) hx0
    refine Or.inr (act_of hI hc fun s1 r1 e1 I1 g1 L1 => ?_)
    obtain ⟨s2, e2, I2, g2, f2⟩ := c_pass (g := g) (l := l) (r := r1) hc.2.2.2 I1 g1 L1 hC (n := k) (by omega)
    refine ⟨(goF L k (C, G)).1, s2, (goF L k (C, G)).2.1, (goF L k (C, G)).2.2, ?_, f2, I2, g2, (goF_ok hc.2.2.2 hC).1, vg_go hc.1.2.2.2.2.2, fun l1 s4 e4 M2 MA M4 g4 L4 => ?_⟩
    · simp only [p11_days, a_gd, a_lie_t hx, xb, e1, obs, a_R14, a_R3, e2, xr, Option.map_some]
    · obtain ⟨s5, e5, M5, g5, f5⟩ := m_pass (g := g) (l := l1) (r := r1) hc.2.2.2 M4 g4 L4 hC (n := k) (by omega)
      refine ⟨s5, ?_, f5, M5, g5⟩
      simp only [p12_days, w_gd, w_putI, obs, m_in, hx, ib_t, one_z, if_false, p12_days_J21, m_th0, if_true, e4, e5]
  · refine Or.inl ⟨0, ?_, by decide, 0, up2 (up2 s 287 0 0) 287 0 1, ?_, rs_thr2, up2_eq⟩
    · simp only [p11_days, a_gd, a_lie_f hx, xb]
    · simp only [p12_days, w_gd, w_putI, obs, m_in, hx, ib_f, if_true, p12_days_J21, m_th1, one_z, if_false]
end
