/-! the class's weight -/
/-- what a family keeps to -/
def VC (C : Co) : Prop := Zc C ∧ bw 2 99 (C.1 4) ∧ bw 0 99 (C.1 5) ∧ bw 0 20 (C.1 6) ∧ bw 0 9999 (C.1 3) ∧ bw 0 12 (C.1 1) ∧ ∀ i, i < sz C → (0 ≤ (C.2 i 0).toInt ∧ (C.2 i 0).toInt < (C.1 4).toInt) ∧ bw (-99) 99 (C.2 i 1) ∧ (C.2 i 2 = 0 ∨ C.2 i 2 = 1) ∧ (C.2 i 3 = -1 ∨ ∃ k, k < i ∧ C.2 i 3 = Int32.ofNat k) ∧ (C.2 i 4 = -1 ∨ ∃ k, k < sz C ∧ C.2 i 4 = Int32.ofNat k) ∧ bw 0 100 (C.2 i 5) ∧ bw 0 100 (C.2 i 6) ∧ bw 0 9 (C.2 i 7) ∧ (∃ m, m < 2 ^ sz C ∧ C.2 i 8 = Int32.ofNat m) ∧ ∀ j, j < 8 → bw 0 9 (C.2 i (9 + j))
theorem vc_z {C : Co} (h : VC C) : Zc C := h.1
theorem vc_r {C : Co} (h : VC C) : 2 ≤ (C.1 4).toInt ∧ (C.1 4).toInt ≤ 99 := h.2.1
section
variable {g : Nat} {l : tL} {r : Nat → Nat} {C : Co} {L : Lw} {p q b : Nat}
theorem ch_facts {s : tS} (h : Is s b C) (hp : p < sz C) (hq : q < sz C) : ∃ s', p4_gatherFacts (ob g 30) (ob g b) (Int32.ofNat p) (Int32.ofNat q) (mm g s l r) = some (mm g s' l r) ∧ Facts s' C p q ∧ Fr (fun a => a = 37) s s' := by
  have w : ∀ {k : Nat} {s : tS} {v : Int32}, k < 30 → astI (mm g s l r) (ob g 37) (Int32.ofNat k) v = some (mm g (up2 s 37 k v) l r) := fun hk => l_s7 m30 hk
  have w26 : ∀ {s : tS} {v : Int32}, astI (mm g s l r) (ob g 37) 26 v = some (mm g (up2 s 37 26 v) l r) := w (k := 26) (by decide)
  have w27 : ∀ {s : tS} {v : Int32}, astI (mm g s l r) (ob g 37) 27 v = some (mm g (up2 s 37 27 v) l r) := w (k := 27) (by decide)
  have w6 : ∀ {s : tS} {v : Int32}, astI (mm g s l r) (ob g 37) 6 v = some (mm g (up2 s 37 6 v) l r) := w (k := 6) (by decide)
  have w28 : ∀ {s : tS} {v : Int32}, astI (mm g s l r) (ob g 37) 28 v = some (mm g (up2 s 37 28 v) l r) := w (k := 28) (by decide)
  have w29 : ∀ {s : tS} {v : Int32}, astI (mm g s l r) (ob g 37) 29 v = some (mm g (up2 s 37 29 v) l r) := w (k := 29) (by decide)
  have w16 : ∀ {s : tS} {v : Int32}, astI (mm g s l r) (ob g 37) 16 v = some (mm g (up2 s 37 16 v) l r) := w (k := 16) (by decide)
  have w12 : ∀ {s : tS} {v : Int32}, astI (mm g s l r) (ob g 37) 12 v = some (mm g (up2 s 37 12 v) l r) := w (k := 12) (by decide)
  have w24 : ∀ {s : tS} {v : Int32}, astI (mm g s l r) (ob g 37) 24 v = some (mm g (up2 s 37 24 v) l r) := w (k := 24) (by decide)
  have w25 : ∀ {s : tS} {v : Int32}, astI (mm g s l r) (ob g 37) 25 v = some (mm g (up2 s 37 25 v) l r) := w (k := 25) (by decide)
  have r6 : ∀ {s : tS}, getR (mm g s l r) (ob g 30) 5 6 = some (ob g 37) := l_R6 m30
  have h37 := fb_37 b h.1
  have n1 : ∀ {i : Nat} {s : tS} {k : Nat} {v : Int32} {j : Nat}, i < sz C → up2 s 37 k v (b + 6 + i) j = s (b + 6 + i) j := fun hi => up2_ne (by have := zc_8 h.2.1 hi; omega)
  have n2 : ∀ {s : tS} {k : Nat} {v : Int32} {j : Nat}, up2 s 37 k v b j = s b j := up2_ne (by omega)
  have rp : ∀ {s : tS} {j : Nat}, getI (mm g s l r) (ob g (b + 6 + p)) 9 j = some (s (b + 6 + p) j) := f_pI h.1 (zc_8 h.2.1 hp)
  have rq : ∀ {s : tS} {j : Nat}, getI (mm g s l r) (ob g (b + 6 + q)) 9 j = some (s (b + 6 + q) j) := f_pI h.1 (zc_8 h.2.1 hq)
  have rg : ∀ {s : tS} {j : Nat}, getI (mm g s l r) (ob g b) 3 j = some (s b j) := f_getI h.1
  have ap : ∀ {s : tS}, p2_at (ob g b) (Int32.ofNat p) (mm g s l r) = some (ob g (b + 6 + p)) := f_at h.1 (zc_8 h.2.1 hp)
  have aq : ∀ {s : tS}, p2_at (ob g b) (Int32.ofNat q) (mm g s l r) = some (ob g (b + 6 + q)) := f_at h.1 (zc_8 h.2.1 hq)
  have vp : ∀ j, j < 9 → s (b + 6 + p) j = C.2 p j := fun j hj => h.2.2.2.1 p j hp hj
  have vq : ∀ j, j < 9 → s (b + 6 + q) j = C.2 q j := fun j hj => h.2.2.2.1 q j hq hj
  have g8 : s b 8 = C.1 3 := h.2.2.1 8 (by decide) (by decide)
  have g6 : s b 6 = C.1 5 := h.2.2.1 6 (by decide) (by decide)
  refine ⟨up2 (up2 (up2 (up2 (up2 (up2 (up2 (up2 (up2 s 37 26 (Int32.ofNat p)) 37 27 (Int32.ofNat q)) 37 6 (C.2 q 0)) 37 28 (C.2 p 0)) 37 29 (maxI 0 (C.2 q 1))) 37 16 (C.1 3)) 37 12 (if C.2 q 4 = -1 then 0 else 1)) 37 24 (if C.2 q 3 = Int32.ofNat p then 1 else 0)) 37 25 (if C.2 q 0 < C.1 5 then 1 else 0), ?_, ?_, ?_⟩
  · rw [p4_gatherFacts, l_gd m30]
    simp only [ap, aq, Option.bind_some, r6, w26, w27, w6, w28, w29, w16, rq, rp, rg, n1 hp, n1 hq, n2, vp 0 (by decide), vq 0 (by decide), vq 1 (by decide), vq 4 (by decide), g8]
    by_cases e1 : C.2 q 4 = -1 <;> by_cases e2 : C.2 q 3 = Int32.ofNat p <;> by_cases e3 : C.2 q 0 < C.1 5 <;> simp only [e1, e2, e3, if_true, if_false, p4_gatherFacts_J142, p4_gatherFacts_J118, p4_gatherFacts_J97, p4_gatherFacts, w12, w24, w25, Option.bind_some, r6, rq, rg, n1 hq, n2, vq 3 (by decide), vq 0 (by decide), g6]
  · intro o ho
    have : o = 0 ∨ o = 1 ∨ o = 2 ∨ o = 3 ∨ o = 4 ∨ o = 5 ∨ o = 6 ∨ o = 7 ∨ o = 8 := by omega
    rcases this with rfl | rfl | rfl | rfl | rfl | rfl | rfl | rfl | rfl <;> rfl
  · have u : ∀ {s : tS} {k : Nat} {v : Int32}, Fr (fun a => a = 37) s (up2 s 37 k v) := Fr.up rfl
    exact (((((((u.trans u).trans u).trans u).trans u).trans u).trans u).trans u).trans u
theorem LIs.fr {s s' : tS} {a : Nat} {P : Nat → Prop} (h : LIs s a L) (hf : Fr P s s') (hP : ∀ o, P o → o < a ∨ a + 7 ≤ o) : LIs s' a L := by
  have e : ∀ k, k < 7 → s' (a + k) = s (a + k) := fun k hk => hf _ (fun hp => by have := hP _ hp; omega)
  refine ⟨?_, fun i hi => ?_⟩
  · have := e 0 (by decide)
    rw [Nat.add_zero] at this
    rw [this]
    exact h.1
  · rw [e 1 (by decide), e 2 (by decide), e 3 (by decide), e 4 (by decide), e 5 (by decide), e 6 (by decide)]
    exact h.2 i hi
theorem LIs.frW {s s' : tS} (h : LIs s 30 L) (hf : Fr inW s s') : LIs s' 30 L := h.fr hf (fun o ho => by unfold inW at ho; omega)
theorem calm_mono : ∀ (n k : Nat), calmF L C p q n = true → calmF L C p q (n + k) = true := by
  intro n k h
  induction k with
  | zero => exact h
  | succ k ih =>
    show (calmF L C p q (n + k) || cntF L C p q 2 (n + k)) = true
    rw [ih]
    rfl
theorem c_left {s : tS} (h : Is s b C) (hr : 0 < (C.1 4).toInt) {x : Int32} : p2_leftByRound (ob g b) x (mm g s l r) = some (rem32 x (C.1 4)) := by
  have c : 0 < C.1 4 := i_ltI.mpr hr
  simp only [p2_leftByRound, c_gd h, c_round h, Option.bind_some, c, if_true, remI_ne (i_nz hr), p2_leftByRound_J17, p2_leftByRound]
theorem wt_run {y : Bool} (hV : VL L) (hr : 0 < (C.1 4).toInt) : ∀ (k fuel i : Nat) (s : tS), i + k = lwC L → k < fuel → calmF L C p q i = false → Is s b C → LIs s 30 L → Facts s C p q → 
    ∃ s', p4_weight_L37 fuel (ob g 30) (ob g b) (Int32.ofNat (17 + yn y)) (sumF L C p q (yn y) (C.1 6) i) (Int32.ofNat i) (mm g s l r) = some (wtF L C p q y, mm g s' l r) ∧ Fr inW s s' := by
  intro k
  have hC := hV.1
  induction k with
  | zero =>
    intro fuel i s h1 h2 hc h hL hf
    obtain ⟨n, rfl⟩ : ∃ n, fuel = n + 1 := ⟨fuel - 1, by omega⟩
    have e : i = lwC L := by omega
    subst e
    refine ⟨s, ?_, Fr.refl⟩
    have hn : ¬ Int32.ofNat (lwC L) < s 30 9 := by
      rw [hL.1]
      cases hH : lwH L with
      | true => exact Int32.lt_irrefl
      | false =>
        rw [hV.2.1 hH]
        decide
    simp only [p4_weight_L37, l_I m30, Option.bind_some, hn, if_false, p4_weight_J133, p4_weight_J127, p4_weight_J77, p4_weight_J34, p4_weight_J12, p4_weight, c_left h hr, wtF, hc, Bool.false_eq_true]
  | succ k ih =>
    intro fuel i s h1 h2 hc h hL hf
    obtain ⟨n, rfl⟩ : ∃ n, fuel = n + 1 := ⟨fuel - 1, by omega⟩
    have hi : i < lwC L := by omega
    have hH : lwH L = true := by
      cases hH : lwH L with
      | true => rfl
      | false => have := hV.2.1 hH; omega
    have c1 : Int32.ofNat i < s 30 9 := by
      rw [hL.1, if_pos hH]
      exact (i_lt (by omega) (by omega)).mpr hi
    have c2 : Int32.ofNat i < 12 := (i_lt (b := 12) (by omega) (by decide)).mpr (by omega)
    obtain ⟨k1, k2, k3, k4, k5⟩ := hL.2 i hi
    obtain ⟨v1, v2, v3, v4, v5, v6⟩ := hV.2.2 i hi
    have a1 : ∀ {s : tS}, aldI (mm g s l r) (ob g 31) 20 (Int32.ofNat i) = some (s 31 i) := l_a1 m30 (by omega)
    have a2 : ∀ {s : tS}, aldI (mm g s l r) (ob g 32) 20 (Int32.ofNat i) = some (s 32 i) := l_a2 m30 (by omega)
    have a3 : ∀ {s : tS}, aldI (mm g s l r) (ob g 33) 20 (Int32.ofNat i) = some (s 33 i) := l_a3 m30 (by omega)
    have a4 : ∀ {s : tS}, aldI (mm g s l r) (ob g 34) 20 (Int32.ofNat i) = some (s 34 i) := l_a4 m30 (by omega)
    have r0 : ∀ {s : tS}, getR (mm g s l r) (ob g 30) 5 0 = some (ob g 31) := l_R0 m30
    have r1 : ∀ {s : tS}, getR (mm g s l r) (ob g 30) 5 1 = some (ob g 32) := l_R1 m30
    have r2 : ∀ {s : tS}, getR (mm g s l r) (ob g 30) 5 2 = some (ob g 33) := l_R2 m30
    have r3 : ∀ {s : tS}, getR (mm g s l r) (ob g 30) 5 3 = some (ob g 34) := l_R3 m30
    have hyn : yn y ≤ 1 := by cases y <;> decide
    have t19 : (Int32.ofNat (17 + lwK L i) = 19) = (lwK L i = 2) := by
      rw [show (19 : Int32) = Int32.ofNat 19 from rfl, i_eq (by omega) (by omega)]
      exact propext (by omega)
    have tk : (Int32.ofNat (17 + lwK L i) = Int32.ofNat (17 + yn y)) = (lwK L i = yn y) := by
      rw [i_eq (by omega) (by omega)]
      exact propext (by omega)
    obtain ⟨s1, e1, f1⟩ := ch_holds (g := g) (l := l) (r := r) (C := C) (p := p) (q := q) hL hV hi hf
    have f1' : Fr inW s s1 := f1.mono (fun o ho => Or.inr ho)
    have q31 : s1 31 = s 31 := f1 31 (by decide)
    have q32 : s1 32 = s 32 := f1 32 (by decide)
    have go : ∀ (s2 : tS), Fr inW s s2 → calmF L C p q (i + 1) = false → Facts s2 C p q → ∃ s', p4_weight_L37 n (ob g 30) (ob g b) (Int32.ofNat (17 + yn y)) (sumF L C p q (yn y) (C.1 6) (i + 1)) (Int32.ofNat i + 1) (mm g s2 l r) = some (wtF L C p q y, mm g s' l r) ∧ Fr inW s s' := by
      intro s2 hf2 hc2 hfa
      obtain ⟨s', w1, w2⟩ := ih n (i + 1) s2 (by omega) (by omega) hc2 (h.frW hf2) (hL.frW hf2) hfa
      rw [i_succ]
      exact ⟨s', w1, hf2.trans w2⟩
    have hf1 : Facts s1 C p q := fun o ho => by rw [f1 37 (by decide)]; exact hf o ho
    by_cases e19 : lwK L i = 2
    · have c19 : (Int32.ofNat (17 + lwK L i) = 19) = True := by rw [t19]; exact eq_true e19
      have s0 : sumF L C p q (yn y) (C.1 6) (i + 1) = sumF L C p q (yn y) (C.1 6) i := by
        show (if cntF L C p q (yn y) i = true then _ else _) = _
        have : cntF L C p q (yn y) i = false := by
          rw [cntF, decide_eq_false (by omega), Bool.false_and]
        rw [this]
        rfl
      cases hh : holdsF L C p q i with
      | true =>
        refine ⟨s1, ?_, f1'⟩
        have hca : calmF L C p q (i + 1) = true := by
          show (calmF L C p q i || cntF L C p q 2 i) = true
          rw [cntF, decide_eq_true e19, hh, Bool.and_self, Bool.or_true]
        have hw : wtF L C p q y = 0 := by
          rw [wtF, if_pos]
          have := calm_mono (i + 1) (lwC L - (i + 1)) hca
          rwa [show i + 1 + (lwC L - (i + 1)) = lwC L by omega] at this
        simp only [p4_weight_L37, l_I m30, Option.bind_some, c1, c2, if_true, r0, a1, k1, c19, if_true, p4_weight_J133, p4_weight_J127, p4_weight_J77, p4_weight_J34, p4_weight_J12, p4_weight, r2, r3, a3, a4, k3, k4, e1, hh, ib_t, one_z, if_false, q31, hw]
      | false =>
        have hca : calmF L C p q (i + 1) = false := by
          show (calmF L C p q i || cntF L C p q 2 i) = false
          rw [cntF, hh, Bool.and_false, hc]
          rfl
        obtain ⟨s', w1, w2⟩ := go s1 f1' hca hf1
        refine ⟨s', ?_, w2⟩
        rw [s0] at w1
        simp only [p4_weight_L37, l_I m30, Option.bind_some, c1, c2, if_true, r0, a1, k1, c19, if_true, p4_weight_J133, p4_weight_J127, p4_weight_J77, p4_weight_J34, p4_weight_J12, p4_weight, r2, r3, a3, a4, k3, k4, e1, hh, ib_f, w1]
    · have c19 : (Int32.ofNat (17 + lwK L i) = 19) = False := by rw [t19]; exact eq_false e19
      by_cases ek : lwK L i = yn y
      · have ckk : (Int32.ofNat (17 + lwK L i) = Int32.ofNat (17 + yn y)) = True := by rw [tk]; exact eq_true ek
        cases hh : holdsF L C p q i with
        | true =>
          have hca : calmF L C p q (i + 1) = false := by
            show (calmF L C p q i || cntF L C p q 2 i) = false
            rw [cntF, decide_eq_false e19, hc]
            rfl
          have s0 : sumF L C p q (yn y) (C.1 6) (i + 1) = sumF L C p q (yn y) (C.1 6) i + lwA L i := by
            show (if cntF L C p q (yn y) i = true then _ else _) = _
            rw [if_pos]
            rw [cntF, decide_eq_true ek, hh]
            rfl
          obtain ⟨s', w1, w2⟩ := go s1 f1' hca hf1
          refine ⟨s', ?_, w2⟩
          rw [s0] at w1
          simp only [p4_weight_L37, l_I m30, Option.bind_some, c1, c2, if_true, r0, a1, k1, c19, if_false, ckk, if_true, p4_weight_J133, p4_weight_J127, p4_weight_J77, p4_weight_J34, p4_weight_J12, p4_weight, r1, r2, r3, a2, a3, a4, k3, k4, e1, hh, ib_t, one_z, q31, q32, k2, w1]
        | false =>
          have hca : calmF L C p q (i + 1) = false := by
            show (calmF L C p q i || cntF L C p q 2 i) = false
            rw [cntF, decide_eq_false e19, hc]
            rfl
          have s0 : sumF L C p q (yn y) (C.1 6) (i + 1) = sumF L C p q (yn y) (C.1 6) i := by
            show (if cntF L C p q (yn y) i = true then _ else _) = _
            rw [if_neg]
            rw [cntF, hh, Bool.and_false]
            decide
          obtain ⟨s', w1, w2⟩ := go s1 f1' hca hf1
          refine ⟨s', ?_, w2⟩
          rw [s0] at w1
          simp only [p4_weight_L37, l_I m30, Option.bind_some, c1, c2, if_true, r0, a1, k1, c19, if_false, ckk, if_true, p4_weight_J133, p4_weight_J127, p4_weight_J77, p4_weight_J34, p4_weight_J12, p4_weight, r2, r3, a3, a4, k3, k4, e1, hh, ib_f, w1]
      · have ckk : (Int32.ofNat (17 + lwK L i) = Int32.ofNat (17 + yn y)) = False := by rw [tk]; exact eq_false ek
        have hca : calmF L C p q (i + 1) = false := by
          show (calmF L C p q i || cntF L C p q 2 i) = false
          rw [cntF, decide_eq_false e19, hc]
          rfl
        have s0 : sumF L C p q (yn y) (C.1 6) (i + 1) = sumF L C p q (yn y) (C.1 6) i := by
          show (if cntF L C p q (yn y) i = true then _ else _) = _
          rw [if_neg]
          rw [cntF, decide_eq_false ek, Bool.false_and]
          decide
        obtain ⟨s', w1, w2⟩ := go s Fr.refl hca hf
        refine ⟨s', ?_, w2⟩
        rw [s0] at w1
        simp only [p4_weight_L37, l_I m30, Option.bind_some, c1, c2, if_true, r0, a1, k1, c19, if_false, ckk, if_true, p4_weight_J133, p4_weight_J127, p4_weight_J77, p4_weight_J34, p4_weight_J12, p4_weight, w1]
/-- what a word weighs, in the class -/
theorem c_wt {s : tS} {y : Bool} (h : Is s b C) (hL : LIs s 30 L) (hV : VL L) (hr : 0 < (C.1 4).toInt) (hp : p < sz C) (hq : q < sz C) : ∃ s', p4_weight (ob g 30) (ob g b) (Int32.ofNat p) (Int32.ofNat q) (ib y) (mm g s l r) = some (wtF L C p q y, mm g s' l r) ∧ Fr inW s s' := by
  have hC := hV.1
  have key : ∃ s', p4_weight_J12 (ob g 30) (ob g b) (Int32.ofNat p) (Int32.ofNat q) (Int32.ofNat (17 + yn y)) (mm g s l r) = some (wtF L C p q y, mm g s' l r) ∧ Fr inW s s' := by
    by_cases h0 : 0 < lwC L
    · have hH : lwH L = true := by
        cases hH : lwH L with
        | true => rfl
        | false => have := hV.2.1 hH; omega
      have c1 : (0 : Int32) < s 30 9 := by
        rw [hL.1, if_pos hH]
        exact (i_lt (a := 0) (by omega) (by omega)).mpr h0
      obtain ⟨s1, e1, f1, g1⟩ := ch_facts (g := g) (l := l) (r := r) h hp hq
      have g1' : Fr inW s s1 := g1.mono (fun o ho => Or.inl ho)
      obtain ⟨s2, e2, g2⟩ := wt_run (g := g) (l := l) (r := r) (y := y) hV hr (lwC L) gF 0 s1 (by omega) (gF_gt (by omega)) rfl (h.frW g1') (hL.frW g1') f1
      refine ⟨s2, ?_, g1'.trans g2⟩
      simp only [p4_weight_J133, p4_weight_J127, p4_weight_J77, p4_weight_J34, p4_weight_J12, p4_weight, c_step h, l_I m30, Option.bind_some, c1, if_true, e1]
      exact e2
    · have c0 : lwC L = 0 := by omega
      have c1 : ¬ (0 : Int32) < s 30 9 := by
        rw [hL.1, c0]
        cases lwH L <;> decide
      have c2 : ¬ (0 : Int32) < s 30 9 := c1
      refine ⟨s, ?_, Fr.refl⟩
      simp only [p4_weight_J133, p4_weight_J127, p4_weight_J77, p4_weight_J34, p4_weight_J12, p4_weight, c_step h, l_I m30, Option.bind_some, c1, if_false]
      rw [show gF = (gF - 1) + 1 from rfl]
      simp only [p4_weight_L37, l_I m30, Option.bind_some, c1, if_false, p4_weight_J133, p4_weight_J127, p4_weight_J77, p4_weight_J34, p4_weight_J12, p4_weight, c_left h hr, wtF, c0, calmF, sumF, Bool.false_eq_true]
  rw [p4_weight, l_gd m30]
  cases y with
  | false =>
    simp only [ib_f, if_true]
    exact key
  | true =>
    simp only [ib_t, one_z, if_false]
    exact key
end
