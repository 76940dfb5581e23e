/-! the reference's saying -/
/-- of the world's row: cores alone; cores and the log; what a weight writes over -/
def pC (k : Nat) : Prop := k < 145 ∧ k ≠ 2 ∧ k ≠ 7
def pL (k : Nat) : Prop := k < 445 ∧ k ≠ 2
def Fw (P : Nat → Prop) (s s' : tS) : Prop := (∀ o, o ≠ 288 → o ≠ 295 → s' o = s o) ∧ ∀ k, ¬ P k → s' 288 k = s 288 k
theorem Fw.refl {P : Nat → Prop} {s : tS} : Fw P s s := ⟨fun _ _ _ => rfl, fun _ _ => rfl⟩
theorem Fw.trans {P : Nat → Prop} {a b c : tS} (h : Fw P a b) (k : Fw P b c) : Fw P a c := ⟨fun o h1 h2 => (k.1 o h1 h2).trans (h.1 o h1 h2), fun i hi => (k.2 i hi).trans (h.2 i hi)⟩
theorem Fw.mono {P Q : Nat → Prop} {a b : tS} (h : Fw P a b) (k : ∀ i, P i → Q i) : Fw Q a b := ⟨h.1, fun i hi => h.2 i (fun hp => hi (k i hp))⟩
theorem Fw.of {P : Nat → Prop} {s s' : tS} (h : Fr (fun a => a = 295) s s') : Fw P s s' := ⟨fun o _ h2 => h o h2, fun k _ => by rw [h 288 (by decide)]⟩
theorem Fw.up {P : Nat → Prop} {s : tS} {k : Nat} {v : Int32} (h : P k) : Fw P s (up2 s 288 k v) := ⟨fun o h1 _ => funext fun j => up2_ne (by omega), fun i hi => up2_ne (fun hc => hi (hc.2 ▸ h))⟩
theorem LgM.fm {s s' : tS} {G : Lg} (h : LgM (s 288) G) (hf : Fw pC s s') : LgM (s' 288) G := by
  obtain ⟨h1, h2, h3⟩ := h
  refine ⟨?_, h2, fun k j a c => ?_⟩
  · rw [hf.2 7 (by unfold pC; omega)]
    exact h1
  · rw [hf.2 _ (by unfold pC; omega)]
    exact h3 k j a c
theorem LMs.fm {s s' : tS} {L : Lw} (h : LMs s L) (hV : VL L) (hf : Fw pL s s') : LMs s' L := by
  obtain ⟨h1, h2, h3⟩ := h
  refine ⟨?_, fun hh => ?_, fun i hi => ?_⟩
  · rw [hf.2 2 (by unfold pL; omega)]
    exact h1
  · rw [hf.2 445 (by unfold pL; omega)]
    exact h2 hh
  · obtain ⟨a, b, c, d, e⟩ := h3 i hi
    rw [hf.2 (446 + 4 * i) (by unfold pL; omega), hf.2 (446 + 4 * i + 1) (by unfold pL; omega), hf.2 (446 + 4 * i + 2) (by unfold pL; omega), hf.2 (446 + 4 * i + 3) (by unfold pL; omega)]
    refine ⟨a, b, c, d, fun j x y => ?_⟩
    rw [hf.2 (494 + 2 * j) (by unfold pL; omega), hf.2 (494 + 2 * j + 1) (by unfold pL; omega)]
    exact e j x y
theorem pCL {k : Nat} (h : pC k) : pL k := by
  unfold pC at h
  unfold pL
  omega
/-- bounds of what a word weighs -/
theorem sum_bw {L : Lw} {C : Co} {p q k : Nat} (hV : VL L) (h6 : bw 0 20 (C.1 6)) : ∀ n, n ≤ lwC L → 0 ≤ (sumF L C p q k (C.1 6) n).toInt ∧ (sumF L C p q k (C.1 6) n).toInt ≤ 20 + 60 * n := by
  intro n
  have h12 := hV.1
  induction n with
  | zero => intro _; exact ⟨h6.1, by have := h6.2; simp only [sumF]; omega⟩
  | succ n ih =>
    intro hn
    obtain ⟨i1, i2⟩ := ih (by omega)
    obtain ⟨-, a1, -⟩ := hV.2.2 n (by omega)
    simp only [sumF]
    by_cases e : cntF L C p q k n = true
    · simp only [e, if_true]
      have := a1.1
      have := a1.2
      rw [i_tadd (by omega) (by omega)]
      omega
    · simp only [e]
      simp only [Bool.false_eq_true, if_false]
      omega
theorem wt_bw {L : Lw} {C : Co} {p q : Nat} {y : Bool} (hV : VL L) (hC : VC C) : 0 ≤ (wtF L C p q y).toInt ∧ (wtF L C p q y).toInt < (C.1 4).toInt := by
  have hr := vc_r hC
  unfold wtF
  by_cases e : calmF L C p q (lwC L) = true
  · rw [if_pos e]
    have : (0 : Int32).toInt = 0 := rfl
    omega
  · rw [if_neg e]
    obtain ⟨i1, i2⟩ := sum_bw (p := p) (q := q) (k := yn y) hV hC.2.2.2.1 (lwC L) (Nat.le_refl _)
    rw [rem32_toInt i1 (by omega)]
    exact ⟨Int.emod_nonneg _ (by omega), Int.emod_lt_of_pos _ (by omega)⟩
theorem i_tadd_a {a w : Int32} {R : Int} (hR : R ≤ 99) (ha : 0 ≤ a.toInt ∧ a.toInt < R) (hw : 0 ≤ w.toInt ∧ w.toInt < R) : (a + w).toInt = a.toInt + w.toInt := i_tadd (by omega) (by omega)
theorem i_tsub_a {a w : Int32} {R : Int} (hR : R ≤ 99) (ha : 0 ≤ a.toInt ∧ a.toInt < R) (hw : 0 ≤ w.toInt ∧ w.toInt < R) : (a - w).toInt = a.toInt - w.toInt := i_tsub (by omega) (by omega)
/-- the new AGE lies in the ring, and is what is left of the sum -/
theorem moved_rem {C : Co} {a w : Int32} {y : Bool} (hC : VC C) (ha : 0 ≤ a.toInt ∧ a.toInt < (C.1 4).toInt) (hw : 0 ≤ w.toInt ∧ w.toInt < (C.1 4).toInt) : (0 ≤ (movedF C a w y).toInt ∧ (movedF C a w y).toInt < (C.1 4).toInt) ∧ rem32 ((a + (if y = true then w else -w)) + C.1 4) (C.1 4) = movedF C a w y := by
  have hr := vc_r hC
  have z0 : (0 : Int32).toInt = 0 := rfl
  cases y with
  | true =>
    have e1 := i_tadd_a hr.2 ha hw
    simp only [if_true, movedF]
    have n0 : ¬ a + w < 0 := fun hc => by have := i_ltI.mp hc; omega
    have e2 : (a + w + C.1 4).toInt = a.toInt + w.toInt + (C.1 4).toInt := by rw [i_tadd] <;> omega
    rw [if_neg n0]
    by_cases c : a + w < C.1 4
    · have c' := i_ltI.mp c
      rw [if_pos c]
      refine ⟨by omega, ?_⟩
      apply i_ext
      rw [rem32_toInt (by omega) (by omega), e2, e1, Int.add_emod_right, Int.emod_eq_of_lt (by omega) (by omega)]
    · have c' : ¬ (a + w).toInt < (C.1 4).toInt := fun hc => c (i_ltI.mpr hc)
      have e3 : (a + w - C.1 4).toInt = a.toInt + w.toInt - (C.1 4).toInt := by rw [i_tsub] <;> omega
      rw [if_neg c]
      refine ⟨by omega, ?_⟩
      apply i_ext
      rw [rem32_toInt (by omega) (by omega), e2, e3, Int.add_emod_right]
      have : (a.toInt + w.toInt) % (C.1 4).toInt = (a.toInt + w.toInt - (C.1 4).toInt) % (C.1 4).toInt := by rw [Int.sub_emod_right]
      rw [this, Int.emod_eq_of_lt (by omega) (by omega)]
  | false =>
    have e1 := i_tsub_a hr.2 ha hw
    have e0 : a + -w = a - w := (Int32.sub_eq_add_neg a w).symm
    simp only [Bool.false_eq_true, if_false, movedF, e0]
    have e2 : (a - w + C.1 4).toInt = a.toInt - w.toInt + (C.1 4).toInt := by rw [i_tadd] <;> omega
    by_cases c : a - w < 0
    · have c' := i_ltI.mp c
      rw [if_pos c]
      refine ⟨by omega, ?_⟩
      apply i_ext
      rw [rem32_toInt (by omega) (by omega), Int.emod_eq_of_lt (by omega) (by omega)]
    · have c' : ¬ (a - w).toInt < (0 : Int32).toInt := fun hc => c (i_ltI.mpr hc)
      have c2 : a - w < C.1 4 := i_ltI.mpr (by omega)
      rw [if_neg c, if_pos c2]
      refine ⟨by omega, ?_⟩
      apply i_ext
      rw [rem32_toInt (by omega) (by omega), e2, e1, Int.add_emod_right, Int.emod_eq_of_lt (by omega) (by omega)]
/-- a change that keeps to it -/
theorem VC.setP {C : Co} (h : VC C) {i k : Nat} {v : Int32} (h0 : k = 0 → 0 ≤ v.toInt ∧ v.toInt < (C.1 4).toInt) (h1 : k = 1 → bw (-99) 99 v) (h2 : k = 2 → v = 0 ∨ v = 1) (h3 : k = 3 → v = -1 ∨ ∃ j, j < i ∧ v = Int32.ofNat j) (h4 : k = 4 → v = -1 ∨ ∃ j, j < sz C ∧ v = Int32.ofNat j) (h56 : k = 5 ∨ k = 6 → bw 0 100 v) (h7 : k = 7 → bw 0 9 v) (h8 : k = 8 → ∃ m, m < 2 ^ sz C ∧ v = Int32.ofNat m) (h9 : 9 ≤ k → bw 0 9 v) : VC (stP C i k v) := by
  obtain ⟨a1, a2, a3, a4, a5, a6, a7⟩ := h
  refine ⟨a1, a2, a3, a4, a5, a6, fun i' hi' => ?_⟩
  obtain ⟨b0, b1, b2, b3, b4, b5, b6, b7, b8, b9⟩ := a7 i' hi'
  have key : ∀ (j : Nat) (P : Int32 → Prop), P (C.2 i' j) → (i' = i → k = j → P v) → P (up2 C.2 i k v i' j) := by
    intro j P p1 p2
    by_cases e : i' = i ∧ j = k
    · have := p2 e.1 e.2.symm
      rw [e.1, e.2, up2_eq]
      exact this
    · rw [up2_ne e]
      exact p1
  refine ⟨key 0 (fun x => 0 ≤ x.toInt ∧ x.toInt < (C.1 4).toInt) b0 (fun _ e => h0 e), key 1 (bw (-99) 99) b1 (fun _ e => h1 e), key 2 (fun x => x = 0 ∨ x = 1) b2 (fun _ e => h2 e), key 3 (fun x => x = -1 ∨ ∃ j, j < i' ∧ x = Int32.ofNat j) b3 (fun ei e => by rw [ei]; exact h3 e), key 4 (fun x => x = -1 ∨ ∃ j, j < sz C ∧ x = Int32.ofNat j) b4 (fun _ e => h4 e), key 5 (bw 0 100) b5 (fun _ e => h56 (Or.inl e)), key 6 (bw 0 100) b6 (fun _ e => h56 (Or.inr e)), key 7 (bw 0 9) b7 (fun _ e => h7 e), key 8 (fun x => ∃ m, m < 2 ^ sz C ∧ x = Int32.ofNat m) b8 (fun _ e => h8 e), fun j hj => key (9 + j) (bw 0 9) (b9 j hj) (fun _ e => h9 (by omega))⟩
theorem turn_bw {C : Co} (hC : VC C) {q : Nat} (hq : q < sz C) {y : Bool} {w : Int32} : bw (-99) 99 (turnF C q y w) := by
  obtain ⟨-, -, -, -, -, -, h⟩ := hC
  obtain ⟨-, h1, -⟩ := h q hq
  obtain ⟨t1, t2⟩ := h1
  have z : (99 : Int32).toInt = 99 := rfl
  have z' : (-99 : Int32).toInt = -99 := rfl
  have o1 : (1 : Int32).toInt = 1 := rfl
  unfold turnF
  by_cases ey : y = true
  · rw [if_pos ey]
    by_cases c : C.2 q 0 + w < C.1 4
    · rw [if_pos c]
      exact ⟨t1, t2⟩
    · rw [if_neg c, maxI]
      have e : (C.2 q 1 - 1).toInt = (C.2 q 1).toInt - 1 := by rw [i_tsub] <;> omega
      by_cases c2 : (-99 : Int32) < C.2 q 1 - 1
      · have := i_ltI.mp c2
        rw [if_pos c2]
        constructor <;> omega
      · rw [if_neg c2]
        constructor <;> omega
  · rw [if_neg ey]
    by_cases c : C.2 q 0 - w < 0
    · rw [if_pos c, minI]
      have e : (C.2 q 1 + 1).toInt = (C.2 q 1).toInt + 1 := by rw [i_tadd] <;> omega
      by_cases c2 : C.2 q 1 + 1 < 99
      · have := i_ltI.mp c2
        rw [if_pos c2]
        constructor <;> omega
      · rw [if_neg c2]
        constructor <;> omega
    · rw [if_neg c]
      exact ⟨t1, t2⟩
theorem VC.tell {C : Co} (hC : VC C) {q : Nat} (hq : q < sz C) {y : Bool} {w : Int32} (hw : 0 ≤ w.toInt ∧ w.toInt < (C.1 4).toInt) : VC (tellF C q y w) := by
  have ha := (hC.2.2.2.2.2.2 q hq).1
  have hm := (moved_rem (y := y) hC ha hw).1
  have h1 : VC (stP C q 1 (turnF C q y w)) := hC.setP (by omega) (fun _ => turn_bw hC hq) (by omega) (by omega) (by omega) (by omega) (by omega) (by omega) (by omega)
  exact h1.setP (fun _ => hm) (by omega) (by omega) (by omega) (by omega) (by omega) (by omega) (by omega) (by omega)
section
variable {g : Nat} {s : tS} {l : tL} {r : Nat → Nat} {C : Co} {L : Lw} {G : Lg}
theorem m_grows (hM : Ms s C) (hC : VC C) {q : Nat} (hq : q < sz C) {y : Bool} {w : Int32} (hw : 0 ≤ w.toInt ∧ w.toInt < (C.1 4).toInt) : ∃ s', p12_grows (ob g 287) (Int32.ofNat q) w (ib y) (mm g s l r) = some (mm g s' l r) ∧ Ms s' (tellF C q y w) ∧ Fw pC s s' := by
  have h8 := zc_8 hM.1 hq
  have ha := (hC.2.2.2.2.2.2 q hq).1
  have hr := vc_r hC
  have hm := (moved_rem (y := y) hC ha hw).2
  have pc : ∀ k, k < 17 → pC (9 + 17 * q + k) := fun k hk => by unfold pC; omega
  have last : ∀ (s1 : tS) (t : Int32), Ms s1 (stP C q 1 t) → t = turnF C q y w → Fw pC s s1 → ∃ s', p12_grows_J81 (ob g 287) (Int32.ofNat q) (C.2 q 0 + (if y = true then w else -w)) (mm g s1 l r) = some (mm g s' l r) ∧ Ms s' (tellF C q y w) ∧ Fw pC s s' := by
    intro s1 t a1 a2 a3
    refine ⟨up2 s1 288 (9 + 17 * q + 0) (movedF C (C.2 q 0) w y), ?_, ?_, a3.trans (Fw.up (pc 0 (by decide)))⟩
    · simp only [p12_grows_J81, p12_grows_J47, p12_grows_J16, p12_grows, w_R1, Option.bind_some, w_at0, m_4 a1, P_1, remI_ne (i_nz (show 0 < (C.1 4).toInt by omega)), hm, m_astP h8 (show 0 < 17 by decide)]
    · rw [tellF, ← a2]
      exact a1.setP hq (by decide)
  have z0 : (0 : Int32).toInt = 0 := rfl
  have hs : Ms s (stP C q 1 (C.2 q 1)) := by rw [setP_same]; exact hM
  rw [p12_grows, w_gd]
  simp only [m_of0 hM hq, Option.bind_some]
  cases y with
  | false =>
    have e1 := i_tsub_a hr.2 ha hw
    have e0 : C.2 q 0 + -w = C.2 q 0 - w := (Int32.sub_eq_add_neg _ w).symm
    simp only [ib_f, if_true, p12_grows_J16, e0]
    have c2 : C.2 q 0 - w < C.1 4 := i_ltI.mpr (by omega)
    simp only [Bool.false_eq_true, if_false, e0] at last
    by_cases c : C.2 q 0 - w < 0
    · have hM1 : Ms (up2 s 288 (9 + 17 * q + 1) (minI 99 (C.2 q 1 + 1))) (stP C q 1 (minI 99 (C.2 q 1 + 1))) := hM.setP hq (by decide)
      have ht : minI 99 (C.2 q 1 + 1) = turnF C q false w := by simp only [turnF, c, if_true, Bool.false_eq_true, if_false]
      simp only [c, if_true, w_R1, w_at1, Option.bind_some, m_of1 hM hq, m_astP h8 (show 1 < 17 by decide), p12_grows_J47, m_4 hM1, P_1, c2]
      exact last _ _ hM1 ht (Fw.up (pc 1 (by decide)))
    · simp only [c, if_false, p12_grows_J47, w_R1, Option.bind_some, m_4 hM, c2, if_true]
      exact last _ _ hs (by simp only [turnF, c, if_false, Bool.false_eq_true]) Fw.refl
  | true =>
    have e1 := i_tadd_a hr.2 ha hw
    simp only [ib_t, one_z, if_false, p12_grows_J16]
    have n0 : ¬ C.2 q 0 + w < 0 := fun hc => by have := i_ltI.mp hc; omega
    simp only [if_true] at last
    simp only [n0, if_false, p12_grows_J47, w_R1, Option.bind_some, m_4 hM]
    by_cases c : C.2 q 0 + w < C.1 4
    · simp only [c, if_true]
      exact last _ _ hs (by simp only [turnF, c, if_true]) Fw.refl
    · have hM1 : Ms (up2 s 288 (9 + 17 * q + 1) (maxI (-99) (C.2 q 1 - 1))) (stP C q 1 (maxI (-99) (C.2 q 1 - 1))) := hM.setP hq (by decide)
      simp only [c, if_false, w_at1, Option.bind_some, m_of1 hM hq, m_astP h8 (show 1 < 17 by decide)]
      exact last _ _ hM1 (by simp only [turnF, c, if_true, if_false]) (Fw.up (pc 1 (by decide)))
theorem m_hears (hM : Ms s C) (hL : LMs s L) (hV : VL L) (hC : VC C) {p q : Nat} (hp : p < sz C) (hq : q < sz C) {y : Bool} : ∃ s', p12_hears (ob g 287) (Int32.ofNat p) (Int32.ofNat q) (ib y) (mm g s l r) = some (mm g s' l r) ∧ Ms s' (tellF C q y (wtF L C p q y)) ∧ Fw pC s s' := by
  obtain ⟨s1, e1, f1⟩ := m_wt (g := g) (l := l) (r := r) (y := y) hM hL hV (by have := vc_r hC; omega) hp hq
  obtain ⟨s2, e2, m2, f2⟩ := m_grows (g := g) (l := l) (r := r) (y := y) (hM.f f1) hC hq (wt_bw (p := p) (q := q) (y := y) hV hC)
  refine ⟨s2, ?_, m2, (Fw.of f1).trans f2⟩
  simp only [p12_hears, w_gd, e1, Option.bind_some, e2]
/-- the rows go down by one -/
theorem m_shift {k41 : Nat → Int32 → Int32 → Int32 → mMem → Option mMem} {x q y : Int32} : ∀ (m fuel : Nat) (s : tS), 4 ≤ m → m ≤ 299 → m < fuel → p12_tells_L5 k41 fuel (ob g 287) x q y (Int32.ofNat m) (mm g s l r) = k41 (ob g 287) x q y (mm g (up1 s 288 (fun k => if 150 ≤ k ∧ k ≤ 145 + m then s 288 (k - 5) else s 288 k)) l r) := by
  intro m
  induction m with
  | zero => intro fuel s h1; omega
  | succ m ih =>
    intro fuel s h1 h2 h3
    obtain ⟨n, rfl⟩ : ∃ n, fuel = n + 1 := ⟨fuel - 1, by omega⟩
    by_cases e : m + 1 = 4
    · have c : Int32.ofNat (m + 1) < 5 := (i_lt (b := 5) (by omega) (by decide)).mpr (by omega)
      rw [p12_tells_L5, if_pos c]
      congr 2
      funext o j
      show s o j = (if o = 288 then (fun k => if 150 ≤ k ∧ k ≤ 145 + (m + 1) then s 288 (k - 5) else s 288 k) else s o) j
      by_cases eo : o = 288
      · subst eo
        simp only [if_true]
        rw [if_neg (by omega)]
      · rw [if_neg eo]
    · have c : ¬ Int32.ofNat (m + 1) < 5 := fun hc => by
        have := (i_lt (b := 5) (by omega) (by decide)).mp hc
        omega
      have e1 : (145 : Int32) + Int32.ofNat (m + 1) = Int32.ofNat (145 + (m + 1)) := (Int32.ofNat_add 145 (m + 1)).symm
      have e2 : Int32.ofNat (145 + (m + 1)) - 5 = Int32.ofNat (145 + (m + 1) - 5) := by
        apply i_ext
        rw [i_tsub] <;> rw [i_toInt (by omega)] <;> simp only [i_toInt (show 145 + (m + 1) - 5 < 2147483648 by omega), show (5 : Int32).toInt = 5 from rfl] <;> omega
      rw [p12_tells_L5, if_neg c]
      simp only [w_R1, Option.bind_some, e1, e2, w_ald (show 145 + (m + 1) - 5 < 2143 by omega), w_ast (show 145 + (m + 1) < 2143 by omega), i_addm (show 0 < m + 1 by omega) (by omega), Nat.add_sub_cancel]
      rw [ih n _ (by omega) (by omega) (by omega)]
      congr 2
      funext o j
      show (if o = 288 then (fun k => if 150 ≤ k ∧ k ≤ 145 + m then up2 s 288 (145 + (m + 1)) (s 288 (145 + (m + 1) - 5)) 288 (k - 5) else up2 s 288 (145 + (m + 1)) (s 288 (145 + (m + 1) - 5)) 288 k) else up2 s 288 (145 + (m + 1)) (s 288 (145 + (m + 1) - 5)) o) j = (if o = 288 then (fun k => if 150 ≤ k ∧ k ≤ 145 + (m + 1) then s 288 (k - 5) else s 288 k) else s o) j
      by_cases eo : o = 288
      · subst eo
        simp only [if_true]
        by_cases c1 : 150 ≤ j ∧ j ≤ 145 + m
        · rw [if_pos c1, if_pos (by omega), up2_ne (by omega)]
        · rw [if_neg c1]
          by_cases c2 : j = 145 + (m + 1)
          · subst c2
            rw [up2_eq, if_pos (by omega)]
          · rw [up2_ne (by omega), if_neg (by omega)]
      · rw [if_neg eo, if_neg eo, up2_ne (by omega)]
theorem m_tells (hM : Ms s C) (hg : LgM (s 288) G) {q : Nat} (hq : q < sz C) {x : Int32} {y : Bool} : ∃ s', p12_tells (ob g 287) x (Int32.ofNat q) (ib y) (mm g s l r) = some (mm g s' l r) ∧ Ms s' C ∧ LgM (s' 288) (push G (rowF (C.1 3) x (Int32.ofNat q) y (C.2 q 0))) ∧ Fw pL s s' := by
  obtain ⟨g1, g2, g3⟩ := hg
  have hs := m_shift (g := g) (l := l) (r := r) (k41 := p12_tells_J41) (x := x) (q := Int32.ofNat q) (y := ib y) 299 gF s (by omega) (by omega) (gF_gt (by omega))
  have hs' : p12_tells (ob g 287) x (Int32.ofNat q) (ib y) (mm g s l r) = p12_tells_J41 (ob g 287) x (Int32.ofNat q) (ib y) (mm g (up1 s 288 (fun k => if 150 ≤ k ∧ k ≤ 145 + 299 then s 288 (k - 5) else s 288 k)) l r) := by
    rw [p12_tells, w_gd]
    exact hs
  rw [hs']
  have f0 : Fw pL s (up1 s 288 (fun k => if 150 ≤ k ∧ k ≤ 145 + 299 then s 288 (k - 5) else s 288 k)) := by
    refine ⟨fun o h1 _ => up1_ne h1, fun k hk => ?_⟩
    rw [up1_eq]
    unfold pL at hk
    show (if 150 ≤ k ∧ k ≤ 145 + 299 then s 288 (k - 5) else s 288 k) = s 288 k
    rw [if_neg (by omega)]
  have v0 : ∀ k, (up1 s 288 (fun k => if 150 ≤ k ∧ k ≤ 145 + 299 then s 288 (k - 5) else s 288 k)) 288 k = if 150 ≤ k ∧ k ≤ 145 + 299 then s 288 (k - 5) else s 288 k := fun k => by rw [up1_eq]
  have hM0 : Ms (up1 s 288 (fun k => if 150 ≤ k ∧ k ≤ 145 + 299 then s 288 (k - 5) else s 288 k)) C := by
    have h8 := hM.1.2
    refine ⟨hM.1, fun k a c d => ?_, fun i j a c => ?_⟩
    · rw [v0, if_neg (by omega)]
      exact hM.2.1 k a c d
    · rw [v0, if_neg (by omega)]
      exact hM.2.2 i j a c
  generalize up1 s 288 (fun k => if 150 ≤ k ∧ k ≤ 145 + 299 then s 288 (k - 5) else s 288 k) = s1 at *
  have w145 : ∀ {s : tS} {v : Int32}, astI (mm g s l r) (ob g 288) 145 v = some (mm g (up2 s 288 145 v) l r) := w_ast (k := 145) (by decide)
  have w146 : ∀ {s : tS} {v : Int32}, astI (mm g s l r) (ob g 288) 146 v = some (mm g (up2 s 288 146 v) l r) := w_ast (k := 146) (by decide)
  have w147 : ∀ {s : tS} {v : Int32}, astI (mm g s l r) (ob g 288) 147 v = some (mm g (up2 s 288 147 v) l r) := w_ast (k := 147) (by decide)
  have w148 : ∀ {s : tS} {v : Int32}, astI (mm g s l r) (ob g 288) 148 v = some (mm g (up2 s 288 148 v) l r) := w_ast (k := 148) (by decide)
  have w149 : ∀ {s : tS} {v : Int32}, astI (mm g s l r) (ob g 288) 149 v = some (mm g (up2 s 288 149 v) l r) := w_ast (k := 149) (by decide)
  have w7 : ∀ {s : tS} {v : Int32}, astI (mm g s l r) (ob g 288) 7 v = some (mm g (up2 s 288 7 v) l r) := w_ast (k := 7) (by decide)
  have r7 : ∀ {s : tS}, aldI (mm g s l r) (ob g 288) 20 7 = some (s 288 7) := w_ald (k := 7) (by decide)
  have hM1 := hM0.rest (k := 145) (v := C.1 3) (by omega)
  have hM2 := hM1.rest (k := 146) (v := x) (by omega)
  have hM3 := hM2.rest (k := 147) (v := Int32.ofNat q) (by omega)
  have hM4 := hM3.rest (k := 148) (v := ib y) (by omega)
  have hM5 := hM4.rest (k := 149) (v := C.2 q 0) (by omega)
  have hM6 := hM5.rest (k := 7) (v := Int32.ofNat (min 60 (G.1 + 1))) (by omega)
  have p7 : up2 (up2 (up2 (up2 (up2 s1 288 145 (C.1 3)) 288 146 x) 288 147 (Int32.ofNat q)) 288 148 (ib y)) 288 149 (C.2 q 0) 288 7 = Int32.ofNat G.1 := by
    rw [up2_ne (by omega), up2_ne (by omega), up2_ne (by omega), up2_ne (by omega), up2_ne (by omega), v0, if_neg (by omega)]
    exact g1
  refine ⟨_, ?_, hM6, ?_, ?_⟩
  · simp only [p12_tells_J41, w_R1, Option.bind_some, m_3 hM0, w145, w146, w147]
    have key : p12_tells_J89 (ob g 287) (Int32.ofNat q) (ob g 288) 148 (ib y) (mm g (up2 (up2 (up2 s1 288 145 (C.1 3)) 288 146 x) 288 147 (Int32.ofNat q)) l r) = some (mm g (up2 (up2 (up2 (up2 (up2 (up2 s1 288 145 (C.1 3)) 288 146 x) 288 147 (Int32.ofNat q)) 288 148 (ib y)) 288 149 (C.2 q 0)) 288 7 (Int32.ofNat (min 60 (G.1 + 1)))) l r) := by
      simp only [p12_tells_J89, w148, Option.bind_some, w_R1, m_of0 hM4 hq, w149, r7, p7, min60 g2, w7]
    cases y with
    | false => exact key
    | true => exact key
  · refine ⟨up2_eq, Nat.min_le_left _ _, fun k j hk hj => ?_⟩
    have hk' : k < min 60 (G.1 + 1) := hk
    show _ = (if k = 0 then rowF (C.1 3) x (Int32.ofNat q) y (C.2 q 0) j else G.2 (k - 1) j)
    rw [up2_ne (by omega)]
    by_cases e0 : k = 0
    · subst e0
      rw [if_pos rfl]
      have : j = 0 ∨ j = 1 ∨ j = 2 ∨ j = 3 ∨ j = 4 := by omega
      rcases this with rfl | rfl | rfl | rfl | rfl <;> rfl
    · rw [if_neg e0, up2_ne (by omega), up2_ne (by omega), up2_ne (by omega), up2_ne (by omega), up2_ne (by omega), v0, if_pos (by omega), show 145 + 5 * k + j - 5 = 145 + 5 * (k - 1) + j by omega]
      exact g3 (k - 1) j (by omega) hj
  · refine f0.trans (((((Fw.up ?_).trans (Fw.up ?_)).trans (Fw.up ?_)).trans (Fw.up ?_)).trans ((Fw.up ?_).trans (Fw.up ?_))) <;> unfold pL <;> omega
theorem m_says (hM : Ms s C) (hg : LgM (s 288) G) (hL : LMs s L) (hV : VL L) (hC : VC C) {p q : Nat} (hp : p < sz C) (hq : q < sz C) {y : Bool} : ∃ s', p12_says (ob g 287) (Int32.ofNat p) (Int32.ofNat q) (ib y) (mm g s l r) = some (mm g s' l r) ∧ Ms s' (tellF C q y (wtF L C p q y)) ∧ LgM (s' 288) (push G (rowF (C.1 3) (Int32.ofNat p) (Int32.ofNat q) y (movedF C (C.2 q 0) (wtF L C p q y) y))) ∧ Fw pL s s' := by
  obtain ⟨s1, e1, m1, f1⟩ := m_hears (g := g) (l := l) (r := r) (y := y) hM hL hV hC hp hq
  obtain ⟨s2, e2, m2, g2, f2⟩ := m_tells (g := g) (l := l) (r := r) m1 (hg.fm f1) (q := q) hq (x := Int32.ofNat p) (y := y)
  have ea : (tellF C q y (wtF L C p q y)).2 q 0 = movedF C (C.2 q 0) (wtF L C p q y) y := up2_eq
  rw [ea] at g2
  refine ⟨s2, ?_, m2, g2, (f1.mono (fun i hi => pCL hi)).trans f2⟩
  simp only [p12_says, w_gd, e1, Option.bind_some, e2]
end
