section
variable {g : Nat} {s : tS} {l : tL} {r : Nat → Nat} {C : Co} {G : Lg} {L : Lw}
/-! what a saying would make of one of an AGE -/
def yS (sy : Nat) : Bool := decide (sy % 2 = 1)
def abF (L : Lw) (C : Co) (q : Nat) (a : Int32) (sy : Nat) : Int32 := movedF (stP C q 0 a) a (wtF L (stP C q 0 a) (sy / 2) q (yS sy)) (yS sy)
theorem dm2 {i : Nat} (h : i < 1000) : divI (Int32.ofNat i) 2 = some (Int32.ofNat (i / 2)) ∧ remI (Int32.ofNat i) 2 = some (Int32.ofNat (i % 2)) := by
  have t2 : (2 : Int32).toInt = 2 := rfl
  have ti := i_toInt (k := i) (by omega)
  refine ⟨?_, ?_⟩
  · rw [divI_ne two_nz]
    congr 1
    apply i_ext
    rw [i_tdiv (by omega) (by omega), ti, t2, i_toInt (by omega)]
    omega
  · rw [remI_ne two_nz]
    congr 1
    apply i_ext
    rw [rem32_toInt (by omega) (by omega), ti, t2, i_toInt (by omega)]
    omega
theorem yS_t {sy : Nat} : (Int32.ofNat (sy % 2) = 1) = (yS sy = true) := by
  have : (Int32.ofNat (sy % 2) = 1) = (sy % 2 = 1) := propext (i_eq (b := 1) (by omega) (by omega))
  rw [this, yS, decide_eq_true_eq]
theorem c_behind {q sy : Nat} {a a0 : Int32} (h : Is s 96 (stP C q 0 a0)) (hL : LIs s 30 L) (hV : VL L) (hr : 0 < (C.1 4).toInt) (hq : q < sz C) (hs : sy / 2 < sz C) (hs2 : sy < 1000) : ∃ s', p0_ageBehind (ob g 95) (Int32.ofNat q) a (Int32.ofNat sy) (mm g s l r) = some (abF L C q a sy, mm g s' l r) ∧ Is s' 96 (stP C q 0 a) ∧ LIs s' 30 L ∧ Fr (inF 96) s s' := by
  have hq' : q < sz (stP C q 0 a0) := hq
  have I1 := h.setP (k := 0) (v := a) hq' (by decide)
  rw [setP_two] at I1
  have f1 : Fr (inF 96) s (up2 s (96 + 6 + q) 0 a) := Fr.up (by have := zc_8 h.2.1 hq'; unfold inF; omega)
  have L1 : LIs (up2 s (96 + 6 + q) 0 a) 30 L := hL.frF h.1 f1
  obtain ⟨d1, d2⟩ := dm2 hs2
  obtain ⟨s2, e2, f2⟩ := c_wt (g := g) (l := l) (r := r) (y := yS sy) I1 L1 hV hr hs hq
  have I2 := I1.frW f2
  have em := c_moved (g := g) (l := l) (r := r) (a := a) (w := wtF L (stP C q 0 a) (sy / 2) q (yS sy)) (y := yS sy) I2
  refine ⟨s2, ?_, I2, L1.frW f2, f1.trans (f2.mono (fun o ho => Or.inr ho))⟩
  have key : p0_ageBehind_J12 (ob g 95) (Int32.ofNat q) a (Int32.ofNat sy) (ib (yS sy)) (mm g s l r) = some (abF L C q a sy, mm g s2 l r) := by
    simp only [p0_ageBehind_J12, e_R2, e_R1, obs, c_at h hq', c_P h hq', d1, e2, em]
    rfl
  rw [p0_ageBehind, e_gd, d2, obs]
  simp only [yS_t]
  cases hy : yS sy with
  | false => rw [hy] at key; rw [if_neg (by decide)]; exact key
  | true => rw [hy] at key; rw [if_pos rfl]; exact key
theorem m_from {q sy : Nat} {a : Int32} (h : Ms s C) (hL : LMs s L) (hV : VL L) (hC : VC C) (hq : q < sz C) (hs : sy / 2 < sz C) (hs2 : sy < 1000) (ha : 0 ≤ a.toInt ∧ a.toInt < (C.1 4).toInt) : ∃ s', p12_fromAge (ob g 287) (Int32.ofNat q) a (Int32.ofNat sy) (mm g s l r) = some (abF L C q a sy, mm g s' l r) ∧ Ms s' C ∧ LMs s' L ∧ Fw pC s s' := by
  have h8 := zc_8 h.1 hq
  have pc : ∀ k, k < 17 → pC (9 + 17 * q + k) := fun k hk => by unfold pC; omega
  have M1 := h.setP (k := 0) (v := a) hq (by decide)
  have f1 : Fw pC s (up2 s 288 (9 + 17 * q + 0) a) := Fw.up (pc 0 (by decide))
  have hC1 : VC (stP C q 0 a) := hC.setP (fun _ => ha) (by omega) (by omega) (by omega) (by omega) (by omega) (by omega) (by omega) (by omega)
  obtain ⟨d1, d2⟩ := dm2 hs2
  have L1 := hL.fm hV (f1.mono (fun k hk => pCL hk))
  obtain ⟨s2, e2, M2, f2⟩ := m_hears (g := g) (l := l) (r := r) (p := sy / 2) (q := q) (y := yS sy) M1 L1 hV hC1 hs hq
  have hq2 : q < sz (tellF (stP C q 0 a) q (yS sy) (wtF L (stP C q 0 a) (sy / 2) q (yS sy))) := hq
  have v2 : (tellF (stP C q 0 a) q (yS sy) (wtF L (stP C q 0 a) (sy / 2) q (yS sy))).2 q 0 = abF L C q a sy := by
    have e : (stP C q 0 a).2 q 0 = a := up2_eq
    show up2 _ q 0 (movedF (stP C q 0 a) ((stP C q 0 a).2 q 0) _ _) q 0 = _
    rw [up2_eq, e]
    rfl
  have M3 := M2.setP (i := q) (k := 0) (v := C.2 q 0) hq2 (by decide)
  have hq3 : q < sz (stP (tellF (stP C q 0 a) q (yS sy) (wtF L (stP C q 0 a) (sy / 2) q (yS sy))) q 0 (C.2 q 0)) := hq
  have M4 := M3.setP (i := q) (k := 1) (v := C.2 q 1) hq3 (by decide)
  have eC : stP (stP (tellF (stP C q 0 a) q (yS sy) (wtF L (stP C q 0 a) (sy / 2) q (yS sy))) q 0 (C.2 q 0)) q 1 (C.2 q 1) = C := by
    unfold tellF
    rw [setP_two, setP_comm (i := q) (k := 1) (i' := q) (k' := 0) (by omega), setP_two, setP_two, setP_same, setP_same]
  rw [eC] at M4
  have fall : Fw pC s (up2 (up2 s2 288 (9 + 17 * q + 0) (C.2 q 0)) 288 (9 + 17 * q + 1) (C.2 q 1)) := ((f1.trans f2).trans (Fw.up (pc 0 (by decide)))).trans (Fw.up (pc 1 (by decide)))
  refine ⟨_, ?_, M4, hL.fm hV (fall.mono (fun k hk => pCL hk)), fall⟩
  have key : p12_fromAge_J44 (ob g 287) (Int32.ofNat q) (C.2 q 0) (C.2 q 1) (ob g 287) (Int32.ofNat (sy / 2)) (Int32.ofNat q) (ib (yS sy)) (mm g (up2 s 288 (9 + 17 * q + 0) a) l r) = some (abF L C q a sy, mm g (up2 (up2 s2 288 (9 + 17 * q + 0) (C.2 q 0)) 288 (9 + 17 * q + 1) (C.2 q 1)) l r) := by
    simp only [p12_fromAge_J44, e2, obs, m_of0 M2 hq2, v2, w_R1, w_at0, w_at1, m_astP h8 (show 0 < 17 by decide), m_astP h8 (show 1 < 17 by decide)]
  simp only [p12_fromAge, w_gd, m_of0 h hq, m_of1 h hq, obs, w_R1, w_at0, m_astP h8 (show 0 < 17 by decide), d1, d2, yS_t]
  cases hy : yS sy with
  | false => rw [hy] at key; rw [if_neg (by decide)]; exact key
  | true => rw [hy] at key; rw [if_pos rfl]; exact key
theorem ab_bw {q sy : Nat} {a : Int32} (hV : VL L) (hC : VC C) (hq : q < sz C) (ha : 0 ≤ a.toInt ∧ a.toInt < (C.1 4).toInt) : 0 ≤ (abF L C q a sy).toInt ∧ (abF L C q a sy).toInt < (C.1 4).toInt := by
  have hC1 : VC (stP C q 0 a) := hC.setP (fun _ => ha) (by omega) (by omega) (by omega) (by omega) (by omega) (by omega) (by omega) (by omega)
  exact (moved_rem (y := yS sy) hC1 ha (wt_bw (p := sy / 2) (q := q) (y := yS sy) hV hC1)).1
def abN (L : Lw) (C : Co) (q a sy : Nat) : Nat := (abF L C q (Int32.ofNat a) sy).toInt.toNat
def rnd (C : Co) : Nat := (C.1 4).toInt.toNat
theorem rnd_b (hC : VC C) : 2 ≤ rnd C ∧ rnd C ≤ 99 ∧ C.1 4 = Int32.ofNat (rnd C) := by
  have := vc_r hC
  unfold rnd
  refine ⟨by omega, by omega, ?_⟩
  apply i_ext
  rw [i_toInt (by omega)]
  omega
theorem abN_ok {q sy a : Nat} (hV : VL L) (hC : VC C) (hq : q < sz C) (ha : a < rnd C) : abN L C q a sy < rnd C ∧ abF L C q (Int32.ofNat a) sy = Int32.ofNat (abN L C q a sy) := by
  have hr := vc_r hC
  have hb := rnd_b hC
  have ha' : 0 ≤ (Int32.ofNat a).toInt ∧ (Int32.ofNat a).toInt < (C.1 4).toInt := by
    rw [i_toInt (by omega)]
    unfold rnd at ha
    omega
  have := ab_bw (sy := sy) hV hC hq ha'
  unfold abN
  refine ⟨by unfold rnd; omega, ?_⟩
  apply i_ext
  rw [i_toInt (by omega)]
  omega
theorem age_nat {q : Nat} (hC : VC C) (hq : q < sz C) : ∃ a, a < rnd C ∧ C.2 q 0 = Int32.ofNat a := by
  have ha := (hC.2.2.2.2.2.2 q hq).1
  have hr := vc_r hC
  refine ⟨(C.2 q 0).toInt.toNat, by unfold rnd; omega, ?_⟩
  apply i_ext
  rw [i_toInt (by omega)]
  omega
/-! all AGES that one comes to: how many words (none: not yet), the first word, the row, how many -/
abbrev Bf : Type := (Nat → Option Nat) × (Nat → Int32) × (Nat → Nat) × Nat
def fdF (a st : Nat) (le : Int32) (X : Bf) : Bf := match X.1 a with
  | none => (up1 X.1 a (some st), up1 X.2.1 a le, up1 X.2.2.1 X.2.2.2 a, X.2.2.2 + 1)
  | some d => if d = st then (X.1, up1 X.2.1 a (minI (X.2.1 a) le), X.2.2.1, X.2.2.2) else X
theorem fd_n {a st : Nat} {le : Int32} {X : Bf} (h : X.1 a = none) : fdF a st le X = (up1 X.1 a (some st), up1 X.2.1 a le, up1 X.2.2.1 X.2.2.2 a, X.2.2.2 + 1) := by
  unfold fdF
  rw [h]
theorem fd_e {a st : Nat} {le : Int32} {X : Bf} (h : X.1 a = some st) : fdF a st le X = (X.1, up1 X.2.1 a (minI (X.2.1 a) le), X.2.2.1, X.2.2.2) := by
  unfold fdF
  rw [h]
  exact if_pos rfl
theorem fd_d {a st d : Nat} {le : Int32} {X : Bf} (h : X.1 a = some d) (hn : d ≠ st) : fdF a st le X = X := by
  unfold fdF
  rw [h]
  exact if_neg hn
def hasA (X : Bf) : Bs := fun a => (X.1 a).isSome
/-- what holds of it -/
def bI (R : Nat) (X : Bf) : Prop := X.2.2.2 = cnt (hasA X) 99 0 ∧ (∀ i, i < X.2.2.2 → X.2.2.1 i < R ∧ ∃ d, X.1 (X.2.2.1 i) = some d ∧ d ≤ i ∧ (d = 0 → i = 0)) ∧ (∀ a d, X.1 a = some d → a < R ∧ d < 100) ∧ (∀ a, X.1 a = some 0 → X.2.1 a = -1) ∧ ∀ i j, i ≤ j → j < X.2.2.2 → ∀ d e, X.1 (X.2.2.1 i) = some d → X.1 (X.2.2.1 j) = some e → d ≤ e
/-- it is being taken up -/
def bU (k c e : Nat) (X : Bf) : Prop := k < X.2.2.2 ∧ X.2.2.1 k = c ∧ X.1 c = some e ∧ ∀ i, i < X.2.2.2 → ∀ d, X.1 (X.2.2.1 i) = some d → d ≤ e + 1
theorem cnt_up {f h : Bs} {a : Nat} (hf : f a = false) (hh : h a = true) (ho : ∀ j, j ≠ a → h j = f j) : ∀ k i, i ≤ a → a < i + k → cnt h k i = cnt f k i + 1 := by
  intro k
  induction k with
  | zero => intro i h1 h2; omega
  | succ k ih =>
    intro i h1 h2
    simp only [cnt]
    by_cases e : i = a
    · subst e
      have : cnt h k (i + 1) = cnt f k (i + 1) := cnt_congr k (i + 1) (fun j h3 _ => ho j (by omega))
      rw [hf, hh, this]
      simp only [Bool.false_eq_true, if_false, if_true]
      omega
    · rw [ih (i + 1) (by omega) (by omega), ho i e]
      omega
theorem bI_lt {R : Nat} {X : Bf} (hR : R ≤ 99) (h : bI R X) {a : Nat} (ha : a < R) (hn : X.1 a = none) : X.2.2.2 < 99 := by
  have h1 : hasA X a = false := by
    unfold hasA
    rw [hn]
    rfl
  have := cnt_grow (f := hasA X) (h := fun _ => true) (fun _ _ => rfl) 99 0 a (by omega) (by omega) h1 rfl
  have := cnt_le (f := fun _ => true) 99 0
  have := h.1
  omega
theorem bI_le {R : Nat} {X : Bf} (h : bI R X) : X.2.2.2 ≤ 99 := by
  rw [h.1]
  exact cnt_le 99 0
theorem bI_fd {R k c e a : Nat} {le : Int32} {X : Bf} (hR : R ≤ 99) (h : bI R X) (u : bU k c e X) (ha : a < R) : bI R (fdF a (e + 1) le X) ∧ bU k c e (fdF a (e + 1) le X) := by
  obtain ⟨h1, h2, h3, h4, h5⟩ := h
  obtain ⟨u1, u2, u3, u4⟩ := u
  have he : e ≤ k := by
    obtain ⟨-, d, d1, d2, -⟩ := h2 k u1
    rw [u2, u3] at d1
    have := Option.some.inj d1
    omega
  cases hX : X.1 a with
  | none =>
    have hl := bI_lt hR ⟨h1, h2, h3, h4, h5⟩ ha hX
    have ne : ∀ {b d : Nat}, X.1 b = some d → b ≠ a := fun hb e => by
      subst e
      rw [hX] at hb
      cases hb
    have w_a : up1 X.1 a (some (e + 1)) a = some (e + 1) := up1_eq
    have w_o : ∀ {b : Nat}, b ≠ a → up1 X.1 a (some (e + 1)) b = X.1 b := fun hb => up1_ne hb
    have q_n : up1 X.2.2.1 X.2.2.2 a X.2.2.2 = a := up1_eq
    have q_o : ∀ {i : Nat}, i < X.2.2.2 → up1 X.2.2.1 X.2.2.2 a i = X.2.2.1 i := fun hi => up1_ne (by omega)
    have wq : ∀ {i : Nat}, i < X.2.2.2 → up1 X.1 a (some (e + 1)) (up1 X.2.2.1 X.2.2.2 a i) = X.1 (X.2.2.1 i) := fun hi => by
      obtain ⟨-, d, d1, -, -⟩ := h2 _ hi
      rw [q_o hi, w_o (ne d1)]
    rw [fd_n hX]
    refine ⟨⟨?_, fun i hi => ?_, fun b d hb => ?_, fun b hb => ?_, fun i j hij hj d f hd hf => ?_⟩, ?_, ?_, ?_, fun i hi d hd => ?_⟩
    · show X.2.2.2 + 1 = _
      rw [h1]
      symm
      refine cnt_up (a := a) (by unfold hasA; rw [hX]; rfl) ?_ (fun j hj => ?_) 99 0 (by omega) (by omega)
      · show (up1 X.1 a (some (e + 1)) a).isSome = true
        rw [w_a]
        rfl
      · show (up1 X.1 a (some (e + 1)) j).isSome = _
        rw [w_o hj]
        rfl
    · have hi : i < X.2.2.2 + 1 := hi
      show up1 X.2.2.1 X.2.2.2 a i < R ∧ ∃ d, up1 X.1 a (some (e + 1)) (up1 X.2.2.1 X.2.2.2 a i) = some d ∧ _
      by_cases c : i = X.2.2.2
      · subst c
        rw [q_n, w_a]
        exact ⟨ha, e + 1, rfl, by omega, by omega⟩
      · rw [wq (by omega), q_o (by omega)]
        exact h2 i (by omega)
    · have hb : up1 X.1 a (some (e + 1)) b = some d := hb
      by_cases c : b = a
      · subst c
        rw [w_a] at hb
        have := Option.some.inj hb
        exact ⟨ha, by omega⟩
      · rw [w_o c] at hb
        exact h3 b d hb
    · have hb : up1 X.1 a (some (e + 1)) b = some 0 := hb
      show up1 X.2.1 a le b = -1
      by_cases c : b = a
      · subst c
        rw [w_a] at hb
        have := Option.some.inj hb
        omega
      · rw [w_o c] at hb
        rw [up1_ne c]
        exact h4 b hb
    · have hj : j < X.2.2.2 + 1 := hj
      have hd : up1 X.1 a (some (e + 1)) (up1 X.2.2.1 X.2.2.2 a i) = some d := hd
      have hf : up1 X.1 a (some (e + 1)) (up1 X.2.2.1 X.2.2.2 a j) = some f := hf
      by_cases cj : j = X.2.2.2
      · rw [cj, q_n, w_a] at hf
        have hf := Option.some.inj hf
        by_cases ci : i = X.2.2.2
        · rw [ci, q_n, w_a] at hd
          have hd := Option.some.inj hd
          omega
        · rw [wq (by omega)] at hd
          have := u4 i (by omega) d hd
          omega
      · rw [wq (by omega)] at hf
        rw [wq (by omega)] at hd
        exact h5 i j hij (by omega) d f hd hf
    · show k < X.2.2.2 + 1
      omega
    · show up1 X.2.2.1 X.2.2.2 a k = c
      rw [q_o u1, u2]
    · show up1 X.1 a (some (e + 1)) c = some e
      rw [w_o (ne u3), u3]
    · have hi : i < X.2.2.2 + 1 := hi
      have hd : up1 X.1 a (some (e + 1)) (up1 X.2.2.1 X.2.2.2 a i) = some d := hd
      by_cases ci : i = X.2.2.2
      · rw [ci, q_n, w_a] at hd
        have hd := Option.some.inj hd
        omega
      · rw [wq (by omega)] at hd
        exact u4 i (by omega) d hd
  | some d =>
    by_cases hd : d = e + 1
    · subst hd
      rw [fd_e hX]
      refine ⟨⟨h1, h2, h3, fun b hb => ?_, h5⟩, u1, u2, u3, u4⟩
      show up1 X.2.1 a _ b = -1
      by_cases c : b = a
      · subst c
        have hb : X.1 b = some 0 := hb
        rw [hX] at hb
        have := Option.some.inj hb
        omega
      · rw [up1_ne c]
        exact h4 b hb
    · rw [fd_d hX hd]
      exact ⟨⟨h1, h2, h3, h4, h5⟩, u1, u2, u3, u4⟩
/-- one is taken up: the sayings -/
def csB (C : Co) (q sy : Nat) : Bool := decide (sy / 2 < sz C) && gv C (sy / 2) q
def inF1 (L : Lw) (C : Co) (q k c : Nat) (sy : Nat) (X : Bf) : Bf := if csB C q sy = true then (match X.1 c with | none => X | some e => fdF (abN L C q c sy) (e + 1) (if k = 0 then Int32.ofNat sy else X.2.1 c) X) else X
def ouF (L : Lw) (C : Co) (q k : Nat) (X : Bf) : Bf := itF (inF1 L C q k (X.2.2.1 k)) (2 * sz C) 0 X
theorem in_ok {q k c e sy : Nat} {X : Bf} (hV : VL L) (hC : VC C) (hq : q < sz C) (h : bI (rnd C) X) (u : bU k c e X) : bI (rnd C) (inF1 L C q k c sy X) ∧ bU k c e (inF1 L C q k c sy X) := by
  unfold inF1
  by_cases cs : csB C q sy = true
  · rw [if_pos cs, u.2.2.1]
    have hc : c < rnd C := (h.2.2.1 c e u.2.2.1).1
    exact bI_fd (rnd_b hC).2.1 h u (abN_ok hV hC hq hc).1
  · rw [if_neg cs]
    exact ⟨h, u⟩
theorem bU_next {R k c e : Nat} {X : Bf} (h : bI R X) (u : bU k c e X) (hk : k + 1 < X.2.2.2) : ∃ f, bU (k + 1) (X.2.2.1 (k + 1)) f X ∧ e ≤ f := by
  obtain ⟨h1, h2, h3, h4, h5⟩ := h
  obtain ⟨u1, u2, u3, u4⟩ := u
  obtain ⟨-, f, f1, f2, f3⟩ := h2 (k + 1) hk
  have hle := h5 k (k + 1) (by omega) hk e f (by rw [u2]; exact u3) f1
  refine ⟨f, ⟨hk, rfl, f1, fun i hi d hd => ?_⟩, hle⟩
  have := u4 i hi d hd
  omega
theorem itF_add {σ : Type} {f : Nat → σ → σ} {b : Nat} : ∀ a i x, itF f (a + b) i x = itF f b (i + a) (itF f a i x) := by
  intro a
  induction a with
  | zero => intro i x; rw [Nat.zero_add]; rfl
  | succ a ih =>
    intro i x
    rw [show a + 1 + b = (a + b) + 1 by omega]
    show itF f (a + b) (i + 1) (f i x) = itF f b (i + (a + 1)) (itF f a (i + 1) (f i x))
    rw [ih, show i + 1 + a = i + (a + 1) by omega]
theorem itF_id {σ : Type} {f : Nat → σ → σ} {x : σ} : ∀ k i, (∀ j, i ≤ j → j < i + k → f j x = x) → itF f k i x = x := by
  intro k
  induction k with
  | zero => intro i _; rfl
  | succ k ih =>
    intro i h
    show itF f k (i + 1) (f i x) = x
    rw [h i (by omega) (by omega)]
    exact ih (i + 1) (fun j h1 h2 => h j (by omega) (by omega))
theorem in_16 {q k : Nat} {X : Bf} (h8 : sz C ≤ 8) : itF (inF1 L C q k (X.2.2.1 k)) 16 0 X = ouF L C q k X := by
  have e : 16 = 2 * sz C + (16 - 2 * sz C) := by omega
  rw [e, itF_add]
  refine itF_id _ _ (fun j h1 h2 => ?_)
  have : csB C q j = false := by
    unfold csB
    rw [decide_eq_false (show ¬ j / 2 < sz C by omega)]
    rfl
  unfold inF1
  rw [this]
  rfl
theorem ou_ok {q k c e : Nat} {X : Bf} (hV : VL L) (hC : VC C) (hq : q < sz C) (h : bI (rnd C) X) (u : bU k c e X) : bI (rnd C) (ouF L C q k X) ∧ bU k c e (ouF L C q k X) := by
  unfold ouF
  rw [u.2.1]
  exact itF_keep (f := inF1 L C q k c) (P := fun X => bI (rnd C) X ∧ bU k c e X) (N := 2 * sz C) (fun i x _ hx => in_ok hV hC hq hx.1 hx.2) (2 * sz C) 0 X (by omega) ⟨h, u⟩
def bK (R k : Nat) (X : Bf) : Prop := bI R X ∧ (k < X.2.2.2 → ∃ e, bU k (X.2.2.1 k) e X)
def e0X : Bf := (fun _ => none, fun _ => 0, fun _ => 0, 0)
theorem bK_0 {R a : Nat} (ha : a < R) (hR : R ≤ 99) : bK R 0 (fdF a 0 (-1) e0X) := by
  have e : fdF a 0 (-1) e0X = (up1 e0X.1 a (some 0), up1 e0X.2.1 a (-1), up1 e0X.2.2.1 0 a, 1) := fd_n rfl
  have w : ∀ b d, up1 e0X.1 a (some 0) b = some d → b = a ∧ d = 0 := by
    intro b d h
    by_cases c : b = a
    · subst c
      rw [up1_eq] at h
      exact ⟨rfl, (Option.some.inj h).symm⟩
    · rw [up1_ne c] at h
      cases h
  have q0 : up1 e0X.2.2.1 0 a 0 = a := up1_eq
  have wa : up1 e0X.1 a (some 0) a = some 0 := up1_eq
  rw [e]
  refine ⟨⟨?_, fun i hi => ?_, fun b d hb => ?_, fun b hb => ?_, fun i j hij hj d f hd hf => ?_⟩, fun _ => ⟨0, ?_, rfl, ?_, fun i hi d hd => ?_⟩⟩
  · show 1 = _
    have := cnt_up (f := fun _ => false) (h := hasA (up1 e0X.1 a (some 0), up1 e0X.2.1 a (-1), up1 e0X.2.2.1 0 a, 1)) (a := a) rfl (by show (up1 e0X.1 a (some 0) a).isSome = true; rw [wa]; rfl) (fun j hj => by show (up1 e0X.1 a (some 0) j).isSome = false; rw [up1_ne hj]; rfl) 99 0 (by omega) (by omega)
    rw [this]
    have z : cnt (fun _ => false) 99 0 = 0 := by decide
    omega
  · have hi : i < 1 := hi
    have : i = 0 := by omega
    subst this
    show up1 e0X.2.2.1 0 a 0 < R ∧ ∃ d, up1 e0X.1 a (some 0) (up1 e0X.2.2.1 0 a 0) = some d ∧ _
    rw [q0, wa]
    exact ⟨ha, 0, rfl, Nat.le_refl _, fun _ => rfl⟩
  · obtain ⟨rfl, rfl⟩ := w b d hb
    exact ⟨ha, by decide⟩
  · obtain ⟨rfl, -⟩ := w b 0 hb
    exact up1_eq
  · obtain ⟨-, rfl⟩ := w _ d hd
    exact Nat.zero_le _
  · show 0 < 1
    decide
  · show up1 e0X.1 a (some 0) (up1 e0X.2.2.1 0 a 0) = some 0
    rw [q0, wa]
  · obtain ⟨-, rfl⟩ := w _ d hd
    exact Nat.zero_le _
theorem bK_next {q k e : Nat} {X : Bf} (hV : VL L) (hC : VC C) (hq : q < sz C) (h : bI (rnd C) X) (u : bU k (X.2.2.1 k) e X) : bK (rnd C) (k + 1) (ouF L C q k X) ∧ ∀ f, bU (k + 1) ((ouF L C q k X).2.2.1 (k + 1)) f (ouF L C q k X) → e ≤ f := by
  obtain ⟨h1, h2⟩ := ou_ok hV hC hq h u
  refine ⟨⟨h1, fun hk => ?_⟩, fun f hf => ?_⟩
  · obtain ⟨f, f1, -⟩ := bU_next h1 h2 hk
    exact ⟨f, f1⟩
  · obtain ⟨f', f1, f2⟩ := bU_next h1 h2 hf.1
    have := f1.2.2.1
    rw [hf.2.2.1] at this
    have := Option.some.inj this
    omega
def lpO (L : Lw) (C : Co) (q : Nat) (k : Nat) (X : Bf) : Bf ⊕ Bf := if k < X.2.2.2 then .inl (ouF L C q k X) else .inr X
def lpM (L : Lw) (C : Co) (q m : Nat) (k : Nat) (X : Bf) : Bf ⊕ Bf := if k < X.2.2.2 ∧ (X.1 (X.2.2.1 k)).getD 0 < m then .inl (ouF L C q k X) else .inr X
theorem lp_same {q m : Nat} (hV : VL L) (hC : VC C) (hq : q < sz C) (hm : 100 ≤ m) : ∀ n k X, bK (rnd C) k X → lpx (lpM L C q m) id n k X = lpx (lpO L C q) id n k X := by
  intro n
  induction n with
  | zero => intro k X _; rfl
  | succ n ih =>
    intro k X h
    by_cases c : k < X.2.2.2
    · obtain ⟨e, u⟩ := h.2 c
      have h1 : (X.1 (X.2.2.1 k)).getD 0 < m := by
        rw [u.2.2.1]
        have := (h.1.2.2.1 _ _ u.2.2.1).2
        show e < m
        omega
      rw [lpx_l (a' := ouF L C q k X) (if_pos ⟨c, h1⟩), lpx_l (a' := ouF L C q k X) (if_pos c)]
      exact ih (k + 1) _ (bK_next hV hC hq h.1 u).1
    · rw [lpx_r (b := X) (if_neg (fun h => c h.1)), lpx_r (b := X) (if_neg c)]
def leM (m : Nat) (X : Bf) : Bs := fun a => match X.1 a with | none => false | some d => decide (d ≤ m)
theorem leM_fd {a st m : Nat} {le : Int32} {X : Bf} (h : m < st) : leM m (fdF a st le X) = leM m X := by
  funext b
  unfold leM
  cases hX : X.1 a with
  | none =>
    rw [fd_n hX]
    show (match up1 X.1 a (some st) b with | none => false | some d => decide (d ≤ m)) = _
    by_cases c : b = a
    · subst c
      rw [up1_eq, hX]
      exact decide_eq_false (by omega)
    · rw [up1_ne c]
  | some d =>
    by_cases e : d = st
    · subst e
      rw [fd_e hX]
    · rw [fd_d hX e]
theorem leM_ou {q k e m : Nat} {X : Bf} (hV : VL L) (hC : VC C) (hq : q < sz C) (h : bI (rnd C) X) (u : bU k (X.2.2.1 k) e X) (hm : m ≤ e) : leM m (ouF L C q k X) = leM m X := by
  unfold ouF
  refine (itF_keep (f := inF1 L C q k (X.2.2.1 k)) (P := fun Y => leM m Y = leM m X ∧ bI (rnd C) Y ∧ bU k (X.2.2.1 k) e Y) (N := 2 * sz C) (fun i x _ hx => ?_) (2 * sz C) 0 X (by omega) ⟨rfl, h, u⟩).1
  obtain ⟨x1, x2, x3⟩ := hx
  refine ⟨?_, in_ok hV hC hq x2 x3⟩
  rw [← x1]
  unfold inF1
  by_cases cs : csB C q i = true
  · rw [if_pos cs, x3.2.2.1]
    exact leM_fd (by omega)
  · rw [if_neg cs]
theorem lp_more {q m : Nat} (hV : VL L) (hC : VC C) (hq : q < sz C) : ∀ n k X, bK (rnd C) k X → (∀ e, bU k (X.2.2.1 k) e X → m ≤ e) → leM m (lpx (lpO L C q) id n k X) = leM m X := by
  intro n
  induction n with
  | zero => intro k X _ _; rfl
  | succ n ih =>
    intro k X h hm
    by_cases c : k < X.2.2.2
    · obtain ⟨e, u⟩ := h.2 c
      obtain ⟨n1, n2⟩ := bK_next hV hC hq h.1 u
      rw [lpx_l (a' := ouF L C q k X) (if_pos c), ih (k + 1) _ n1 (fun f hf => by have := n2 f hf; have := hm e u; omega)]
      exact leM_ou hV hC hq h.1 u (hm e u)
    · rw [lpx_r (b := X) (if_neg c)]
def allM (m : Nat) (X : Bf) : Prop := ∀ a d, X.1 a = some d → d ≤ m
theorem allM_fd {a st m : Nat} {le : Int32} {X : Bf} (h : allM m X) (hs : st ≤ m) : allM m (fdF a st le X) := by
  intro b d hb
  cases hX : X.1 a with
  | none =>
    rw [fd_n hX] at hb
    have hb : up1 X.1 a (some st) b = some d := hb
    by_cases c : b = a
    · subst c
      rw [up1_eq] at hb
      have := Option.some.inj hb
      omega
    · rw [up1_ne c] at hb
      exact h b d hb
  | some d' =>
    by_cases e : d' = st
    · subst e
      rw [fd_e hX] at hb
      exact h b d hb
    · rw [fd_d hX e] at hb
      exact h b d hb
theorem allM_ou {q k e m : Nat} {X : Bf} (hV : VL L) (hC : VC C) (hq : q < sz C) (h : bI (rnd C) X) (u : bU k (X.2.2.1 k) e X) (ha : allM m X) (hm : e < m) : allM m (ouF L C q k X) := by
  unfold ouF
  refine (itF_keep (f := inF1 L C q k (X.2.2.1 k)) (P := fun Y => allM m Y ∧ bI (rnd C) Y ∧ bU k (X.2.2.1 k) e Y) (N := 2 * sz C) (fun i x _ hx => ?_) (2 * sz C) 0 X (by omega) ⟨ha, h, u⟩).1
  obtain ⟨x1, x2, x3⟩ := hx
  refine ⟨?_, in_ok hV hC hq x2 x3⟩
  unfold inF1
  by_cases cs : csB C q i = true
  · rw [if_pos cs, x3.2.2.1]
    exact allM_fd x1 (by omega)
  · rw [if_neg cs]
    exact x1
theorem all_le {m : Nat} {X : Bf} (h : allM m X) : leM m X = hasA X := by
  funext a
  unfold leM hasA
  cases hX : X.1 a with
  | none => rfl
  | some d => exact decide_eq_true (h a d hX)
theorem lp_can {q m : Nat} (hV : VL L) (hC : VC C) (hq : q < sz C) : ∀ n k X, bK (rnd C) k X → allM m X → (lpx (lpM L C q m) id n k X).2.2.2 = cnt (leM m (lpx (lpO L C q) id n k X)) 99 0 := by
  intro n
  induction n with
  | zero =>
    intro k X h ha
    show X.2.2.2 = cnt (leM m X) 99 0
    rw [all_le ha]
    exact h.1.1
  | succ n ih =>
    intro k X h ha
    by_cases c : k < X.2.2.2
    · obtain ⟨e, u⟩ := h.2 c
      have eg : (X.1 (X.2.2.1 k)).getD 0 = e := by rw [u.2.2.1]; rfl
      by_cases hm : e < m
      · rw [lpx_l (a' := ouF L C q k X) (if_pos ⟨c, by rw [eg]; exact hm⟩), lpx_l (a' := ouF L C q k X) (if_pos c)]
        exact ih (k + 1) _ (bK_next hV hC hq h.1 u).1 (allM_ou hV hC hq h.1 u ha hm)
      · rw [lpx_r (b := X) (if_neg (fun hh => hm (by rw [← eg]; exact hh.2))), lp_more hV hC hq (n + 1) k X h (fun f hf => by have := hf.2.2.1; rw [u.2.2.1] at this; have := Option.some.inj this; omega), all_le ha]
        exact h.1.1
    · rw [lpx_r (b := X) (if_neg (fun h => c h.1)), lpx_r (b := X) (if_neg c), all_le ha]
      exact h.1.1
/-! the class's cells -/
theorem k110 : lK 110 = 20 := by decide +kernel
theorem k111 : lK 111 = 20 := by decide +kernel
theorem k112 : lK 112 = 20 := by decide +kernel
theorem k113 : lK 113 = 20 := by decide +kernel
theorem n110 : lNn 110 = 99 := by decide +kernel
theorem n111 : lNn 111 = 99 := by decide +kernel
theorem n112 : lNn 112 = 99 := by decide +kernel
theorem n113 : lNn 113 = 99 := by decide +kernel
theorem e_I {k : Nat} : getI (mm g s l r) (ob g 95) 1 k = some (s 95 k) := mm_getI k95
theorem e_P {k : Nat} {v : Int32} : putI (mm g s l r) (ob g 95) 1 k v = some (mm g (up2 s 95 k v) l r) := mm_putI k95
theorem b0_ld {k : Nat} (hk : k < 99) : aldI (mm g s l r) (ob g 110) 20 (Int32.ofNat k) = some (s 110 k) := mm_aldI k110 n110 hk (by decide)
theorem b1_ld {k : Nat} (hk : k < 99) : aldI (mm g s l r) (ob g 111) 20 (Int32.ofNat k) = some (s 111 k) := mm_aldI k111 n111 hk (by decide)
theorem b2_ld {k : Nat} (hk : k < 99) : aldI (mm g s l r) (ob g 112) 20 (Int32.ofNat k) = some (s 112 k) := mm_aldI k112 n112 hk (by decide)
theorem b0_st {k : Nat} {v : Int32} (hk : k < 99) : astI (mm g s l r) (ob g 110) (Int32.ofNat k) v = some (mm g (up2 s 110 k v) l r) := mm_astI k110 n110 hk (by decide)
theorem b1_st {k : Nat} {v : Int32} (hk : k < 99) : astI (mm g s l r) (ob g 111) (Int32.ofNat k) v = some (mm g (up2 s 111 k v) l r) := mm_astI k111 n111 hk (by decide)
theorem b2_st {k : Nat} {v : Int32} (hk : k < 99) : astI (mm g s l r) (ob g 112) (Int32.ofNat k) v = some (mm g (up2 s 112 k v) l r) := mm_astI k112 n112 hk (by decide)
theorem b0_len : lenA (mm g s l r) (ob g 110) = some 99 := by rw [mm_lenA (by rw [k110]; decide), n110]; rfl
theorem b2_len : lenA (mm g s l r) (ob g 112) = some 99 := by rw [mm_lenA (by rw [k112]; decide), n112]; rfl
theorem lt99 {k : Nat} (h : k < 99) : (Int32.ofNat k < 99) = True := eq_true ((i_lt (b := 99) (by omega) (by decide)).mpr h)
theorem ge0 {k : Nat} (h : k < 2147483648) : (Int32.ofNat k < 0) = False := eq_false (i_nlt0 h)
theorem pl_y {a : Nat} (h : a < 99) : p0_isPlace (Int32.ofNat a) (mm g s l r) = some 1 := by
  simp only [p0_isPlace, ge0 (show a < 2147483648 by omega), if_false, lt99 h, if_true, p0_isPlace_J15, bZ_1, obs]
def cB (s : tS) (X : Bf) : Prop := (∀ a, a < 99 → s 110 a = encB (X.1 a)) ∧ (∀ a, a < 99 → X.1 a ≠ none → s 111 a = X.2.1 a) ∧ (∀ i, i < X.2.2.2 → s 112 i = Int32.ofNat (X.2.2.1 i)) ∧ s 95 7 = Int32.ofNat X.2.2.2
def fQ (o : Nat) : Prop := o = 95 ∨ (110 ≤ o ∧ o ≤ 113)
theorem cB.fr {s' : tS} {X : Bf} {P : Nat → Prop} (h : cB s X) (f : Fr P s s') (h0 : ¬ P 95) (h1 : ¬ P 110) (h2 : ¬ P 111) (h3 : ¬ P 112) : cB s' X := by
  obtain ⟨a1, a2, a3, a4⟩ := h
  exact ⟨fun a ha => by rw [f 110 h1]; exact a1 a ha, fun a ha hn => by rw [f 111 h2]; exact a2 a ha hn, fun i hi => by rw [f 112 h3]; exact a3 i hi, by rw [f 95 h0]; exact a4⟩
theorem c_reach {a st : Nat} {le : Int32} {X : Bf} (h : cB s X) (ha : a < 99) (hst : st < 1000) (hn : X.1 a = none → X.2.2.2 < 99) (hd : ∀ d, X.1 a = some d → d < 1000) : ∃ s', p0_reach (ob g 95) (Int32.ofNat a) (Int32.ofNat st) le (mm g s l r) = some (mm g s' l r) ∧ cB s' (fdF a st le X) ∧ Fr fQ s s' := by
  obtain ⟨a1, a2, a3, a4⟩ := h
  cases hX : X.1 a with
  | none =>
    have hl := hn hX
    rw [fd_n hX]
    have v1 : s 110 a = -1 := by rw [a1 a ha, hX]; rfl
    have v2 : ∀ {x y : Int32}, up2 (up2 s 110 a x) 111 a y 95 7 = Int32.ofNat X.2.2.2 := fun {x y} => by rw [up2_ne (by omega), up2_ne (by omega), a4]
    have v3 : ∀ {x y z : Int32}, up2 (up2 (up2 s 110 a x) 111 a y) 112 X.2.2.2 z 95 7 = Int32.ofNat X.2.2.2 := fun {x y z} => by rw [up2_ne (by omega), up2_ne (by omega), up2_ne (by omega), a4]
    refine ⟨up2 (up2 (up2 (up2 s 110 a (Int32.ofNat st)) 111 a le) 112 X.2.2.2 (Int32.ofNat a)) 95 7 (Int32.ofNat (X.2.2.2 + 1)), ?_, ⟨fun b hb => ?_, fun b hb hb' => ?_, fun i hi => ?_, up2_eq⟩, ((Fr.up (by unfold fQ; omega)).trans (Fr.up (by unfold fQ; omega))).trans ((Fr.up (by unfold fQ; omega)).trans (Fr.up (by unfold fQ; omega)))⟩
    · simp only [p0_reach, e_gd, pl_y ha, obs, one_z, if_false, e_R3, e_R4, e_R5, b0_ld ha, v1, if_true, e_I, a4, ge0 (show X.2.2.2 < 2147483648 by omega), b2_len, lt99 hl, b0_st ha, b1_st ha, v2, b2_st hl, v3, i_succ, e_P, p0_reach_J100]
    · show up2 _ 95 7 _ 110 b = encB (up1 X.1 a (some st) b)
      rw [up2_ne (by omega), up2_ne (by omega), up2_ne (by omega)]
      by_cases c : b = a
      · subst c
        rw [up2_eq, up1_eq]
        rfl
      · rw [up2_ne (by omega), up1_ne c]
        exact a1 b hb
    · show up2 _ 95 7 _ 111 b = up1 X.2.1 a le b
      have hb' : up1 X.1 a (some st) b ≠ none := hb'
      rw [up2_ne (by omega), up2_ne (by omega)]
      by_cases c : b = a
      · subst c
        rw [up2_eq, up1_eq]
      · rw [up2_ne (by omega), up2_ne (by omega), up1_ne c]
        rw [up1_ne c] at hb'
        exact a2 b hb hb'
    · have hi : i < X.2.2.2 + 1 := hi
      show up2 _ 95 7 _ 112 i = Int32.ofNat (up1 X.2.2.1 X.2.2.2 a i)
      rw [up2_ne (by omega)]
      by_cases c : i = X.2.2.2
      · subst c
        rw [up2_eq, up1_eq]
      · rw [up2_ne (by omega), up2_ne (by omega), up2_ne (by omega), up1_ne c]
        exact a3 i (by omega)
  | some d =>
    have hd' := hd d hX
    have v1 : s 110 a = Int32.ofNat d := by rw [a1 a ha, hX]; rfl
    have n1 : (Int32.ofNat d = -1) = False := nmN (by omega)
    have e1 : (Int32.ofNat d = Int32.ofNat st) = (d = st) := propext (i_eq (by omega) (by omega))
    have v2 : s 111 a = X.2.1 a := a2 a ha (by rw [hX]; exact Option.some_ne_none d)
    by_cases e : d = st
    · subst e
      rw [fd_e hX]
      refine ⟨up2 s 111 a (minI (X.2.1 a) le), ?_, ⟨fun b hb => ?_, fun b hb hb' => ?_, fun i hi => ?_, ?_⟩, Fr.up (by unfold fQ; omega)⟩
      · simp only [p0_reach, e_gd, pl_y ha, obs, one_z, if_false, e_R3, e_R4, b0_ld ha, v1, n1, p0_reach_J74, if_true, b1_ld ha, v2, b1_st ha, p0_reach_J100]
      · rw [up2_ne (by omega)]
        exact a1 b hb
      · show up2 s 111 a _ 111 b = up1 X.2.1 a (minI (X.2.1 a) le) b
        by_cases c : b = a
        · subst c
          rw [up2_eq, up1_eq]
        · rw [up2_ne (by omega), up1_ne c]
          exact a2 b hb hb'
      · rw [up2_ne (by omega)]
        exact a3 i hi
      · rw [up2_ne (by omega)]
        exact a4
    · rw [fd_d hX e]
      refine ⟨s, ?_, ⟨a1, a2, a3, a4⟩, Fr.refl⟩
      simp only [p0_reach, e_gd, pl_y ha, obs, one_z, if_false, e_R3, b0_ld ha, v1, n1, p0_reach_J74, e1, e, p0_reach_J100]
theorem c_gov0 {i j b : Nat} (h : Is s b C) (hi : sz C ≤ i) (hi2 : i < 1000) : p2_governs (ob g b) (Int32.ofNat i) (Int32.ofNat j) (mm g s l r) = some 0 := by
  have e : inR C (Int32.ofNat i) = false := decide_eq_false (fun hc => by
    have := (zc_lt h.2.1 (by omega)).mp hc.2
    omega)
  simp only [p2_governs, c_gd h, c_has h, e, ib_f, obs, if_true, p2_governs_J29, p2_governs_J28, p2_governs, bZ_0]
theorem c_can {q sy : Nat} (h : Is s 2 C) (hq : q < sz C) (hs : sy < 1000) : p0_canBeSaid (ob g 95) (Int32.ofNat sy) (Int32.ofNat q) (mm g s l r) = some (ib (csB C q sy)) := by
  unfold csB
  by_cases c : sy / 2 < sz C
  · simp only [p0_canBeSaid, e_gd, e_R0, obs, (dm2 hs).1, c_gov h c hq, bZ_ib, decide_eq_true c, Bool.true_and]
  · simp only [p0_canBeSaid, e_gd, e_R0, obs, (dm2 hs).1, c_gov0 h (show sz C ≤ sy / 2 by omega) (by omega), bZ_0, decide_eq_false c, Bool.false_and, ib_f]
def fPo (o : Nat) : Prop := inF 96 o ∨ fQ o
def CBs (L : Lw) (C : Co) (q : Nat) (s0 s : tS) (X : Bf) : Prop := (∃ a0, Is s 96 (stP C q 0 a0)) ∧ Is s 2 C ∧ LIs s 30 L ∧ cB s X ∧ Fr fPo s0 s
theorem lt16 {i : Nat} (h : i < 16) : (Int32.ofNat i < 16) = True := eq_true ((i_lt (b := 16) (by omega) (by decide)).mpr h)
theorem lt16_n : ((Int32.ofNat 16 : Int32) < 16) = False := eq_false (by decide)
theorem c_inner {q k c e n : Nat} {s0 : tS} {X : Bf} (hV : VL L) (hC : VC C) (hq : q < sz C) (h : CBs L C q s0 s X) (hb : bI (rnd C) X) (hu : bU k c e X) : ∃ s', p0_reachFrom_L70 (p0_reachFrom_J135 (p0_reachFrom_L43 n)) gF (ob g 95) (Int32.ofNat q) (Int32.ofNat k) (Int32.ofNat c) 0 (mm g s l r) = p0_reachFrom_L43 n (ob g 95) (Int32.ofNat q) (Int32.ofNat (k + 1)) (mm g s' l r) ∧ CBs L C q s0 s' (itF (inF1 L C q k c) 16 0 X) := by
  have hR := rnd_b hC
  refine it_sf (L := fun m (a : tS) i => p0_reachFrom_L70 (p0_reachFrom_J135 (p0_reachFrom_L43 n)) m (ob g 95) (Int32.ofNat q) (Int32.ofNat k) (Int32.ofNat c) i (mm g a l r)) (R := fun _ a x => CBs L C q s0 a x ∧ bI (rnd C) x ∧ bU k c e x) (f := inF1 L C q k c) (Q := fun B x => ∃ s', B = p0_reachFrom_L43 n (ob g 95) (Int32.ofNat q) (Int32.ofNat (k + 1)) (mm g s' l r) ∧ CBs L C q s0 s' x) (N := 16) (fun m i a x hi hR => ?_) (fun m a x hR => ?_) 16 gF 0 s X (by omega) (gF_gt (by omega)) ⟨h, hb, hu⟩
  · obtain ⟨⟨⟨a0, h96⟩, h2, h30, hcb, hf⟩, hbx, hux⟩ := hR
    have hc := (hbx.2.2.1 c e hux.2.2.1).1
    have hR1 := rnd_b hC
    have hc99 : c < 99 := by omega
    have ecan := c_can (g := g) (l := l) (r := r) h2 hq (show i < 1000 by omega)
    rcases Bool.eq_false_or_eq_true (csB C q i) with cs | cs
    · have hs : i / 2 < sz C := by
        unfold csB at cs
        rw [Bool.and_eq_true] at cs
        exact of_decide_eq_true cs.1
      obtain ⟨s1, e1, h96', h30', f1⟩ := c_behind (g := g) (l := l) (r := r) (a := Int32.ofNat c) h96 h30 hV (by have := vc_r hC; omega) hq hs (show i < 1000 by omega)
      obtain ⟨n1, n2⟩ := abN_ok (sy := i) hV hC hq hc
      rw [n2] at e1
      have cb1 := hcb.fr f1 (by unfold inF; omega) (by unfold inF; omega) (by unfold inF; omega) (by unfold inF; omega)
      have h21 : Is s1 2 C := h2.fr f1 (fun o ho => by unfold inF at ho; omega)
      have v0 : s1 110 c = Int32.ofNat e := by rw [cb1.1 c hc99, hux.2.2.1]; rfl
      have v1 : s1 111 c = x.2.1 c := cb1.2.1 c hc99 (by rw [hux.2.2.1]; exact Option.some_ne_none e)
      have he := (hbx.2.2.1 c e hux.2.2.1).2
      have hR' := rnd_b hC
      obtain ⟨s2, e2, cb2, f2⟩ := c_reach (g := g) (l := l) (r := r) (a := abN L C q c i) (st := e + 1) (le := if k = 0 then Int32.ofNat i else x.2.1 c) cb1 (by omega) (by omega) (fun hn => bI_lt hR'.2.1 hbx n1 hn) (fun d hd => by have := (hbx.2.2.1 _ d hd).2; omega)
      have ein : inF1 L C q k c i x = fdF (abN L C q c i) (e + 1) (if k = 0 then Int32.ofNat i else x.2.1 c) x := by
        unfold inF1
        rw [if_pos cs, hux.2.2.1]
      have kk : (Int32.ofNat k = 0) = (k = 0) := propext (i_eq (b := 0) (by have := hux.1; have := bI_le hbx; omega) (by omega))
      refine ⟨s2, ⟨⟨⟨_, h96'.fr f2 (fun o ho => by unfold fQ at ho; omega)⟩, h21.fr f2 (fun o ho => by unfold fQ at ho; omega), h30'.fr f2 (fun o ho => by unfold fQ at ho; omega), by rw [ein]; exact cb2, (hf.trans (f1.mono (fun o ho => Or.inl ho))).trans (f2.mono (fun o ho => Or.inr ho))⟩, in_ok hV hC hq hbx hux⟩, ?_⟩
      by_cases k0 : k = 0
      · rw [if_pos k0] at e2
        have kt : (Int32.ofNat k = 0) = True := by rw [kk]; exact eq_true k0
        simp only [p0_reachFrom_L70, lt16 hi, if_true, pl_y hc99, obs, one_z, if_false, ecan, cs, ib_t, e1, e_R3, b0_ld hc99, v0, i_succ, kt, p0_reachFrom_J126, p0_reachFrom_J129, e2]
      · rw [if_neg k0] at e2
        simp only [p0_reachFrom_L70, lt16 hi, if_true, pl_y hc99, obs, one_z, if_false, ecan, cs, ib_t, e1, e_R3, e_R4, b0_ld hc99, b1_ld hc99, v0, v1, i_succ, kk, k0, p0_reachFrom_J126, p0_reachFrom_J129, e2]
    · have ein : inF1 L C q k c i x = x := by
        unfold inF1
        rw [cs]
        rfl
      refine ⟨a, ⟨⟨⟨a0, h96⟩, h2, h30, by rw [ein]; exact hcb, hf⟩, by rw [ein]; exact hbx, by rw [ein]; exact hux⟩, ?_⟩
      simp only [p0_reachFrom_L70, lt16 hi, if_true, pl_y hc99, obs, one_z, if_false, ecan, cs, ib_f, p0_reachFrom_J129, i_succ]
  · obtain ⟨hx, -⟩ := hR
    refine ⟨a, ?_, hx⟩
    simp only [p0_reachFrom_L70, lt16_n, if_false, p0_reachFrom_J135, i_succ]
end
