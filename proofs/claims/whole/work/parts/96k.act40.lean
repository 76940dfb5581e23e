section
variable {C : Co}
/-! STABLE: asking in any order ends alike -/
abbrev Zt : Type := Mt × (Nat → Bs)
/-- one is nearer than the other one (of several the least) -/
def nrr (C : Co) (x a b : Nat) : Prop := gI C x a < gI C x b ∨ (gI C x a = gI C x b ∧ a < b)
theorem nrr_irr {x a : Nat} : ¬ nrr C x a a := fun h => by unfold nrr at h; omega
theorem nrr_asy {x a b : Nat} (h : nrr C x a b) : ¬ nrr C x b a := fun k => by unfold nrr at h k; omega
theorem nrr_tr {x a b c : Nat} (h : nrr C x a b) (k : nrr C x b c) : nrr C x a c := by unfold nrr at *; omega
theorem nrr_tot {x a b : Nat} (h : a ≠ b) : nrr C x a b ∨ nrr C x b a := by unfold nrr; omega
def rejZ (Z : Zt) (b q : Nat) : Prop := Z.2 b q = true ∧ Z.1 q ≠ some b
def SIz (C : Co) (Z : Zt) : Prop := (∀ x y, Z.1 x = some y → x < sz C ∧ y < sz C ∧ Z.1 y = some x ∧ (cp C x y = true ∨ cp C y x = true)) ∧ (∀ b q, Z.2 b q = true → cp C b q = true ∧ b < sz C ∧ q < sz C) ∧ (∀ b q, cp C b q = true → Z.1 q = some b → Z.2 b q = true ∧ ∀ q', q' < sz C → cp C b q' = true → nrr C b q' q → Z.2 b q' = true) ∧ ∀ b q, Z.2 b q = true → Z.1 q ≠ some b → ∃ b', Z.1 q = some b' ∧ nrr C q b' b
def Cmz (C : Co) (Z : Zt) : Prop := ∀ b, b < sz C → Z.1 b = none → ∀ q, q < sz C → cp C b q = true → Z.2 b q = true
def LSz (C : Co) (Z : Zt) : Prop := ∀ F, SIz C F → Cmz C F → ∀ b q, rejZ Z b q → rejZ F b q
theorem cp_boy {a b q : Nat} (h : cp C b q = true) : ¬ cp C a b = true := fun k => by
  have h1 := (cp_of h).1
  have h2 := (cp_of k).2.1
  rw [h1] at h2
  exact absurd h2 (by decide)
theorem loseZ {F : Zt} (hF : SIz C F) (hc : Cmz C F) {q lo w : Nat} (hn : w ≠ lo) (h1 : cp C lo q = true) (h2 : cp C w q = true) (hq : q < sz C) (hl : lo < sz C) (hw : w < sz C) (hb : nrr C q w lo) (r1 : ∀ q', q' < sz C → cp C lo q' = true → nrr C lo q' q → rejZ F lo q') (r2 : ∀ q', q' < sz C → cp C w q' = true → nrr C w q' q → rejZ F w q') : rejZ F lo q := by
  obtain ⟨s1, s2, s3, s4⟩ := hF
  have A : ∀ x, x < sz C → cp C x q = true → (∀ q', q' < sz C → cp C x q' = true → nrr C x q' q → rejZ F x q') → rejZ F x q ∨ F.1 q = some x := by
    intro x hx hcx rx
    cases hm : F.1 x with
    | none =>
      left
      refine ⟨hc x hx hm q hq hcx, fun e => ?_⟩
      have := (s1 q x e).2.2.1
      rw [hm] at this
      cases this
    | some h =>
      obtain ⟨-, t2, t3, t4⟩ := s1 x h hm
      have hcp : cp C x h = true := by
        rcases t4 with t4 | t4
        · exact t4
        · exact absurd t4 (cp_boy hcx)
      by_cases e : h = q
      · right
        rw [← e]
        exact t3
      · rcases nrr_tot (C := C) (x := x) e with n | n
        · exact absurd t3 (rx h t2 hcp n).2
        · left
          refine ⟨(s3 x h hcp t3).2 q hq hcx n, fun e2 => ?_⟩
          have := (s1 q x e2).2.2.1
          rw [hm] at this
          exact e (Option.some.inj this)
  rcases A lo hl h1 r1 with h | h
  · exact h
  · exfalso
    rcases A w hw h2 r2 with k | k
    · obtain ⟨b', e1, e2⟩ := s4 w q k.1 k.2
      rw [h] at e1
      have := Option.some.inj e1
      subst this
      exact nrr_asy hb e2
    · rw [h] at k
      exact hn (Option.some.inj k).symm
/-- one asks -/
def akZ (Z : Zt) (b q : Nat) : Nat → Bs := fun b' q' => if b' = b ∧ q' = q then true else Z.2 b' q'
theorem ak_new {Z : Zt} {b q : Nat} : akZ Z b q b q = true := if_pos ⟨rfl, rfl⟩
theorem ak_old {Z : Zt} {b q b' q' : Nat} (h : ¬ (b' = b ∧ q' = q)) : akZ Z b q b' q' = Z.2 b' q' := if_neg h
theorem ak_sub {Z : Zt} {b q b' q' : Nat} (h : Z.2 b' q' = true) : akZ Z b q b' q' = true := by
  unfold akZ
  split
  · rfl
  · exact h
theorem ak_or {Z : Zt} {b q b' q' : Nat} (h : akZ Z b q b' q' = true) : (b' = b ∧ q' = q) ∨ Z.2 b' q' = true := by
  unfold akZ at h
  by_cases c : b' = b ∧ q' = q
  · exact Or.inl c
  · rw [if_neg c] at h
    exact Or.inr h
/-- he may ask her now -/
def mayZ (C : Co) (Z : Zt) (b q : Nat) : Prop := b < sz C ∧ q < sz C ∧ Z.1 b = none ∧ cp C b q = true ∧ Z.2 b q = false ∧ ∀ q', q' < sz C → cp C b q' = true → nrr C b q' q → Z.2 b q' = true
theorem may_rej {Z : Zt} {b q : Nat} (h : SIz C Z) (hm : mayZ C Z b q) : ∀ q', q' < sz C → cp C b q' = true → nrr C b q' q → rejZ Z b q' := by
  intro q' h1 h2 h3
  refine ⟨hm.2.2.2.2.2 q' h1 h2 h3, fun e => ?_⟩
  have := (h.1 q' b e).2.2.1
  rw [hm.2.2.1] at this
  cases this
theorem has_rej {Z : Zt} {b q : Nat} (h : SIz C Z) (hc : cp C b q = true) (hm : Z.1 q = some b) : ∀ q', q' < sz C → cp C b q' = true → nrr C b q' q → rejZ Z b q' := by
  intro q' h1 h2 h3
  refine ⟨(h.2.2.1 b q hc hm).2 q' h1 h2 h3, fun e => ?_⟩
  have e1 := (h.1 q' b e).2.2.1
  have e2 := (h.1 q b hm).2.2.1
  rw [e1] at e2
  have := Option.some.inj e2
  subst this
  exact nrr_irr h3
/-- refused -/
theorem ask_no {Z : Zt} {b q b0 : Nat} (h : SIz C Z) (hl : LSz C Z) (hm : mayZ C Z b q) (h0 : Z.1 q = some b0) (hn : ¬ nrr C q b b0) : SIz C (Z.1, akZ Z b q) ∧ LSz C (Z.1, akZ Z b q) := by
  obtain ⟨m1, m2, m3, m4, m5, m6⟩ := id hm
  obtain ⟨s1, s2, s3, s4⟩ := id h
  have hb0 : b0 ≠ b := fun e => by
    have := (s1 q b0 h0).2.2.1
    rw [e, m3] at this
    cases this
  have hc0 : cp C b0 q = true := by
    rcases (s1 q b0 h0).2.2.2 with t | t
    · exact absurd m4 (cp_boy t)
    · exact t
  have hbt : nrr C q b0 b := by
    rcases nrr_tot (C := C) (x := q) hb0 with t | t
    · exact t
    · exact absurd t hn
  refine ⟨⟨s1, fun b' q' hk => ?_, fun b' q' hcp hq' => ?_, fun b' q' hk hne => ?_⟩, fun F hF hcF b' q' hr => ?_⟩
  · rcases ak_or hk with ⟨rfl, rfl⟩ | hk
    · exact ⟨m4, m1, m2⟩
    · exact s2 b' q' hk
  · obtain ⟨t1, t2⟩ := s3 b' q' hcp hq'
    exact ⟨ak_sub t1, fun q'' a c d => ak_sub (t2 q'' a c d)⟩
  · rcases ak_or hk with ⟨rfl, rfl⟩ | hk
    · exact ⟨b0, h0, hbt⟩
    · exact s4 b' q' hk hne
  · obtain ⟨hr1, hr2⟩ := hr
    rcases ak_or hr1 with ⟨rfl, rfl⟩ | hk
    · refine loseZ hF hcF hb0 m4 hc0 m2 m1 (s1 q' b0 h0).2.1 hbt (fun q'' a c d => hl F hF hcF _ _ (may_rej h hm q'' a c d)) (fun q'' a c d => hl F hF hcF _ _ (has_rej h hc0 h0 q'' a c d))
    · exact hl F hF hcF b' q' ⟨hk, hr2⟩
/-- she keeps him -/
theorem ask_yes {Z : Zt} {b q : Nat} {m' : Mt} (h : SIz C Z) (hl : LSz C Z) (hm : mayZ C Z b q) (hw : ∀ b0, Z.1 q = some b0 → nrr C q b b0) (e1 : m' b = some q) (e2 : m' q = some b) (e3 : ∀ b0, Z.1 q = some b0 → m' b0 = none) (e4 : ∀ x, x ≠ b → x ≠ q → Z.1 q ≠ some x → m' x = Z.1 x) : SIz C (m', akZ Z b q) ∧ LSz C (m', akZ Z b q) := by
  obtain ⟨m1, m2, m3, m4, m5, m6⟩ := id hm
  obtain ⟨s1, s2, s3, s4⟩ := id h
  have nbq := cp_ne m4
  have girl : ∀ {b' q' : Nat}, cp C b' q' = true → q' ≠ q → m' q' = Z.1 q' := fun {b' q'} hc hq => by
    refine e4 q' (fun e => ?_) hq (fun e => ?_)
    · rw [e] at hc
      exact cp_boy m4 hc
    · rcases (s1 q q' e).2.2.2 with t | t
      · exact cp_boy t m4
      · exact cp_boy t hc
  refine ⟨⟨fun x y hxy => ?_, fun b' q' hk => ?_, fun b' q' hcp hq' => ?_, fun b' q' hk hne => ?_⟩, fun F hF hcF b' q' hr => ?_⟩
  · replace hxy : m' x = some y := hxy
    show x < sz C ∧ y < sz C ∧ m' y = some x ∧ _
    by_cases c1 : x = b
    · subst c1
      rw [e1] at hxy
      have := Option.some.inj hxy
      subst this
      exact ⟨m1, m2, e2, Or.inl m4⟩
    · by_cases c2 : x = q
      · subst c2
        rw [e2] at hxy
        have := Option.some.inj hxy
        subst this
        exact ⟨m2, m1, e1, Or.inr m4⟩
      · by_cases c3 : Z.1 q = some x
        · rw [e3 x c3] at hxy
          cases hxy
        · rw [e4 x c1 c2 c3] at hxy
          obtain ⟨t1, t2, t3, t4⟩ := s1 x y hxy
          refine ⟨t1, t2, ?_, t4⟩
          rw [e4 y (fun e => ?_) (fun e => ?_) (fun e => ?_)]
          · exact t3
          · rw [e, m3] at t3
            cases t3
          · rw [e] at t3
            exact c3 t3
          · have := (s1 q y e).2.2.1
            rw [t3] at this
            exact c2 (Option.some.inj this)
  · rcases ak_or hk with ⟨rfl, rfl⟩ | hk
    · exact ⟨m4, m1, m2⟩
    · exact s2 b' q' hk
  · replace hq' : m' q' = some b' := hq'
    by_cases c : q' = q
    · subst c
      rw [e2] at hq'
      have := Option.some.inj hq'
      subst this
      exact ⟨ak_new, fun q'' a c d => ak_sub (m6 q'' a c d)⟩
    · rw [girl hcp c] at hq'
      obtain ⟨t1, t2⟩ := s3 b' q' hcp hq'
      exact ⟨ak_sub t1, fun q'' a c d => ak_sub (t2 q'' a c d)⟩
  · replace hne : m' q' ≠ some b' := hne
    show ∃ b'', m' q' = some b'' ∧ nrr C q' b'' b'
    rcases ak_or hk with ⟨rfl, rfl⟩ | hk2
    · exact absurd e2 hne
    · have hcp := (s2 b' q' hk2).1
      by_cases c : q' = q
      · subst c
        refine ⟨b, e2, ?_⟩
        by_cases c2 : Z.1 q' = some b'
        · exact hw b' c2
        · obtain ⟨b1, t1, t2⟩ := s4 b' q' hk2 c2
          exact nrr_tr (hw b1 t1) t2
      · rw [girl hcp c] at hne ⊢
        exact s4 b' q' hk2 hne
  · obtain ⟨hr1, hr2⟩ := hr
    replace hr2 : m' q' ≠ some b' := hr2
    rcases ak_or hr1 with ⟨rfl, rfl⟩ | hk
    · exact absurd e2 hr2
    · by_cases c2 : Z.1 q' = some b'
      · have hcp := (s2 b' q' hk).1
        by_cases c : q' = q
        · subst c
          have hbb : b ≠ b' := fun e => by
            rw [e] at e2
            exact hr2 e2
          exact loseZ hF hcF hbb hcp m4 m2 (s1 q' b' c2).2.1 m1 (hw b' c2) (fun q'' a c d => hl F hF hcF _ _ (has_rej h hcp c2 q'' a c d)) (fun q'' a c d => hl F hF hcF _ _ (may_rej h hm q'' a c d))
        · rw [girl hcp c] at hr2
          exact absurd c2 hr2
      · exact hl F hF hcF b' q' ⟨hk, c2⟩
/-- all ends are alike -/
theorem endZ {Z F : Zt} (h : SIz C Z) (hc : Cmz C Z) (hl : LSz C Z) (h' : SIz C F) (hc' : Cmz C F) (hl' : LSz C F) : Z.1 = F.1 := by
  have one : ∀ {Z F : Zt}, SIz C Z → Cmz C Z → LSz C Z → SIz C F → Cmz C F → LSz C F → ∀ b q, cp C b q = true → Z.1 b = some q → F.1 b = some q := by
    intro Z F h hc hl h' hc' hl' b q hcp hb
    obtain ⟨t1, t2, t3, -⟩ := h.1 b q hb
    cases hm : F.1 b with
    | none =>
      exfalso
      have r2 : rejZ F b q := ⟨hc' b t1 hm q t2 hcp, fun e => by
        have := (h'.1 q b e).2.2.1
        rw [hm] at this
        cases this⟩
      exact (hl' Z h hc b q r2).2 t3
    | some k =>
      obtain ⟨u1, u2, u3, u4⟩ := h'.1 b k hm
      have hck : cp C b k = true := by
        rcases u4 with u4 | u4
        · exact u4
        · exact absurd u4 (cp_boy hcp)
      by_cases e : k = q
      · rw [e]
      · exfalso
        rcases nrr_tot (C := C) (x := b) e with n | n
        · have r1 : rejZ Z b k := ⟨(h.2.2.1 b q hcp t3).2 k u2 hck n, fun e2 => by
            have := (h.1 k b e2).2.2.1
            rw [hb] at this
            exact e (Option.some.inj this).symm⟩
          exact (hl F h' hc' b k r1).2 u3
        · have r2 : rejZ F b q := ⟨(h'.2.2.1 b k hck u3).2 q t2 hcp n, fun e2 => by
            have := (h'.1 q b e2).2.2.1
            rw [hm] at this
            exact e (Option.some.inj this)⟩
          exact (hl' Z h hc b q r2).2 t3
  have two : ∀ {Z F : Zt}, SIz C Z → Cmz C Z → LSz C Z → SIz C F → Cmz C F → LSz C F → ∀ x y, Z.1 x = some y → F.1 x = some y := by
    intro Z F h hc hl h' hc' hl' x y hxy
    obtain ⟨t1, t2, t3, t4⟩ := h.1 x y hxy
    rcases t4 with t4 | t4
    · exact one h hc hl h' hc' hl' x y t4 hxy
    · have := one h hc hl h' hc' hl' y x t4 t3
      exact (h'.1 y x this).2.2.1
  funext x
  cases hz : Z.1 x with
  | some y => exact (two h hc hl h' hc' hl' x y hz).symm
  | none =>
    cases hf : F.1 x with
    | none => rfl
    | some y =>
      have := two h' hc' hl' h hc hl x y hf
      rw [hz] at this
      cases this
/-- how many have been asked -/
def cAz (Z : Zt) : Nat := cnt (fun i => Z.2 (i / 8) (i % 8)) 64 0
theorem cA_up {Z : Zt} {m' : Mt} {b q : Nat} (hb : b < 8) (hq : q < 8) (h : Z.2 b q = false) : cAz (m', akZ Z b q) = cAz Z + 1 := by
  unfold cAz
  have d : (8 * b + q) / 8 = b := by omega
  have e : (8 * b + q) % 8 = q := by omega
  refine cnt_up (a := 8 * b + q) ?_ ?_ (fun j hj => ?_) 64 0 (by omega) (by omega)
  · show Z.2 ((8 * b + q) / 8) ((8 * b + q) % 8) = false
    rw [d, e]
    exact h
  · show akZ Z b q ((8 * b + q) / 8) ((8 * b + q) % 8) = true
    rw [d, e]
    exact ak_new
  · exact ak_old (fun hh => hj (by omega))
theorem cA_63 {Z : Zt} (h : SIz C Z) : cAz Z < 64 := by
  unfold cAz
  have h0 : Z.2 0 0 = false := by
    cases e : Z.2 0 0 with
    | false => rfl
    | true => exact absurd rfl (cp_ne (h.2.1 0 0 e).1)
  have := cnt_grow (f := fun i => Z.2 (i / 8) (i % 8)) (h := fun _ => true) (fun _ _ => rfl) 64 0 0 (by omega) (by omega) h0 rfl
  have := cnt_le (f := fun _ => true) 64 0
  omega
def z0Z : Zt := (noM, fun _ _ => false)
theorem SI_0 : SIz C z0Z := ⟨fun x y h => (by cases h), fun b q h => (by cases h), fun b q _ h => (by cases h), fun b q h => (by cases h)⟩
theorem LS_0 : LSz C z0Z := fun F _ _ b q h => (by cases h.1)
/-- whom he asks next -/
def nrS (C : Co) (b : Nat) (f : Bs) (q : Nat) (x : Option Nat) : Option Nat := if (cp C b q && !f q) = true then (match x with | none => some q | some z => if gapF C b q < gapF C b z then some q else some z) else x
def nrV (C : Co) (b : Nat) (f : Bs) : Option Nat := itF (nrS C b f) (sz C) 0 none
theorem nr_inv {b : Nat} {f : Bs} : ∀ n i x, (∀ z, x = some z → z < i ∧ cp C b z = true ∧ f z = false ∧ ∀ q', q' < i → cp C b q' = true → f q' = false → q' ≠ z → nrr C b z q') → (x = none → ∀ q', q' < i → cp C b q' = true → f q' = true) → (∀ z, itF (nrS C b f) n i x = some z → z < i + n ∧ cp C b z = true ∧ f z = false ∧ ∀ q', q' < i + n → cp C b q' = true → f q' = false → q' ≠ z → nrr C b z q') ∧ (itF (nrS C b f) n i x = none → ∀ q', q' < i + n → cp C b q' = true → f q' = true) := by
  intro n
  induction n with
  | zero => intro i x h1 h2; exact ⟨h1, h2⟩
  | succ n ih =>
    intro i x h1 h2
    rw [show i + (n + 1) = i + 1 + n by omega]
    show (∀ z, itF (nrS C b f) n (i + 1) (nrS C b f i x) = some z → _) ∧ (itF (nrS C b f) n (i + 1) (nrS C b f i x) = none → _)
    refine ih (i + 1) (nrS C b f i x) (fun z hz => ?_) (fun hz q' hq hc => ?_)
    · unfold nrS at hz
      by_cases c : (cp C b i && !f i) = true
      · rw [if_pos c] at hz
        rw [Bool.and_eq_true] at c
        have fi : f i = false := by
          cases hf : f i with
          | false => rfl
          | true => rw [hf] at c; exact absurd c.2 (by decide)
        cases x with
        | none =>
          have := Option.some.inj hz
          subst this
          refine ⟨by omega, c.1, fi, fun q' hq hc hf hne => ?_⟩
          have := h2 rfl q' (by omega) hc
          rw [hf] at this
          cases this
        | some y =>
          obtain ⟨y1, y2, y3, y4⟩ := h1 y rfl
          by_cases cg : gapF C b i < gapF C b y
          · have hz : (if gapF C b i < gapF C b y then some i else some y) = some z := hz
            rw [if_pos cg] at hz
            have := Option.some.inj hz
            subst this
            have hg := i_ltI.mp cg
            refine ⟨by omega, c.1, fi, fun q' hq hc hf hne => ?_⟩
            have n1 : nrr C b i y := Or.inl hg
            by_cases e : q' = y
            · subst e
              exact n1
            · exact nrr_tr n1 (y4 q' (by omega) hc hf e)
          · have hz : (if gapF C b i < gapF C b y then some i else some y) = some z := hz
            rw [if_neg cg] at hz
            have := Option.some.inj hz
            subst this
            refine ⟨by omega, y2, y3, fun q' hq hc hf hne => ?_⟩
            by_cases e : q' = i
            · subst e
              have : ¬ (gapF C b q').toInt < (gapF C b y).toInt := fun h => cg (i_ltI.mpr h)
              unfold nrr gI
              omega
            · exact y4 q' (by omega) hc hf hne
      · rw [if_neg c] at hz
        obtain ⟨y1, y2, y3, y4⟩ := h1 z hz
        refine ⟨by omega, y2, y3, fun q' hq hc hf hne => ?_⟩
        by_cases e : q' = i
        · subst e
          rw [hc, hf] at c
          exact absurd rfl c
        · exact y4 q' (by omega) hc hf hne
    · unfold nrS at hz
      by_cases c : (cp C b i && !f i) = true
      · rw [if_pos c] at hz
        cases x with
        | none => cases hz
        | some y =>
          have hz : (if gapF C b i < gapF C b y then some i else some y) = none := hz
          split at hz <;> cases hz
      · rw [if_neg c] at hz
        by_cases e : q' = i
        · subst e
          cases hf : f q' with
          | true => rfl
          | false =>
            rw [hc, hf] at c
            exact absurd rfl c
        · exact h2 hz q' (by omega) hc
theorem nr_some {b q : Nat} {f : Bs} (h : nrV C b f = some q) : q < sz C ∧ cp C b q = true ∧ f q = false ∧ ∀ q', q' < sz C → cp C b q' = true → nrr C b q' q → f q' = true := by
  obtain ⟨h1, h2, h3, h4⟩ := (nr_inv (C := C) (b := b) (f := f) (sz C) 0 none (fun z hz => by cases hz) (fun _ q' hq => absurd hq (Nat.not_lt_zero q'))).1 q h
  refine ⟨by omega, h2, h3, fun q' hq hc hn => ?_⟩
  cases hf : f q' with
  | true => rfl
  | false =>
    exfalso
    by_cases e : q' = q
    · subst e
      exact nrr_irr hn
    · exact nrr_asy hn (h4 q' (by omega) hc hf e)
theorem nr_none {b : Nat} {f : Bs} (h : nrV C b f = none) : ∀ q, q < sz C → cp C b q = true → f q = true := by
  intro q hq hc
  exact (nr_inv (C := C) (b := b) (f := f) (sz C) 0 none (fun z hz => by cases hz) (fun _ q' hq => absurd hq (Nat.not_lt_zero q'))).2 h q (by omega) hc
theorem may_of {Z : Zt} {b q : Nat} (hb : b < sz C) (hm : Z.1 b = none) (h : nrV C b (Z.2 b) = some q) : mayZ C Z b q := by
  obtain ⟨h1, h2, h3, h4⟩ := nr_some h
  exact ⟨hb, h1, hm, h2, h3, h4⟩
end
