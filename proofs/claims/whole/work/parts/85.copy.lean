/-! copies: a stretch of a row, step by step -/
def cpS (s : tS) (d od c oc n : Nat) : tS := up1 s d (fun k => if od ≤ k ∧ k < od + n then s c (oc + (k - od)) else s d k)
theorem cpS_0 {s : tS} {d od c oc : Nat} : cpS s d od c oc 0 = s := by
  funext a k
  show (if a = d then (fun k => if od ≤ k ∧ k < od + 0 then s c (oc + (k - od)) else s d k) else s a) k = s a k
  by_cases e : a = d
  · subst e
    simp only [if_true]
    rw [if_neg (by omega)]
  · rw [if_neg e]
theorem cpS_v {s : tS} {d od c oc n k : Nat} : cpS s d od c oc n d k = if od ≤ k ∧ k < od + n then s c (oc + (k - od)) else s d k := by
  rw [cpS, up1_eq]
theorem cpS_ne {s : tS} {d od c oc n a : Nat} (h : a ≠ d) : cpS s d od c oc n a = s a := up1_ne h
theorem cpS_succ {s : tS} {d od c oc n : Nat} (h : c ≠ d ∨ od ≤ oc) : up2 (cpS s d od c oc n) d (od + n) (cpS s d od c oc n c (oc + n)) = cpS s d od c oc (n + 1) := by
  have hv : cpS s d od c oc n c (oc + n) = s c (oc + n) := by
    by_cases e : c = d
    · subst e
      rw [cpS_v, if_neg (by omega)]
    · rw [cpS_ne e]
  rw [hv]
  funext a k
  by_cases e : a = d
  · subst e
    rw [cpS_v]
    by_cases e2 : k = od + n
    · subst e2
      rw [up2_eq, if_pos (by omega)]
      congr 1
      omega
    · rw [up2_ne (by omega), cpS_v]
      by_cases e3 : od ≤ k ∧ k < od + n
      · rw [if_pos e3, if_pos (by omega)]
      · rw [if_neg e3, if_neg (by omega)]
  · rw [up2_ne (by omega), cpS_ne e, cpS_ne e]
theorem cp_run {g : Nat} {l : tL} {r : Nat → Nat} {β : Type} {s : tS} {d od c oc : Nat} (hcd : c ≠ d ∨ od ≤ oc) (L : Nat → Int32 → mMem → β) (N : Nat) (hs : ∀ (n i : Nat) (s : tS), i < N → L (n + 1) (Int32.ofNat i) (mm g s l r) = L n (Int32.ofNat (i + 1)) (mm g (up2 s d (od + i) (s c (oc + i))) l r)) : ∀ (k fuel i : Nat), i + k = N → k < fuel → ∃ m, L fuel (Int32.ofNat i) (mm g (cpS s d od c oc i) l r) = L (m + 1) (Int32.ofNat N) (mm g (cpS s d od c oc N) l r) := by
  intro k
  induction k with
  | zero =>
    intro fuel i h1 h2
    have : i = N := by omega
    subst this
    exact ⟨fuel - 1, by rw [show fuel - 1 + 1 = fuel by omega]⟩
  | succ k ih =>
    intro fuel i h1 h2
    obtain ⟨n, rfl⟩ : ∃ n, fuel = n + 1 := ⟨fuel - 1, by omega⟩
    obtain ⟨m, hm⟩ := ih n (i + 1) (by omega) (by omega)
    refine ⟨m, ?_⟩
    rw [hs n i _ (by omega), cpS_succ hcd]
    exact hm
theorem cp_all {g : Nat} {l : tL} {r : Nat → Nat} {β : Type} {s : tS} {d od c oc : Nat} (hcd : c ≠ d ∨ od ≤ oc) (L : Nat → Int32 → mMem → β) (N : Nat) (hN : N < gF) (hs : ∀ (n i : Nat) (s : tS), i < N → L (n + 1) (Int32.ofNat i) (mm g s l r) = L n (Int32.ofNat (i + 1)) (mm g (up2 s d (od + i) (s c (oc + i))) l r)) : ∃ m, L gF 0 (mm g s l r) = L (m + 1) (Int32.ofNat N) (mm g (cpS s d od c oc N) l r) := by
  obtain ⟨m, hm⟩ := cp_run (s := s) hcd L N hs N gF 0 (by omega) hN
  rw [cpS_0] at hm
  exact ⟨m, hm⟩
/-! the reference keeps and brings back -/
theorem k291 : lK 291 = 20 := by decide +kernel
theorem n291 : lNn 291 = 445 := by decide +kernel
section
variable {g : Nat} {s : tS} {l : tL} {r : Nat → Nat} {b : Nat} {C : Co} {L : Lw} {G : Lg}
theorem w_R4 : getR (mm g s l r) (ob g 287) 12 4 = some (ob g 291) := mm_getR k287 (by decide +kernel) (by decide)
theorem t_ald {k : Nat} (hk : k < 445) : aldI (mm g s l r) (ob g 291) 20 (Int32.ofNat k) = some (s 291 k) := mm_aldI k291 n291 hk (by decide)
theorem t_ast {k : Nat} {v : Int32} (hk : k < 445) : astI (mm g s l r) (ob g 291) (Int32.ofNat k) v = some (mm g (up2 s 291 k v) l r) := mm_astI k291 n291 hk (by decide)
theorem m_keeps : p12_keepsAll (ob g 287) (mm g s l r) = some (mm g (cpS s 291 0 288 0 445) l r) := by
  obtain ⟨m, hm⟩ := cp_all (g := g) (l := l) (r := r) (s := s) (d := 291) (od := 0) (c := 288) (oc := 0) (Or.inl (by decide)) (fun n i M => p12_keepsAll_L2 n (ob g 287) i M) 445 (by decide) (fun n i s hi => by
    have c : Int32.ofNat i < 445 := (i_lt (b := 445) (by omega) (by decide)).mpr hi
    simp only [p12_keepsAll_L2, c, if_true, w_R4, w_R1, obs, w_ald (show i < 2143 by omega), t_ast hi, i_succ, Nat.zero_add])
  have hm' : p12_keepsAll_L2 gF (ob g 287) 0 (mm g s l r) = p12_keepsAll_L2 (m + 1) (ob g 287) (Int32.ofNat 445) (mm g (cpS s 291 0 288 0 445) l r) := hm
  have c : ¬ Int32.ofNat 445 < 445 := by decide
  rw [p12_keepsAll, w_gd, hm', p12_keepsAll_L2, if_neg c]
theorem m_brings : p12_bringsBack (ob g 287) (mm g s l r) = some (mm g (cpS s 288 0 291 0 445) l r) := by
  obtain ⟨m, hm⟩ := cp_all (g := g) (l := l) (r := r) (s := s) (d := 288) (od := 0) (c := 291) (oc := 0) (Or.inl (by decide)) (fun n i M => p12_bringsBack_L2 n (ob g 287) i M) 445 (by decide) (fun n i s hi => by
    have c : Int32.ofNat i < 445 := (i_lt (b := 445) (by omega) (by decide)).mpr hi
    simp only [p12_bringsBack_L2, c, if_true, w_R4, w_R1, obs, w_ast (show i < 2143 by omega), t_ald hi, i_succ, Nat.zero_add])
  have hm' : p12_bringsBack_L2 gF (ob g 287) 0 (mm g s l r) = p12_bringsBack_L2 (m + 1) (ob g 287) (Int32.ofNat 445) (mm g (cpS s 288 0 291 0 445) l r) := hm
  have c : ¬ Int32.ofNat 445 < 445 := by decide
  rw [p12_bringsBack, w_gd, hm', p12_bringsBack_L2, if_neg c]
/-- what was kept comes back, whatever was written meanwhile -/
theorem back_same {s1 : tS} (hf : Fw pL (cpS s 291 0 288 0 445) s1) : ∀ k, cpS s1 288 0 291 0 445 288 k = s 288 k := by
  intro k
  have h291 : s1 291 = cpS s 291 0 288 0 445 291 := hf.1 291 (by decide) (by decide)
  rw [cpS_v]
  by_cases h : 0 ≤ k ∧ k < 0 + 445
  · rw [if_pos h, h291, cpS_v, if_pos (by omega)]
    congr 1
    omega
  · rw [if_neg h, hf.2 k (by unfold pL; omega), cpS_ne (by decide)]
/-! the class takes a family over -/
def cpP (s : tS) (d c : Nat) : tS := up1 s d (fun j => if j < 9 then s c j else s d j)
theorem f_take8 {d c : Nat} (hd : lK d = 9) (hc : lK c = 9) (hn : c ≠ d) : p8_take (ob g d) (ob g c) (mm g s l r) = some (mm g (cpP s d c) l r) := by
  have rI : ∀ {s : tS} {k : Nat}, getI (mm g s l r) (ob g c) 9 k = some (s c k) := mm_getI hc
  have wI : ∀ {s : tS} {k : Nat} {v : Int32}, putI (mm g s l r) (ob g d) 9 k v = some (mm g (up2 s d k v) l r) := mm_putI hd
  have ne : ∀ {s : tS} {k : Nat} {v : Int32} {j : Nat}, up2 s d k v c j = s c j := up2_ne (by omega)
  rw [p8_take, mm_gd hd]
  simp only [rI, wI, obs, ne]
  congr 2
  funext a j
  show _ = (if a = d then (fun j => if j < 9 then s c j else s d j) else s a) j
  by_cases e : a = d
  · subst e
    simp only [if_true]
    by_cases h : j < 9
    · rw [if_pos h]
      have : j = 0 ∨ j = 1 ∨ j = 2 ∨ j = 3 ∨ j = 4 ∨ j = 5 ∨ j = 6 ∨ j = 7 ∨ j = 8 := by omega
      rcases this with rfl | rfl | rfl | rfl | rfl | rfl | rfl | rfl | rfl <;> simp [up2]
    · rw [if_neg h]
      rw [up2_ne (by omega), up2_ne (by omega), up2_ne (by omega), up2_ne (by omega), up2_ne (by omega), up2_ne (by omega), up2_ne (by omega), up2_ne (by omega), up2_ne (by omega)]
  · rw [if_neg e]
    rw [up2_ne (by omega), up2_ne (by omega), up2_ne (by omega), up2_ne (by omega), up2_ne (by omega), up2_ne (by omega), up2_ne (by omega), up2_ne (by omega), up2_ne (by omega)]
theorem cpP_fr {P : Nat → Prop} {d c : Nat} (h : P d) : Fr P s (cpP s d c) := fun q hq => up1_ne (fun e => hq (e ▸ h))
/-- all fifteen rows of a family are those of another one -/
def Same (s' : tS) (d : Nat) (s : tS) (c : Nat) : Prop := (∀ k, 4 ≤ k → k ≤ 10 → s' d k = s c k) ∧ (∀ i j, i < 8 → j < 9 → s' (d + 6 + i) j = s (c + 6 + i) j) ∧ (∀ k, k < 64 → s' (d + 3) k = s (c + 3) k) ∧ (∀ k, k < 300 → s' (d + 5) k = s (c + 5) k) ∧ s' (d + 4) 1 = s (c + 4) 1 ∧ s' (d + 4) 2 = s (c + 4) 2
theorem fb_apart : ∀ d ∈ fBL, ∀ c ∈ fBL, d ≠ c → d + 14 ≤ c ∨ c + 14 ≤ d := by decide +kernel
theorem f_take {d c : Nat} (hd : d ∈ fBL) (hc : c ∈ fBL) (hn : d ≠ c) : ∃ s', p2_take (ob g d) (ob g c) (mm g s l r) = some (mm g s' l r) ∧ Same s' d s c ∧ Fr (fun o => d ≤ o ∧ o < d + 14) s s' ∧ s' (d + 2) = s (d + 2) := by
  have hap := fb_apart d hd c hc hn
  have key : ∀ (k fuel i : Nat) (s1 : tS), i + k = 8 → k < fuel → (∀ i' j, i' < i → j < 9 → s1 (d + 6 + i') j = s (c + 6 + i') j) → Fr (fun o => d + 6 ≤ o ∧ o < d + 14) s s1 → ∃ m s2, p2_take_L2 fuel (ob g d) (ob g c) (Int32.ofNat i) (mm g s1 l r) = p2_take_L2 (m + 1) (ob g d) (ob g c) 8 (mm g s2 l r) ∧ (∀ i' j, i' < 8 → j < 9 → s2 (d + 6 + i') j = s (c + 6 + i') j) ∧ Fr (fun o => d + 6 ≤ o ∧ o < d + 14) s s2 := by
    intro k
    induction k with
    | zero =>
      intro fuel i s1 h1 h2 h3 h4
      have e : i = 8 := by omega
      subst e
      exact ⟨fuel - 1, s1, by rw [show fuel - 1 + 1 = fuel by omega]; rfl, h3, h4⟩
    | succ k ih =>
      intro fuel i s1 h1 h2 h3 h4
      obtain ⟨n, rfl⟩ : ∃ n, fuel = n + 1 := ⟨fuel - 1, by omega⟩
      have hi : i < 8 := by omega
      obtain ⟨m, s2, e1, e2, e3⟩ := ih n (i + 1) (cpP s1 (d + 6 + i) (c + 6 + i)) (by omega) (by omega) (fun i' j a b => by
        by_cases ei : i' = i
        · subst ei
          rw [cpP, up1_eq]
          show (if j < 9 then s1 (c + 6 + i') j else s1 (d + 6 + i') j) = s (c + 6 + i') j
          rw [if_pos b, h4 (c + 6 + i') (by omega)]
        · rw [cpP, up1_ne (by omega)]
          exact h3 i' j (by omega) b) (h4.trans (cpP_fr (by omega)))
      refine ⟨m, s2, ?_, e2, e3⟩
      rw [← e1, p2_take_L2]
      simp only [f_R0 hd, obs, f_len1 hd, lt8 hi, if_true, f_p hd hi, f_at hc hi, f_take8 (f_pK hd hi) (f_pK hc hi) (by omega), i_succ]
  obtain ⟨m, s2, e1, e2, e3⟩ := key 8 gF 0 s (by omega) (gF_gt (by omega)) (fun i' j a => absurd a (Nat.not_lt_zero i')) Fr.refl
  have e1' : p2_take (ob g d) (ob g c) (mm g s l r) = p2_take_L2 (m + 1) (ob g d) (ob g c) 8 (mm g s2 l r) := by
    rw [p2_take, f_gd hd]
    exact e1
  rw [e1', p2_take_L2]
  have n8 : ¬ (8 : Int32) < 8 := by decide
  have hfd := fB_one hd
  have hfc := fB_one hc
  obtain ⟨a1, a2, a3, a4, a5, a6, a7, a8, a9, a10, a11, a12, a13, a14, a15, a16, a17⟩ := hfd
  obtain ⟨b1, b2, b3, b4, b5, b6, b7, b8, b9, b10, b11, b12, b13, b14, b15, b16, b17⟩ := hfc
  have cp3 : ∀ {s : tS}, cpyI (mm g s l r) (ob g (c + 3)) 0 (ob g (d + 3)) 0 64 = some (mm g (cpy s (c + 3) (d + 3) 0 0 64) l r) := mm_cpyI (sp := 0) (dp := 0) (n := 64) b10 a10 (by omega) (by omega) (by omega) (by omega)
  have cp5 : ∀ {s : tS}, cpyI (mm g s l r) (ob g (c + 5)) 0 (ob g (d + 5)) 0 300 = some (mm g (cpy s (c + 5) (d + 5) 0 0 300) l r) := mm_cpyI (sp := 0) (dp := 0) (n := 300) b14 a14 (by omega) (by omega) (by omega) (by omega)
  simp only [f_R0 hd, obs, f_len1 hd, n8, if_false, f_R2 hc, f_R2 hd, f_len3 hd, cp3, f_R3 hd, f_R3 hc, p6_take, f_loggd hd, f_logR hc, f_logR hd, f_len5 hd, cp5, f_logI hc, f_logP hd, f_getI hc, f_putI hd]
  refine ⟨_, rfl, ?_, ?_, ?_⟩
  · have u3 : ∀ {s : tS} {x y z n : Nat} {k : Nat}, x ≠ d + 3 → cpy s (c + 3) (d + 3) y z n x k = s x k := fun hx => by rw [cpy, up1_ne hx]
    have u5 : ∀ {s : tS} {x y z n : Nat} {k : Nat}, x ≠ d + 5 → cpy s (c + 5) (d + 5) y z n x k = s x k := fun hx => by rw [cpy, up1_ne hx]
    have k0 : ∀ {x : Nat} {k : Nat}, ¬ (d + 6 ≤ x ∧ x < d + 14) → s2 x k = s x k := fun hx => by rw [e3 _ hx]
    have ncd : ∀ {s : tS} {k : Nat} {v : Int32} {j : Nat}, up2 s d k v c j = s c j := up2_ne (by omega)
    have ncd4 : ∀ {s : tS} {k : Nat} {v : Int32} {j : Nat}, up2 s (d + 4) k v c j = s c j := up2_ne (by omega)
    have nc4 : ∀ {s : tS} {k : Nat} {v : Int32} {j : Nat}, up2 s (d + 4) k v (c + 4) j = s (c + 4) j := up2_ne (by omega)
    refine ⟨?_, ?_, ?_, ?_, ?_, ?_⟩
    · intro k h4 h10
      have : k = 4 ∨ k = 5 ∨ k = 6 ∨ k = 7 ∨ k = 8 ∨ k = 9 ∨ k = 10 := by omega
      simp only [ncd, ncd4, u5 (show c ≠ d + 5 by omega), u3 (show c ≠ d + 3 by omega), k0 (show ¬ (d + 6 ≤ c ∧ c < d + 14) by omega)]
      rcases this with rfl | rfl | rfl | rfl | rfl | rfl | rfl
      · rw [up2_ne (by omega), up2_ne (by omega), up2_ne (by omega), up2_ne (by omega), up2_ne (by omega), up2_ne (by omega), up2_eq]
      · rw [up2_ne (by omega), up2_ne (by omega), up2_ne (by omega), up2_ne (by omega), up2_ne (by omega), up2_eq]
      · rw [up2_ne (by omega), up2_ne (by omega), up2_ne (by omega), up2_ne (by omega), up2_eq]
      · rw [up2_ne (by omega), up2_ne (by omega), up2_ne (by omega), up2_eq]
      · rw [up2_ne (by omega), up2_ne (by omega), up2_eq]
      · rw [up2_ne (by omega), up2_eq]
      · rw [up2_eq]
    · intro i j hi hj
      rw [up2_ne (by omega), up2_ne (by omega), up2_ne (by omega), up2_ne (by omega), up2_ne (by omega), up2_ne (by omega), up2_ne (by omega), up2_ne (by omega), up2_ne (by omega), u5 (by omega), u3 (by omega)]
      exact e2 i j hi hj
    · intro k hk
      rw [up2_ne (by omega), up2_ne (by omega), up2_ne (by omega), up2_ne (by omega), up2_ne (by omega), up2_ne (by omega), up2_ne (by omega), up2_ne (by omega), up2_ne (by omega), u5 (by omega), cpy, up1_eq]
      show (if 0 ≤ k ∧ k < 0 + 64 then s2 (c + 3) (0 + (k - 0)) else s2 (d + 3) k) = _
      rw [if_pos (by omega), k0 (by omega)]
      congr 1
      omega
    · intro k hk
      rw [up2_ne (by omega), up2_ne (by omega), up2_ne (by omega), up2_ne (by omega), up2_ne (by omega), up2_ne (by omega), up2_ne (by omega), up2_ne (by omega), up2_ne (by omega), cpy, up1_eq]
      show (if 0 ≤ k ∧ k < 0 + 300 then cpy s2 (c + 3) (d + 3) 0 0 64 (c + 5) (0 + (k - 0)) else cpy s2 (c + 3) (d + 3) 0 0 64 (d + 5) k) = _
      rw [if_pos (by omega), u3 (by omega), k0 (by omega)]
      congr 1
      omega
    · simp only [ncd, ncd4, nc4, u5 (show c + 4 ≠ d + 5 by omega), u3 (show c + 4 ≠ d + 3 by omega), k0 (show ¬ (d + 6 ≤ c + 4 ∧ c + 4 < d + 14) by omega)]
      rw [up2_ne (by omega), up2_ne (by omega), up2_ne (by omega), up2_ne (by omega), up2_ne (by omega), up2_ne (by omega), up2_ne (by omega), up2_ne (by omega), up2_eq]
    · simp only [ncd, ncd4, nc4, u5 (show c + 4 ≠ d + 5 by omega), u3 (show c + 4 ≠ d + 3 by omega), k0 (show ¬ (d + 6 ≤ c + 4 ∧ c + 4 < d + 14) by omega)]
      rw [up2_ne (by omega), up2_ne (by omega), up2_ne (by omega), up2_ne (by omega), up2_ne (by omega), up2_ne (by omega), up2_ne (by omega), up2_eq]
  · have uu : ∀ {a : tS} {o k : Nat} {v : Int32}, (d ≤ o ∧ o < d + 14) → Fr (fun o => d ≤ o ∧ o < d + 14) a (up2 a o k v) := fun ho => Fr.up ho
    have uc : ∀ {a : tS} {x o y z n : Nat}, (d ≤ o ∧ o < d + 14) → Fr (fun o => d ≤ o ∧ o < d + 14) a (cpy a x o y z n) := fun ho q hq => up1_ne (fun e => hq (e ▸ ho))
    exact ((((((((((((e3.mono (fun o ho => by omega)).trans (uc (by omega))).trans (uc (by omega))).trans (uu (by omega))).trans (uu (by omega))).trans (uu (by omega))).trans (uu (by omega))).trans (uu (by omega))).trans (uu (by omega))).trans (uu (by omega))).trans (uu (by omega))).trans (uu (by omega)))
  · funext k
    rw [up2_ne (by omega), up2_ne (by omega), up2_ne (by omega), up2_ne (by omega), up2_ne (by omega), up2_ne (by omega), up2_ne (by omega), up2_ne (by omega), up2_ne (by omega), cpy, up1_ne (by omega), cpy, up1_ne (by omega), e3 (d + 2) (by omega)]
theorem Same.is {d c : Nat} {s' : tS} (hd : d ∈ fBL) (h : Same s' d s c) (hI : Is s c C) (hn : ∀ j, j < 9 → s' (d + 2) j = nob j) : Is s' d C := by
  obtain ⟨h1, h2, h3, -⟩ := h
  obtain ⟨a1, a2, a3, a4, a5, a6, -⟩ := hI
  have := a2.2
  refine ⟨hd, a2, fun k u v => (h1 k u v).trans (a3 k u v), fun i j u v => (h2 i j (by omega) v).trans (a4 i j u v), fun i j u v => (h3 _ (by omega)).trans (a5 i j u v), fun i j u v w => (h3 _ (by omega)).trans (a6 i j u v w), hn⟩
theorem Same.lg {d c : Nat} {s' : tS} (h : Same s' d s c) (hg : LgC s c G) : LgC s' d G := by
  obtain ⟨-, -, -, h5, h41, h42⟩ := h
  obtain ⟨b1, b2, nx, b3, b4, b5⟩ := hg
  refine ⟨h42.trans b1, b2, nx, b3, h41.trans b4, fun k j u v => ?_⟩
  rw [h5 _ (by omega)]
  exact b5 k j u v
/-- a family is taken over -/
theorem c_take {d c : Nat} (hd : d ∈ fBL) (hn : d ≠ c) (hI : Is s c C) (hg : LgC s c G) (hnb : ∀ j, j < 9 → s (d + 2) j = nob j) : ∃ s', p2_take (ob g d) (ob g c) (mm g s l r) = some (mm g s' l r) ∧ Is s' d C ∧ LgC s' d G ∧ Fr (fun o => d ≤ o ∧ o < d + 14) s s' := by
  obtain ⟨s', e1, h1, f1, h2⟩ := f_take (g := g) (s := s) (l := l) (r := r) hd hI.1 hn
  exact ⟨s', e1, h1.is hd hI (fun j hj => by rw [h2]; exact hnb j hj), h1.lg hg, f1⟩
end
