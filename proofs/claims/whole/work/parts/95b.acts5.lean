section
variable {g : Nat} {s : tS} {l : tL} {r : Nat → Nat} {C : Co} {G : Lg} {L : Lw}
/-! a law is taken over -/
theorem lb_apart : ∀ d ∈ lBL, ∀ c ∈ lBL, d ≠ c → d + 9 ≤ c ∨ c + 9 ≤ d := by decide
theorem c_ltake {d c : Nat} (hd : d ∈ lBL) (hc : c ∈ lBL) (hn : d ≠ c) (hL : LIs s c L) (hV : VL L) : ∃ s', p4_take (ob g d) (ob g c) (mm g s l r) = some (mm g s' l r) ∧ LIs s' d L ∧ Fr (fun o => d ≤ o ∧ o < d + 7) s s' := by
  have hap := lb_apart d hd c hc hn
  obtain ⟨a1, a2, a3, a4, a5, a6, a7, a8, a9, a10, a11⟩ := lB_one hd
  obtain ⟨b1, b2, b3, b4, b5, b6, b7, b8, b9, b10, b11⟩ := lB_one hc
  have cp : ∀ {s : tS} (k n : Nat), k < 8 → n < 2147483648 → lNn (c + 1 + k) = n → lNn (d + 1 + k) = n → cpyI (mm g s l r) (ob g (c + 1 + k)) 0 (ob g (d + 1 + k)) 0 (Int32.ofNat n) = some (mm g (cpy s (c + 1 + k) (d + 1 + k) 0 0 n) l r) := fun k n hk hb h1 h2 => mm_cpyI (sp := 0) (dp := 0) (n := n) (b2 k hk).2 (a2 k hk).2 (by omega) (by omega) (by omega) (by omega)
  have c0 : ∀ {s : tS}, cpyI (mm g s l r) (ob g (c + 1)) 0 (ob g (d + 1)) 0 12 = some (mm g (cpy s (c + 1) (d + 1) 0 0 12) l r) := cp 0 12 (by omega) (by omega) b3 a3
  have c1 : ∀ {s : tS}, cpyI (mm g s l r) (ob g (c + 2)) 0 (ob g (d + 2)) 0 12 = some (mm g (cpy s (c + 2) (d + 2) 0 0 12) l r) := cp 1 12 (by omega) (by omega) b4 a4
  have c2 : ∀ {s : tS}, cpyI (mm g s l r) (ob g (c + 3)) 0 (ob g (d + 3)) 0 12 = some (mm g (cpy s (c + 3) (d + 3) 0 0 12) l r) := cp 2 12 (by omega) (by omega) b5 a5
  have c3 : ∀ {s : tS}, cpyI (mm g s l r) (ob g (c + 4)) 0 (ob g (d + 4)) 0 12 = some (mm g (cpy s (c + 4) (d + 4) 0 0 12) l r) := cp 3 12 (by omega) (by omega) b6 a6
  have c4 : ∀ {s : tS}, cpyI (mm g s l r) (ob g (c + 5)) 0 (ob g (d + 5)) 0 400 = some (mm g (cpy s (c + 5) (d + 5) 0 0 400) l r) := cp 4 400 (by omega) (by omega) b7 a7
  have c5 : ∀ {s : tS}, cpyI (mm g s l r) (ob g (c + 6)) 0 (ob g (d + 6)) 0 400 = some (mm g (cpy s (c + 6) (d + 6) 0 0 400) l r) := cp 5 400 (by omega) (by omega) b8 a8
  have n1 : ∀ {s : tS}, lenA (mm g s l r) (ob g (d + 1)) = some 12 := by intro s; rw [mm_lenA (by rw [l_K hd (k := 0) (by decide)]; decide), a3]; rfl
  have n2 : ∀ {s : tS}, lenA (mm g s l r) (ob g (d + 2)) = some 12 := by intro s; rw [mm_lenA (by rw [l_K hd (k := 1) (by decide)]; decide), a4]; rfl
  have n3 : ∀ {s : tS}, lenA (mm g s l r) (ob g (d + 3)) = some 12 := by intro s; rw [mm_lenA (by rw [l_K hd (k := 2) (by decide)]; decide), a5]; rfl
  have n4 : ∀ {s : tS}, lenA (mm g s l r) (ob g (d + 4)) = some 12 := by intro s; rw [mm_lenA (by rw [l_K hd (k := 3) (by decide)]; decide), a6]; rfl
  have n5 : ∀ {s : tS}, lenA (mm g s l r) (ob g (d + 5)) = some 400 := l_n5 hd
  have n6 : ∀ {s : tS}, lenA (mm g s l r) (ob g (d + 6)) = some 400 := by intro s; rw [mm_lenA (by rw [l_K hd (k := 5) (by decide)]; decide), a8]; rfl
  rw [p4_take, l_gd hd]
  simp only [l_R0 hd, l_R1 hd, l_R2 hd, l_R3 hd, l_R4 hd, l_R5 hd, l_R0 hc, l_R1 hc, l_R2 hc, l_R3 hc, l_R4 hc, l_R5 hc, obs, n1, n2, n3, n4, n5, n6, c0, c1, c2, c3, c4, c5, l_I hc, l_P hd]
  refine ⟨_, rfl, ?_, ?_⟩
  · have un : ∀ {s : tS} {x o y z n : Nat} {k : Nat}, o ≠ z → cpy s x z y y n o k = s o k := fun ho => by rw [cpy, up1_ne ho]
    have ue : ∀ {s : tS} {x z n : Nat} {k : Nat}, k < n → cpy s x z 0 0 n z k = s x k := fun hk => by
      rw [cpy, up1_eq]
      show (if 0 ≤ _ ∧ _ < 0 + _ then _ else _) = _
      rw [if_pos (by omega)]
      congr 1
      omega
    have uc : ∀ {s : tS} {k : Nat} {v : Int32} {j o : Nat}, o ≠ d → up2 s d k v o j = s o j := fun ho => up2_ne (by omega)
    obtain ⟨h1, h2⟩ := hL
    have hV12 := hV.1
    refine ⟨?_, fun i hi => ?_⟩
    · rw [up2_eq, uc (by omega), un (by omega), un (by omega), un (by omega), un (by omega), un (by omega), un (by omega)]
      exact h1
    · obtain ⟨k1, k2, k3, k4, k5⟩ := h2 i hi
      obtain ⟨-, -, -, v1, v2, -⟩ := hV.2.2 i hi
      refine ⟨?_, ?_, ?_, ?_, fun j x y => ⟨?_, ?_⟩⟩
      · rw [uc (by omega), uc (by omega), un (by omega), un (by omega), un (by omega), un (by omega), un (by omega), ue (by omega)]
        exact k1
      · rw [uc (by omega), uc (by omega), un (by omega), un (by omega), un (by omega), un (by omega), ue (by omega), un (by omega)]
        exact k2
      · rw [uc (by omega), uc (by omega), un (by omega), un (by omega), un (by omega), ue (by omega), un (by omega), un (by omega)]
        exact k3
      · rw [uc (by omega), uc (by omega), un (by omega), un (by omega), ue (by omega), un (by omega), un (by omega), un (by omega)]
        exact k4
      · rw [uc (by omega), uc (by omega), un (by omega), ue (by omega), un (by omega), un (by omega), un (by omega), un (by omega)]
        exact (k5 j x y).1
      · rw [uc (by omega), uc (by omega), ue (by omega), un (by omega), un (by omega), un (by omega), un (by omega), un (by omega)]
        exact (k5 j x y).2
  · have uu : ∀ {a : tS} {o k : Nat} {v : Int32}, (d ≤ o ∧ o < d + 7) → Fr (fun o => d ≤ o ∧ o < d + 7) a (up2 a o k v) := fun ho => Fr.up ho
    have uc : ∀ {a : tS} {x o y z n : Nat}, (d ≤ o ∧ o < d + 7) → Fr (fun o => d ≤ o ∧ o < d + 7) a (cpy a x o y z n) := fun ho q hq => up1_ne (fun e => hq (e ▸ ho))
    exact ((((((((uc (by omega)).trans (uc (by omega))).trans (uc (by omega))).trans (uc (by omega))).trans (uc (by omega))).trans (uc (by omega))).trans (uu (by omega))).trans (uu (by omega)))
end
