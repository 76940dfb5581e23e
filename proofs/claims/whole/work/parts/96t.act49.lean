section
variable {g : Nat} {s s' s0 : tS} {l : tL} {r : Nat → Nat} {n p b q e k N : Nat} {u : Nat → Nat} {M : mMem}
/-! the reader of object 48: what is next -/
def ATrF (s : tS) (n : Nat) (u : Nat → Nat) (N k : Nat) : Prop := RDrF s n u N ∧ k ≤ N ∧ s 48 6 = Int32.ofNat k ∧ n ≤ 400 ∧ ∀ j, j < n → u j < 256
theorem ATrF.fr (h : ATrF s n u N k) (hf : ∀ o j, (o = 48 ∨ o = 49 ∨ o = 50 ∨ o = 51) → ¬ (o = 48 ∧ (j = 6 ∨ j = 7)) → s' o j = s o j) (h6 : s' 48 6 = Int32.ofNat e) (he : e ≤ N) : ATrF s' n u N e := by
  obtain ⟨⟨a1, a2, a3, a4, a5⟩, -, -, b3, b4⟩ := h
  refine ⟨⟨a1, a2, by rw [hf 48 4 (by omega) (by omega)]; exact a3, by rw [hf 48 5 (by omega) (by omega)]; exact a4, fun k hk => ?_⟩, he, h6, b3, b4⟩
  rw [hf 49 k (by omega) (by omega), hf 50 k (by omega) (by omega), hf 51 k (by omega) (by omega)]
  exact a5 k hk
theorem ATrF.go (h : ATrF s n u N k) (hk : k < N) : ATrF (up2 s 48 6 (Int32.ofNat (k + 1))) n u N (k + 1) := h.fr (fun o j _ h2 => up2_ne (by omega)) up2_eq hk
theorem ATrF.tk (h : ATrF s n u N k) : (k < N ↔ tk u n k < n) ∧ (k = N ↔ tk u n k = n) := by
  obtain ⟨⟨a1, a2, a3, a4, a5⟩, b1, -, -, -⟩ := h
  by_cases c : k < N
  · have := (a5 k c).1
    omega
  · have e : k = N := by omega
    rw [e, a2]
    omega
theorem rF_next (h : ATrF s n u N k) : p3_next (ob g 48) (mm g s l r) = some (Int32.ofNat (th u n (tk u n k))) := by
  obtain ⟨⟨a1, a2, a3, a4, a5⟩, b1, b2, b3, b4⟩ := h
  have c0 : (Int32.ofNat k < 0) = False := eq_false (i_nlt0 (by omega))
  by_cases c : k < N
  · have c4 : (Int32.ofNat k < 400) = True := eq_true ((i_lt (b := 400) (by omega) (by decide)).mpr (by omega))
    simp only [p3_next, rF_gd, rF_I, b2, obs, c0, if_false, a3, ltNN (show k < 2147483648 by omega) (show N < 2147483648 by omega), c, if_true, rF_R0, rF_lt, c4, rF_at (show k < 400 by omega), (a5 k c).2.1, p3_next_J43]
  · have e : k = N := by omega
    have t1 : th u n (tk u n k) = 1 := (th_1 (by rw [e, a2]; exact Nat.le_refl _)).mpr (by rw [e, a2])
    rw [t1]
    simp only [p3_next, rF_gd, rF_I, b2, obs, c0, if_false, a3, ltNN (show k < 2147483648 by omega) (show N < 2147483648 by omega), c, p3_next_J42, p3_next_J43]
    rfl
theorem rF_num (h : ATrF s n u N k) : p3_numberOfNext (ob g 48) (mm g s l r) = some (Int32.ofNat (nu u n (tk u n k))) := by
  obtain ⟨⟨a1, a2, a3, a4, a5⟩, b1, b2, b3, b4⟩ := h
  have c0 : (Int32.ofNat k < 0) = False := eq_false (i_nlt0 (by omega))
  by_cases c : k < N
  · have c4 : (Int32.ofNat k < 400) = True := eq_true ((i_lt (b := 400) (by omega) (by decide)).mpr (by omega))
    simp only [p3_numberOfNext, rF_gd, rF_I, b2, obs, c0, if_false, a3, ltNN (show k < 2147483648 by omega) (show N < 2147483648 by omega), c, if_true, rF_R2, rF_ln, c4, rF_an (show k < 400 by omega), (a5 k c).2.2.2, p3_numberOfNext_J43]
  · have e : k = N := by omega
    have t1 : nu u n (tk u n k) = 0 := by rw [e, a2, nu_n]
    rw [t1]
    simp only [p3_numberOfNext, rF_gd, rF_I, b2, obs, c0, if_false, a3, ltNN (show k < 2147483648 by omega) (show N < 2147483648 by omega), c, p3_numberOfNext_J42, p3_numberOfNext_J43]
    rfl
theorem rF_beg (h : ATrF s n u N k) : p3_beginOfNext (ob g 48) (mm g s l r) = some (Int32.ofNat (tk u n k)) := by
  obtain ⟨⟨a1, a2, a3, a4, a5⟩, b1, b2, b3, b4⟩ := h
  have c0 : (Int32.ofNat k < 0) = False := eq_false (i_nlt0 (by omega))
  by_cases c : k < N
  · have c4 : (Int32.ofNat k < 400) = True := eq_true ((i_lt (b := 400) (by omega) (by decide)).mpr (by omega))
    simp only [p3_beginOfNext, rF_gd, rF_I, b2, obs, c0, if_false, a3, ltNN (show k < 2147483648 by omega) (show N < 2147483648 by omega), c, if_true, rF_R1, rF_lb, c4, rF_ab (show k < 400 by omega), (a5 k c).2.2.1, p3_beginOfNext_J46]
  · have e : k = N := by omega
    have t1 : tk u n k = n := by rw [e, a2]
    rw [t1]
    simp only [p3_beginOfNext, rF_gd, rF_I, b2, obs, c0, if_false, a3, ltNN (show k < 2147483648 by omega) (show N < 2147483648 by omega), c, p3_beginOfNext_J42, a4, p3_beginOfNext_J46]
theorem rF_eq {c : Nat} (h : ATrF s n u N k) (hc : c < 256) : (Int32.ofNat (th u n (tk u n k)) = Int32.ofNat c) = (th u n (tk u n k) = c) := propext (i_eq (by have := th_b (q := tk u n k) h.2.2.2.2; omega) (by omega))
theorem rF_took_t {c : Nat} (h : ATrF s n u N k) (ht : th u n (tk u n k) = c) : p3_took (ob g 48) (Int32.ofNat c) (mm g s l r) = some (1, mm g (up2 s 48 6 (Int32.ofNat (k + 1))) l r) := by
  have b2 := h.2.2.1
  simp only [p3_took, rF_gd, rF_next h, obs, ht, if_true, rF_I, b2, rF_P, i_succ]
theorem rF_took_f {c : Nat} (h : ATrF s n u N k) (hc : c < 256) (ht : th u n (tk u n k) ≠ c) : p3_took (ob g 48) (Int32.ofNat c) (mm g s l r) = some (0, mm g s l r) := by
  have e : (Int32.ofNat (th u n (tk u n k)) = Int32.ofNat c) = False := by rw [rF_eq h hc]; exact eq_false ht
  simp only [p3_took, rF_gd, rF_next h, obs, e, if_false]
def inN (u : Nat → Nat) (n q lo h' : Nat) : Bool := nuB u n q && decide (lo ≤ nuV u n q ∧ nuV u n q < h')
theorem rF_tN_t {lo h' : Nat} {hi : Int32} (h : ATrF s n u N k) (hlo : lo < 1000) (hh : ∀ v : Nat, v < 1000 → (hi < Int32.ofNat v ↔ ¬ (v < h'))) (ht : inN u n (tk u n k) lo h' = true) : p3_tookNumber (ob g 48) (Int32.ofNat lo) hi (mm g s l r) = some (1, mm g (up2 (up2 s 48 7 (Int32.ofNat (nuV u n (tk u n k)))) 48 6 (Int32.ofNat (k + 1))) l r) := by
  have b2 := h.2.2.1
  unfold inN at ht
  rw [Bool.and_eq_true] at ht
  have h2 := of_decide_eq_true ht.2
  have hv := nuV_b ht.1
  have e2 : (Int32.ofNat (th u n (tk u n k)) = 2) = True := eq_true (congrArg Int32.ofNat (th_2.mpr ht.1))
  have l1 : (Int32.ofNat (nuV u n (tk u n k)) < Int32.ofNat lo) = False := eq_false (fun hh => by have := (i_lt (by omega) (by omega)).mp hh; omega)
  have l2 : (hi < Int32.ofNat (nuV u n (tk u n k))) = False := eq_false (fun x => ((hh _ hv).mp x) h2.2)
  have b2' : up2 s 48 7 (Int32.ofNat (nuV u n (tk u n k))) 48 6 = Int32.ofNat k := by rw [up2_ne (by omega)]; exact b2
  simp only [p3_tookNumber, rF_gd, rF_num h, rF_next h, obs, e2, if_true, nu_v ht.1, l1, if_false, l2, rF_P, rF_I, b2', i_succ]
theorem rF_tN_f {lo h' : Nat} {hi : Int32} (h : ATrF s n u N k) (hlo : lo < 1000) (hh : ∀ v : Nat, v < 1000 → (hi < Int32.ofNat v ↔ ¬ (v < h'))) (ht : inN u n (tk u n k) lo h' = false) : p3_tookNumber (ob g 48) (Int32.ofNat lo) hi (mm g s l r) = some (0, mm g s l r) := by
  cases hb : nuB u n (tk u n k) with
  | false =>
    have e2 : (Int32.ofNat (th u n (tk u n k)) = 2) = False := by
      have := rF_eq (c := 2) h (by decide)
      have e : (Int32.ofNat 2 : Int32) = 2 := rfl
      rw [e] at this
      rw [this]
      exact eq_false (fun x => by rw [th_2.mp x] at hb; cases hb)
    simp only [p3_tookNumber, rF_gd, rF_num h, rF_next h, obs, e2, if_false, p3_tookNumber_J23]
  | true =>
    unfold inN at ht
    rw [hb, Bool.true_and] at ht
    have h2 := of_decide_eq_false ht
    have hv := nuV_b hb
    have e2 : (Int32.ofNat (th u n (tk u n k)) = 2) = True := eq_true (congrArg Int32.ofNat (th_2.mpr hb))
    have l1 : (Int32.ofNat (nuV u n (tk u n k)) < Int32.ofNat lo) = (nuV u n (tk u n k) < lo) := ltNN (by omega) (by omega)
    by_cases c : nuV u n (tk u n k) < lo
    · simp only [p3_tookNumber, rF_gd, rF_num h, rF_next h, obs, e2, if_true, nu_v hb, l1, c, p3_tookNumber_J23]
    · have l2 : (hi < Int32.ofNat (nuV u n (tk u n k))) = True := eq_true ((hh _ hv).mpr (by omega))
      simp only [p3_tookNumber, rF_gd, rF_num h, rF_next h, obs, e2, if_true, nu_v hb, l1, c, if_false, l2, p3_tookNumber_J23]
end
