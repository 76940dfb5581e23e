section
variable {g : Nat} {s s' s0 : tS} {l : tL} {r : Nat → Nat} {n p b q e k N : Nat} {u : Nat → Nat} {C C' : Co}
/-! a line of a FAMILY's text, in both -/
def cF (s s' : tS) : Prop := ∀ o j, ¬ ((o = 16 ∧ j ≠ 10) ∨ (22 ≤ o ∧ o < 30)) → ¬ (o = 48 ∧ (j = 6 ∨ j = 7)) → s' o j = s o j
def mF' (s s' : tS) : Prop := ∀ o j, ¬ (o = 288 ∧ j < 145 ∧ j ≠ 2 ∧ j ≠ 7) → ¬ (o = 287 ∧ (j = 10 ∨ j = 12)) → s' o j = s o j
theorem cF.refl : cF s s := fun _ _ _ _ => rfl
theorem cF.trans {a b c : tS} (h : cF a b) (h' : cF b c) : cF a c := fun o j x y => (h' o j x y).trans (h o j x y)
theorem cF.up {o j : Nat} {v : Int32} (h : (o = 16 ∧ j ≠ 10) ∨ (22 ≤ o ∧ o < 30) ∨ (o = 48 ∧ (j = 6 ∨ j = 7))) : cF s (up2 s o j v) := fun o' j' x y => up2_ne (by omega)
theorem mF'.refl : mF' s s := fun _ _ _ _ => rfl
theorem mF'.trans {a b c : tS} (h : mF' a b) (h' : mF' b c) : mF' a c := fun o j x y => (h' o j x y).trans (h o j x y)
theorem mF'.up {j : Nat} {v : Int32} (h : j < 145 ∧ j ≠ 2 ∧ j ≠ 7) : mF' s (up2 s 288 j v) := fun o' j' x _ => up2_ne (by omega)
theorem RT.mF (h : RT s n u) (hf : mF' s s') : RT s' n u := ⟨by rw [hf 287 11 (by omega) (by omega)]; exact h.1, h.2.1, fun j hj => by rw [hf 293 j (by omega) (by omega)]; exact h.2.2 j hj⟩
theorem ATrF.cF (h : ATrF s n u N k) (hf : cF s s') (h6 : s' 48 6 = Int32.ofNat e) (he : e ≤ N) : ATrF s' n u N e := h.fr (fun o j a b => hf o j (by omega) b) h6 he
def CRf (g n : Nat) (u : Nat → Nat) (N : Nat) (P : mMem → Option (Int32 × mMem)) (C : Co) (k : Nat) (ok : Bool) (C' : Co) (k' : Nat) : Prop := ∀ (s : tS) (l : tL) (r : Nat → Nat), Is s 16 C → ATrF s n u N k → ∃ s' C'', P (mm g s l r) = some (ib ok, mm g s' l r) ∧ cF s s' ∧ Is s' 16 C'' ∧ ATrF s' n u N k' ∧ (ok = true → C'' = C')
def MRf (g n : Nat) (u : Nat → Nat) (Q : mMem → Option (Int32 × mMem)) (C : Co) (p b : Nat) (ok : Bool) (C' : Co) (k' : Nat) : Prop := ∀ (s : tS) (l : tL) (r : Nat → Nat), Ms s C → RT s n u → ∃ s' p' b', Q (mm g (sc s p b) l r) = some (ib ok, mm g (sc s' p' b') l r) ∧ mF' s s' ∧ p' ≤ n ∧ (ok = true → Ms s' C' ∧ sk u n p' = tk u n k') ∧ (ok = false → b' = tk u n k')
/-- both take the line and come to the same, or both leave it at the same byte -/
def JL (g n : Nat) (u : Nat → Nat) (N : Nat) (P Q : mMem → Option (Int32 × mMem)) (C : Co) (k p b : Nat) : Prop := ∃ ok C' k', CRf g n u N P C k ok C' k' ∧ MRf g n u Q C p b ok C' k' ∧ (ok = true → VC C')
theorem m_num_t {lo h' : Nat} {hi : Int32} (h : RT s n u) (hp : p ≤ n) (hlo : lo < 1000) (hh : ∀ v : Nat, v < 1000 → (hi < Int32.ofNat v ↔ ¬ (v < h'))) (hq : sk u n p = q) (ht : inN u n q lo h' = true) : p12_number (ob g 287) (Int32.ofNat lo) hi (mm g (sc s p b) l r) = some (Int32.ofNat (nuV u n q), mm g (sc s (eD u n q) q) l r) := by
  have := m_number (g := g) (l := l) (r := r) (b := b) h hp (show lo < 2147483648 by omega) hh
  rw [hq] at this
  have e : (nuB u n q && decide (lo ≤ nuV u n q ∧ nuV u n q < h')) = true := ht
  rw [e, if_pos rfl] at this
  exact this
theorem m_num_f {lo h' : Nat} {hi : Int32} (h : RT s n u) (hp : p ≤ n) (hlo : lo < 1000) (hh : ∀ v : Nat, v < 1000 → (hi < Int32.ofNat v ↔ ¬ (v < h'))) (hq : sk u n p = q) (ht : inN u n q lo h' = false) : p12_number (ob g 287) (Int32.ofNat lo) hi (mm g (sc s p b) l r) = some (-1, mm g (sc s (eD u n q) q) l r) := by
  have := m_number (g := g) (l := l) (r := r) (b := b) h hp (show lo < 2147483648 by omega) hh
  rw [hq] at this
  have e : (nuB u n q && decide (lo ≤ nuV u n q ∧ nuV u n q < h')) = false := ht
  rw [e, if_neg (by decide)] at this
  exact this
theorem in_nu {lo h' : Nat} (ht : inN u n q lo h' = true) : nuB u n q = true ∧ lo ≤ nuV u n q ∧ nuV u n q < h' ∧ nuV u n q < 1000 := by
  unfold inN at ht
  rw [Bool.and_eq_true] at ht
  have := of_decide_eq_true ht.2
  exact ⟨ht.1, this.1, this.2, nuV_b ht.1⟩
theorem num_sk {lo h' : Nat} (ht : inN u n (tk u n k) lo h' = true) : sk u n (eD u n (tk u n k)) = tk u n (k + 1) ∧ tk u n k < n := by
  obtain ⟨a, b⟩ := nu_in (tk_le k) (in_nu ht).1
  refine ⟨?_, a⟩
  rw [tk_s a, b]
theorem lit_hh {m : Nat} (hm : m < 2147483647) : ∀ v : Nat, v < 1000 → (Int32.ofNat m < Int32.ofNat v ↔ ¬ (v < m + 1)) := fun v hv => (i_lt (by omega) (by omega)).trans (by omega)
theorem ms_sc (h : Ms s C) : Ms (sc s p b) C := (Ms.up (o := 287) (k := 12) (Ms.up (o := 287) (k := 10) h (by decide)) (by decide))
/-! a number of the family's own -/
def numC (g fk : Nat) (lo hi : Int32) (M : mMem) : Option (Int32 × mMem) :=
  (getI M (ob g 48) 4 6).bind fun v_6 =>
  (putI M (ob g 48) 4 6 (v_6 + 1)).bind fun M_7 =>
  (p3_tookNumber (ob g 48) lo hi M_7).bind fun q_8 =>
  if q_8.1 = 0 then
    some (0, q_8.2)
  else
    (getR q_8.2 (ob g 48) 4 8).bind fun v_9 =>
    (getI q_8.2 (ob g 48) 4 7).bind fun v_10 =>
    (putI q_8.2 v_9 3 fk v_10).bind fun M_11 =>
    some (1, M_11)
theorem rF_R8 : getR (mm g s l r) (ob g 48) 4 8 = some (ob g 16) := mm_getR k_48 (by decide +kernel) (by decide)
theorem jl_num {fk wk lo h' : Nat} {hi : Int32} (hk : k < N) (hN : N ≤ n) (hp : p ≤ n) (hs : sk u n p = tk u n (k + 1)) (hC : VC C) (hlo : lo < 1000) (hh : ∀ v : Nat, v < 1000 → (hi < Int32.ofNat v ↔ ¬ (v < h'))) (h5 : 5 ≤ fk) (h11 : fk < 10) (hw : gIx fk = wk) (hw0 : 0 < wk ∧ wk < 9 ∧ wk ≠ 2 ∧ wk ≠ 7) (hV : ∀ v, lo ≤ v → v < h' → v < 1000 → VC (stG C wk (Int32.ofNat v))) : JL g n u N (numC g fk (Int32.ofNat lo) hi) (p12_readNumber (ob g 287) (Int32.ofNat wk) (Int32.ofNat lo) hi) C k p b := by
  have b6 : ∀ {s : tS} {x : Nat}, up2 s 48 6 (Int32.ofNat x) 48 6 = Int32.ofNat x := up2_eq
  cases ok : inN u n (tk u n (k + 1)) lo h' with
  | true =>
    obtain ⟨nb, n1, n2, n3⟩ := in_nu ok
    obtain ⟨k1, k2⟩ := num_sk ok
    refine ⟨true, stG C wk (Int32.ofNat (nuV u n (tk u n (k + 1)))), k + 2, fun s l r hI hA => ?_, fun s l r hM hR => ?_, fun _ => hV _ n1 n2 n3⟩
    · have A1 := hA.go hk
      have hk2 := A1.tk.1.mpr k2
      have e6 := hA.2.2.1
      have I2 : Is (up2 (up2 (up2 s 48 6 (Int32.ofNat (k + 1))) 48 7 (Int32.ofNat (nuV u n (tk u n (k + 1))))) 48 6 (Int32.ofNat (k + 1 + 1))) 16 C := ((hI.up (o := 48) (by omega)).up (o := 48) (by omega)).up (o := 48) (by omega)
      have I3 := I2.setG (k := fk) (v := Int32.ofNat (nuV u n (tk u n (k + 1)))) h5 (show fk < 11 by omega)
      rw [hw] at I3
      have F : cF s (up2 (up2 (up2 (up2 s 48 6 (Int32.ofNat (k + 1))) 48 7 (Int32.ofNat (nuV u n (tk u n (k + 1))))) 48 6 (Int32.ofNat (k + 1 + 1))) 16 fk (Int32.ofNat (nuV u n (tk u n (k + 1))))) := ((cF.up (by omega)).trans (cF.up (by omega))).trans ((cF.up (by omega)).trans (cF.up (by omega)))
      have e7 : up2 (up2 (up2 s 48 6 (Int32.ofNat (k + 1))) 48 7 (Int32.ofNat (nuV u n (tk u n (k + 1))))) 48 6 (Int32.ofNat (k + 1 + 1)) 48 7 = Int32.ofNat (nuV u n (tk u n (k + 1))) := by rw [up2_ne (by omega), up2_eq]
      refine ⟨_, _, ?_, F, I3, hA.cF F (by rw [up2_ne (by omega), up2_eq]) (by omega), fun _ => rfl⟩
      simp only [numC, rF_I, e6, obs, rF_P, i_succ, rF_tN_t A1 hlo hh ok, one_z, if_false, rF_R8, e7, c_G I2, ib_t]
    · have e8 : (Int32.ofNat (nuV u n (tk u n (k + 1))) < 0) = False := eq_false (i_nlt0 (by omega))
      have w8 : ∀ {s : tS} {v : Int32}, astI (mm g s l r) (ob g 288) (Int32.ofNat wk) v = some (mm g (up2 s 288 wk v) l r) := w_ast (k := wk) (by omega)
      refine ⟨up2 s 288 wk (Int32.ofNat (nuV u n (tk u n (k + 1)))), eD u n (tk u n (k + 1)), tk u n (k + 1), ?_, mF'.up (by omega), rU_le (tk_le _), fun _ => ⟨hM.setG hw0.1 hw0.2.1 hw0.2.2, k1⟩, fun h => (by cases h)⟩
      simp only [p12_readNumber, w_gd, m_num_t hR hp hlo hh hs ok, obs, w_R1, e8, if_false, p12_readNumber_J29, w8, p12_readNumber_J40, bZ_1, ib_t, sc_up (show ¬ (288 = 287 ∧ (wk = 10 ∨ wk = 12)) by omega)]
  | false =>
    refine ⟨false, C, k + 1, fun s l r hI hA => ?_, fun s l r hM hR => ?_, fun h => (by cases h)⟩
    · have A1 := hA.go hk
      have e6 := hA.2.2.1
      refine ⟨_, C, ?_, cF.up (by omega), hI.up (o := 48) (by omega), A1, fun h => (by cases h)⟩
      simp only [numC, rF_I, e6, obs, rF_P, i_succ, rF_tN_f A1 hlo hh ok, if_true, ib_f]
    · have e8 : ((-1 : Int32) < 0) = True := by decide
      have w8 : ∀ {s : tS} {v : Int32}, astI (mm g s l r) (ob g 288) (Int32.ofNat wk) v = some (mm g (up2 s 288 wk v) l r) := w_ast (k := wk) (by omega)
      have w9 : ∀ {s : tS}, aldI (mm g s l r) (ob g 288) 20 (Int32.ofNat wk) = some (s 288 wk) := w_ald (k := wk) (by omega)
      refine ⟨up2 s 288 wk (sc s (eD u n (tk u n (k + 1))) (tk u n (k + 1)) 288 wk), eD u n (tk u n (k + 1)), tk u n (k + 1), ?_, mF'.up (by omega), rU_le (tk_le _), fun h => (by cases h), fun _ => rfl⟩
      simp only [p12_readNumber, w_gd, m_num_f hR hp hlo hh hs ok, obs, w_R1, e8, if_true, w9, p12_readNumber_J29, w8, p12_readNumber_J40, bZ_0, ib_f, sc_up (show ¬ (288 = 287 ∧ (wk = 10 ∨ wk = 12)) by omega)]
end
