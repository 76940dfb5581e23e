/-! sums -/
def tot (f : Nat → Int32) : Nat → Int32
  | 0 => 0
  | n + 1 => tot f n + f n
theorem iter_tot {f : Nat → Int32} : ∀ n a, iter (fun i x => x + f i) n a = a + tot f n := by
  intro n
  induction n with
  | zero => intro a; exact (Int32.add_zero a).symm
  | succ n ih =>
    intro a
    show iter (fun i x => x + f i) n a + f n = a + (tot f n + f n)
    rw [ih, Int32.add_assoc]
theorem itF_tot {f : Nat → Int32} : ∀ k i a, itF (fun i x => x + f i) k i a = a + tot (fun t => f (i + t)) k := by
  intro k
  induction k with
  | zero => intro i a; exact (Int32.add_zero a).symm
  | succ k ih =>
    intro i a
    show itF (fun i x => x + f i) k (i + 1) (a + f i) = _
    rw [ih, Int32.add_assoc]
    congr 1
    have : ∀ k, f i + tot (fun t => f (i + 1 + t)) k = tot (fun t => f (i + t)) (k + 1) := by
      intro k
      induction k with
      | zero =>
        show f i + 0 = 0 + f (i + 0)
        rw [Int32.add_zero, Int32.zero_add]
        rfl
      | succ k ih =>
        show f i + (tot (fun t => f (i + 1 + t)) k + f (i + 1 + k)) = tot (fun t => f (i + t)) (k + 1) + f (i + (k + 1))
        rw [← Int32.add_assoc, ih, show i + 1 + k = i + (k + 1) by omega]
    exact this k
theorem tot_congr {f f' : Nat → Int32} : ∀ n, (∀ i, i < n → f i = f' i) → tot f n = tot f' n := by
  intro n
  induction n with
  | zero => intro _; rfl
  | succ n ih =>
    intro h
    show tot f n + f n = tot f' n + f' n
    rw [ih (fun i hi => h i (by omega)), h n (by omega)]
theorem tot_add {f f' : Nat → Int32} : ∀ n, tot (fun i => f i + f' i) n = tot f n + tot f' n := by
  intro n
  induction n with
  | zero => rfl
  | succ n ih =>
    show tot (fun i => f i + f' i) n + (f n + f' n) = (tot f n + f n) + (tot f' n + f' n)
    rw [ih]
    ac_rfl
theorem tri {E : Nat → Nat → Int32} (hE : ∀ i j, E i j = E j i) : ∀ N, tot (fun i => tot (fun t => E i (i + 1 + t)) (N - (i + 1))) N = tot (fun i => tot (fun j => E i j) i) N := by
  intro N
  induction N with
  | zero => rfl
  | succ N ih =>
    show tot (fun i => tot (fun t => E i (i + 1 + t)) (N + 1 - (i + 1))) N + tot (fun t => E N (N + 1 + t)) (N + 1 - (N + 1)) = tot (fun i => tot (fun j => E i j) i) N + tot (fun j => E N j) N
    rw [Nat.sub_self, show tot (fun t => E N (N + 1 + t)) 0 = 0 from rfl, Int32.add_zero, ← ih]
    have e : tot (fun i => tot (fun t => E i (i + 1 + t)) (N + 1 - (i + 1))) N = tot (fun i => tot (fun t => E i (i + 1 + t)) (N - (i + 1)) + E i N) N := tot_congr N fun i hi => by
      show tot (fun t => E i (i + 1 + t)) (N + 1 - (i + 1)) = tot (fun t => E i (i + 1 + t)) (N - (i + 1)) + E i N
      rw [show N + 1 - (i + 1) = (N - (i + 1)) + 1 by omega]
      show tot (fun t => E i (i + 1 + t)) (N - (i + 1)) + E i (i + 1 + (N - (i + 1))) = _
      rw [show i + 1 + (N - (i + 1)) = N by omega]
    rw [e, tot_add]
    congr 1
    exact tot_congr N fun i hi => hE i N
section
variable {g : Nat} {s : tS} {l : tL} {r : Nat → Nat} {C : Co} {G : Lg} {L : Lw}
/-! TWINS -/
def eqA (C : Co) (i j : Nat) : Int32 := if C.2 i 0 = C.2 j 0 then 1 else 0
theorem eqA_s {i j : Nat} : eqA C i j = eqA C j i := by
  unfold eqA
  by_cases e : C.2 i 0 = C.2 j 0
  · rw [if_pos e, if_pos e.symm]
  · rw [if_neg e, if_neg (fun h => e h.symm)]
def sp_tw (C : Co) : Int32 := 0 + tot (fun i => tot (fun j => eqA C i j) i) (sz C)
theorem c_twins (h : Is s 2 C) : p11_twins (ob g 0) (mm g s l r) = some (sp_tw C) := by
  have e0 : sp_tw C = iter (fun i x => x + tot (fun t => eqA C i (i + 1 + t)) (sz C - (i + 1))) (sz C) 0 := by
    rw [iter_tot, sp_tw]
    exact congrArg (fun z => 0 + z) (tri (E := fun i j => eqA C i j) (fun i j => eqA_s) (sz C)).symm
  rw [p11_twins, a_gd, e0]
  refine it_up (fun n a i => p11_twins_L4 (mm g s l r) n (ob g 0) a i) (sz C) _ some ?_ ?_ gF 0 (sz_gF h.2.1)
  · intro n i a hi
    simp only [p11_twins_L4, a_R3, obs, c_n h, zc_yes h.2.1 hi, if_true, i_succ]
    have := it_sf (L := fun m (a' : Int32) j => p11_twins_L19 (mm g s l r) (p11_twins_J64 (mm g s l r) (p11_twins_L4 (mm g s l r) n)) m (ob g 0) a' (Int32.ofNat i) j) (R := fun _ a x => a = x) (f := fun j x => x + eqA C i j) (Q := fun B x => B = p11_twins_L4 (mm g s l r) n (ob g 0) x (Int32.ofNat (i + 1))) (N := sz C) (fun m j a' x hj hR => ⟨x + eqA C i j, rfl, by
      have hR' : a' = x := hR
      subst hR'
      by_cases e : C.2 i 0 = C.2 j 0
      · have ee : eqA C i j = 1 := by rw [eqA, if_pos e]
        simp only [p11_twins_L19, a_R3, obs, c_n h, zc_yes h.2.1 hj, if_true, c_at h hi, c_p h hi (show 0 < 9 by decide), c_at h hj, c_p h hj (show 0 < 9 by decide), e, p11_twins_J58, i_succ, ee]
      · have ee : eqA C i j = 0 := by rw [eqA, if_neg e]
        simp only [p11_twins_L19, a_R3, obs, c_n h, zc_yes h.2.1 hj, if_true, c_at h hi, c_p h hi (show 0 < 9 by decide), c_at h hj, c_p h hj (show 0 < 9 by decide), e, if_false, p11_twins_J58, i_succ, ee, Int32.add_zero]⟩) (fun m a' x hR => by
      have hR' : a' = x := hR
      subst hR'
      simp only [p11_twins_L19, a_R3, obs, c_n h, zc_no h.2.1, if_false, p11_twins_J64, i_succ]) (sz C - (i + 1)) gF (i + 1) a a (by omega) (by have := sz_gF h.2.1; omega) rfl
    rw [itF_tot] at this
    exact this
  · intro n a
    simp only [p11_twins_L4, a_R3, obs, c_n h, zc_no h.2.1, if_false]
theorem m_twins (h : Ms s C) : p12_twins_L9 gF (ob g 287) 0 0 (mm g s l r) = some (sp_tw C, mm g s l r) := by
  have e0 : sp_tw C = iter (fun i x => x + tot (fun j => eqA C i j) i) (sz C) 0 := by rw [iter_tot, sp_tw]
  rw [e0]
  refine it_up (fun n a i => p12_twins_L9 n (ob g 287) a i (mm g s l r)) (sz C) _ (fun a => some (a, mm g s l r)) ?_ ?_ gF 0 (sz_gF h.1)
  · intro n i a hi
    have hi8 := zc_8 h.1 hi
    simp only [p12_twins_L9, obs, m_people h, zc_yes h.1 hi, if_true]
    rw [← iter_tot]
    refine it_up (fun m a' j => p12_twins_L19 (p12_twins_J53 (p12_twins_L9 n)) m (ob g 287) a' (Int32.ofNat i) j (mm g s l r)) i (fun j x => x + eqA C i j) (fun a' => p12_twins_L9 n (ob g 287) a' (Int32.ofNat (i + 1)) (mm g s l r)) ?_ ?_ gF a (gF_gt (by omega))
    · intro m j a' hj
      have hj' : j < sz C := by omega
      have lt : (Int32.ofNat j < Int32.ofNat i) = True := eq_true ((i_lt (by omega) (by omega)).mpr hj)
      by_cases e : C.2 i 0 = C.2 j 0
      · have ee : eqA C i j = 1 := by rw [eqA, if_pos e]
        simp only [p12_twins_L19, lt, if_true, obs, m_of0 h hi, m_of0 h hj', e, p12_twins_J45, i_succ, ee]
      · have ee : eqA C i j = 0 := by rw [eqA, if_neg e]
        simp only [p12_twins_L19, lt, if_true, obs, m_of0 h hi, m_of0 h hj', e, if_false, p12_twins_J45, i_succ, ee]
    · intro m a'
      have nl : (Int32.ofNat i < Int32.ofNat i) = False := eq_false (fun c => Nat.lt_irrefl _ ((i_lt (by omega) (by omega)).mp c))
      simp only [p12_twins_L19, nl, if_false, p12_twins_J53, i_succ]
  · intro n a
    simp only [p12_twins_L9, obs, m_people h, zc_no h.1, if_false]
theorem op_twins : Dir1 g (fun M => p11_twins (ob g 0) M) (fun M => p12_twins (ob g 287) M) := dir1_of (sp := sp_tw) (fun s l r C h hC => c_twins h) (fun s l r C h hC => by
  have hM := h.up (o := 287) (k := 0) (v := 0) (by decide)
  simp only [p12_twins, w_gd, w_putI, obs, m_twins hM])
end
