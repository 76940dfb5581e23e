section
variable {g : Nat} {s : tS} {l : tL} {r : Nat → Nat} {C : Co} {G : Lg} {L : Lw}
/-! MATCH: what is best, and the first such -/
def mxW (v : Nat → Int) : Nat → Nat → Int
  | 0, _ => -1000000
  | n + 1, i => if v i < mxW v n (i + 1) then mxW v n (i + 1) else v i
def fsF (v : Nat → Int) : Nat → Nat → Nat
  | 0, i => i
  | n + 1, i => if v i < mxW v n (i + 1) then fsF v n (i + 1) else i
theorem mx_t {v : Nat → Int} {n i : Nat} (h : v i < mxW v n (i + 1)) : mxW v (n + 1) i = mxW v n (i + 1) ∧ fsF v (n + 1) i = fsF v n (i + 1) := ⟨if_pos h, if_pos h⟩
theorem mx_f {v : Nat → Int} {n i : Nat} (h : ¬ v i < mxW v n (i + 1)) : mxW v (n + 1) i = v i ∧ fsF v (n + 1) i = i := ⟨if_neg h, if_neg h⟩
theorem mx_ge {v : Nat → Int} : ∀ n i j, i ≤ j → j < i + n → v j ≤ mxW v n i := by
  intro n
  induction n with
  | zero => intro i j h1 h2; omega
  | succ n ih =>
    intro i j h1 h2
    simp only [mxW]
    by_cases e : i = j
    · subst e
      split <;> omega
    · have := ih (i + 1) j (by omega) (by omega)
      split <;> omega
theorem fs_at {v : Nat → Int} (hv : ∀ j, -1000000 ≤ v j) : ∀ n i, 0 < n → v (fsF v n i) = mxW v n i ∧ i ≤ fsF v n i ∧ fsF v n i < i + n ∧ ∀ j, i ≤ j → j < fsF v n i → v j < mxW v n i := by
  intro n
  induction n with
  | zero => intro i h; omega
  | succ n ih =>
    intro i _
    simp only [mxW, fsF]
    by_cases c : v i < mxW v n (i + 1)
    · rw [if_pos c, if_pos c]
      have hn : 0 < n := by
        cases n with
        | zero =>
          have := hv i
          have : mxW v 0 (i + 1) = -1000000 := rfl
          omega
        | succ n => omega
      obtain ⟨h1, h2, h3, h4⟩ := ih (i + 1) hn
      refine ⟨h1, by omega, by omega, fun j hj hj2 => ?_⟩
      by_cases e : i = j
      · subst e
        exact c
      · exact h4 j (by omega) hj2
    · rw [if_neg c, if_neg c]
      exact ⟨rfl, Nat.le_refl _, by omega, fun j h1 h2 => by omega⟩
theorem mx_fold {v : Nat → Int} {f : Nat → Int → Int} (hf : ∀ i x, f i x = if x < v i then v i else x) : ∀ n i x, -1000000 ≤ x → itF f n i x = if x < mxW v n i then mxW v n i else x := by
  intro n
  induction n with
  | zero =>
    intro i x h
    have : mxW v 0 i = -1000000 := rfl
    rw [this, if_neg (by omega)]
    rfl
  | succ n ih =>
    intro i x h
    show itF f n (i + 1) (f i x) = _
    rw [hf]
    by_cases c : x < v i
    · rw [if_pos c, ih (i + 1) _ (by omega)]
      by_cases c2 : v i < mxW v n (i + 1)
      · rw [(mx_t c2).1, if_pos c2, if_pos (by omega)]
      · rw [(mx_f c2).1, if_neg c2, if_pos c]
    · rw [if_neg c, ih (i + 1) _ h]
      by_cases c2 : v i < mxW v n (i + 1)
      · rw [(mx_t c2).1]
      · rw [(mx_f c2).1, if_neg c, if_neg (by omega)]
/-- going through all, better ones taken: the first best -/
theorem best_fold {α : Type} {val : α → Int} {V : Int} {v : Nat → Int} {cm : Nat → α} {f : Nat → α → α} (N : Nat) (hc : ∀ j, j < N → val (cm j) = V + v j ∨ v j = -1000000) (hf : ∀ i x, i < N → V - 1000000 ≤ val x → f i x = if val x < V + v i then cm i else x) : ∀ n i x, i + n ≤ N → V - 1000000 ≤ val x → itF f n i x = if val x < V + mxW v n i then cm (fsF v n i) else x := by
  intro n
  induction n with
  | zero =>
    intro i x _ h
    have : mxW v 0 i = -1000000 := rfl
    rw [this, if_neg (by omega)]
    rfl
  | succ n ih =>
    intro i x hN h
    show itF f n (i + 1) (f i x) = _
    rw [hf i x (by omega) h]
    by_cases c : val x < V + v i
    · have hv : val (cm i) = V + v i := by
        rcases hc i (by omega) with h | h
        · exact h
        · omega
      rw [if_pos c, ih (i + 1) (cm i) (by omega) (by omega), hv]
      by_cases c2 : v i < mxW v n (i + 1)
      · rw [(mx_t c2).1, (mx_t c2).2, if_pos (by omega), if_pos (by omega)]
      · rw [(mx_f c2).1, (mx_f c2).2, if_neg (by omega), if_pos c]
    · rw [if_neg c, ih (i + 1) x (by omega) h]
      by_cases c2 : v i < mxW v n (i + 1)
      · rw [(mx_t c2).1, (mx_t c2).2]
      · rw [(mx_f c2).1, (mx_f c2).2, if_neg (by omega), if_neg c]
def cp (C : Co) (b q : Nat) : Bool := decide (C.2 b 2 = 0 ∧ C.2 q 2 = 1 ∧ C.2 b 4 = -1 ∧ C.2 q 4 = -1 ∧ close C b q = false)
theorem cp_of {b q : Nat} (h : cp C b q = true) : C.2 b 2 = 0 ∧ C.2 q 2 = 1 ∧ C.2 b 4 = -1 ∧ C.2 q 4 = -1 ∧ close C b q = false := of_decide_eq_true h
theorem cp_ne {b q : Nat} (h : cp C b q = true) : b ≠ q := fun e => by
  have := cp_of h
  subst e
  have h1 := this.1
  rw [this.2.1] at h1
  exact absurd h1 (by decide)
def gI (C : Co) (b q : Nat) : Int := (gapF C b q).toInt
theorem gap_b {b q : Nat} (hC : VC C) (hb : b < sz C) (hq : q < sz C) : 0 ≤ gI C b q ∧ gI C b q ≤ 98 := by
  have h1 := (hC.2.2.2.2.2.2 b hb).1
  have h2 := (hC.2.2.2.2.2.2 q hq).1
  have hr := vc_r hC
  have z0 : (0 : Int32).toInt = 0 := rfl
  have e1 : (C.2 b 0 - C.2 q 0).toInt = (C.2 b 0).toInt - (C.2 q 0).toInt := i_tsub (by omega) (by omega)
  have e2 : (0 - (C.2 b 0 - C.2 q 0)).toInt = -((C.2 b 0).toInt - (C.2 q 0).toInt) := by rw [i_tsub] <;> omega
  unfold gI gapF
  have ha : 0 ≤ (absI (C.2 b 0 - C.2 q 0)).toInt ∧ (absI (C.2 b 0 - C.2 q 0)).toInt < (C.1 4).toInt := by
    unfold absI
    by_cases c : 0 ≤ C.2 b 0 - C.2 q 0
    · have := i_leI.mp c
      rw [if_pos c]
      omega
    · have : ¬ (0 : Int32).toInt ≤ (C.2 b 0 - C.2 q 0).toInt := fun h => c (i_leI.mpr h)
      rw [if_neg c]
      omega
  have e3 : (C.1 4 - absI (C.2 b 0 - C.2 q 0)).toInt = (C.1 4).toInt - (absI (C.2 b 0 - C.2 q 0)).toInt := i_tsub (by omega) (by omega)
  unfold minI
  by_cases c : C.1 4 - absI (C.2 b 0 - C.2 q 0) < absI (C.2 b 0 - C.2 q 0)
  · have := i_ltI.mp c
    rw [if_pos c]
    omega
  · rw [if_neg c]
    omega
def ovM' (C : Co) (f : Bs → Int) (b : Nat) (T : Bs) (q : Nat) : Int := if q = sz C then f T else if (cp C b q && !T q) = true then 1000 - gI C b q + f (stB T q) else -1000000
def wM (C : Co) : Nat → Nat → Bs → Int
  | 0, _, _ => 0
  | k + 1, b, T => mxW (ovM' C (wM C k (b + 1)) b T) (sz C + 1) 0
abbrev Mt : Type := Nat → Option Nat
def prM (m : Mt) (b q : Nat) : Mt := up1 (up1 m b (some q)) q (some b)
def fsM (C : Co) (k b : Nat) (T : Bs) : Nat := fsF (ovM' C (wM C k (b + 1)) b T) (sz C + 1) 0
def rM (C : Co) : Nat → Nat → Bs → Mt → Mt
  | 0, _, _, m => m
  | k + 1, b, T, m => if fsM C k b T = sz C then rM C k (b + 1) T m else rM C k (b + 1) (stB T (fsM C k b T)) (prM m b (fsM C k b T))
def cM (C : Co) : Nat → Nat → Bs → Int × Int
  | 0, _, _ => (0, 0)
  | k + 1, b, T => if fsM C k b T = sz C then cM C k (b + 1) T else ((cM C k (b + 1) (stB T (fsM C k b T))).1 + 1, (cM C k (b + 1) (stB T (fsM C k b T))).2 + gI C b (fsM C k b T))
theorem wM_nn : ∀ k b T, 0 ≤ wM C k b T := by
  intro k
  induction k with
  | zero => intro b T; exact Int.le_refl _
  | succ k ih =>
    intro b T
    have h1 := mx_ge (v := ovM' C (wM C k (b + 1)) b T) (sz C + 1) 0 (sz C) (by omega) (by omega)
    have h2 : ovM' C (wM C k (b + 1)) b T (sz C) = wM C k (b + 1) T := if_pos rfl
    have := ih (b + 1) T
    show 0 ≤ mxW _ _ _
    omega
theorem ov_ge (hC : VC C) {k b : Nat} {T : Bs} (hb : b < sz C) {q : Nat} (hq : q ≤ sz C) : -1000000 ≤ ovM' C (wM C k (b + 1)) b T q := by
  have h1 := wM_nn (C := C) k (b + 1) T
  have h2 := wM_nn (C := C) k (b + 1) (stB T q)
  unfold ovM'
  by_cases e : q = sz C
  · rw [if_pos e]
    omega
  · rw [if_neg e]
    have := gap_b hC hb (q := q) (by omega)
    split <;> omega
/-- the values, with no bound -/
theorem ov_all (hC : VC C) {k b : Nat} {T : Bs} (hb : b < sz C) : ∀ j, -1000000 ≤ (if j ≤ sz C then ovM' C (wM C k (b + 1)) b T j else 0) := by
  intro j
  by_cases c : j ≤ sz C
  · rw [if_pos c]
    exact ov_ge hC hb c
  · rw [if_neg c]
    omega
theorem mx_congr {v w : Nat → Int} : ∀ n i, (∀ j, i ≤ j → j < i + n → v j = w j) → mxW v n i = mxW w n i ∧ fsF v n i = fsF w n i := by
  intro n
  induction n with
  | zero => intro i _; exact ⟨rfl, rfl⟩
  | succ n ih =>
    intro i h
    obtain ⟨h1, h2⟩ := ih (i + 1) (fun j a b => h j (by omega) (by omega))
    simp only [mxW, fsF]
    rw [h1, h2, h i (by omega) (by omega)]
    exact ⟨rfl, rfl⟩
theorem fsM_ok (hC : VC C) {k b : Nat} {T : Bs} (hb : b < sz C) : ovM' C (wM C k (b + 1)) b T (fsM C k b T) = wM C (k + 1) b T ∧ fsM C k b T ≤ sz C ∧ (∀ j, j < fsM C k b T → ovM' C (wM C k (b + 1)) b T j < wM C (k + 1) b T) ∧ (fsM C k b T ≠ sz C → cp C b (fsM C k b T) = true ∧ T (fsM C k b T) = false) := by
  have e := mx_congr (v := ovM' C (wM C k (b + 1)) b T) (w := fun j => if j ≤ sz C then ovM' C (wM C k (b + 1)) b T j else 0) (sz C + 1) 0 (fun j h1 h2 => (if_pos (show j ≤ sz C by omega)).symm)
  obtain ⟨h1, h2, h3, h4⟩ := fs_at (v := fun j => if j ≤ sz C then ovM' C (wM C k (b + 1)) b T j else 0) (ov_all hC hb) (sz C + 1) 0 (by omega)
  rw [← e.1, ← e.2] at h1
  rw [← e.2] at h3
  have hle : fsM C k b T ≤ sz C := by
    unfold fsM
    omega
  have hv : ovM' C (wM C k (b + 1)) b T (fsM C k b T) = wM C (k + 1) b T := by
    have h1 : (if fsM C k b T ≤ sz C then ovM' C (wM C k (b + 1)) b T (fsM C k b T) else 0) = mxW (ovM' C (wM C k (b + 1)) b T) (sz C + 1) 0 := h1
    rw [if_pos hle] at h1
    exact h1
  refine ⟨hv, hle, fun j hj => ?_, fun hn => ?_⟩
  · have := h4 j (by omega) (by rw [← e.2]; exact hj)
    rw [← e.1] at this
    have this : (if j ≤ sz C then ovM' C (wM C k (b + 1)) b T j else 0) < mxW (ovM' C (wM C k (b + 1)) b T) (sz C + 1) 0 := this
    rw [if_pos (by omega)] at this
    exact this
  · have hw := wM_nn (C := C) (k + 1) b T
    unfold ovM' at hv
    rw [if_neg hn] at hv
    cases hc : (cp C b (fsM C k b T) && !T (fsM C k b T)) with
    | false =>
      rw [hc, if_neg (by decide)] at hv
      omega
    | true =>
      rw [Bool.and_eq_true] at hc
      refine ⟨hc.1, ?_⟩
      have := hc.2
      cases ht : T (fsM C k b T) with
      | false => rfl
      | true => rw [ht] at this; cases this
theorem cM_ok (hC : VC C) : ∀ k b T, b + k = sz C → 1000 * (cM C k b T).1 - (cM C k b T).2 = wM C k b T ∧ 0 ≤ (cM C k b T).1 ∧ (cM C k b T).1 ≤ k ∧ 0 ≤ (cM C k b T).2 ∧ (cM C k b T).2 ≤ 98 * k := by
  intro k
  induction k with
  | zero => intro b T _; exact ⟨rfl, Int.le_refl _, Int.le_refl _, Int.le_refl _, Int.le_refl _⟩
  | succ k ih =>
    intro b T h
    obtain ⟨h1, h2, h3, h4⟩ := fsM_ok (k := k) (T := T) hC (show b < sz C by omega)
    simp only [cM]
    by_cases e : fsM C k b T = sz C
    · rw [if_pos e]
      obtain ⟨i1, i2, i3, i4, i5⟩ := ih (b + 1) T (by omega)
      rw [e] at h1
      have h1' : wM C k (b + 1) T = wM C (k + 1) b T := by rw [← h1]; exact (if_pos rfl).symm
      refine ⟨by omega, by omega, by omega, by omega, by omega⟩
    · rw [if_neg e]
      obtain ⟨i1, i2, i3, i4, i5⟩ := ih (b + 1) (stB T (fsM C k b T)) (by omega)
      obtain ⟨c1, c2⟩ := h4 e
      have hg := gap_b hC (show b < sz C by omega) (q := fsM C k b T) (by omega)
      have h1' : 1000 - gI C b (fsM C k b T) + wM C k (b + 1) (stB T (fsM C k b T)) = wM C (k + 1) b T := by
        rw [← h1]
        unfold ovM'
        rw [if_neg e, c1, c2]
        exact (if_pos rfl).symm
      refine ⟨?_, ?_, ?_, ?_, ?_⟩
      · show 1000 * ((cM C k (b + 1) (stB T (fsM C k b T))).1 + 1) - ((cM C k (b + 1) (stB T (fsM C k b T))).2 + gI C b (fsM C k b T)) = _
        omega
      · show 0 ≤ (cM C k (b + 1) (stB T (fsM C k b T))).1 + 1
        omega
      · show (cM C k (b + 1) (stB T (fsM C k b T))).1 + 1 ≤ _
        omega
      · show 0 ≤ (cM C k (b + 1) (stB T (fsM C k b T))).2 + gI C b (fsM C k b T)
        omega
      · show (cM C k (b + 1) (stB T (fsM C k b T))).2 + gI C b (fsM C k b T) ≤ _
        omega
/-- whom nobody may be put to -/
theorem no_cp (hC : VC C) {k b : Nat} {T : Bs} (hb : b < sz C) (h : ∀ q, q < sz C → cp C b q = false) : fsM C k b T = sz C ∧ wM C (k + 1) b T = wM C k (b + 1) T := by
  obtain ⟨h1, h2, h3, h4⟩ := fsM_ok (k := k) (T := T) hC hb
  have e : fsM C k b T = sz C := by
    by_cases e : fsM C k b T = sz C
    · exact e
    · have := (h4 e).1
      rw [h _ (by omega)] at this
      cases this
  refine ⟨e, ?_⟩
  rw [← h1, e]
  exact if_pos rfl
end
