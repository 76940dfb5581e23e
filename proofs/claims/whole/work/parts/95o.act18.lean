/-! LED -/
def cD (G : Lg) (x : Int32) : Nat → Int32
  | 0 => 0
  | k + 1 => if G.2 k 2 = x then cD G x k + 1 else cD G x k
def ldF (G : Lg) (x : Int32) : Nat → Int32 → Int32
  | 0, d => d
  | k + 1, d => ldF G x k (if G.2 k 2 = x then G.2 k 0 else d)
def upF (G : Lg) (x : Int32) (d : Int32) : Nat → Nat → Int32
  | 0, _ => d
  | k + 1, i => if G.2 i 2 = x then G.2 i 0 else upF G x d k (i + 1)
theorem upF_last {G : Lg} {x : Int32} : ∀ k d i, upF G x d (k + 1) i = upF G x (if G.2 (i + k) 2 = x then G.2 (i + k) 0 else d) k i := by
  intro k
  induction k with
  | zero => intro d i; rfl
  | succ k ih =>
    intro d i
    show (if G.2 i 2 = x then G.2 i 0 else upF G x d (k + 1) (i + 1)) = (if G.2 i 2 = x then G.2 i 0 else upF G x _ k (i + 1))
    rw [ih, show i + 1 + k = i + (k + 1) by omega]
theorem upF_ld {G : Lg} {x : Int32} : ∀ k d, upF G x d k 0 = ldF G x k d := by
  intro k
  induction k with
  | zero => intro d; rfl
  | succ k ih =>
    intro d
    rw [upF_last, ih, Nat.zero_add]
    rfl
theorem cD_iter {G : Lg} {x : Int32} : ∀ k, iter (fun i a => if G.2 i 2 = x then a + 1 else a) k 0 = cD G x k := by
  intro k
  induction k with
  | zero => rfl
  | succ k ih =>
    show (if G.2 k 2 = x then iter (fun i a => if G.2 i 2 = x then a + 1 else a) k 0 + 1 else iter (fun i a => if G.2 i 2 = x then a + 1 else a) k 0) = _
    rw [ih]
    rfl
section
variable {g b : Nat} {s : tS} {l : tL} {r : Nat → Nat} {C : Co} {G : Lg} {L : Lw}
theorem c_rows {x : Int32} (h : Is s b C) (hG : LgC s b G) : p6_rowsTo (ob g (b + 4)) x (mm g s l r) = some (cD G x G.1) := by
  have hn := c_logn (g := g) (l := l) (r := r) h hG
  have h60 := hG.2.1
  rw [p6_rowsTo, f_loggd h.1, ← cD_iter]
  refine it_up (fun n a i => p6_rowsTo_L4 (mm g s l r) n (ob g (b + 4)) x a i) G.1 _ some ?_ ?_ gF 0 (gF_gt (by omega))
  · intro n i a hi
    have lk : (Int32.ofNat i < Int32.ofNat G.1) = True := eq_true ((i_lt (by omega) (by omega)).mpr hi)
    have v2 : p6_cell (ob g (b + 4)) (Int32.ofNat i) 2 (mm g s l r) = some (G.2 i 2) := c_cell h hG hi (j := 2) (by decide)
    by_cases e2 : G.2 i 2 = x
    · simp only [p6_rowsTo_L4, hn, obs, lk, if_true, v2, e2, p6_rowsTo_J25, i_succ]
    · simp only [p6_rowsTo_L4, hn, obs, lk, if_true, v2, e2, if_false, p6_rowsTo_J25, i_succ]
  · intro n a
    have lk : (Int32.ofNat G.1 < Int32.ofNat G.1) = False := eq_false (fun c => Nat.lt_irrefl _ ((i_lt (by omega) (by omega)).mp c))
    simp only [p6_rowsTo_L4, hn, obs, lk, if_false]
theorem c_latest {x : Int32} (h : Is s b C) (hG : LgC s b G) : p6_latestDayTo (ob g (b + 4)) x (mm g s l r) = some (ldF G x G.1 (-1)) := by
  have hn := c_logn (g := g) (l := l) (r := r) h hG
  have h60 := hG.2.1
  rw [p6_latestDayTo, f_loggd h.1, ← upF_ld]
  have key : ∀ (k i fuel : Nat), i + k = G.1 → k < fuel → p6_latestDayTo_L2 (mm g s l r) fuel (ob g (b + 4)) x (Int32.ofNat i) = some (upF G x (-1) k i) := by
    intro k
    induction k with
    | zero =>
      intro i fuel h1 h2
      obtain ⟨n, rfl⟩ : ∃ n, fuel = n + 1 := ⟨fuel - 1, by omega⟩
      have lk : (Int32.ofNat i < Int32.ofNat G.1) = False := eq_false (fun c => by have := (i_lt (by omega) (by omega)).mp c; omega)
      simp only [p6_latestDayTo_L2, hn, obs, lk, if_false, upF]
    | succ k ih =>
      intro i fuel h1 h2
      obtain ⟨n, rfl⟩ : ∃ n, fuel = n + 1 := ⟨fuel - 1, by omega⟩
      have hi : i < G.1 := by omega
      have lk : (Int32.ofNat i < Int32.ofNat G.1) = True := eq_true ((i_lt (by omega) (by omega)).mpr hi)
      have v2 : p6_cell (ob g (b + 4)) (Int32.ofNat i) 2 (mm g s l r) = some (G.2 i 2) := c_cell h hG hi (j := 2) (by decide)
      have v0 : p6_cell (ob g (b + 4)) (Int32.ofNat i) 0 (mm g s l r) = some (G.2 i 0) := c_cell h hG hi (j := 0) (by decide)
      by_cases e2 : G.2 i 2 = x
      · simp only [p6_latestDayTo_L2, hn, obs, lk, if_true, v2, v0, e2, upF]
      · simp only [p6_latestDayTo_L2, hn, obs, lk, if_true, v2, e2, if_false, i_succ, ih (i + 1) n (by omega) (by omega), upF]
  exact key G.1 0 gF (by omega) (gF_gt (by omega))
theorem m_led {x y : Int32} (hG : LgM (s 288) G) : ∀ (k fuel : Nat) (a d : Int32), k ≤ G.1 → k < fuel → p12_led_L36 p12_led_J73 fuel (ob g 287) x y a d (Int32.ofNat k - 1) (mm g s l r) = p12_led_J73 y (a + cD G x k) (ldF G x k d) (mm g s l r) := by
  have h60 := hG.2.1
  intro k
  induction k with
  | zero =>
    intro fuel a d h1 h2
    obtain ⟨n, rfl⟩ : ∃ n, fuel = n + 1 := ⟨fuel - 1, by omega⟩
    have lk : (Int32.ofNat 0 - 1 < 0) = True := eq_true (by decide)
    simp only [p12_led_L36, lk, if_true, cD, ldF, Int32.add_zero]
  | succ k ih =>
    intro fuel a d h1 h2
    obtain ⟨n, rfl⟩ : ∃ n, fuel = n + 1 := ⟨fuel - 1, by omega⟩
    have ek : Int32.ofNat (k + 1) - 1 = Int32.ofNat k := i_sub1 (by omega) (by omega)
    have em : Int32.ofNat k + (-1) = Int32.ofNat k - 1 := i_ext (by
      have tk : (Int32.ofNat k).toInt = (k : Int) := i_toInt (by omega)
      have o1 : (1 : Int32).toInt = 1 := rfl
      have o2 : (-1 : Int32).toInt = -1 := rfl
      rw [i_tadd, i_tsub] <;> omega)
    have lk : (Int32.ofNat k < 0) = False := eq_false (fun c => by
      have := i_ltI.mp c
      rw [i_toInt (by omega), show (0 : Int32).toInt = 0 from rfl] at this
      omega)
    have v2 : p12_ofLog (ob g 287) (Int32.ofNat k) 2 (mm g s l r) = some (G.2 k 2) := m_ofLog hG (by omega) (j := 2) (by decide)
    have v0 : p12_ofLog (ob g 287) (Int32.ofNat k) 0 (mm g s l r) = some (G.2 k 0) := m_ofLog hG (by omega) (j := 0) (by decide)
    rw [ek]
    by_cases e2 : G.2 k 2 = x
    · have ec : a + cD G x (k + 1) = a + 1 + cD G x k := by
        rw [cD, if_pos e2]
        ac_rfl
      have el : ldF G x (k + 1) d = ldF G x k (G.2 k 0) := by rw [ldF, if_pos e2]
      rw [ec, el, ← ih n (a + 1) (G.2 k 0) (by omega) (by omega)]
      simp only [p12_led_L36, lk, if_false, v2, v0, obs, e2, if_true, p12_led_J67, em]
    · have ec : cD G x (k + 1) = cD G x k := by rw [cD, if_neg e2]
      have el : ldF G x (k + 1) d = ldF G x k d := by rw [ldF, if_neg e2]
      rw [ec, el, ← ih n a d (by omega) (by omega)]
      simp only [p12_led_L36, lk, if_false, v2, obs, e2, p12_led_J67, em]
theorem op_led {x1 : Int32} {x2 : Bool} : Op g H_led (fun M => (p11_led (ob g 0) x1 (ib x2) M).map (fun z => match z with | .inl e => .inl e | .inr v => .inr (v, M))) (fun M => p12_led (ob g 287) x1 (ib x2) M) := by
  refine opP2 (x := x1) (by decide) (fun s l r h => ?_) (fun s l r h => ⟨0, ?_⟩) (fun s l r C G L i hI hc hi ex h hn => Or.inr ?_)
  · simp only [p11_led, a_gd, h, xb, Option.map_some]
  · simp only [p12_led, w_gd, w_putI, obs, h, m_th1, one_z, if_false]
  · have h1 := hc.1.1
    have gC := hc.1.2.1
    have h60 := gC.2.1
    have gM : LgM (up2 s 287 0 0 288) G := by
      have u288 : up2 s 287 0 0 288 = s 288 := funext fun j => up2_ne (by omega)
      rw [u288]
      exact hc.1.2.2.2.1
    have MA := m287 hc.1.2.2.1 (v := 0)
    have hR3 : getR (mm g s l r) (ob g 2) 3 3 = some (ob g (2 + 4)) := f_R3 h1.1
    have z_add : (0 : Int32) + cD G x1 G.1 = cD G x1 G.1 := Int32.zero_add _
    cases x2 with
    | false =>
      refine ⟨cD G x1 G.1, s, r, ?_, fun l1 => ⟨up2 s 287 0 0, ?_, up2_eq, hI.rs rs_thr⟩⟩
      · simp only [p11_led, a_gd, h, xb, ib_f, if_true, a_R3, obs, hR3, c_rows h1 gC, p11_led_J34, xr, Option.map_some]
      · simp only [p12_led, w_gd, w_putI, obs, hn _ _ _ MA, m_th0, if_true, w_R1, m_logn gM, m_led gM G.1 gF 0 (-1) (Nat.le_refl _) (gF_gt (by omega)), ib_f, p12_led_J73, p12_led_J83, z_add]
    | true =>
      refine ⟨ldF G x1 G.1 (-1), s, r, ?_, fun l1 => ⟨up2 s 287 0 0, ?_, up2_eq, hI.rs rs_thr⟩⟩
      · simp only [p11_led, a_gd, h, xb, ib_t, one_z, if_false, a_R3, obs, hR3, c_latest h1 gC, p11_led_J34, xr, Option.map_some]
      · simp only [p12_led, w_gd, w_putI, obs, hn _ _ _ MA, m_th0, if_true, w_R1, m_logn gM, m_led gM G.1 gF 0 (-1) (Nat.le_refl _) (gF_gt (by omega)), ib_t, one_z, if_false, p12_led_J73, p12_led_J83]
end
