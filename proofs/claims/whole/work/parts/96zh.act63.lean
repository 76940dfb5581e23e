section
variable {g : Nat} {s s' s0 : tS} {l : tL} {r : Nat → Nat} {n p b q e k N : Nat} {u : Nat → Nat}
/-! what a condition puts: kinds, numbers, how many; in both -/
abbrev Dq : Type := (Nat → Nat) × (Nat → Int32) × Nat
def dqO (D : Dq) : Nat → Nat := D.1
def dqV (D : Dq) : Nat → Int32 := D.2.1
def dqZ (D : Dq) : Nat := D.2.2
def dqP (D : Dq) (o : Nat) (v : Int32) : Dq := (up1 (dqO D) (dqZ D) o, up1 (dqV D) (dqZ D) v, dqZ D + 1)
theorem dqP_z {D : Dq} {o : Nat} {v : Int32} : dqZ (dqP D o v) = dqZ D + 1 := rfl
def DqC (s : tS) (D : Dq) : Prop := s 39 8 = Int32.ofNat (dqZ D) ∧ ∀ j, j < dqZ D → s 44 j = Int32.ofNat (clS (dqO D j)) ∧ s 45 j = dqV D j
def DqM (s : tS) (D : Dq) : Prop := s 287 16 = Int32.ofNat (dqZ D) ∧ ∀ j, j < dqZ D → s 288 (1343 + 2 * j) = Int32.ofNat (dqO D j) ∧ s 288 (1343 + 2 * j + 1) = dqV D j
def cLq (s s' : tS) : Prop := ∀ o j, ¬ (o = 39 ∧ j = 8) → ¬ (o = 44 ∨ o = 45) → ¬ (o = 52 ∧ (j = 6 ∨ j = 7)) → s' o j = s o j
def mLq (s s' : tS) : Prop := ∀ o j, ¬ (o = 288 ∧ 1343 ≤ j) → ¬ (o = 287 ∧ (j = 10 ∨ j = 12 ∨ j = 13 ∨ j = 16)) → s' o j = s o j
theorem cLq.refl : cLq s s := fun _ _ _ _ _ => rfl
theorem cLq.trans {a b c : tS} (h : cLq a b) (h' : cLq b c) : cLq a c := fun o j x y z => (h' o j x y z).trans (h o j x y z)
theorem cLq.up {o j : Nat} {v : Int32} (h : (o = 39 ∧ j = 8) ∨ o = 44 ∨ o = 45 ∨ (o = 52 ∧ (j = 6 ∨ j = 7))) : cLq s (up2 s o j v) := fun o' j' x y z => up2_ne (by omega)
theorem mLq.refl : mLq s s := fun _ _ _ _ => rfl
theorem mLq.trans {a b c : tS} (h : mLq a b) (h' : mLq b c) : mLq a c := fun o j x y => (h' o j x y).trans (h o j x y)
theorem mLq.up {o j : Nat} {v : Int32} (h : (o = 288 ∧ 1343 ≤ j) ∨ (o = 287 ∧ (j = 10 ∨ j = 12 ∨ j = 13 ∨ j = 16))) : mLq s (up2 s o j v) := fun o' j' x y => up2_ne (by omega)
theorem RT.fq (h : RT s n u) (hf : mLq s s') : RT s' n u := ⟨by rw [hf 287 11 (by omega) (by omega)]; exact h.1, h.2.1, fun j hj => by rw [hf 293 j (by omega) (by omega)]; exact h.2.2 j hj⟩
theorem ATrL.fq (h : ATrL s n u N k) (hf : cLq s s') (h6 : s' 52 6 = Int32.ofNat e) (he : e ≤ N) : ATrL s' n u N e := h.fr (fun o j a b => hf o j (by omega) (by omega) b) h6 he
theorem DqC.up {D : Dq} {o j : Nat} {v : Int32} (h : DqC s D) (ho : o ≠ 39 ∧ o ≠ 44 ∧ o ≠ 45) : DqC (up2 s o j v) D := ⟨by rw [up2_ne (by omega)]; exact h.1, fun i hi => by rw [up2_ne (by omega), up2_ne (by omega)]; exact h.2 i hi⟩
theorem DqM.up {D : Dq} {o j : Nat} {v : Int32} (h : DqM s D) (ho : o ≠ 288 ∧ ¬ (o = 287 ∧ j = 16)) : DqM (up2 s o j v) D := ⟨by rw [up2_ne (by omega)]; exact h.1, fun i hi => by rw [up2_ne (by omega), up2_ne (by omega)]; exact h.2 i hi⟩
theorem lq_put {D : Dq} {o : Nat} {x v : Int32} (h : DqC s D) (hz : dqZ D < 400) (hx : x = Int32.ofNat (clS o)) : ∃ s', p4_put (ob g 39) x v (mm g s l r) = some (mm g s' l r) ∧ cLq s s' ∧ DqC s' (dqP D o v) ∧ (∀ k, ATrL s n u N k → ATrL s' n u N k) := by
  obtain ⟨h8, hj⟩ := h
  have c0 : (Int32.ofNat (dqZ D) < 0) = False := eq_false (i_nlt0 (by omega))
  have c4 : (Int32.ofNat (dqZ D) < 400) = True := eq_true ((i_lt (b := 400) (by omega) (by decide)).mpr hz)
  have st5 : ∀ {s : tS} {v : Int32}, astI (mm g s l r) (ob g 44) (Int32.ofNat (dqZ D)) v = some (mm g (up2 s 44 (dqZ D) v) l r) := mm_astI (l_K m39 (k := 4) (by decide)) (lB_one m39).2.2.2.2.2.2.1 hz (by decide)
  have st6 : ∀ {s : tS} {v : Int32}, astI (mm g s l r) (ob g 45) (Int32.ofNat (dqZ D)) v = some (mm g (up2 s 45 (dqZ D) v) l r) := mm_astI (l_K m39 (k := 5) (by decide)) (lB_one m39).2.2.2.2.2.2.2.1 hz (by decide)
  have r4 : ∀ {s : tS}, getR (mm g s l r) (ob g 39) 5 4 = some (ob g 44) := l_R4 m39
  have r5 : ∀ {s : tS}, getR (mm g s l r) (ob g 39) 5 5 = some (ob g 45) := l_R5 m39
  have n5 : ∀ {s : tS}, lenA (mm g s l r) (ob g 44) = some 400 := l_n5 m39
  have F : cLq s (up2 (up2 (up2 s 44 (dqZ D) x) 45 (dqZ D) v) 39 8 (Int32.ofNat (dqZ D + 1))) := ((cLq.up (by omega)).trans (cLq.up (by omega))).trans (cLq.up (by omega))
  have e1 : up2 s 44 (dqZ D) x 39 8 = Int32.ofNat (dqZ D) := by rw [up2_ne (by omega)]; exact h8
  have e2 : up2 (up2 s 44 (dqZ D) x) 45 (dqZ D) v 39 8 = Int32.ofNat (dqZ D) := by rw [up2_ne (by omega)]; exact e1
  refine ⟨_, ?_, F, ⟨up2_eq, fun j hjz => ?_⟩, fun k hA => hA.fq F (by rw [up2_ne (by omega), up2_ne (by omega), up2_ne (by omega)]; exact hA.2.2.1) hA.2.1⟩
  · simp only [p4_put, l_gd m39, l_I m39, h8, obs, c0, if_false, r4, n5, c4, if_true, st5, e1, r5, st6, e2, l_P m39, i_succ, p4_put_J49]
  · have hjz' : j < dqZ D + 1 := hjz
    show _ = Int32.ofNat (clS (up1 (dqO D) (dqZ D) o j)) ∧ _ = up1 (dqV D) (dqZ D) v j
    by_cases c : j = dqZ D
    · rw [c, up1_eq, up1_eq, up2_ne (by omega), up2_ne (by omega), up2_eq, up2_ne (by omega), up2_eq]
      exact ⟨hx, rfl⟩
    · rw [up1_ne c, up1_ne c, up2_ne (by omega), up2_ne (by omega), up2_ne (by omega), up2_ne (by omega), up2_ne (by omega), up2_ne (by omega)]
      exact hj j (by omega)
theorem lq_em {x v : Int32} {z : Nat} (h16 : s 287 16 = Int32.ofNat z) (hz : z < 400) : p12_emits (ob g 287) x v (mm g (sc s p b) l r) = some (mm g (sc (up2 (up2 (up2 s 288 (1343 + 2 * z) x) 288 (1343 + 2 * z + 1) v) 287 16 (Int32.ofNat (z + 1))) p b) l r) := by
  have e1 : (1343 : Int32) + 2 * Int32.ofNat z = Int32.ofNat (1343 + 2 * z) := by
    show Int32.ofNat 1343 + Int32.ofNat 2 * Int32.ofNat z = _
    rw [i_mul, i_add]
  have a1 : sc s p b 287 16 = Int32.ofNat z := by rw [sc_o (by omega)]; exact h16
  have a2 : up2 (sc s p b) 288 (1343 + 2 * z) x 287 16 = Int32.ofNat z := by rw [up2_ne (by omega)]; exact a1
  have a3 : up2 (up2 (sc s p b) 288 (1343 + 2 * z) x) 288 (1343 + 2 * z + 1) v 287 16 = Int32.ofNat z := by rw [up2_ne (by omega)]; exact a2
  simp only [p12_emits, w_gd, w_R1, obs, w_getI, a1, e1, w_ast (show 1343 + 2 * z < 2143 by omega), a2, i_succ, w_ast (show 1343 + 2 * z + 1 < 2143 by omega), a3, w_putI]
  rw [sc_up (by omega), sc_up (by omega), sc_up (by omega)]
theorem lq_emF {x v : Int32} {z : Nat} : mLq s (up2 (up2 (up2 s 288 (1343 + 2 * z) x) 288 (1343 + 2 * z + 1) v) 287 16 (Int32.ofNat (z + 1))) := ((mLq.up (by omega)).trans (mLq.up (by omega))).trans (mLq.up (by omega))
theorem lq_emD {D : Dq} {o : Nat} {x v : Int32} (h : DqM s D) (hz : dqZ D < 400) (hx : x = Int32.ofNat o) : ∃ s', p12_emits (ob g 287) x v (mm g (sc s p b) l r) = some (mm g (sc s' p b) l r) ∧ mLq s s' ∧ DqM s' (dqP D o v) ∧ s' 287 13 = s 287 13 := by
  refine ⟨_, lq_em h.1 hz, lq_emF, ⟨up2_eq, fun j hjz => ?_⟩, by rw [up2_ne (by omega), up2_ne (by omega), up2_ne (by omega)]⟩
  have hjz' : j < dqZ D + 1 := hjz
  show _ = Int32.ofNat (up1 (dqO D) (dqZ D) o j) ∧ _ = up1 (dqV D) (dqZ D) v j
  by_cases c : j = dqZ D
  · rw [c, up1_eq, up1_eq, up2_ne (by omega), up2_ne (by omega), up2_eq, up2_ne (by omega), up2_eq]
    exact ⟨hx, rfl⟩
  · rw [up1_ne c, up1_ne c, up2_ne (by omega), up2_ne (by omega), up2_ne (by omega), up2_ne (by omega), up2_ne (by omega), up2_ne (by omega)]
    exact h.2 j (by omega)
/-! the kinds of what lies there -/
theorem tyR_add {O : Nat → Nat} : ∀ a b i h, tyR O (a + b) i h = (tyR O a i h).bind (tyR O b (i + a)) := by
  intro a
  induction a with
  | zero => intro b i h; rw [Nat.zero_add]; rfl
  | succ a ih =>
    intro b i h
    rw [show a + 1 + b = (a + b) + 1 by omega]
    show (tyS (O i) h).bind (tyR O (a + b) (i + 1)) = ((tyS (O i) h).bind (tyR O a (i + 1))).bind (tyR O b (i + (a + 1)))
    cases tyS (O i) h with
    | none => rfl
    | some h1 =>
      show tyR O (a + b) (i + 1) h1 = (tyR O a (i + 1) h1).bind (tyR O b (i + (a + 1)))
      rw [ih, show i + 1 + a = i + (a + 1) by omega]
theorem tyR_c {O O' : Nat → Nat} : ∀ a i h, (∀ j, i ≤ j → j < i + a → O' j = O j) → tyR O' a i h = tyR O a i h := by
  intro a
  induction a with
  | zero => intro i h _; rfl
  | succ a ih =>
    intro i h hO
    show (tyS (O' i) h).bind (tyR O' a (i + 1)) = (tyS (O i) h).bind (tyR O a (i + 1))
    rw [hO i (by omega) (by omega)]
    congr 1
    funext h1
    exact ih (i + 1) h1 (fun j x y => hO j (by omega) (by omega))
def tRq (D D' : Dq) (h h' : Ty) : Prop := dqZ D ≤ dqZ D' ∧ (∀ j, j < dqZ D → dqO D' j = dqO D j ∧ dqV D' j = dqV D j) ∧ tyR (dqO D') (dqZ D' - dqZ D) (dqZ D) h = some h'
theorem tRq.trans {D D1 D2 : Dq} {h h1 h2 : Ty} (x : tRq D D1 h h1) (y : tRq D1 D2 h1 h2) : tRq D D2 h h2 := by
  obtain ⟨a1, a2, a3⟩ := x
  obtain ⟨b1, b2, b3⟩ := y
  refine ⟨Nat.le_trans a1 b1, fun j hj => ⟨(b2 j (by omega)).1.trans (a2 j hj).1, (b2 j (by omega)).2.trans (a2 j hj).2⟩, ?_⟩
  rw [show dqZ D2 - dqZ D = (dqZ D1 - dqZ D) + (dqZ D2 - dqZ D1) by omega, tyR_add, tyR_c (O := dqO D1) _ _ _ (fun j x y => (b2 j (by omega)).1), a3]
  show tyR (dqO D2) _ (dqZ D + (dqZ D1 - dqZ D)) h1 = _
  rw [show dqZ D + (dqZ D1 - dqZ D) = dqZ D1 by omega]
  exact b3
theorem tRq.put {D : Dq} {o : Nat} {v : Int32} {h h' : Ty} (x : tyS o h = some h') : tRq D (dqP D o v) h h' := by
  refine ⟨Nat.le_succ _, fun j hj => ⟨up1_ne (by omega), up1_ne (by omega)⟩, ?_⟩
  show tyR (up1 (dqO D) (dqZ D) o) (dqZ D + 1 - dqZ D) (dqZ D) h = _
  rw [Nat.add_sub_cancel_left]
  show (tyS (up1 (dqO D) (dqZ D) o (dqZ D)) h).bind (tyR _ 0 _) = some h'
  rw [up1_eq, x]
  rfl
/-- one value more, of this kind -/
def tQq (D D' : Dq) (t : Bool) : Prop := ∀ h : Ty, ∃ h', tRq D D' h h' ∧ h'.2 = h.2 + 1 ∧ h'.1 h.2 = t ∧ ∀ j, j < h.2 → h'.1 j = h.1 j
theorem tq_one {D : Dq} {o : Nat} {v : Int32} (ho : o ≤ 5 ∨ o = 9) : tQq D (dqP D o v) false := fun h => ⟨(up1 h.1 h.2 false, h.2 + 1), tRq.put (by unfold tyS; rw [if_pos ho]), rfl, up1_eq, fun j hj => up1_ne (by omega)⟩
theorem tq_tag {D : Dq} {o : Nat} {v : Int32} (h1 : 6 ≤ o) (h2 : o ≤ 8) : tQq D (dqP D o v) true := fun h => ⟨(up1 h.1 h.2 true, h.2 + 1), tRq.put (by unfold tyS; rw [if_neg (by omega), if_pos h2]), rfl, up1_eq, fun j hj => up1_ne (by omega)⟩
theorem tq_not {D D1 : Dq} {v : Int32} (hd : tQq D D1 true) : tQq D (dqP D1 13 v) true := fun h => by
  obtain ⟨h1, a, b, c, d⟩ := hd h
  exact ⟨h1, a.trans (tRq.put (by
    unfold tyS
    rw [if_neg (by decide), if_neg (by decide), if_pos rfl, if_pos ⟨by omega, by rw [b, Nat.add_sub_cancel]; exact c⟩])), b, c, d⟩
theorem tq_add {D D1 D2 : Dq} {v : Int32} (hd : tQq D D1 false) (he : tQq D1 D2 false) : tQq D (dqP D2 10 v) false := fun h => by
  obtain ⟨h1, a, b, c, d⟩ := hd h
  obtain ⟨h2, a', b', c', d'⟩ := he h1
  have x1 : h2.2 - 2 = h.2 := by omega
  have x2 : h2.2 - 1 = h1.2 := by omega
  have y1 : h2.1 h.2 = false := (d' h.2 (by omega)).trans c
  refine ⟨(h2.1, h2.2 - 1), (a.trans a').trans (tRq.put (by
    unfold tyS
    rw [if_neg (by decide), if_neg (by decide), if_neg (by decide), if_pos rfl, if_pos ⟨by omega, by rw [x1]; exact y1, by rw [x2]; exact c'⟩])), ?_, y1, fun j hj => (d' j (by omega)).trans (d j hj)⟩
  show h2.2 - 1 = _
  omega
theorem tq_cmp {D D1 D2 : Dq} {o : Nat} {v : Int32} (ho : o = 11 ∨ o = 12) (hd : tQq D D1 false) (he : tQq D1 D2 false) : tQq D (dqP D2 o v) true := fun h => by
  obtain ⟨h1, a, b, c, d⟩ := hd h
  obtain ⟨h2, a', b', c', d'⟩ := he h1
  have x1 : h2.2 - 2 = h.2 := by omega
  have x2 : h2.2 - 1 = h1.2 := by omega
  have y1 : h2.1 h.2 = false := (d' h.2 (by omega)).trans c
  refine ⟨(up1 h2.1 (h2.2 - 2) true, h2.2 - 1), (a.trans a').trans (tRq.put (by
    unfold tyS
    rw [if_neg (by omega), if_neg (by omega), if_neg (by omega), if_neg (by omega), if_pos ho, if_pos ⟨by omega, by rw [x1]; exact y1, by rw [x2]; exact c'⟩])), ?_, ?_, fun j hj => ?_⟩
  · show h2.2 - 1 = _
    omega
  · show up1 h2.1 (h2.2 - 2) true h.2 = true
    rw [x1, up1_eq]
  · show up1 h2.1 (h2.2 - 2) true j = _
    rw [x1, up1_ne (by omega)]
    exact (d' j (by omega)).trans (d j hj)
theorem tq_and {D D1 D2 : Dq} {o : Nat} {v : Int32} (ho : o = 14 ∨ o = 15) (hd : tQq D D1 true) (he : tQq D1 D2 true) : tQq D (dqP D2 o v) true := fun h => by
  obtain ⟨h1, a, b, c, d⟩ := hd h
  obtain ⟨h2, a', b', c', d'⟩ := he h1
  have x1 : h2.2 - 2 = h.2 := by omega
  have x2 : h2.2 - 1 = h1.2 := by omega
  have y1 : h2.1 h.2 = true := (d' h.2 (by omega)).trans c
  refine ⟨(h2.1, h2.2 - 1), (a.trans a').trans (tRq.put (by
    unfold tyS
    rw [if_neg (by omega), if_neg (by omega), if_neg (by omega), if_neg (by omega), if_neg (by omega), if_pos ho, if_pos ⟨by omega, by rw [x1]; exact y1, by rw [x2]; exact c'⟩])), ?_, y1, fun j hj => (d' j (by omega)).trans (d j hj)⟩
  show h2.2 - 1 = _
  omega
theorem tq_ok {D D' : Dq} {O : Nat → Nat} (h : tQq D D' true) (hO : ∀ j, j < dqZ D' → O j = dqO D' j) : dqZ D ≤ dqZ D' ∧ tyOk O (dqZ D) (dqZ D') := by
  obtain ⟨h', ⟨a1, a2, a3⟩, b, c, d⟩ := h (fun _ => false, 0)
  refine ⟨a1, Or.inr ⟨h', ?_, b, c⟩⟩
  rw [tyR_c (O := dqO D') _ _ _ (fun j x y => hO j (by omega))]
  exact a3
/-! the things of a text -/
def PNq (n : Nat) (u : Nat → Nat) (N : Nat) : Prop := N ≤ n ∧ n ≤ 400 ∧ tk u n N = n ∧ (∀ k, k < N → tk u n k < n) ∧ ∀ j, j < n → u j < 256
theorem ATrL.pn (h : ATrL s n u N k) : PNq n u N := ⟨h.1.1, h.2.2.2.1, h.1.2.1, fun k hk => (h.1.2.2.2.2 k hk).1, h.2.2.2.2⟩
theorem pn_lt (h : PNq n u N) (hk : k ≤ N) {c : Nat} (ht : th u n (tk u n k) = c) (hc : c ≠ 1) : k < N ∧ tk u n k < n := by
  have hl := tk_le (u := u) (n := n) k
  by_cases e : tk u n k = n
  · exact absurd (ht.symm.trans ((th_1 hl).mpr e)) hc
  · refine ⟨?_, by omega⟩
    by_cases c2 : k = N
    · rw [c2] at e
      exact absurd h.2.2.1 e
    · omega
def CRq (g n : Nat) (u : Nat → Nat) (N : Nat) (P : mMem → Option (Int32 × mMem)) (D : Dq) (k : Nat) (ok : Bool) (D' : Dq) (k' : Nat) : Prop := ∀ (s : tS) (l : tL) (r : Nat → Nat), DqC s D → ATrL s n u N k → ∃ s', P (mm g s l r) = some (ib ok, mm g s' l r) ∧ cLq s s' ∧ ATrL s' n u N k' ∧ (ok = true → DqC s' D')
def MRq (g n : Nat) (u : Nat → Nat) (Q : mMem → Option (Int32 × mMem)) (D : Dq) (dp p b : Nat) (ok : Bool) (D' : Dq) (k' : Nat) : Prop := ∀ (s : tS) (l : tL) (r : Nat → Nat), DqM s D → RT s n u → s 287 13 = Int32.ofNat dp → ∃ s' p' b', Q (mm g (sc s p b) l r) = some (ib ok, mm g (sc s' p' b') l r) ∧ mLq s s' ∧ p' ≤ n ∧ (ok = true → DqM s' D' ∧ s' 287 13 = Int32.ofNat dp ∧ sk u n p' = tk u n k') ∧ (ok = false → b' = tk u n k')
/-- both take a piece of a condition and put the same, or both leave it at the same byte -/
def JQ (g n : Nat) (u : Nat → Nat) (N : Nat) (P Q : mMem → Option (Int32 × mMem)) (D : Dq) (dp k : Nat) (T : Dq → Prop) : Prop := ∃ ok D' k', CRq g n u N P D k ok D' k' ∧ (∀ p b, p ≤ n → sk u n p = tk u n k → MRq g n u Q D dp p b ok D' k') ∧ (ok = true → T D' ∧ k ≤ k' ∧ k' ≤ N ∧ dqZ D' + k ≤ dqZ D + k')
theorem lq_R8 : getR (mm g s l r) (ob g 52) 6 8 = some (ob g 39) := mm_getR k_52 (by decide +kernel) (by decide)
/-! signs in the reference -/
theorem m_sign_t {c : Nat} (h : RT s n u) (hp : p ≤ n) (hs : sk u n p = tk u n k) (hc : sgB c = true) (ht : th u n (tk u n k) = c) : p12_sign (ob g 287) (Int32.ofNat c) (mm g (sc s p b) l r) = some (1, mm g (sc s (tk u n k + 1) (tk u n k)) l r) ∧ sk u n (tk u n k + 1) = tk u n (k + 1) ∧ tk u n k < n := by
  obtain ⟨hlt, hu⟩ := (th_c hc).mp ht
  have hc' : c < 128 := by have := of_decide_eq_true hc; omega
  have eb := m_blanks (g := g) (l := l) (r := r) (b := b) h hp
  rw [hs] at eb
  have ec := m_isC (g := g) (l := l) (r := r) (b := tk u n k) (c := c) h (Nat.le_of_lt hlt) hc'
  rw [decide_eq_true hlt, decide_eq_true hu] at ec
  refine ⟨?_, by rw [tk_s hlt, sg_en (by rw [hu]; exact hc)], hlt⟩
  simp only [p12_sign, w_gd, eb, obs, ec, Bool.and_self, ib_t, one_z, if_false, w_getI, sc_10, w_putI, i_succ, sc_p]
theorem m_sign_f {c : Nat} (h : RT s n u) (hp : p ≤ n) (hs : sk u n p = tk u n k) (hc : sgB c = true) (ht : th u n (tk u n k) ≠ c) : p12_sign (ob g 287) (Int32.ofNat c) (mm g (sc s p b) l r) = some (0, mm g (sc s (tk u n k) (tk u n k)) l r) := by
  have hc' : c < 128 := by have := of_decide_eq_true hc; omega
  have eb := m_blanks (g := g) (l := l) (r := r) (b := b) h hp
  rw [hs] at eb
  have ec := m_isC (g := g) (l := l) (r := r) (b := tk u n k) (p := tk u n k) (c := c) h (tk_le k) hc'
  have hf : (decide (tk u n k < n) && decide (u (tk u n k) = c)) = false := by
    cases d : (decide (tk u n k < n) && decide (u (tk u n k) = c)) with
    | false => rfl
    | true =>
      rw [Bool.and_eq_true] at d
      exact absurd ((th_c hc).mpr ⟨of_decide_eq_true d.1, of_decide_eq_true d.2⟩) ht
  rw [hf] at ec
  simp only [p12_sign, w_gd, eb, obs, ec, ib_f, if_true]
theorem m_pass_t {w : Nat} (h : RT s n u) (hp : p ≤ n) (hs : sk u n p = tk u n k) (hw : w < 27) (ht : th u n (tk u n k) = 3 + w) : tk u n k < n ∧ sk u n (eL u n (tk u n k)) = tk u n (k + 1) ∧ p12_passes (ob g 287) w (mm g (sc s p b) l r) = some (1, mm g (sc s (eL u n (tk u n k)) (tk u n k)) l r) := m_told_w (M := mm g s l r) (hi := 0) (d := 0) h hp hs hw ht
theorem m_pass_f {w : Nat} (h : RT s n u) (hp : p ≤ n) (hs : sk u n p = tk u n k) (hw : w < 27) (ht : th u n (tk u n k) ≠ 3 + w) : p12_passes (ob g 287) w (mm g (sc s p b) l r) = some (0, mm g (sc s (tk u n k) (tk u n k)) l r) := by
  have e := m_passes (g := g) (l := l) (r := r) (b := b) h hp hw
  rw [hs] at e
  have hf : wdB u (tk u n k) (eL u n (tk u n k)) w = false := wd_f hw ht
  rw [hf, if_neg (by decide)] at e
  exact e
end
