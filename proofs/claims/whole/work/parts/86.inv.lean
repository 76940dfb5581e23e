/-! what holds between two calls -/
/-- what nobody reads before writing it -/
def Nob (s : tS) (b : Nat) : Prop := ∀ j, j < 9 → s (b + 2) j = nob j
theorem Nob.rs {s s' : tS} {b : Nat} (h : Nob s b) (hb : s' (b + 2) = s (b + 2)) : Nob s' b := fun j hj => by rw [hb]; exact h j hj
def scr (o k : Nat) : Prop := (16 ≤ o ∧ o ≤ 29) ∨ o = 37 ∨ o = 38 ∨ (39 ≤ o ∧ o ≤ 56 ∧ ¬ ((o = 48 ∨ o = 52) ∧ k = 3)) ∨ o = 78 ∨ o = 79 ∨ (80 ≤ o ∧ o ≤ 118) ∨ (o = 287 ∧ k ≠ 6 ∧ k ≠ 7 ∧ k ≠ 9 ∧ k ≠ 14) ∨ (o = 288 ∧ 1294 ≤ k) ∨ o = 290 ∨ o = 291 ∨ 294 ≤ o
def RS (s s' : tS) : Prop := (∀ o k, ¬ scr o k → s' o k = s o k) ∧ (Nob s 16 → Nob s' 16) ∧ (Nob s 81 → Nob s' 81) ∧ (Nob s 96 → Nob s' 96)
theorem RS.refl {s : tS} : RS s s := ⟨fun _ _ _ => rfl, id, id, id⟩
theorem RS.trans {a b c : tS} (h : RS a b) (k : RS b c) : RS a c := ⟨fun o j ho => (k.1 o j ho).trans (h.1 o j ho), fun z => k.2.1 (h.2.1 z), fun z => k.2.2.1 (h.2.2.1 z), fun z => k.2.2.2 (h.2.2.2 z)⟩
theorem RS.of {P : Nat → Prop} {a b : tS} (h : Fr P a b) (k : ∀ o, P o → ∀ j, scr o j) (n1 : ¬ P 18) (n2 : ¬ P 83) (n3 : ¬ P 98) : RS a b := ⟨fun o j ho => by rw [h o (fun hp => ho (k o hp j))], fun z => z.rs (h _ n1), fun z => z.rs (h _ n2), fun z => z.rs (h _ n3)⟩
theorem RS.up {s : tS} {o k : Nat} {v : Int32} (h : scr o k) (ho : o ≠ 18 ∧ o ≠ 83 ∧ o ≠ 98) : RS s (up2 s o k v) := ⟨fun p j hp => up2_ne (fun e => hp (by rw [e.1, e.2]; exact h)), fun z => z.rs (funext fun j => up2_ne (by omega)), fun z => z.rs (funext fun j => up2_ne (by omega)), fun z => z.rs (funext fun j => up2_ne (by omega))⟩
theorem RS.at {s s' : tS} (h : RS s s') {o : Nat} (ho : ∀ k, ¬ scr o k) : s' o = s o := funext fun k => h.1 o k (ho k)
/-- a family for trials was changed -/
theorem RS.fam {s s' : tS} {b : Nat} (hb : b = 81 ∨ b = 96) (h : Fr (inF b) s s') (hn : Nob s' b) : RS s s' := by
  refine ⟨fun o j ho => by rw [h o (fun hp => ho (by unfold inF at hp; unfold scr; omega))], fun z => z.rs (h _ (by unfold inF; omega)), fun z => ?_, fun z => ?_⟩
  · rcases hb with rfl | rfl
    · exact hn
    · exact z.rs (h _ (by unfold inF; omega))
  · rcases hb with rfl | rfl
    · exact z.rs (h _ (by unfold inF; omega))
    · exact hn
def pBL : List Nat := [119, 133, 147, 161, 175, 189, 203, 217, 231, 245, 259, 273]
theorem pBL_f : ∀ b ∈ pBL, b ∈ fBL ∧ 119 ≤ b ∧ b + 14 ≤ 287 := by decide +kernel
def rowJ (s : tS) (j k : Nat) : Int32 := s 292 (445 * j + k)
def VG (G : Lg) : Prop := ∀ k, k < G.1 → G.2 k 3 = 0 ∨ G.2 k 3 = 1
def Tape (s : tS) (n : Nat) : Prop := n ≤ 400 ∧ s 0 1 = Int32.ofNat n ∧ s 287 9 = Int32.ofNat n ∧ ∀ j, j < n → ∃ u, u < 256 ∧ s 1 j = Int32.ofNat u ∧ s 293 j = i2b (Int32.ofNat u)
/-- a family's object and a row are this -/
def Fa (s : tS) (b : Nat) (w : Nat → Int32) (C : Co) (G : Lg) : Prop := Is s b C ∧ LgC s b G ∧ Mw w C ∧ LgM w G ∧ VC C ∧ VG G
def La (s : tS) (b : Nat) (w : Nat → Int32) (L : Lw) : Prop := LIs s b L ∧ LMw w L ∧ VL L
def Past (s : tS) (r : Nat → Nat) (p : Nat) : Prop := p ≤ 12 ∧ s 0 10 = Int32.ofNat p ∧ s 287 7 = Int32.ofNat p ∧ (∀ j, j < 12 → r j ∈ pBL ∧ Nob s (r j)) ∧ (∀ i j, i < 12 → j < 12 → r i = r j → i = j) ∧ ∀ j, j < p → rowJ s j 2 = s 288 2 ∧ ∃ C G, Fa s (r j) (rowJ s j) C G
def Kept (s : tS) : Prop := Nob s 57 ∧ ∃ k, s 0 13 = ib k ∧ s 287 6 = ib k ∧ (k = true → ∃ C G L, Fa s 57 (s 289) C G ∧ La s 71 (s 289) L)
def Rest (s : tS) : Prop := Nob s 16 ∧ Nob s 81 ∧ Nob s 96 ∧ s 0 2 = s 287 14 ∧ s 48 3 = 14 ∧ s 52 3 = 12
def Core (s : tS) (C : Co) (G : Lg) (L : Lw) : Prop := Fa s 2 (s 288) C G ∧ La s 30 (s 288) L
def INV (s : tS) (r : Nat → Nat) : Prop := ∃ C G L n p, Core s C G L ∧ Tape s n ∧ Past s r p ∧ Kept s ∧ Rest s
theorem Mw.cells {w w' : Nat → Int32} {C : Co} (h : Mw w C) (k : ∀ j, j < 145 → w' j = w j) : Mw w' C := by
  obtain ⟨h1, h2, h3⟩ := h
  have := h1.2
  exact ⟨h1, fun j a b c => (k j (by omega)).trans (h2 j a b c), fun i j a b => (k _ (by omega)).trans (h3 i j a b)⟩
theorem LgM.cells {w w' : Nat → Int32} {G : Lg} (h : LgM w G) (k : ∀ j, j < 445 → w' j = w j) : LgM w' G := by
  obtain ⟨h1, h2, h3⟩ := h
  exact ⟨(k 7 (by omega)).trans h1, h2, fun i j a b => (k _ (by omega)).trans (h3 i j a b)⟩
theorem LMw.cells {w w' : Nat → Int32} {L : Lw} (h : LMw w L) (hV : VL L) (k : ∀ j, j < 1294 → (j = 2 ∨ 445 ≤ j) → w' j = w j) : LMw w' L := by
  obtain ⟨h1, h2, h3⟩ := h
  obtain ⟨v1, v2, v3⟩ := hV
  refine ⟨(k 2 (by omega) (by omega)).trans h1, fun hh => (k 445 (by omega) (by omega)).trans (h2 hh), fun i hi => ?_⟩
  obtain ⟨a, b, c, d, e⟩ := h3 i hi
  obtain ⟨-, -, -, q1, q2, -⟩ := v3 i hi
  rw [k (446 + 4 * i) (by omega) (by omega), k (446 + 4 * i + 1) (by omega) (by omega), k (446 + 4 * i + 2) (by omega) (by omega), k (446 + 4 * i + 3) (by omega) (by omega)]
  refine ⟨a, b, c, d, fun j x y => ?_⟩
  rw [k (494 + 2 * j) (by omega) (by omega), k (494 + 2 * j + 1) (by omega) (by omega)]
  exact e j x y
theorem Fa.rs {s s' : tS} {b : Nat} {w w' : Nat → Int32} {C : Co} {G : Lg} (h : Fa s b w C G) (hb : ∀ o, b ≤ o → o < b + 14 → s' o = s o) (hw : ∀ j, j < 445 → w' j = w j) : Fa s' b w' C G := by
  obtain ⟨h1, h2, h3, h4, h5, h6⟩ := h
  have f : Fr (fun o => o < b ∨ b + 14 ≤ o) s s' := fun o ho => hb o (by omega) (by omega)
  exact ⟨h1.fr f (fun o ho => ho), h2.fr f (by omega) (by omega), h3.cells (fun j hj => hw j (by omega)), h4.cells hw, h5, h6⟩
theorem La.rs {s s' : tS} {b : Nat} {w w' : Nat → Int32} {L : Lw} (h : La s b w L) (hb : ∀ o, b ≤ o → o < b + 7 → s' o = s o) (hw : ∀ j, j < 1294 → (j = 2 ∨ 445 ≤ j) → w' j = w j) : La s' b w' L := by
  obtain ⟨h1, h2, h3⟩ := h
  have f : Fr (fun o => o < b ∨ b + 7 ≤ o) s s' := fun o ho => hb o (by omega) (by omega)
  exact ⟨h1.fr f (fun o ho => ho), h2.cells h3 hw, h3⟩
section
variable {s s' : tS} {r : Nat → Nat}
theorem Core.rs {C : Co} {G : Lg} {L : Lw} (h : Core s C G L) (k : RS s s') : Core s' C G L := ⟨h.1.rs (fun o a b => k.at (fun j => by unfold scr; omega)) (fun j hj => k.1 288 j (by unfold scr; omega)), h.2.rs (fun o a b => k.at (fun j => by unfold scr; omega)) (fun j hj _ => k.1 288 j (by unfold scr; omega))⟩
theorem Tape.rs {n : Nat} (h : Tape s n) (k : RS s s') : Tape s' n := by
  obtain ⟨h1, h2, h3, h4⟩ := h
  refine ⟨h1, (k.1 0 1 (by unfold scr; omega)).trans h2, (k.1 287 9 (by unfold scr; omega)).trans h3, fun j hj => ?_⟩
  rw [k.1 1 j (by unfold scr; omega), k.1 293 j (by unfold scr; omega)]
  exact h4 j hj
theorem Past.rs {p : Nat} (h : Past s r p) (k : RS s s') : Past s' r p := by
  obtain ⟨h1, h2, h3, h4, h5, h6⟩ := h
  refine ⟨h1, (k.1 0 10 (by unfold scr; omega)).trans h2, (k.1 287 7 (by unfold scr; omega)).trans h3, fun j hj => ⟨(h4 j hj).1, (h4 j hj).2.rs ?_⟩, h5, fun j hj => ?_⟩
  · have := (pBL_f _ (h4 j hj).1).2
    exact k.at (fun i => by unfold scr; omega)
  · obtain ⟨e2, C, G, hF⟩ := h6 j hj
    have := (pBL_f _ (h4 j (by omega)).1).2
    refine ⟨by unfold rowJ; rw [k.1 292 _ (by unfold scr; omega), k.1 288 2 (by unfold scr; omega)]; exact e2, ?_⟩
    exact ⟨C, G, hF.rs (fun o a b => k.at (fun i => by unfold scr; omega)) (fun i hi => k.1 292 _ (by unfold scr; omega))⟩
theorem Kept.rs (h : Kept s) (k : RS s s') : Kept s' := by
  obtain ⟨h1, b, h2, h3, h4⟩ := h
  refine ⟨h1.rs (k.at (fun i => by unfold scr; omega)), b, (k.1 0 13 (by unfold scr; omega)).trans h2, (k.1 287 6 (by unfold scr; omega)).trans h3, fun hb => ?_⟩
  obtain ⟨C, G, L, hF, hL⟩ := h4 hb
  exact ⟨C, G, L, hF.rs (fun o a b => k.at (fun i => by unfold scr; omega)) (fun i hi => k.1 289 _ (by unfold scr; omega)), hL.rs (fun o a b => k.at (fun i => by unfold scr; omega)) (fun i hi _ => k.1 289 _ (by unfold scr; omega))⟩
theorem Rest.rs (h : Rest s) (k : RS s s') : Rest s' := by
  obtain ⟨h1, h2, h3, h4, h5, h6⟩ := h
  exact ⟨k.2.1 h1, k.2.2.1 h2, k.2.2.2 h3, by rw [k.1 0 2 (by unfold scr; omega), k.1 287 14 (by unfold scr; omega), h4], by rw [k.1 48 3 (by unfold scr; omega), h5], by rw [k.1 52 3 (by unfold scr; omega), h6]⟩
theorem INV.rs (h : INV s r) (k : RS s s') : INV s' r := by
  obtain ⟨C, G, L, n, p, h1, h2, h3, h4, h5⟩ := h
  exact ⟨C, G, L, n, p, h1.rs k, h2.rs k, h3.rs k, h4.rs k, h5.rs k⟩
end
/-! a call in both -/
theorem k304 : lK 304 = 22 := by decide +kernel
theorem n304 : lNn 304 = 1 := by decide +kernel
/-- a call that may throw: the class throws and the reference tells its number, or both answer alike -/
def Op (g : Nat) (H : Nat → Int32) (E : mMem → Option ((Nat × mMem) ⊕ (Int32 × mMem))) (Q : mMem → Option (Int32 × mMem)) : Prop := ∀ (s : tS) (l : tL) (r : Nat → Nat), INV s r →
  (∃ e s1 r1 s2 w, E (mm g s l r) = some (.inl (e, mm g s1 l r1)) ∧ (H e ≠ 0) ∧ Q (mm g s1 l r1) = some (w, mm g s2 l r1) ∧ s2 287 0 = H e ∧ INV s2 r1)
  ∨ (∃ v s1 r1, E (mm g s l r) = some (.inr (v, mm g s1 l r1)) ∧ ∀ l1 : tL, ∃ s2, Q (mm g s1 l1 r1) = some (v, mm g s2 l1 r1) ∧ s2 287 0 = 0 ∧ INV s2 r1)
/-- what the law asks of a call -/
def Both (g : Nat) (P : mMem → Option (Int32 × mMem)) (Q : mMem → Option (Int32 × mMem)) : Prop := ∀ (s : tS) (l : tL) (r : Nat → Nat), INV s r → ∃ k w s1 l1 s2 r1, P (mm g s l r) = some (k, mm g s1 l1 r1) ∧ Q (mm g s1 l1 r1) = some (w, mm g s2 l1 r1) ∧ s2 287 0 = k ∧ (k = 0 → l1 304 0 = w.toInt64) ∧ INV s2 r1
section
variable {g : Nat} {s : tS} {l : tL} {r : Nat → Nat}
theorem o_astL {v : Int64} : astL (mm g s l r) (ob g 304) 0 v = some (mm g s (up2 l 304 0 v) r) := mm_astL k304 n304 (k := 0) (by decide) (by decide)
theorem o_aldL : aldL (mm g s l r) (ob g 304) 0 = some (l 304 0) := mm_aldL k304 n304 (k := 0) (by decide) (by decide)
theorem both_of {H : Nat → Int32} {E : mMem → Option ((Nat × mMem) ⊕ (Int32 × mMem))} {Q : mMem → Option (Int32 × mMem)} {hd : Nat → mMem → Option (Int32 × mMem)} (h : Op g H E Q) (hH : ∀ e M, H e ≠ 0 → hd e M = some (H e, M)) : Both g (fun M => xc (E M) hd fun q_1 => (astL q_1.2 (ob g 304) 0 (q_1.1.toInt64)).bind fun M_2 => some (0, M_2)) Q := by
  intro s l r hI
  rcases h s l r hI with ⟨e, s1, r1, s2, w, h1, h2, h3, h4, h5⟩ | ⟨v, s1, r1, h1, h2⟩
  · refine ⟨H e, w, s1, l, s2, r1, ?_, h3, h4, fun hc => absurd hc h2, h5⟩
    show xc (E (mm g s l r)) hd _ = _
    rw [h1, xc]
    exact hH e _ h2
  · obtain ⟨s2, h3, h4, h5⟩ := h2 (up2 l 304 0 v.toInt64)
    refine ⟨0, v, s1, up2 l 304 0 v.toInt64, s2, r1, ?_, h3, h4, fun _ => up2_eq, h5⟩
    show xc (E (mm g s l r)) hd _ = _
    rw [h1, xc]
    show (astL (mm g s1 l r1) (ob g 304) 0 v.toInt64).bind _ = _
    rw [o_astL]
    rfl
/-- the same where the class changes nothing -/
theorem both_of' {H : Nat → Int32} {E : mMem → Option ((Nat × mMem) ⊕ Int32)} {Q : mMem → Option (Int32 × mMem)} {hd : Nat → mMem → Option (Int32 × mMem)} (h : Op g H (fun M => (E M).map (fun z => match z with | .inl e => .inl e | .inr v => .inr (v, M))) Q) (hH : ∀ e M, H e ≠ 0 → hd e M = some (H e, M)) : Both g (fun M => xc (E M) hd fun v_1 => (astL M (ob g 304) 0 (v_1.toInt64)).bind fun M_2 => some (0, M_2)) Q := by
  intro s l r hI
  obtain ⟨k, w, s1, l1, s2, r1, a1, a2⟩ := both_of h hH s l r hI
  refine ⟨k, w, s1, l1, s2, r1, ?_, a2⟩
  rw [← a1]
  show xc (E (mm g s l r)) hd _ = xc ((E (mm g s l r)).map _) hd _
  cases E (mm g s l r) with
  | none => rfl
  | some z => cases z <;> rfl
end
