section
variable {g : Nat} {s s2 : tS} {l : tL} {r : Nat → Nat} {C C2 : Co} {G : Lg} {L : Lw} {p2 : Nat}
theorem inv_txt (hk : Kept s) (hr : Rest s) (hcore : Core s2 C2 G L) (hP : Past s2 r p2) (U : ∀ o, 52 ≤ o → o ≠ 287 → o ≠ 288 → o ≠ 290 → s2 o = s o) (h48 : s2 48 3 = s 48 3) (h18 : Nob s2 16) (z1 : s2 0 1 = 0) (z13 : s2 0 13 = s 0 13) (v6 : s2 287 6 = s 287 6) (v9 : s2 287 9 = 0) (hf : s2 0 2 = s2 287 14) : INV s2 r :=
  ⟨C2, G, L, 0, p2, hcore, ⟨Nat.zero_le _, z1, v9, fun j hj => absurd hj (Nat.not_lt_zero j)⟩, hP, hk.fr z13 v6 (fun o a b => U o (by omega) (by omega) (by omega) (by omega)) (U 289 (by decide) (by decide) (by decide) (by decide)), h18, hr.2.1.rs (U 83 (by decide) (by decide) (by decide) (by decide)), hr.2.2.1.rs (U 98 (by decide) (by decide) (by decide) (by decide)), hf, h48.trans hr.2.2.2.2.1, (congrFun (U 52 (by decide) (by decide) (by decide) (by decide)) 3).trans hr.2.2.2.2.2⟩
/-- what both leave when the text is wrong, or there are 12 texts -/
theorem inv_bad {s4 s3 : tS} {n p : Nat} {x y : Int32} (hc : Core s C G L) (hp : Past s r p) (hk : Kept s) (hr : Rest s) (A4 : ∀ o j, ¬ (16 ≤ o ∧ o < 30) → ¬ (o = 48 ∧ 4 ≤ j ∧ j ≤ 7) → ¬ (49 ≤ o ∧ o ≤ 51) → ¬ (o = 0 ∧ j = 1) → s4 o j = s o j) (h1 : s4 0 1 = 0) (h18 : Nob s4 16) (F3 : mT (cpS (up2 s4 0 2 x) 290 0 288 0 1294) s3) (h9 : s3 287 9 = 0) : INV (cpS (up2 (up2 s3 287 14 x) 287 0 y) 288 0 290 0 1294) r := by
  have B : ∀ o j, o ≠ 288 → o ≠ 290 → ¬ (o = 0 ∧ j = 2) → ¬ (o = 287 ∧ (j = 0 ∨ j = 14 ∨ (9 ≤ j ∧ j ≤ 12) ∨ j = 16)) → cpS (up2 (up2 s3 287 14 x) 287 0 y) 288 0 290 0 1294 o j = s4 o j := fun o j a b c d => by
    rw [cpS_ne a, up2_ne (by omega), up2_ne (by omega), F3 o j (by omega) (by omega), cpS_ne b, up2_ne c]
  have W : cpS (up2 (up2 s3 287 14 x) 287 0 y) 288 0 290 0 1294 288 = s 288 := funext fun k => by
    rw [cpS_v]
    by_cases c : 0 ≤ k ∧ k < 0 + 1294
    · rw [if_pos c, up2_ne (by omega), up2_ne (by omega), F3 290 _ (by omega) (by omega), cpS_v, if_pos (by omega), up2_ne (by omega), A4 288 _ (by omega) (by omega) (by omega) (by omega)]
      congr 1
      omega
    · rw [if_neg c, up2_ne (by omega), up2_ne (by omega), F3 288 k (by omega) (by omega), cpS_ne (by decide), up2_ne (by omega), A4 288 k (by omega) (by omega) (by omega) (by omega)]
  have U : ∀ o, o ≠ 0 → o ≠ 287 → o ≠ 288 → o ≠ 290 → ¬ (16 ≤ o ∧ o < 30) → ¬ (48 ≤ o ∧ o ≤ 51) → cpS (up2 (up2 s3 287 14 x) 287 0 y) 288 0 290 0 1294 o = s o := fun o a b c d e f => funext fun j => by
    rw [B o j c d (by omega) (by omega), A4 o j e (by omega) (by omega) (by omega)]
  have V : ∀ j, j = 6 ∨ j = 7 → cpS (up2 (up2 s3 287 14 x) 287 0 y) 288 0 290 0 1294 287 j = s 287 j := fun j hj => by
    rw [B 287 j (by decide) (by decide) (by omega) (by omega), A4 287 j (by omega) (by omega) (by omega) (by omega)]
  have Z : ∀ j, j = 10 ∨ j = 13 → cpS (up2 (up2 s3 287 14 x) 287 0 y) 288 0 290 0 1294 0 j = s 0 j := fun j hj => by
    rw [B 0 j (by decide) (by decide) (by omega) (by omega), A4 0 j (by omega) (by omega) (by omega) (by omega)]
  refine inv_txt hk hr (C2 := C) (G := G) (L := L) (p2 := p) ⟨hc.1.rs (fun o a b => U o (by omega) (by omega) (by omega) (by omega) (by omega) (by omega)) (fun j _ => by rw [W]), hc.2.rs (fun o a b => U o (by omega) (by omega) (by omega) (by omega) (by omega) (by omega)) (fun j a b => by rw [W])⟩ (hp.fr (Z 10 (by omega)) (V 7 (by omega)) (congrFun W 2) (fun o ho => U o (by unfold inP at ho; omega) (by unfold inP at ho; omega) (by unfold inP at ho; omega) (by unfold inP at ho; omega) (by unfold inP at ho; omega) (by unfold inP at ho; omega)) (U 292 (by decide) (by decide) (by decide) (by decide) (by omega) (by omega))) (fun o a b c d => U o (by omega) b c d (by omega) (by omega)) ?_ (fun j hj => ?_) ?_ (Z 13 (by omega)) (V 6 (by omega)) ?_ ?_
  · rw [B 48 3 (by decide) (by decide) (by omega) (by omega), A4 48 3 (by omega) (by omega) (by omega) (by omega)]
  · rw [B 18 j (by decide) (by decide) (by omega) (by omega)]
    exact h18 j hj
  · rw [B 0 1 (by decide) (by decide) (by omega) (by omega)]
    exact h1
  · rw [cpS_ne (by decide), up2_ne (by omega), up2_ne (by omega)]
    exact h9
  · have e1 : cpS (up2 (up2 s3 287 14 x) 287 0 y) 288 0 290 0 1294 0 2 = x := by
      rw [cpS_ne (by decide), up2_ne (by omega), up2_ne (by omega), F3 0 2 (by omega) (by omega), cpS_ne (by decide), up2_eq]
    have e2 : cpS (up2 (up2 s3 287 14 x) 287 0 y) 288 0 290 0 1294 287 14 = x := by
      rw [cpS_ne (by decide), up2_ne (by omega), up2_eq]
    rw [e1, e2]
end
