section GXX
variable {X : gX} {p : Program} {l : Launch} {e : Env} {R : Room} {s : State} {m : MethodId} {args : Array Value} {below : List Frame} {meth : Method} {c : Code} {α : Type} {nL cells slots pc : Nat} {lv : List (Nat × Value)} {st : List Value} {M : mMem} {own : String} {cc : ByteArray} {rm : Room} {mc ms : Nat} {ret : α → Option Value × mMem}
/-- the same, the text by a wide index -/
theorem g_throwSW {k ik is ic i : Nat} {text : String} (B : gB X p R s m args meth c own cc nL rm) (hS9 : gS X s) (hfl : l.stackTraces = false) (hxt : ∀ x ∈ c.exceptionTable.toList, False) (hk : k < 5) (hfit : Bundle.fit (exN k) = true) (hkl : Cond.classLink own ik (exN k) ∈ gTbl) (hini : Cond.initialized (exN k) ∈ gTbl) (hq : (own, is, text, i) ∈ gsCon) (hat : ∀ w ∈ (vx_atS own ic (exN k) ["java/lang/RuntimeException", "java/lang/Exception"]).filter goodWord, w ∈ gTbl) (hat2 : ∀ w ∈ (vx_atS own ic (exN k) ["java/lang/RuntimeException", "java/lang/Exception"]).filter (fun w => !goodWord w), w ∈ gsDec.map Cond.declares ++ gsCst.map (fun q => Cond.castable q.1 q.2)) (hgood : ∀ w ∈ Cond.classLink own ik (exN k) :: Cond.initialized (exN k) :: vx_atS own ic (exN k) ["java/lang/RuntimeException", "java/lang/Exception"], vx_ot w = true)
    (d0 : decode cc pc = .ok (.new ik, 3)) (d3 : decode cc (pc + 3) = .ok (.dup, 1)) (d4 : decode cc (pc + 4) = .ok (.ldc_w is, 3)) (d6 : decode cc (pc + 7) = .ok (.invokespecial ic, 3)) (d9 : decode cc (pc + 10) = .ok (.athrow, 1))
    (hfr : 6 ≤ rm.frames) (hlo : (st.map fun v => v.category).sum + 82 ≤ rm.locals) (hcs : cells + 1 ≤ rm.cells ∧ slots + 6 ≤ rm.slots) (hcm : cells + 1 ≤ mc ∧ slots + 6 ≤ ms) : GG X p l e R s m args below meth c (gxP X below args s mc ms ret) nL cells slots pc lv st M (thr M k) := by
  intro hT H locs ls hH hS hl
  unfold thr at hT ⊢
  by_cases h0 : mX M = 0
  · rw [if_pos h0]
    have hb := B.2.2.2.2.2.2.2.1
    have hats : ∀ w ∈ vx_atS own ic (exN k) ["java/lang/RuntimeException", "java/lang/Exception"], w.before args s = true := by
      refine vx_hat (B := gsDec.map Cond.declares ++ gsCst.map (fun q => Cond.castable q.1 q.2)) (fun w hw => gw B (hat w hw)) hat2 (fun w hw => ?_)
      rcases List.mem_append.mp hw with hw | hw
      · obtain ⟨x, hx, rfl⟩ := List.mem_map.mp hw
        exact va_Nw.use rfl (hS9.2.2.2.2.1 x hx)
      · obtain ⟨x, hx, rfl⟩ := List.mem_map.mp hw
        exact va_Nw.use rfl (hS9.2.2.2.2.2.1 x hx)
    refine vx_throwSW (own := own) (cls := exN k) (text := text) (names := ["java/lang/RuntimeException", "java/lang/Exception"]) (sa := X.2.2.2.1 i) (A := gA X) B.1 B.2.1 hfl B.2.2.2.1 hfit (by decide +kernel) (gw B hkl) (gw B hini) (hS9.2.1 _ hq) hats hgood hS9.2.2.2.2.2.2.2.2.2.1 hS9.2.2.2.2.2.2.2.2.2.2 hS (by rw [B.2.2.1]; exact hl.1) d0 d3 d4 d6 d9 (fun x hx => (hxt x hx).elim) (by show 2 + 3 < _; have := hb.1; omega) (by show _ + (13 * (2 + 1) + 43) ≤ _; have := hb.2.2.2; omega) (Nat.le_trans hcs.1 hb.2.1) (Nat.le_trans hcs.2 hb.2.2.1) B.2.2.2.2.2.1 (fun t ht hz hq => ?_) hS.2.2 hcm.1 hcm.2
    obtain ⟨L, hL, hP, hD, hx⟩ := hH
    refine ⟨⟨k, M, rfl, hk, rfl, L, hL, hP.kept fun j x hx => hq x.1 (hP j x hx).lt, hD, fun z => absurd h0 z⟩, Nat.le_trans hS.1 hz, fun q h1 h2 => ?_⟩
    rw [hq q (Nat.lt_of_lt_of_le h1 hS.1)]
    exact hS.2.1 q h1 h2
  · rw [if_neg h0] at hT
    exact absurd rfl hT
end GXX
