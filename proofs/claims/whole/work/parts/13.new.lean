/-! making cells, copying, Math -/
section GN
variable {X : gX} {p : Program} {l : Launch} {e : Env} {R : Room} {s : State} {m : MethodId} {args : Array Value} {below : List Frame} {meth : Method} {c : Code} {α : Type} {Φ : Option α → State → Prop} {nL cells slots pc : Nat} {lv : List (Nat × Value)} {st : List Value} {M : mMem} {own : String} {cc : ByteArray} {rm : Room}
theorem nC_ne {k n b : Nat} (h : b ≠ mX M) : cellE X (nC M k n) b = cellE X M b :=
  cellE_ne (by simp [nC, mK, up1, h]) (by simp [nC, mN, up1, h]) (by simp [nC, mI, up1, h]) (by simp [nC, mR, up1, h]) (by simp [nC, mL, up1, h])
/-- the pool with a cell more -/
theorem g_poolN {L : List Nat} {H H1 : Heap} {k n : Nat} {e1 : va_E} (hL : ∀ a, a ∈ L ↔ mK M a ≠ 0) (hP : va_P X.2.1 vwCl (va_pl L (cellE X M)) H) (hD : va_D (gA X) (va_pl L (cellE X M))) (h0 : mX M ≠ 0) (hk0 : k ≠ 0) (hs : H.size = mX M) (z1 : H1.size = mX M + 1) (o1 : ∀ q, q < mX M → H1[q]? = H[q]?) (hlo : X.1 ≤ H.size) (he : cellE X (nC M k n) (mX M) = e1) (hat : va_at X.2.1 vwCl (mX M, e1) H1) : gHold X (nC M k n) H1 := by
  have hfr : mX M ∉ L := va_pl_fresh (X := []) (a := mX M) hP (Nat.le_of_eq hs)
  have hl : va_pl L (cellE X M) ++ [(mX M, e1)] = va_pl (L ++ [mX M]) (cellE X (nC M k n)) := by
    rw [va_pl_push hfr]
    exact va_pl_congr (hold_set he (fun b hb => nC_ne hb))
  refine ⟨L ++ [mX M], fun b => ?_, ?_, ?_, fun _ => z1⟩
  · by_cases hb : b = mX M
    · subst hb
      simp [nC, mK, up1, hk0]
    · have h3 := hL b
      simp only [List.mem_append, List.mem_singleton, hb, or_false]
      rw [h3]
      simp [nC, mK, up1, hb]
  · rw [← hl]
    refine va_P.app (hP.kept fun j x hx => o1 x.1 (by have := (hP j x hx).lt; omega)) (fun j x hx => ?_)
    have hz : j < 1 := (List.getElem?_eq_some_iff.mp hx).1
    rw [show j = 0 by omega] at hx
    cases hx
    exact hat
  · rw [← hl]
    exact hD.push hP hs.symm (show X.1 ≤ mX M by omega)
theorem g_SN {H H1 : Heap} {locs : List Loc} (hS : va_S (gA X) s.heap H locs) (hs : H.size = mX M) (z1 : H1.size = mX M + 1) (o1 : ∀ q, q < mX M → H1[q]? = H[q]?) : va_S (gA X) s.heap H1 locs :=
  ⟨Nat.le_trans hS.1 (by omega), fun x h1 h2 => (o1 x (by have := hS.1; omega)).trans (hS.2.1 x h1 h2), hS.2.2⟩
theorem g_new {ci index N : Nat} {C : String} {T0 : u_T} {t : Nat × mMem → Option α} (B : gB X p R s m args meth c own cc nL rm) (hci : ci < 12) (hc : vwCl[ci]? = some (C, T0, N)) (hin : ∀ w ∈ u_ws C T0 N, w ∈ gTbl) (ty0 : Nat → FieldType) (hty : ∀ k, k < N → parseFieldDescriptor (T0 k).2.2.1 = some (ty0 k)) (hdf : ∀ k, k < N → (mskL.getD ci [])[k]? = some (match ty0 k with | .object _ => true | .array _ => true | _ => false) ∧ defaultValue (ty0 k) = (match ty0 k with | .object _ => .null | .array _ => .null | _ => .int 0)) (hcl : Cond.classLink own index C ∈ gTbl) (hinst : Cond.instantiable C N ∈ gTbl) (hini : Cond.initialized C ∈ gTbl) (hcs : cells + 1 ≤ rm.cells ∧ slots + N ≤ rm.slots) (hd : decode cc pc = .ok (.new index, 3)) (kk : ∀ r : Nat × mMem, GG X p l e R s m args below meth c Φ nL (cells + 1) (slots + N) (pc + 3) lv (.ref r.1 :: st) r.2 (t r)) : GG X p l e R s m args below meth c Φ nL cells slots pc lv st M ((newC M (ci + 1) 0).bind t) := by
  intro hT H locs ls hH hS hl
  unfold newC at hT ⊢
  by_cases h : mX M ≠ 0
  · rw [if_pos h, Option.bind_some] at hT ⊢
    obtain ⟨L, hL, hP, hD, hx⟩ := id hH
    have hs := hx h
    have hts := B.2.2.2.2.1
    have hb := B.2.2.2.2.2.2.2.1
    have hKn := B.2.2.2.2.2.2.1.1 ci _ hc
    refine W.newcK B.1 B.2.1 B.2.2.2.1 (hts _ hcl) (hts _ hinst) (hts _ hini) rfl hd (Nat.le_trans hcs.1 hb.2.1) (Nat.le_trans hcs.2 hb.2.2.1) hKn.2.1 hs fun H1 kC hkC e1 z1 o1 => ?_
    have ek : mK (nC M (ci + 1) 0) (mX M) = ci + 1 := by simp [nC, mK, up1]
    refine kk (mX M, nC M (ci + 1) 0) hT H1 locs ls (g_poolN hL hP hD h (by omega) hs z1 o1 (Nat.le_trans B.2.2.2.2.2.2.2.2 hS.1) (cellE_obj ek hci) ⟨_, hc, (u_born ty0 hts (fun w hw => hin w hw) hKn hkC e1 hty).to (fun j hj => ?_)⟩) (g_SN hS hs z1 o1) hl
    obtain ⟨d1, d2⟩ := hdf j hj
    have e9 : (flds ci (nC M (ci + 1) 0) (mX M))[j]? = some (if (match ty0 j with | .object _ => true | .array _ => true | _ => false) = true then .null else .int 0) := by
      simp only [flds, List.getElem?_mapIdx, d1]
      simp [nC, mR, mI, up1, rO, va_rf]
    rw [d2]
    simp only [vp_V, List.getD_eq_getElem?_getD, e9]
    cases ty0 j <;> rfl
  · simp [h] at hT
theorem g_arr {cA cB : ClassId} {ty : FieldType} (h1 : va_RA s cA ty) (h2 : va_RA s cB ty) : cA = cB := by
  cases ty with
  | object C =>
    obtain ⟨kA, comp, -, -, -, h1⟩ := h1
    obtain ⟨kA, comp, -, -, -, h2⟩ := h2
    exact Option.some.inj (h1.symm.trans h2)
  | _ => exact Option.some.inj (Eq.trans (Eq.symm h1) h2)
theorem g_newarrayI {n : Int32} {N : Nat} {t : Nat × mMem → Option α} (B : gB X p R s m args meth c own cc nL rm) (harr : Cond.arrayClass .int ∈ gTbl) (hn : ¬ n < 0) (hN : n.toNatClampNeg = N) (hby : N * 4 ≤ 536870912) (hcs : cells + 1 ≤ rm.cells ∧ slots + N ≤ rm.slots) (hd : decode cc pc = .ok (.newarray .int, 2)) (kk : ∀ r : Nat × mMem, GG X p l e R s m args below meth c Φ nL (cells + 1) (slots + N) (pc + 2) lv (.ref r.1 :: st) r.2 (t r)) : GG X p l e R s m args below meth c Φ nL cells slots pc lv (.int n :: st) M ((newC M 20 N).bind t) := by
  intro hT H locs ls hH hS hl
  unfold newC at hT ⊢
  by_cases h : mX M ≠ 0
  · rw [if_pos h, Option.bind_some] at hT ⊢
    obtain ⟨L, hL, hP, hD, hx⟩ := id hH
    have hs := hx h
    have hts := B.2.2.2.2.1
    have hb := B.2.2.2.2.2.2.2.1
    refine va_newaK (atype := .int) B.1 B.2.1 (hts _ harr) rfl hd rfl hn hN hby (Nat.le_trans hcs.1 hb.2.1) (Nat.le_trans hcs.2 hb.2.2.1) hs fun H1 cA e1 z1 o1 hAr hNm => ?_
    have hcA : cA = X.2.2.1 20 := g_arr (s := s) (ty := .int) hNm (B.2.2.2.2.2.2.1.2 0 _ rfl).2
    subst hcA
    have ek : mK (nC M 20 N) (mX M) = 20 := by simp [nC, mK, up1]
    refine kk (mX M, nC M 20 N) hT H1 locs ls (g_poolN hL hP hD h (by omega) hs z1 o1 (Nat.le_trans B.2.2.2.2.2.2.2.2 hS.1) (cellE_20 ek) ?_) (g_SN hS hs z1 o1) hl
    show H1[mX M]? = some (vp_cell _ _)
    rw [e1]
    simp [nC, mN, mI, up1, vp_cell_i]
    rfl
  · simp [h] at hT
theorem g_newarrayB {n : Int32} {N : Nat} {t : Nat × mMem → Option α} (B : gB X p R s m args meth c own cc nL rm) (harr : Cond.arrayClass .byte ∈ gTbl) (hn : ¬ n < 0) (hN : n.toNatClampNeg = N) (hby : N * 1 ≤ 536870912) (hcs : cells + 1 ≤ rm.cells ∧ slots + N ≤ rm.slots) (hd : decode cc pc = .ok (.newarray .byte, 2)) (kk : ∀ r : Nat × mMem, GG X p l e R s m args below meth c Φ nL (cells + 1) (slots + N) (pc + 2) lv (.ref r.1 :: st) r.2 (t r)) : GG X p l e R s m args below meth c Φ nL cells slots pc lv (.int n :: st) M ((newC M 21 N).bind t) := by
  intro hT H locs ls hH hS hl
  unfold newC at hT ⊢
  by_cases h : mX M ≠ 0
  · rw [if_pos h, Option.bind_some] at hT ⊢
    obtain ⟨L, hL, hP, hD, hx⟩ := id hH
    have hs := hx h
    have hts := B.2.2.2.2.1
    have hb := B.2.2.2.2.2.2.2.1
    refine va_newaK (atype := .byte) B.1 B.2.1 (hts _ harr) rfl hd rfl hn hN hby (Nat.le_trans hcs.1 hb.2.1) (Nat.le_trans hcs.2 hb.2.2.1) hs fun H1 cA e1 z1 o1 hAr hNm => ?_
    have hcA : cA = X.2.2.1 21 := g_arr (s := s) (ty := .byte) hNm (B.2.2.2.2.2.2.1.2 1 _ rfl).2
    subst hcA
    have ek : mK (nC M 21 N) (mX M) = 21 := by simp [nC, mK, up1]
    refine kk (mX M, nC M 21 N) hT H1 locs ls (g_poolN hL hP hD h (by omega) hs z1 o1 (Nat.le_trans B.2.2.2.2.2.2.2.2 hS.1) (cellE_21 ek) ?_) (g_SN hS hs z1 o1) hl
    show H1[mX M]? = some (vp_cell _ _)
    rw [e1]
    simp [nC, mN, mI, up1, vp_cell_i]
    rfl
  · simp [h] at hT
theorem g_newarrayL {n : Int32} {N : Nat} {t : Nat × mMem → Option α} (B : gB X p R s m args meth c own cc nL rm) (harr : Cond.arrayClass .long ∈ gTbl) (hn : ¬ n < 0) (hN : n.toNatClampNeg = N) (hby : N * 8 ≤ 536870912) (hcs : cells + 1 ≤ rm.cells ∧ slots + N ≤ rm.slots) (hd : decode cc pc = .ok (.newarray .long, 2)) (kk : ∀ r : Nat × mMem, GG X p l e R s m args below meth c Φ nL (cells + 1) (slots + N) (pc + 2) lv (.ref r.1 :: st) r.2 (t r)) : GG X p l e R s m args below meth c Φ nL cells slots pc lv (.int n :: st) M ((newC M 22 N).bind t) := by
  intro hT H locs ls hH hS hl
  unfold newC at hT ⊢
  by_cases h : mX M ≠ 0
  · rw [if_pos h, Option.bind_some] at hT ⊢
    obtain ⟨L, hL, hP, hD, hx⟩ := id hH
    have hs := hx h
    have hts := B.2.2.2.2.1
    have hb := B.2.2.2.2.2.2.2.1
    refine va_newaK (atype := .long) B.1 B.2.1 (hts _ harr) rfl hd rfl hn hN hby (Nat.le_trans hcs.1 hb.2.1) (Nat.le_trans hcs.2 hb.2.2.1) hs fun H1 cA e1 z1 o1 hAr hNm => ?_
    have hcA : cA = X.2.2.1 22 := g_arr (s := s) (ty := .long) hNm (B.2.2.2.2.2.2.1.2 2 _ rfl).2
    subst hcA
    have ek : mK (nC M 22 N) (mX M) = 22 := by simp [nC, mK, up1]
    refine kk (mX M, nC M 22 N) hT H1 locs ls (g_poolN hL hP hD h (by omega) hs z1 o1 (Nat.le_trans B.2.2.2.2.2.2.2.2 hS.1) (cellE_22 ek) ?_) (g_SN hS hs z1 o1) hl
    show H1[mX M]? = some (vp_cell _ _)
    rw [e1]
    simp [nC, mN, mL, up1, vp_cell_l]
    rfl
  · simp [h] at hT
theorem g_anewarray {n : Int32} {N index k t0 : Nat} {C : String} {t : Nat × mMem → Option α} (hk : k = 23 ∨ k = 24) (B : gB X p R s m args meth c own cc nL rm) (hcl : Cond.classLink own index C ∈ gTbl) (hov : va_AO C s) (ht0 : (gT X)[t0]? = some (X.2.2.1 k, .object C)) (hn : ¬ n < 0) (hN : n.toNatClampNeg = N) (hby : N * 4 ≤ 536870912) (hcs : cells + 1 ≤ rm.cells ∧ slots + N ≤ rm.slots) (hd : decode cc pc = .ok (.anewarray index, 3)) (kk : ∀ r : Nat × mMem, GG X p l e R s m args below meth c Φ nL (cells + 1) (slots + N) (pc + 3) lv (.ref r.1 :: st) r.2 (t r)) : GG X p l e R s m args below meth c Φ nL cells slots pc lv (.int n :: st) M ((newC M k N).bind t) := by
  intro hT H locs ls hH hS hl
  unfold newC at hT ⊢
  by_cases h : mX M ≠ 0
  · rw [if_pos h, Option.bind_some] at hT ⊢
    obtain ⟨L, hL, hP, hD, hx⟩ := id hH
    have hs := hx h
    have hts := B.2.2.2.2.1
    have hb := B.2.2.2.2.2.2.2.1
    subst hN
    refine W.anew B.1 B.2.1 B.2.2.2.1 (hts _ hcl) (va_AO.use hov) rfl hd rfl hn hby (Nat.le_trans hcs.1 hb.2.1) (Nat.le_trans hcs.2 hb.2.2.1) fun cA kA comp f1 f2 f3 f4 => ?_
    have hcA : cA = X.2.2.1 k := g_arr (s := s) (ty := .object C) ⟨kA, comp, f2, f3, f4, f1⟩ (B.2.2.2.2.2.2.1.2 t0 _ ht0).2
    subst hcA
    generalize hH1 : H.push ({ cls := X.2.2.1 k, slots := Array.replicate n.toNatClampNeg .null, vm := .none } : Cell) = H1
    have z1 : H1.size = mX M + 1 := by rw [← hH1, Array.size_push, hs]
    have e1 : H1[mX M]? = some (arrV (X.2.2.1 k) n.toNatClampNeg (fun _ => .null)) := by rw [← hH1, ← hs, Array.getElem?_push_size, ← arrV_new]
    have o1 : ∀ q : Nat, q < mX M → H1[q]? = H[q]? := fun q hq => by rw [← hH1, Array.getElem?_push, if_neg (by omega)]
    have ek : mK (nC M k n.toNatClampNeg) (mX M) = k := by simp [nC, mK, up1]
    rw [hs]
    refine kk (mX M, nC M k n.toNatClampNeg) hT H1 locs ls ?_ (g_SN hS hs z1 o1) hl
    have hat : va_at X.2.1 vwCl (mX M, .inl (X.2.2.1 k, mN (nC M k n.toNatClampNeg) (mX M), .inr (.inr (.inr (.inr (fun j => rO (mR (nC M k n.toNatClampNeg) (mX M) j))))))) H1 := by
      show H1[mX M]? = some (vp_cell _ _)
      rw [e1, vp_cell_q]
      simp [nC, mN, mR, up1, rO, va_rf]
    rcases hk with rfl | rfl
    · exact g_poolN hL hP hD h (by omega) hs z1 o1 (Nat.le_trans B.2.2.2.2.2.2.2.2 hS.1) (cellE_23 ek) hat
    · exact g_poolN hL hP hD h (by omega) hs z1 o1 (Nat.le_trans B.2.2.2.2.2.2.2.2 hS.1) (cellE_24 ek) hat
  · simp [h] at hT
/-- a reference into a row: Family or Person -/
theorem g_aastore {k t0 ci N : Nat} {C : String} {T0 : u_T} {a v : Nat} {j : Int32} {t : mMem → Option α} (hk : k = 23 ∨ k = 24) (hci : ci < 12) (hc : vwCl[ci]? = some (C, T0, N)) (B : gB X p R s m args meth c own cc nL rm) (ht0 : (gT X)[t0]? = some (X.2.2.1 k, .object C)) (hd : decode cc pc = .ok (.aastore, 1)) (kk : ∀ M', GG X p l e R s m args below meth c Φ nL cells slots (pc + 1) lv st M' (t M')) : GG X p l e R s m args below meth c Φ nL cells slots pc lv (.ref v :: .int j :: .ref a :: st) M ((astR M a k (ci + 1) j v).bind t) := by
  intro hT H locs ls hH hS hl
  unfold astR at hT ⊢
  by_cases h : mK M a = k ∧ (0 ≤ j ∧ j.toNatClampNeg < mN M a) ∧ mK M v = ci + 1 ∧ v ≠ 0
  · rw [if_pos h, Option.bind_some] at hT ⊢
    obtain ⟨L, hL, hP, hD, hx⟩ := id hH
    obtain ⟨q, hq⟩ := g_at hL hP (a := a) (by omega)
    obtain ⟨qv, hqv⟩ := g_at hL hP (a := v) (by omega)
    have hq0 := hq
    rw [cellE_obj h.2.2.1 hci] at hqv
    have hK := B.2.2.2.2.2.2.1
    have ea : cellE X M a = .inl (X.2.2.1 k, mN M a, .inr (.inr (.inr (.inr (fun j => rO (mR M a j)))))) := by
      rcases hk with rfl | rfl
      · exact cellE_23 h.1
      · exact cellE_24 h.1
    have ea2 : cellE X (sR M a j.toNatClampNeg v) a = .inl (X.2.2.1 k, mN M a, .inr (.inr (.inr (.inr (fun i => rO (mR (sR M a j.toNatClampNeg v) a i)))))) := by
      rcases hk with rfl | rfl
      · exact cellE_23 (M := sR M a j.toNatClampNeg v) h.1
      · exact cellE_24 (M := sR M a j.toNatClampNeg v) h.1
    rw [ea] at hq
    obtain ⟨r', hr', cellV, g1, g2, g3, -⟩ := hP qv _ hqv
    have hcls := (hK.1 ci _ hc).2
    obtain ⟨kA, comp, k1, k2, k3, -⟩ := (hK.2 t0 _ ht0).2
    have hcomp : comp = X.2.1.1 ci := Option.some.inj (k3.symm.trans hcls.1)
    subst hcomp
    obtain ⟨kC, hkC, -⟩ := hcls.2
    refine W.aast B.1 B.2.1 (hP q _ hq) (fun q h => by cases h) (fun h => by cases h) k1 k2 rfl hkC ⟨Int32.not_lt.mpr h.2.1.1, by show _ < (arrV _ _ _).slots.size; rw [arrV_size]; exact h.2.1.2⟩ g1 (fun q h => by rw [g3] at h; cases h) (by rw [g2]; exact hkC) (by rw [g2]; exact va_assign hcls) rfl rfl hd fun H1 e z oq => ?_
    have e9 : H1[a]? = some (vp_cell (X.2.2.1 k) (mN M a, .inr (.inr (.inr (.inr (fun i => rO (mR (sR M a j.toNatClampNeg v) a i))))))) := by
      rw [e, vp_cell_q, vp_cell_q, arrV_store]
      congr 2
      funext i
      by_cases hi : i = j.toNatClampNeg
      · subst hi
        simp [updV, sR, mR, up2, rO, h.2.2.2, va_rf]
      · simp [updV, sR, mR, up2, hi]
    have p1 := hP.set (e := .inl (X.2.2.1 k, mN M a, .inr (.inr (.inr (.inr (fun i => rO (mR (sR M a j.toNatClampNeg v) a i))))))) hD hq e9 oq
    exact kk _ hT H1 _ ls (g_pool hL hD hq0 (by omega) (fun _ => rfl) (M' := sR M a j.toNatClampNeg v) ea2 (fun b hb => cellE_ne rfl rfl rfl (sR_ne hb) rfl) (fun z9 => z.trans (hx z9)) p1 (hD.set hq)) (hS.put z oq (hD.2 q _ hq)) hl
  · simp [h] at hT
theorem g_copyI {index a b : Nat} {sp dp n : Int32} {t : mMem → Option α} (B : gB X p R s m args meth c own cc nL rm) (hl0 : Cond.methodLink own index arraycopyName ∈ gTbl) (hnat : Cond.native arraycopyName ∈ gTbl) (hstat : Cond.static arraycopyName ∈ gTbl) (hini : Cond.initialized "java/lang/System" ∈ gTbl) (hf : 1 ≤ rm.frames) (hlo : (st.map fun v => v.category).sum + (nativeFrameWords "java/lang/System" "arraycopy" 5 + 11) ≤ rm.locals) (hd : decode cc pc = .ok (.invokestatic index, 3)) (kk : ∀ M', GG X p l e R s m args below meth c Φ nL cells slots (pc + 3) lv st M' (t M')) : GG X p l e R s m args below meth c Φ nL cells slots pc lv (.int n :: .int dp :: .ref b :: .int sp :: .ref a :: st) M ((cpyI M a sp b dp n).bind t) := by
  intro hT H locs ls hH hS hl
  unfold cpyI at hT ⊢
  by_cases h : mX M = 0 ∧ mK M a = 20 ∧ mK M b = 20 ∧ 0 ≤ sp ∧ 0 ≤ dp ∧ 0 ≤ n ∧ sp.toNatClampNeg + n.toNatClampNeg ≤ mN M a ∧ dp.toNatClampNeg + n.toNatClampNeg ≤ mN M b
  · rw [if_pos h, Option.bind_some] at hT ⊢
    obtain ⟨hx0, h1, h2, h3, h4, h5, h6, h7⟩ := h
    obtain ⟨L, hL, hP, hD, hx⟩ := id hH
    have hts := B.2.2.2.2.1
    have hb := B.2.2.2.2.2.2.2.1
    obtain ⟨qa, hqa⟩ := g_at hL hP (a := a) (by omega)
    obtain ⟨qb, hqb⟩ := g_at hL hP (a := b) (by omega)
    have hq0 := hqb
    rw [cellE_20 h1] at hqa
    rw [cellE_20 h2] at hqb
    refine va_copyi B.1 B.2.1 (by rw [B.2.2.1]; exact hl.1.symm) B.2.2.2.1 (hts _ hl0) (hts _ hnat) (hts _ hstat) (hts _ hini) B.2.2.2.2.2.2.1 hP hD hS qa qb 0 0 hqa hqb rfl rfl rfl (Int32.not_lt.mpr h3) (Int32.not_lt.mpr h4) (Int32.not_lt.mpr h5) h6 h7 (fun _ _ => rfl) (Nat.le_trans hf hb.1) (Nat.le_trans hlo hb.2.2.2) hd (fun H1 locs1 p1 p2 hS1 => ?_)
    refine kk (cI M a b sp.toNatClampNeg dp.toNatClampNeg n.toNatClampNeg) hT H1 _ ls (g_pool hL hD hq0 (by omega) (fun _ => rfl) (M' := cI M a b sp.toNatClampNeg dp.toNatClampNeg n.toNatClampNeg) ?_ (fun q hq => cellE_ne rfl rfl (by simp [cI, mI, up1, hq]) rfl rfl) (fun z => absurd hx0 z) p1 p2) hS1 hl
    rw [cellE_20 (M := cI M a b sp.toNatClampNeg dp.toNatClampNeg n.toNatClampNeg) h2]
    have e8 : mI (cI M a b sp.toNatClampNeg dp.toNatClampNeg n.toNatClampNeg) b = va_cpy (mI M a) (mI M b) sp.toNatClampNeg dp.toNatClampNeg n.toNatClampNeg := by
      funext k
      simp [cI, mI, up1, va_cpy]
    rw [e8]
    rfl
  · simp [h] at hT
theorem g_max {index : Nat} {x y : Int32} {T : Option α} (B : gB X p R s m args meth c own cc nL rm) (hl0 : Cond.methodLink own index Lib.Math.max.name ∈ gTbl) (hst : Cond.static Lib.Math.max.name ∈ gTbl) (hini : Cond.initialized "java/lang/Math" ∈ gTbl) (hco : Cond.code Lib.Math.max.name Lib.Math.max.code 2 (some .int) ∈ gTbl) (hf : 1 ≤ rm.frames) (hlo : (st.map fun v => v.category).sum + 13 ≤ rm.locals) (hcs : cells ≤ rm.cells ∧ slots ≤ rm.slots) (hd : decode cc pc = .ok (.invokestatic index, 3)) (kk : GG X p l e R s m args below meth c Φ nL cells slots (pc + 3) lv (.int (maxI x y) :: st) M T) : GG X p l e R s m args below meth c Φ nL cells slots pc lv (.int y :: .int x :: st) M T := by
  intro hT H locs ls hH hS hl
  have hts := B.2.2.2.2.1
  have hb := B.2.2.2.2.2.2.2.1
  exact va_mmax B.1 B.2.1 (by rw [B.2.2.1]; exact hl.1.symm) B.2.2.2.1 (hts _ hl0) (hts _ hst) (hts _ hini) (hts _ hco) (Nat.le_trans hf hb.1) (Nat.le_trans hlo hb.2.2.2) (Nat.le_trans hcs.1 hb.2.1) (Nat.le_trans hcs.2 hb.2.2.1) hd (kk hT H locs ls hH hS hl)
theorem g_min {index : Nat} {x y : Int32} {T : Option α} (B : gB X p R s m args meth c own cc nL rm) (hl0 : Cond.methodLink own index Lib.Math.min.name ∈ gTbl) (hst : Cond.static Lib.Math.min.name ∈ gTbl) (hini : Cond.initialized "java/lang/Math" ∈ gTbl) (hco : Cond.code Lib.Math.min.name Lib.Math.min.code 2 (some .int) ∈ gTbl) (hf : 1 ≤ rm.frames) (hlo : (st.map fun v => v.category).sum + 13 ≤ rm.locals) (hcs : cells ≤ rm.cells ∧ slots ≤ rm.slots) (hd : decode cc pc = .ok (.invokestatic index, 3)) (kk : GG X p l e R s m args below meth c Φ nL cells slots (pc + 3) lv (.int (minI x y) :: st) M T) : GG X p l e R s m args below meth c Φ nL cells slots pc lv (.int y :: .int x :: st) M T := by
  intro hT H locs ls hH hS hl
  have hts := B.2.2.2.2.1
  have hb := B.2.2.2.2.2.2.2.1
  exact va_mmin B.1 B.2.1 (by rw [B.2.2.1]; exact hl.1.symm) B.2.2.2.1 (hts _ hl0) (hts _ hst) (hts _ hini) (hts _ hco) (Nat.le_trans hf hb.1) (Nat.le_trans hlo hb.2.2.2) (Nat.le_trans hcs.1 hb.2.1) (Nat.le_trans hcs.2 hb.2.2.1) hd (kk hT H locs ls hH hS hl)
theorem g_abs {index : Nat} {x : Int32} {T : Option α} (B : gB X p R s m args meth c own cc nL rm) (hl0 : Cond.methodLink own index Lib.Math.abs.name ∈ gTbl) (hst : Cond.static Lib.Math.abs.name ∈ gTbl) (hini : Cond.initialized "java/lang/Math" ∈ gTbl) (hco : Cond.code Lib.Math.abs.name Lib.Math.abs.code 1 (some .int) ∈ gTbl) (hf : 1 ≤ rm.frames) (hlo : (st.map fun v => v.category).sum + 13 ≤ rm.locals) (hcs : cells ≤ rm.cells ∧ slots ≤ rm.slots) (hd : decode cc pc = .ok (.invokestatic index, 3)) (kk : GG X p l e R s m args below meth c Φ nL cells slots (pc + 3) lv (.int (absI x) :: st) M T) : GG X p l e R s m args below meth c Φ nL cells slots pc lv (.int x :: st) M T := by
  intro hT H locs ls hH hS hl
  have hts := B.2.2.2.2.1
  have hb := B.2.2.2.2.2.2.2.1
  exact va_mabs B.1 B.2.1 (by rw [B.2.2.1]; exact hl.1.symm) B.2.2.2.1 (hts _ hl0) (hts _ hst) (hts _ hini) (hts _ hco) (Nat.le_trans hf hb.1) (Nat.le_trans hlo hb.2.2.2) (Nat.le_trans hcs.1 hb.2.1) (Nat.le_trans hcs.2 hb.2.2.1) hd (kk hT H locs ls hH hS hl)
end GN
