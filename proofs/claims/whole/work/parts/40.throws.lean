/-! methods that throw: the ends, the calls, the throw itself -/
def exL : List String := ["java/lang/IllegalArgumentException", "java/lang/IllegalStateException", "java/lang/IndexOutOfBoundsException", "java/lang/UnsupportedOperationException", "java/util/NoSuchElementException"]
def exN (k : Nat) : String := exL.getD k ""
def gxQ (X : gX) {α : Type} (ret : α → Option Value × mMem) (T : Option ((Nat × mMem) ⊕ α)) : Array Value → State → Outcome → State → Prop := fun _ st o t => (∃ r, T = some (.inr r) ∧ o = .returned (ret r).1 ∧ gHold X (ret r).2 t.heap) ∧ va_F (gA X) st t
def gxX (X : gX) {α : Type} (T : Option ((Nat × mMem) ⊕ α)) : String → State → State → Prop := fun E st t => (∃ k M', T = some (.inl (k, M')) ∧ k < 5 ∧ exN k = E ∧ gHold X M' t.heap) ∧ va_F (gA X) st t
def gxP (X : gX) (below : List Frame) (args : Array Value) (s : State) (mc ms : Nat) {α : Type} (ret : α → Option Value × mMem) : Option ((Nat × mMem) ⊕ α) → State → Prop := fun T => vx_MQ below (gxQ X ret T) (gxX X T) args s mc ms (gA X)
def xCon (X : gX) (l : Launch) (y : MethodName) (cc : ByteArray) (maxL : Nat) (rt : Option FieldType) (rm : Room) {α : Type} (ret : α → Option Value × mMem) (As : List Value) (M : mMem) (T : Option ((Nat × mMem) ⊕ α)) : Prop :=
  T ≠ none → vx_Met l y (Cond.code y cc maxL rt :: gTbl) rm (gPc X As M) (gxQ X ret T) (gxX X T) rm.cells rm.slots (gA X)
/-- thrown: the number of the class, the memory -/
def thr {α : Type} (M : mMem) (k : Nat) : Option ((Nat × mMem) ⊕ α) := if mX M = 0 then some (.inl (k, M)) else none
/-- a normal end -/
def xr {α : Type} (T : Option α) : Option ((Nat × mMem) ⊕ α) := T.map Sum.inr
/-- behind a call that may throw -/
def xb {α β : Type} (P : Option ((Nat × mMem) ⊕ β)) (t : β → Option ((Nat × mMem) ⊕ α)) : Option ((Nat × mMem) ⊕ α) :=
  match P with
  | none => none
  | some (.inl e) => some (.inl e)
  | some (.inr v) => t v
section GXX
variable {X : gX} {p : Program} {l : Launch} {e : Env} {R : Room} {s : State} {m : MethodId} {args : Array Value} {below : List Frame} {meth : Method} {c : Code} {α : Type} {nL cells slots pc : Nat} {lv : List (Nat × Value)} {st : List Value} {M : mMem} {own : String} {cc : ByteArray} {rm : Room} {mc ms : Nat} {ret : α → Option Value × mMem}
theorem g_xr {T : Option α} (kk : GG X p l e R s m args below meth c (gP X below args s mc ms ret) nL cells slots pc lv st M T) : GG X p l e R s m args below meth c (gxP X below args s mc ms ret) nL cells slots pc lv st M (xr T) := by
  intro hT H locs ls hH hS hl
  cases T with
  | none => exact absurd rfl hT
  | some r =>
    intro T0 hT0 X0
    obtain ⟨t, a1, o, b1, b2, ⟨⟨r', hr', ho, hh⟩, hf⟩, b4⟩ := kk (by simp) H locs ls hH hS hl T0 hT0 X0
    cases hr'
    exact ⟨t, a1, o, b1, b2, Or.inl ⟨⟨⟨r, rfl, ho, hh⟩, hf⟩, b4⟩⟩
/-- out of the method, thrown -/
theorem g_xout {k : Nat} {M' : mMem} {H : Heap} {locs : List Loc} {ls : Array Slot} {q : Addr} {ce : Cell} {T : Option ((Nat × mMem) ⊕ α)} (hxt : ∀ x ∈ c.exceptionTable.toList, False) (hlocks : meth.locks = false) (hT : T = some (.inl (k, M'))) (hk : k < 5) (hH : gHold X M' H) (hS : va_S (gA X) s.heap H locs) (hc : H[q]? = some ce) (hv : ce.vm = .none) (hcl : s.vm.findClass (exN k) = some ce.cls) (h1 : cells ≤ mc) (h2 : slots ≤ ms) : vx_W p l e R s m args below meth c H locs cells slots (gxP X below args s mc ms ret T) (F0 m pc ls st) q :=
  vx_out (fun x hx => (hxt x hx).elim) hlocks hc hv hcl (fun t ht hvm => ⟨⟨k, M', hT, hk, rfl, by rw [ht]; exact hH⟩, hS.F ht⟩) hS.2.2 h1 h2
theorem g_xrun {β : Type} {rb : β → Option Value × mMem} {P : Option ((Nat × mMem) ⊕ β)} {t : β → Option ((Nat × mMem) ⊕ α)} {a : Array Value} {mc1 ms1 : Nat} {st0 : List Value} (hxt : ∀ x ∈ c.exceptionTable.toList, False) (hlocks : meth.locks = false)
    (hrun : P ≠ none → ∀ (H : Heap) (locs : List Loc) (ls : Array Slot), gHold X M H → va_S (gA X) s.heap H locs → lv_has ls nL lv → vx_Run p l e R s m args below meth c H locs cells slots mc1 ms1 (F0 m pc ls st0) st (gxQ X rb P a) (gxX X P) (gA X)) (h1 : cells + mc1 ≤ mc) (h2 : slots + ms1 ≤ ms)
    (kk : ∀ r, GG X p l e R s m args below meth c (gxP X below args s mc ms ret) nL (cells + mc1) (slots + ms1) (pc + 3) lv ((rb r).1.toList ++ st) (rb r).2 (t r)) : GG X p l e R s m args below meth c (gxP X below args s mc ms ret) nL cells slots pc lv st0 M (xb P t) := by
  intro hT H locs ls hH hS hl
  have hP : P ≠ none := by
    intro h
    rw [h] at hT
    exact hT rfl
  intro T0 hT0 X0
  rcases hrun hP H locs ls hH hS hl T0 hT0 X0 with ⟨v, st₀, t2, T', L, h0, X', hL, e1, e2, ⟨⟨r, hr, hv, hb⟩, hz, hk⟩, step⟩ | ⟨q, st₀, t2, T', L, E, ce, h0, X', hL, e1, e2, ⟨⟨k, M', hr, hk5, hE, hb⟩, hz, hk⟩, hce, hcv, hcl, step⟩
  · rw [h0] at hz hk
    subst hr
    cases hv
    obtain ⟨t3, a1, b1⟩ := kk r hT T'.heap (locs ++ L) ls (by rw [e1]; exact hb) ⟨Nat.le_trans hS.1 (by rw [e1]; exact hz), fun q h1 h2 => by rw [e1, hk q (Nat.lt_of_lt_of_le h1 hS.1) h2]; exact hS.2.1 q h1 h2, fun q hq => by
        rcases List.mem_append.mp hq with h | h
        · exact hS.2.2 q h
        · exact hL q h⟩ hl T' rfl X'
    exact ⟨t3, step t3 a1, b1⟩
  · rw [h0] at hz hk
    subst hr
    subst hE
    have hS1 : va_S (gA X) s.heap T'.heap (locs ++ L) := ⟨Nat.le_trans hS.1 (by rw [e1]; exact hz), fun q h1 h2 => by rw [e1, hk q (Nat.lt_of_lt_of_le h1 hS.1) h2]; exact hS.2.1 q h1 h2, fun q hq => by
        rcases List.mem_append.mp hq with h | h
        · exact hS.2.2 q h
        · exact hL q h⟩
    obtain ⟨t3, a1, b1⟩ := g_xout (X := X) (p := p) (l := l) (e := e) (R := R) (args := args) (below := below) (ret := ret) (pc := pc) (ls := ls) (st := st) (T := xb (some (.inl (k, M'))) t) hxt hlocks rfl hk5 (by rw [e1]; exact hb) hS1 (by rw [e1]; exact hce) hcv hcl h1 h2 T' rfl X'
    exact ⟨t3, step.trans a1, b1⟩
/-- a must-call: it throws, or goes on -/
theorem g_xcallS {P : Option ((Nat × mMem) ⊕ Unit)} {t : Unit → Option ((Nat × mMem) ⊕ α)} {y : MethodName} {cb : ByteArray} {maxL n index : Nat} {rt : Option FieldType} {rmC : Room} (As : List Value) (B : gB X p R s m args meth c own cc nL rm) (hS9 : gS X s) (hxt : ∀ x ∈ c.exceptionTable.toList, False) (mf : gMF y cb maxL rt n) (hst : Cond.static y ∈ gTbl) (hl : Cond.methodLink own index y ∈ gTbl) (con : xCon X l y cb maxL rt rmC (fun _ : Unit => (none, M)) As M P) (hf : rmC.frames + 1 ≤ rm.frames) (hlo : 8 + (maxL + 11) + rmC.locals ≤ rm.locals) (hcs : cells + rmC.cells ≤ rm.cells ∧ slots + rmC.slots ≤ rm.slots) (hcm : cells + rmC.cells ≤ mc ∧ slots + rmC.slots ≤ ms) (hn : As.length = n) (hw : (st.map fun v => v.category).sum ≤ 8) (hd : decode cc pc = .ok (.invokestatic index, 3)) {st0 : List Value} (hst0 : st0 = As.reverse ++ st)
    (kk : ∀ r, GG X p l e R s m args below meth c (gxP X below args s mc ms ret) nL (cells + rmC.cells) (slots + rmC.slots) (pc + 3) lv st M (t r)) : GG X p l e R s m args below meth c (gxP X below args s mc ms ret) nL cells slots pc lv st0 M (xb P t) := by
  refine g_xrun (rb := fun _ : Unit => (none, M)) (a := As.toArray) hxt B.2.2.2.2.2.1 (fun hP H locs ls hH hS hl9 => ?_) hcm.1 hcm.2 kk
  have hb := B.2.2.2.2.2.2.2.1
  exact vx_runS (gB_fix B) (con hP) ⟨g_callB B mf hl hf hlo, gw B hst⟩ (g_pre B hS9 hH hS As) rfl hn hl9.1 hst0 (lv_room hw) hd ⟨Nat.le_trans hcs.1 hb.2.1, Nat.le_trans hcs.2 hb.2.2.1⟩
theorem g_xcallV {P : Option ((Nat × mMem) ⊕ Unit)} {t : Unit → Option ((Nat × mMem) ⊕ α)} {y : MethodName} {cb : ByteArray} {maxL n index : Nat} {rt : Option FieldType} {rmC : Room} (As : List Value) {a ci N : Nat} {C : String} {T0 : u_T} (B : gB X p R s m args meth c own cc nL rm) (hS9 : gS X s) (hxt : ∀ x ∈ c.exceptionTable.toList, False) (mf : gMF y cb maxL rt n) (hin : Cond.instanceMethod y ∈ gTbl) (hse : (Cond.selects C y y).before args s = true) (hl : Cond.methodLink own index y ∈ gTbl) (hci : ci < 12) (hc : vwCl[ci]? = some (C, T0, N)) (hk : P ≠ none → mK M a = ci + 1) (con : xCon X l y cb maxL rt rmC (fun _ : Unit => (none, M)) (.ref a :: As) M P) (hf : rmC.frames + 1 ≤ rm.frames) (hlo : 8 + (maxL + 11) + rmC.locals ≤ rm.locals) (hcs : cells + rmC.cells ≤ rm.cells ∧ slots + rmC.slots ≤ rm.slots) (hcm : cells + rmC.cells ≤ mc ∧ slots + rmC.slots ≤ ms) (hn : As.length = n) (hw : (st.map fun v => v.category).sum ≤ 8) (hd : decode cc pc = .ok (.invokevirtual index, 3)) {st0 : List Value} (hst0 : st0 = As.reverse ++ .ref a :: st)
    (kk : ∀ r, GG X p l e R s m args below meth c (gxP X below args s mc ms ret) nL (cells + rmC.cells) (slots + rmC.slots) (pc + 3) lv st M (t r)) : GG X p l e R s m args below meth c (gxP X below args s mc ms ret) nL cells slots pc lv st0 M (xb P t) := by
  refine g_xrun (rb := fun _ : Unit => (none, M)) (a := (Value.ref a :: As).toArray) hxt B.2.2.2.2.2.1 (fun hP H locs ls hH hS hl9 => ?_) hcm.1 hcm.2 kk
  have hb := B.2.2.2.2.2.2.2.1
  have hp := g_pre B hS9 hH hS (.ref a :: As)
  exact vx_runV (gB_fix B) (con hP) ⟨g_callB B mf hl hf hlo, gw B hin, hse⟩ ⟨hp.1, g_recv B.2.2.2.2.2.2.1 hH hci hc (hk hP), hp.2⟩ rfl hn hl9.1 hst0 (lv_room hw) hd ⟨Nat.le_trans hcs.1 hb.2.1, Nat.le_trans hcs.2 hb.2.2.1⟩
/-- throw new E("text") -/
theorem g_throwS {k ik is ic i : Nat} {text : String} (B : gB X p R s m args meth c own cc nL rm) (hS9 : gS X s) (hfl : l.stackTraces = false) (hxt : ∀ x ∈ c.exceptionTable.toList, False) (hk : k < 5) (hfit : Bundle.fit (exN k) = true) (hkl : Cond.classLink own ik (exN k) ∈ gTbl) (hini : Cond.initialized (exN k) ∈ gTbl) (hq : (own, is, text, i) ∈ gsCon) (hat : ∀ w ∈ (vx_atS own ic (exN k) ["java/lang/RuntimeException", "java/lang/Exception"]).filter goodWord, w ∈ gTbl) (hat2 : ∀ w ∈ (vx_atS own ic (exN k) ["java/lang/RuntimeException", "java/lang/Exception"]).filter (fun w => !goodWord w), w ∈ gsDec.map Cond.declares ++ gsCst.map (fun q => Cond.castable q.1 q.2)) (hgood : ∀ w ∈ Cond.classLink own ik (exN k) :: Cond.initialized (exN k) :: vx_atS own ic (exN k) ["java/lang/RuntimeException", "java/lang/Exception"], vx_ot w = true)
    (d0 : decode cc pc = .ok (.new ik, 3)) (d3 : decode cc (pc + 3) = .ok (.dup, 1)) (d4 : decode cc (pc + 4) = .ok (.ldc is, 2)) (d6 : decode cc (pc + 6) = .ok (.invokespecial ic, 3)) (d9 : decode cc (pc + 9) = .ok (.athrow, 1))
    (hfr : 6 ≤ rm.frames) (hlo : (st.map fun v => v.category).sum + 82 ≤ rm.locals) (hcs : cells + 1 ≤ rm.cells ∧ slots + 6 ≤ rm.slots) (hcm : cells + 1 ≤ mc ∧ slots + 6 ≤ ms) : GG X p l e R s m args below meth c (gxP X below args s mc ms ret) nL cells slots pc lv st M (thr M k) := by
  intro hT H locs ls hH hS hl
  unfold thr at hT ⊢
  by_cases h0 : mX M = 0
  · rw [if_pos h0]
    have hb := B.2.2.2.2.2.2.2.1
    have hats : ∀ w ∈ vx_atS own ic (exN k) ["java/lang/RuntimeException", "java/lang/Exception"], w.before args s = true := by
      refine vx_hat (B := gsDec.map Cond.declares ++ gsCst.map (fun q => Cond.castable q.1 q.2)) (fun w hw => gw B (hat w hw)) hat2 (fun w hw => ?_)
      rcases List.mem_append.mp hw with hw | hw
      · obtain ⟨x, hx, rfl⟩ := List.mem_map.mp hw
        exact va_Nw.use rfl (hS9.2.2.2.2.1 x hx)
      · obtain ⟨x, hx, rfl⟩ := List.mem_map.mp hw
        exact va_Nw.use rfl (hS9.2.2.2.2.2.1 x hx)
    refine vx_throwS (own := own) (cls := exN k) (text := text) (names := ["java/lang/RuntimeException", "java/lang/Exception"]) (sa := X.2.2.2.1 i) (A := gA X) B.1 B.2.1 hfl B.2.2.2.1 hfit (by decide +kernel) (gw B hkl) (gw B hini) (hS9.2.1 _ hq) hats hgood hS9.2.2.2.2.2.2.2.2.2.1 hS9.2.2.2.2.2.2.2.2.2.2 hS (by rw [B.2.2.1]; exact hl.1) d0 d3 d4 d6 d9 (fun x hx => (hxt x hx).elim) (by show 2 + 3 < _; have := hb.1; omega) (by show _ + (13 * (2 + 1) + 43) ≤ _; have := hb.2.2.2; omega) (Nat.le_trans hcs.1 hb.2.1) (Nat.le_trans hcs.2 hb.2.2.1) B.2.2.2.2.2.1 (fun t ht hz hq => ?_) hS.2.2 hcm.1 hcm.2
    obtain ⟨L, hL, hP, hD, hx⟩ := hH
    refine ⟨⟨k, M, rfl, hk, rfl, L, hL, hP.kept fun j x hx => hq x.1 (hP j x hx).lt, hD, fun z => absurd h0 z⟩, Nat.le_trans hS.1 hz, fun q h1 h2 => ?_⟩
    rw [hq q (Nat.lt_of_lt_of_le h1 hS.1)]
    exact hS.2.1 q h1 h2
  · rw [if_neg h0] at hT
    exact absurd rfl hT
end GXX
theorem g_xcon {X : gX} {l : Launch} {y : MethodName} {cc : ByteArray} {maxL : Nat} {rt : Option FieldType} {rm : Room} {α : Type} {ret : α → Option Value × mMem} {As : List Value} {M : mMem} {T : Option ((Nat × mMem) ⊕ α)} {own : String} (hy : plainName y.cls = true) (hown : y.cls = own) (hlen : (lg_sl As).length ≤ maxL)
    (body : ∀ (p : Program) (e : Env) (s : State) (m : MethodId) (args : Array Value) (below : List Frame) (meth : Method) (c : Code), gB X p rm s m args meth c own cc maxL rm → gS X s → meth.sig.returnType = rt → (∀ x ∈ c.exceptionTable.toList, False) → GG X p l e rm s m args below meth c (gxP X below args s rm.cells rm.slots ret) maxL 0 0 0 (lv_args 0 As) [] M T) : xCon X l y cc maxL rt rm ret As M T := by
  intro hT
  subst hown
  refine vx_ofW (cc := cc) (maxL := maxL) (ret := rt) hy rfl ?_
  intro p e s m args below meth c s₁ B hml hxt hv
  obtain ⟨rfl, hH, hK, hlo, hS9⟩ := hv
  have hts := atoms_spec (ws := Cond.code y cc maxL rt :: gTbl) B.pre
  have hB : gB X p rm s m As.toArray meth c y.cls cc maxL rm := ⟨B.exec, B.bytes, hml, findClass_of_methodNamed B.named, fun w hw => hts w (List.mem_cons_of_mem _ hw), B.notSynchronized, hK, ⟨Nat.le_refl _, Nat.le_refl _, Nat.le_refl _, Nat.le_refl _⟩, hlo⟩
  have hl := lv_entry As (n := maxL) hlen
  rw [lg_entry_eq]
  generalize (lg_sl As ++ List.replicate (maxL - (lg_sl As).length) Slot.unset).toArray = ls at hl ⊢
  exact body p e s m As.toArray below meth c hB hS9 B.returns hxt hT s.heap [] ls hH va_S.rf hl
