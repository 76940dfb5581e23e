/-! methods with handlers: a call that may throw, and what catches -/
def xc {α β : Type} (P : Option ((Nat × mMem) ⊕ β)) (h : Nat → mMem → Option α) (t : β → Option α) : Option α :=
  match P with
  | none => none
  | some (.inl e) => h e.1 e.2
  | some (.inr v) => t v
/-- a contract of a method with a table -/
def wCon (X : gX) (l : Launch) (y : MethodName) (cc : ByteArray) (maxL : Nat) (rt : Option FieldType) (hh : List (Nat × Nat × Nat × Nat)) (rm : Room) {α : Type} (ret : α → Option Value × mMem) (As : List Value) (M : mMem) (T : Option α) : Prop :=
  T ≠ none → Met l y (Cond.codeWith y cc maxL rt hh :: gTbl) rm (gPc X As M) (gQc X ret T) rm.cells rm.slots (gA X)
theorem exN_ne : ∀ j, j < 5 → ∀ k, k < 5 → j ≠ k → (exN k, exN j) ∈ gsNca := by
  intro j hj k hk h
  have h1 : j = 0 ∨ j = 1 ∨ j = 2 ∨ j = 3 ∨ j = 4 := by omega
  have h2 : k = 0 ∨ k = 1 ∨ k = 2 ∨ k = 3 ∨ k = 4 := by omega
  rcases h1 with rfl | rfl | rfl | rfl | rfl <;> rcases h2 with rfl | rfl | rfl | rfl | rfl <;> first | exact absurd rfl h | decide
theorem exN_self : ∀ k, k < 5 → (exN k, exN k) ∈ gsCst := by decide
section GW
variable {X : gX} {p : Program} {l : Launch} {e : Env} {R : Room} {s : State} {m : MethodId} {args : Array Value} {below : List Frame} {meth : Method} {c : Code} {α : Type} {Φ : Option α → State → Prop} {nL cells slots pc : Nat} {lv : List (Nat × Value)} {st : List Value} {M : mMem} {own : String} {cc : ByteArray} {rm : Room}
/-- what a thrown one finds at its caller -/
def gCaught (X : gX) (p : Program) (l : Launch) (e : Env) (R : Room) (s : State) (m : MethodId) (args : Array Value) (below : List Frame) (meth : Method) (c : Code) {α : Type} (Φ : Option α → State → Prop) (nL cells slots pc : Nat) (lv : List (Nat × Value)) (st : List Value) (k : Nat) (M : mMem) (T : Option α) : Prop :=
  T ≠ none → k < 5 → ∀ (H : Heap) (locs : List Loc) (ls : Array Slot) (q : Addr) (ce : Cell), gHold X M H → va_S (gA X) s.heap H locs → lv_has ls nL lv → H[q]? = some ce → ce.vm = .none → s.vm.findClass (exN k) = some ce.cls → vx_W p l e R s m args below meth c H locs cells slots (Φ T) (F0 m pc ls st) q
theorem g_caught (B : gB X p R s m args meth c own cc nL rm) (hS9 : gS X s) (pre : List (ExceptionTableEntry × Nat)) (x : ExceptionTableEntry) (suf : List ExceptionTableEntry) {k : Nat} {T : Option α} (hsplit : c.exceptionTable.toList = pre.map Prod.fst ++ x :: suf) (hpre : ∀ z ∈ pre, z.1.catchType ≠ 0 ∧ z.2 < 5 ∧ z.2 ≠ k ∧ Cond.classLink own z.1.catchType (exN z.2) ∈ gTbl) (hx : covers x pc = true) (h0 : x.catchType ≠ 0) (hl0 : Cond.classLink own x.catchType (exN k) ∈ gTbl) (kk : ∀ q, GG X p l e R s m args below meth c Φ nL cells slots x.handlerPc lv [.ref q] M T) : gCaught X p l e R s m args below meth c Φ nL cells slots pc lv st k M T := by
  intro hT hk H locs ls q ce hH hS hl hc hv hcl
  refine vx_catch (own := own) (name := exN k) (E := exN k) (ce := ce) B.2.2.2.1 (pre.map Prod.fst) x suf hsplit (fun z hz => ?_) hx h0 (gw B hl0) (va_Nw.use rfl (hS9.2.2.2.2.2.1 _ (exN_self k hk))) hc hv hcl (kk q hT H locs ls hH hS hl)
  obtain ⟨z', hz', rfl⟩ := List.mem_map.mp hz
  obtain ⟨g1, g2, g3, g4⟩ := hpre z' hz'
  exact Or.inr ⟨g1, exN z'.2, gw B g4, hS9.2.2.2.2.2.2.1 _ (exN_ne _ g2 _ hk g3)⟩
theorem g_xcrun {β : Type} {rb : β → Option Value × mMem} {P : Option ((Nat × mMem) ⊕ β)} {h : Nat → mMem → Option α} {t : β → Option α} {a : Array Value} {mc1 ms1 : Nat} {st0 : List Value}
    (hrun : P ≠ none → ∀ (H : Heap) (locs : List Loc) (ls : Array Slot), gHold X M H → va_S (gA X) s.heap H locs → lv_has ls nL lv → vx_Run p l e R s m args below meth c H locs cells slots mc1 ms1 (F0 m pc ls st0) st (gxQ X rb P a) (gxX X P) (gA X))
    (kh : ∀ k M', gCaught X p l e R s m args below meth c Φ nL (cells + mc1) (slots + ms1) pc lv st k M' (h k M'))
    (kk : ∀ r, GG X p l e R s m args below meth c Φ nL (cells + mc1) (slots + ms1) (pc + 3) lv ((rb r).1.toList ++ st) (rb r).2 (t r)) : GG X p l e R s m args below meth c Φ nL cells slots pc lv st0 M (xc P h t) := by
  intro hT H locs ls hH hS hl
  have hP : P ≠ none := by
    intro h
    rw [h] at hT
    exact hT rfl
  intro T0 hT0 X0
  rcases hrun hP H locs ls hH hS hl T0 hT0 X0 with ⟨v, st₀, t2, T', L, h0, X', hL, e1, e2, ⟨⟨r, hr, hv, hb⟩, hz, hk⟩, step⟩ | ⟨q, st₀, t2, T', L, E, ce, h0, X', hL, e1, e2, ⟨⟨k, M', hr, hk5, hE, hb⟩, hz, hk⟩, hce, hcv, hcl, step⟩
  · rw [h0] at hz hk
    subst hr
    cases hv
    obtain ⟨t3, a1, b1⟩ := kk r hT T'.heap (locs ++ L) ls (by rw [e1]; exact hb) ⟨Nat.le_trans hS.1 (by rw [e1]; exact hz), fun q h1 h2 => by rw [e1, hk q (Nat.lt_of_lt_of_le h1 hS.1) h2]; exact hS.2.1 q h1 h2, fun q hq => by
        rcases List.mem_append.mp hq with h | h
        · exact hS.2.2 q h
        · exact hL q h⟩ hl T' rfl X'
    exact ⟨t3, step t3 a1, b1⟩
  · rw [h0] at hz hk
    subst hr
    subst hE
    have hS1 : va_S (gA X) s.heap T'.heap (locs ++ L) := ⟨Nat.le_trans hS.1 (by rw [e1]; exact hz), fun q h1 h2 => by rw [e1, hk q (Nat.lt_of_lt_of_le h1 hS.1) h2]; exact hS.2.1 q h1 h2, fun q hq => by
        rcases List.mem_append.mp hq with h | h
        · exact hS.2.2 q h
        · exact hL q h⟩
    obtain ⟨t3, a1, b1⟩ := kh k M' hT hk5 T'.heap (locs ++ L) ls q ce (by rw [e1]; exact hb) hS1 hl (by rw [e1]; exact hce) hcv hcl T' rfl X'
    exact ⟨t3, step.trans a1, b1⟩
theorem g_caught_none {k : Nat} : gCaught X p l e R s m args below meth c Φ nL cells slots pc lv st k M none := fun h => absurd rfl h
theorem g_caught_if {k j : Nat} {T1 T2 : Option α} (h1 : k = j → gCaught X p l e R s m args below meth c Φ nL cells slots pc lv st j M T1) (h2 : k ≠ j → gCaught X p l e R s m args below meth c Φ nL cells slots pc lv st k M T2) : gCaught X p l e R s m args below meth c Φ nL cells slots pc lv st k M (if k = j then T1 else T2) := by
  by_cases h : k = j
  · rw [if_pos h]
    subst h
    exact h1 rfl
  · rw [if_neg h]
    exact h2 h

theorem g_xc_ip {P : Option ((Nat × mMem) ⊕ (Int32))} {h : Nat → mMem → Option α} {t : Int32 → Option α} {y : MethodName} {cb : ByteArray} {maxL n index : Nat} {rt : Option FieldType} {rmC : Room} (As : List Value) {a ci N : Nat} {C : String} {T0 : u_T} (B : gB X p R s m args meth c own cc nL rm) (hS9 : gS X s) (mf : gMF y cb maxL rt n) (hin : Cond.instanceMethod y ∈ gTbl) (hse : (Cond.selects C y y).before args s = true) (hl : Cond.methodLink own index y ∈ gTbl) (hci : ci < 12) (hc : vwCl[ci]? = some (C, T0, N)) (hk : P ≠ none → mK M a = ci + 1) (con : xCon X l y cb maxL rt rmC (fun r : Int32 => (some (.int r), M)) (.ref a :: As) M P) (hf : rmC.frames + 1 ≤ rm.frames) (hlo : 8 + (maxL + 11) + rmC.locals ≤ rm.locals) (hcs : cells + rmC.cells ≤ rm.cells ∧ slots + rmC.slots ≤ rm.slots) (hn : As.length = n) (hw : (st.map fun v => v.category).sum ≤ 8) (hd : decode cc pc = .ok (.invokevirtual index, 3)) {st0 : List Value} (hst0 : st0 = As.reverse ++ .ref a :: st)
    (kh : ∀ k M', gCaught X p l e R s m args below meth c Φ nL (cells + rmC.cells) (slots + rmC.slots) pc lv st k M' (h k M'))
    (kk : ∀ r, GG X p l e R s m args below meth c Φ nL (cells + rmC.cells) (slots + rmC.slots) (pc + 3) lv (.int r :: st) (M) (t r)) : GG X p l e R s m args below meth c Φ nL cells slots pc lv st0 M (xc P h t) := by
  refine g_xcrun (rb := fun r : Int32 => (some (.int r), M)) (a := (Value.ref a :: As).toArray) (fun hP H locs ls hH hS hl9 => ?_) kh kk
  have hb := B.2.2.2.2.2.2.2.1
  have hp := g_pre B hS9 hH hS (.ref a :: As)
  exact vx_runV (gB_fix B) (con hP) ⟨g_callB B mf hl hf hlo, gw B hin, hse⟩ ⟨hp.1, g_recv B.2.2.2.2.2.2.1 hH hci hc (hk hP), hp.2⟩ rfl hn hl9.1 hst0 (lv_room hw) hd ⟨Nat.le_trans hcs.1 hb.2.1, Nat.le_trans hcs.2 hb.2.2.1⟩
theorem g_xc_iw {P : Option ((Nat × mMem) ⊕ (Int32 × mMem))} {h : Nat → mMem → Option α} {t : Int32 × mMem → Option α} {y : MethodName} {cb : ByteArray} {maxL n index : Nat} {rt : Option FieldType} {rmC : Room} (As : List Value) {a ci N : Nat} {C : String} {T0 : u_T} (B : gB X p R s m args meth c own cc nL rm) (hS9 : gS X s) (mf : gMF y cb maxL rt n) (hin : Cond.instanceMethod y ∈ gTbl) (hse : (Cond.selects C y y).before args s = true) (hl : Cond.methodLink own index y ∈ gTbl) (hci : ci < 12) (hc : vwCl[ci]? = some (C, T0, N)) (hk : P ≠ none → mK M a = ci + 1) (con : xCon X l y cb maxL rt rmC (fun r : Int32 × mMem => (some (.int r.1), r.2)) (.ref a :: As) M P) (hf : rmC.frames + 1 ≤ rm.frames) (hlo : 8 + (maxL + 11) + rmC.locals ≤ rm.locals) (hcs : cells + rmC.cells ≤ rm.cells ∧ slots + rmC.slots ≤ rm.slots) (hn : As.length = n) (hw : (st.map fun v => v.category).sum ≤ 8) (hd : decode cc pc = .ok (.invokevirtual index, 3)) {st0 : List Value} (hst0 : st0 = As.reverse ++ .ref a :: st)
    (kh : ∀ k M', gCaught X p l e R s m args below meth c Φ nL (cells + rmC.cells) (slots + rmC.slots) pc lv st k M' (h k M'))
    (kk : ∀ r, GG X p l e R s m args below meth c Φ nL (cells + rmC.cells) (slots + rmC.slots) (pc + 3) lv (.int r.1 :: st) (r.2) (t r)) : GG X p l e R s m args below meth c Φ nL cells slots pc lv st0 M (xc P h t) := by
  refine g_xcrun (rb := fun r : Int32 × mMem => (some (.int r.1), r.2)) (a := (Value.ref a :: As).toArray) (fun hP H locs ls hH hS hl9 => ?_) kh kk
  have hb := B.2.2.2.2.2.2.2.1
  have hp := g_pre B hS9 hH hS (.ref a :: As)
  exact vx_runV (gB_fix B) (con hP) ⟨g_callB B mf hl hf hlo, gw B hin, hse⟩ ⟨hp.1, g_recv B.2.2.2.2.2.2.1 hH hci hc (hk hP), hp.2⟩ rfl hn hl9.1 hst0 (lv_room hw) hd ⟨Nat.le_trans hcs.1 hb.2.1, Nat.le_trans hcs.2 hb.2.2.1⟩
end GW
theorem gWW {y : MethodName} {cc : ByteArray} {maxL : Nat} {rt : Option FieldType} {hh : List (Nat × Nat × Nat × Nat)} (h : Cond.codeWith y cc maxL rt hh ∈ gTbl) : GoodIn gTbl (Cond.codeWith y cc maxL rt hh :: gTbl) := by
  intro w hw
  have h2 : w ∈ gTbl := by
    rcases List.mem_cons.mp hw with q | q
    · rw [q]; exact h
    · exact q
  exact ⟨h2, good_of_word (gTbl_good h2)⟩
theorem g_wcon {X : gX} {l : Launch} {y : MethodName} {cc : ByteArray} {maxL : Nat} {rt : Option FieldType} {hh : List (Nat × Nat × Nat × Nat)} {rm : Room} {α : Type} {ret : α → Option Value × mMem} {As : List Value} {M : mMem} {T : Option α} {own : String} (hy : plainName y.cls = true) (hown : y.cls = own) (hlen : (lg_sl As).length ≤ maxL)
    (body : ∀ (p : Program) (e : Env) (s : State) (m : MethodId) (args : Array Value) (below : List Frame) (meth : Method) (c : Code), gB X p rm s m args meth c own cc maxL rm → gS X s → meth.sig.returnType = rt → c.exceptionTable.toList = tableOf hh → GG X p l e rm s m args below meth c (gP X below args s rm.cells rm.slots ret) maxL 0 0 0 (lv_args 0 As) [] M T) : wCon X l y cc maxL rt hh rm ret As M T := by
  intro hT
  subst hown
  refine va_MetW (cc := cc) (maxL := maxL) (ret := rt) (hh := hh) hy rfl ?_
  intro p e s m args below meth c s₁ B hml hv
  obtain ⟨rfl, hH, hK, hlo, hS9⟩ := hv
  have hts := atoms_spec (ws := Cond.codeWith y cc maxL rt hh :: gTbl) B.pre
  have hB : gB X p rm s m As.toArray meth c y.cls cc maxL rm := ⟨B.exec, B.bytes, hml, findClass_of_methodNamed B.named, fun w hw => hts w (List.mem_cons_of_mem _ hw), B.notSynchronized, hK, ⟨Nat.le_refl _, Nat.le_refl _, Nat.le_refl _, Nat.le_refl _⟩, hlo⟩
  have hxt := vx_table (x := y) B (hts _ List.mem_cons_self)
  have hl := lv_entry As (n := maxL) hlen
  rw [lg_entry_eq]
  generalize (lg_sl As ++ List.replicate (maxL - (lg_sl As).length) Slot.unset).toArray = ls at hl ⊢
  exact body p e s m As.toArray below meth c hB hS9 B.returns hxt hT s.heap [] ls hH va_S.rf hl
/-- what a call of one with a table asks of the tables -/
def gMW (y : MethodName) (cc : ByteArray) (maxL : Nat) (rt : Option FieldType) (hh : List (Nat × Nat × Nat × Nat)) (n : Nat) : Prop :=
  Cond.codeWith y cc maxL rt hh ∈ gTbl ∧ Cond.initialized y.cls ∈ gTbl ∧ (y.cls ≠ "java/lang/invoke/MethodHandle" ∧ y.cls ≠ "java/lang/invoke/VarHandle") ∧ (parseMethodDescriptor y.desc).map (fun d => d.parameters.length) = some n
section GW2
variable {X : gX} {p : Program} {l : Launch} {e : Env} {R : Room} {s : State} {m : MethodId} {args : Array Value} {below : List Frame} {meth : Method} {c : Code} {α : Type} {Φ : Option α → State → Prop} {nL cells slots pc : Nat} {lv : List (Nat × Value)} {st : List Value} {M : mMem} {own : String} {cc : ByteArray} {rm : Room}
theorem g_callW {P : Option (Int32 × mMem)} {t : Int32 × mMem → Option α} {y : MethodName} {cb : ByteArray} {maxL n index : Nat} {rt : Option FieldType} {hh : List (Nat × Nat × Nat × Nat)} {rmC : Room} (As : List Value) (B : gB X p R s m args meth c own cc nL rm) (hS9 : gS X s) (mf : gMW y cb maxL rt hh n) (hst : Cond.static y ∈ gTbl) (hl : Cond.methodLink own index y ∈ gTbl) (con : wCon X l y cb maxL rt hh rmC (fun r : Int32 × mMem => (some (.int r.1), r.2)) As M P) (hf : rmC.frames + 1 ≤ rm.frames) (hlo : 8 + (maxL + 11) + rmC.locals ≤ rm.locals) (hcs : cells + rmC.cells ≤ rm.cells ∧ slots + rmC.slots ≤ rm.slots) (hn : As.length = n) (hw : (st.map fun v => v.category).sum ≤ 8) (hd : decode cc pc = .ok (.invokestatic index, 3)) {st0 : List Value} (hst0 : st0 = As.reverse ++ st)
    (kk : ∀ r : Int32 × mMem, GG X p l e R s m args below meth c Φ nL (cells + rmC.cells) (slots + rmC.slots) (pc + 3) lv (.int r.1 :: st) r.2 (t r)) : GG X p l e R s m args below meth c Φ nL cells slots pc lv st0 M (P.bind t) := by
  refine g_run (rb := fun r : Int32 × mMem => (some (.int r.1), r.2)) (a := As.toArray) (fun hP H locs ls hH hS hl9 => ?_) kk
  have hb := B.2.2.2.2.2.2.2.1
  refine vx_runSW (gB_fix B) (con hP) ⟨⟨rfl, rfl, Nat.le_trans hf hb.1, Nat.le_trans hlo hb.2.2.2, pay_in B.2.2.2.2.1 (gWW mf.1), List.mem_cons_self⟩, gw B mf.1, gw B mf.2.1, mf.2.2.1, fun sig h => ?_, gw B hl, gw B hst⟩ (g_pre B hS9 hH hS As) rfl hn hl9.1 hst0 (lv_room hw) hd ⟨Nat.le_trans hcs.1 hb.2.1, Nat.le_trans hcs.2 hb.2.2.1⟩
  have h2 := mf.2.2.2
  rw [h] at h2
  exact (Option.some.inj h2).symm
end GW2
