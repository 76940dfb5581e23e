/-! calls and ends -/
theorem gW {y : MethodName} {cc : ByteArray} {maxL : Nat} {rt : Option FieldType} (h : Cond.code y cc maxL rt ∈ gTbl) : GoodIn gTbl (Cond.code y cc maxL rt :: gTbl) := by
  intro w hw
  have h2 : w ∈ gTbl := by
    rcases List.mem_cons.mp hw with q | q
    · rw [q]; exact h
    · exact q
  exact ⟨h2, good_of_word (gTbl_good h2)⟩
/-- the String constants: their contents by number; where each stands -/
def gS (X : gX) (U : State) : Prop := vk_S gsN gsLen gsByt X.2.2.2.1 X.2.2.2.2 (gA X) U U.heap ∧ (∀ q ∈ gsCon, vk_R q.1 q.2.1 q.2.2.1 (X.2.2.2.1 q.2.2.2) U) ∧ va_AO "CribLine$Family" U ∧ va_AO "CribLine$Person" U ∧ (∀ x ∈ gsDec, va_Nw (.declares x) U) ∧ (∀ q ∈ gsCst, va_Nw (.castable q.1 q.2) U) ∧ (∀ q ∈ gsNca, va_Nc q.1 q.2 U) ∧ va_Z "java/lang/String" "COMPACT_STRINGS" "Z" (.int 1) (gA X) U U.heap ∧ va_Zq "jdk/internal/util/Preconditions" "SIOOBE_FORMATTER" "Ljava/util/function/BiFunction;" (gA X) U U.heap ∧ vx_Zq Bundle.tN "UNASSIGNED_STACK" Bundle.steD (gA X) U U.heap ∧ vx_Zq Bundle.tN "SUPPRESSED_SENTINEL" Bundle.listD (gA X) U U.heap
def gPc (X : gX) (As : List Value) (M : mMem) : Array Value → State → Prop := va_Pc As (fun U => gHold X M U.heap ∧ va_K X.2.1 vwCl (gT X) U ∧ X.1 ≤ U.heap.size ∧ gS X U)
def gQc (X : gX) {α : Type} (ret : α → Option Value × mMem) (T : Option α) : Array Value → State → Outcome → State → Prop := fun _ st o t => (∃ r, T = some r ∧ o = .returned (ret r).1 ∧ gHold X (ret r).2 t.heap) ∧ va_F (gA X) st t
def gP (X : gX) (below : List Frame) (args : Array Value) (s : State) (mc ms : Nat) {α : Type} (ret : α → Option Value × mMem) : Option α → State → Prop := fun T => MQ below (gQc X ret T) args s mc ms (gA X)
/-- a method's contract: what T says is what it does -/
def Con (X : gX) (l : Launch) (y : MethodName) (cc : ByteArray) (maxL : Nat) (rt : Option FieldType) (rm : Room) {α : Type} (ret : α → Option Value × mMem) (As : List Value) (M : mMem) (T : Option α) : Prop :=
  T ≠ none → Met l y (Cond.code y cc maxL rt :: gTbl) rm (gPc X As M) (gQc X ret T) rm.cells rm.slots (gA X)
/-- what a call asks of the tables -/
def gMF (y : MethodName) (cc : ByteArray) (maxL : Nat) (rt : Option FieldType) (n : Nat) : Prop :=
  Cond.code y cc maxL rt ∈ gTbl ∧ Cond.initialized y.cls ∈ gTbl ∧ (y.cls ≠ "java/lang/invoke/MethodHandle" ∧ y.cls ≠ "java/lang/invoke/VarHandle") ∧ (parseMethodDescriptor y.desc).map (fun d => d.parameters.length) = some n
theorem gPc_blind (X : gX) (As : List Value) (M : mMem) : FrameBlind (gPc X As M) := by
  intro a U g mk q
  obtain ⟨q0, q1, q2, q3, q4, q5, q6, q7, q8, q9, qa, qb, qc, qd, qe⟩ := q
  have hv : U.vm.Alike (U.calling g mk a).vm := Vm.Alike.refl U.vm
  exact ⟨q0, q1, va_K.moved hv q2, q3, vk_S.moved hv q4, fun q hq => vk_R.same (u := U) (U := U.calling g mk a) rfl (q5 q hq), va_AO.moved hv q6, va_AO.moved hv q7, fun x hx => va_Nw.same rfl (u := U) (U := U.calling g mk a) rfl (q8 x hx), fun q hq => va_Nw.same rfl (u := U) (U := U.calling g mk a) rfl (q9 q hq), fun q hq => va_Nc.moved hv (qa q hq), va_Z.moved hv qb, va_Zq.moved hv qc, vx_Zq.moved hv qd, vx_Zq.moved hv qe⟩
section GC
variable {X : gX} {p : Program} {l : Launch} {e : Env} {R : Room} {s : State} {m : MethodId} {args : Array Value} {below : List Frame} {meth : Method} {c : Code} {α : Type} {Φ : Option α → State → Prop} {nL cells slots pc : Nat} {lv : List (Nat × Value)} {st : List Value} {M : mMem} {own : String} {cc : ByteArray} {rm : Room}
theorem gB_fix (B : gB X p R s m args meth c own cc nL rm) : CallFix p m c cc nL s args gTbl own := ⟨B.1, B.2.1, B.2.2.1, B.2.2.2.1, B.2.2.2.2.1⟩
theorem gS_at {H : Heap} {locs : List Loc} (hS9 : gS X s) (hS : va_S (gA X) s.heap H locs) (U : State) (hU : U.heap = H) (hW : s.WarmedH U.vm) : gS X U := by
  obtain ⟨q4, q5, q6, q7, q8, q9, qa, qb, qc, qd, qe⟩ := hS9
  have hv := hW.alike
  have hk : ∀ a : Nat, a < s.heap.size → ¬ gA X a → U.heap[a]? = s.heap[a]? := fun a ha hn => by rw [hU]; exact hS.2.1 a ha hn
  exact ⟨(vk_S.moved hv q4).kept hk, fun q hq => vk_R.warm hW (q5 q hq), va_AO.moved hv q6, va_AO.moved hv q7, fun x hx => va_Nw.warmD hW (q8 x hx), fun q hq => va_Nw.warmC hW (q9 q hq), fun q hq => va_Nc.moved hv (qa q hq), (va_Z.moved hv qb).kept hk, (va_Zq.moved hv qc).kept hk, (vx_Zq.moved hv qd).kept hk, (vx_Zq.moved hv qe).kept hk⟩
theorem g_pre (B : gB X p R s m args meth c own cc nL rm) (hS9 : gS X s) {H : Heap} {locs : List Loc} (hH : gHold X M H) (hS : va_S (gA X) s.heap H locs) (As : List Value) : FrameBlind (gPc X As M) ∧ ∀ U : State, U.heap = H → s.WarmedH U.vm → gPc X As M As.toArray U :=
  ⟨gPc_blind X As M, fun U hU hW => ⟨rfl, by rw [hU]; exact hH, va_K.moved hW.alike B.2.2.2.2.2.2.1, by rw [hU]; exact Nat.le_trans B.2.2.2.2.2.2.2.2 hS.1, gS_at hS9 hS U hU hW⟩⟩
theorem g_callB {y : MethodName} {cb : ByteArray} {maxL n index : Nat} {rt : Option FieldType} {rmC : Room} (B : gB X p R s m args meth c own cc nL rm) (mf : gMF y cb maxL rt n) (hl : Cond.methodLink own index y ∈ gTbl) (hf : rmC.frames + 1 ≤ rm.frames) (hlo : 8 + (maxL + 11) + rmC.locals ≤ rm.locals) : CallB R s args own index y cb maxL rt (Cond.code y cb maxL rt :: gTbl) rmC rmC.cells rmC.slots n := by
  have hb := B.2.2.2.2.2.2.2.1
  have ht := B.2.2.2.2.1
  exact callB_of n ht (gW mf.1) rfl rfl rfl (ht _ mf.2.1) (ht _ hl) ⟨mf.2.2.1.1, mf.2.2.1.2, mf.2.2.2⟩ ⟨Nat.le_trans hf hb.1, Nat.le_trans hlo hb.2.2.2⟩
/-- behind a call -/
theorem g_run {β : Type} {rb : β → Option Value × mMem} {P : Option β} {t : β → Option α} {a : Array Value} {mc ms : Nat} {st0 : List Value}
    (hrun : P ≠ none → ∀ (H : Heap) (locs : List Loc) (ls : Array Slot), gHold X M H → va_S (gA X) s.heap H locs → lv_has ls nL lv → va_Run p l e R s m args below meth c H locs cells slots mc ms (F0 m pc ls st0) st (gQc X rb P a) (gA X))
    (kk : ∀ r, GG X p l e R s m args below meth c Φ nL (cells + mc) (slots + ms) (pc + 3) lv ((rb r).1.toList ++ st) (rb r).2 (t r)) : GG X p l e R s m args below meth c Φ nL cells slots pc lv st0 M (P.bind t) := by
  intro hT H locs ls hH hS hl
  have hP : P ≠ none := by
    intro h
    rw [h] at hT
    exact hT rfl
  intro T0 hT0 X0
  obtain ⟨v, st₀, t2, T', L, h0, X', hL, e1, e2, ⟨⟨r, hr, hv, hb⟩, hz, hk⟩, step⟩ := hrun hP H locs ls hH hS hl T0 hT0 X0
  rw [h0] at hz hk
  rw [hr, Option.bind_some] at hT ⊢
  cases hv
  obtain ⟨t3, a1, b1⟩ := kk r hT T'.heap (locs ++ L) ls (by rw [e1]; exact hb) ⟨Nat.le_trans hS.1 (by rw [e1]; exact hz), fun q h1 h2 => by rw [e1, hk q (Nat.lt_of_lt_of_le h1 hS.1) h2]; exact hS.2.1 q h1 h2, fun q hq => by
      rcases List.mem_append.mp hq with h | h
      · exact hS.2.2 q h
      · exact hL q h⟩ hl T' rfl X'
  exact ⟨t3, step t3 a1, b1⟩
theorem g_recv {a ci N : Nat} {C : String} {T0 : u_T} {H : Heap} (hK : va_K X.2.1 vwCl (gT X) s) (hH : gHold X M H) (hci : ci < 12) (hc : vwCl[ci]? = some (C, T0, N)) (h : mK M a = ci + 1) : ∃ cell : Cell, H[a]? = some cell ∧ cell.vm.isStatics = false ∧ s.vm.findClass C = some cell.cls := by
  obtain ⟨L, hL, hP, hD, hx⟩ := hH
  obtain ⟨q, hq⟩ := g_at hL hP (a := a) (by omega)
  rw [cellE_obj h hci] at hq
  exact va_recv hK hP hc hq
/-- a receiver of a class -/
def gd {β : Type} (M : mMem) (a c : Nat) (P : Option β) : Option β := if mK M a = c then P else none
theorem gd_ne {β : Type} {M : mMem} {a c : Nat} {P : Option β} (h : gd M a c P ≠ none) : mK M a = c ∧ P ≠ none := by
  unfold gd at h
  by_cases hc : mK M a = c
  · rw [if_pos hc] at h
    exact ⟨hc, h⟩
  · rw [if_neg hc] at h
    exact absurd rfl h
theorem g_gd {a k : Nat} {T : Option α} (kk : GG X p l e R s m args below meth c Φ nL cells slots pc lv st M T) : GG X p l e R s m args below meth c Φ nL cells slots pc lv st M (gd M a k T) := by
  intro hT
  obtain ⟨h1, h2⟩ := gd_ne hT
  have e : gd M a k T = T := by simp [gd, h1]
  rw [e]
  exact kk h2

theorem g_callS {β : Type} {rb : β → Option Value × mMem} {P : Option β} {t : β → Option α} {y : MethodName} {cb : ByteArray} {maxL n index : Nat} {rt : Option FieldType} {rmC : Room} (As : List Value) (B : gB X p R s m args meth c own cc nL rm) (hS9 : gS X s) (mf : gMF y cb maxL rt n) (hst : Cond.static y ∈ gTbl) (hl : Cond.methodLink own index y ∈ gTbl) (con : Con X l y cb maxL rt rmC rb As M P) (hf : rmC.frames + 1 ≤ rm.frames) (hlo : 8 + (maxL + 11) + rmC.locals ≤ rm.locals) (hcs : cells + rmC.cells ≤ rm.cells ∧ slots + rmC.slots ≤ rm.slots) (hn : As.length = n) (hw : (st.map fun v => v.category).sum ≤ 8) (hd : decode cc pc = .ok (.invokestatic index, 3)) {st0 : List Value} (hst0 : st0 = As.reverse ++ st)
    (kk : ∀ r, GG X p l e R s m args below meth c Φ nL (cells + rmC.cells) (slots + rmC.slots) (pc + 3) lv ((rb r).1.toList ++ st) (rb r).2 (t r)) : GG X p l e R s m args below meth c Φ nL cells slots pc lv st0 M (P.bind t) := by
  refine g_run (a := As.toArray) (fun hP H locs ls hH hS hl9 => ?_) kk
  have hb := B.2.2.2.2.2.2.2.1
  exact va_runS (gB_fix B) (con hP) ⟨g_callB B mf hl hf hlo, B.2.2.2.2.1 _ hst⟩ (g_pre B hS9 hH hS As) rfl hn hl9.1 hst0 (lv_room hw) hd ⟨Nat.le_trans hcs.1 hb.2.1, Nat.le_trans hcs.2 hb.2.2.1⟩
theorem g_callV {β : Type} {rb : β → Option Value × mMem} {P : Option β} {t : β → Option α} {y : MethodName} {cb : ByteArray} {maxL n index : Nat} {rt : Option FieldType} {rmC : Room} (As : List Value) {a ci N : Nat} {C : String} {T0 : u_T} (B : gB X p R s m args meth c own cc nL rm) (hS9 : gS X s) (mf : gMF y cb maxL rt n) (hin : Cond.instanceMethod y ∈ gTbl) (hse : (Cond.selects C y y).before args s = true) (hl : Cond.methodLink own index y ∈ gTbl) (hci : ci < 12) (hc : vwCl[ci]? = some (C, T0, N)) (hk : P ≠ none → mK M a = ci + 1) (con : Con X l y cb maxL rt rmC rb (.ref a :: As) M P) (hf : rmC.frames + 1 ≤ rm.frames) (hlo : 8 + (maxL + 11) + rmC.locals ≤ rm.locals) (hcs : cells + rmC.cells ≤ rm.cells ∧ slots + rmC.slots ≤ rm.slots) (hn : As.length = n) (hw : (st.map fun v => v.category).sum ≤ 8) (hd : decode cc pc = .ok (.invokevirtual index, 3)) {st0 : List Value} (hst0 : st0 = As.reverse ++ .ref a :: st)
    (kk : ∀ r, GG X p l e R s m args below meth c Φ nL (cells + rmC.cells) (slots + rmC.slots) (pc + 3) lv ((rb r).1.toList ++ st) (rb r).2 (t r)) : GG X p l e R s m args below meth c Φ nL cells slots pc lv st0 M (P.bind t) := by
  refine g_run (a := (Value.ref a :: As).toArray) (fun hP H locs ls hH hS hl9 => ?_) kk
  have hb := B.2.2.2.2.2.2.2.1
  have hp := g_pre B hS9 hH hS (.ref a :: As)
  exact va_runV (gB_fix B) (con hP) ⟨g_callB B mf hl hf hlo, B.2.2.2.2.1 _ hin, hse⟩ ⟨hp.1, g_recv B.2.2.2.2.2.2.1 hH hci hc (hk hP), hp.2⟩ rfl hn hl9.1 hst0 (lv_room hw) hd ⟨Nat.le_trans hcs.1 hb.2.1, Nat.le_trans hcs.2 hb.2.2.1⟩
theorem g_callI {β : Type} {rb : β → Option Value × mMem} {P : Option β} {t : β → Option α} {y : MethodName} {cb : ByteArray} {maxL n index : Nat} {rmC : Room} (As : List Value) {a : Nat} (B : gB X p R s m args meth c own cc nL rm) (hS9 : gS X s) (mf : gMF y cb maxL none n) (hy1 : y.name = "<init>") (hin : Cond.instanceMethod y ∈ gTbl) (hl : Cond.methodLink own index y ∈ gTbl) (con : Con X l y cb maxL none rmC rb (.ref a :: As) M P) (hf : rmC.frames + 1 ≤ rm.frames) (hlo : 8 + (maxL + 11) + rmC.locals ≤ rm.locals) (hcs : cells + rmC.cells ≤ rm.cells ∧ slots + rmC.slots ≤ rm.slots) (hn : As.length = n) (hw : (st.map fun v => v.category).sum ≤ 8) (hd : decode cc pc = .ok (.invokespecial index, 3)) {st0 : List Value} (hst0 : st0 = As.reverse ++ .ref a :: st)
    (kk : ∀ r, GG X p l e R s m args below meth c Φ nL (cells + rmC.cells) (slots + rmC.slots) (pc + 3) lv ((rb r).1.toList ++ st) (rb r).2 (t r)) : GG X p l e R s m args below meth c Φ nL cells slots pc lv st0 M (P.bind t) := by
  refine g_run (a := (Value.ref a :: As).toArray) (fun hP H locs ls hH hS hl9 => ?_) kk
  have hb := B.2.2.2.2.2.2.2.1
  exact va_runI (gB_fix B) (con hP) ⟨g_callB B mf hl hf hlo, hy1, B.2.2.2.2.1 _ hin⟩ (g_pre B hS9 hH hS (.ref a :: As)) rfl hn hl9.1 hst0 (lv_room hw) hd ⟨Nat.le_trans hcs.1 hb.2.1, Nat.le_trans hcs.2 hb.2.2.1⟩
theorem g_ireturn {mc ms : Nat} {ret : α → Option Value × mMem} {ty : FieldType} {v : Int32} {r : α} (B : gB X p R s m args meth c own cc nL rm) (hr : meth.sig.returnType = some ty) (hn : narrow ty (.int v) = .int v) (h1 : cells ≤ mc) (h2 : slots ≤ ms) (hret : ret r = (some (.int v), M)) (hd : decode cc pc = .ok (.ireturn, 1)) : GG X p l e R s m args below meth c (gP X below args s mc ms ret) nL cells slots pc lv [.int v] M (some r) := by
  intro hT H locs ls hH hS hl
  refine W.widen h1 h2 ?_
  exact W.zret B.1 B.2.1 hr hn (fun t ht hW => ⟨⟨r, rfl, by rw [hret], by rw [hret, ht]; exact hH⟩, hS.F ht⟩) hS.2.2 hd B.2.2.2.2.2.1
/-- a boolean answer -/
def bZ (v : Int32) : Option Int32 := if v = 0 ∨ v = 1 then some v else none
theorem g_zreturn {mc ms : Nat} {ret : α → Option Value × mMem} {v : Int32} {f : Int32 → α} (B : gB X p R s m args meth c own cc nL rm) (hr : meth.sig.returnType = some .boolean) (h1 : cells ≤ mc) (h2 : slots ≤ ms) (hret : ret (f v) = (some (.int v), M)) (hd : decode cc pc = .ok (.ireturn, 1)) : GG X p l e R s m args below meth c (gP X below args s mc ms ret) nL cells slots pc lv [.int v] M ((bZ v).bind fun v => some (f v)) := by
  intro hT H locs ls hH hS hl
  unfold bZ at hT ⊢
  by_cases h : v = 0 ∨ v = 1
  · rw [if_pos h, Option.bind_some] at hT ⊢
    exact g_ireturn B hr (by rcases h with h | h <;> subst h <;> rfl) h1 h2 hret hd hT H locs ls hH hS hl
  · simp [h] at hT
theorem g_lreturn {mc ms : Nat} {ret : α → Option Value × mMem} {v : Int64} {r : α} (B : gB X p R s m args meth c own cc nL rm) (hr : meth.sig.returnType = some .long) (h1 : cells ≤ mc) (h2 : slots ≤ ms) (hret : ret r = (some (.long v), M)) (hd : decode cc pc = .ok (.lreturn, 1)) : GG X p l e R s m args below meth c (gP X below args s mc ms ret) nL cells slots pc lv [.long v] M (some r) := by
  intro hT H locs ls hH hS hl
  refine W.widen h1 h2 ?_
  exact W.lret B.1 B.2.1 hr (fun t ht hW => ⟨⟨r, rfl, by rw [hret], by rw [hret, ht]; exact hH⟩, hS.F ht⟩) hS.2.2 hd B.2.2.2.2.2.1
theorem g_areturn {mc ms : Nat} {ret : α → Option Value × mMem} {C : String} {v : Nat} {r : α} (B : gB X p R s m args meth c own cc nL rm) (hr : meth.sig.returnType = some (.object C)) (h1 : cells ≤ mc) (h2 : slots ≤ ms) (hret : ret r = (some (.ref v), M)) (hd : decode cc pc = .ok (.areturn, 1)) : GG X p l e R s m args below meth c (gP X below args s mc ms ret) nL cells slots pc lv [.ref v] M (some r) := by
  intro hT H locs ls hH hS hl
  refine W.widen h1 h2 ?_
  exact W.aret B.1 B.2.1 hr (Or.inl ⟨C, rfl⟩) (Or.inr ⟨v, rfl⟩) (fun t ht hW => ⟨⟨r, rfl, by rw [hret], by rw [hret, ht]; exact hH⟩, hS.F ht⟩) hS.2.2 hd B.2.2.2.2.2.1
theorem g_vreturn {mc ms : Nat} {ret : α → Option Value × mMem} {r : α} (B : gB X p R s m args meth c own cc nL rm) (hr : meth.sig.returnType = none) (h1 : cells ≤ mc) (h2 : slots ≤ ms) (hret : ret r = (none, M)) (hd : decode cc pc = .ok (.return_, 1)) : GG X p l e R s m args below meth c (gP X below args s mc ms ret) nL cells slots pc lv [] M (some r) := by
  intro hT H locs ls hH hS hl
  refine W.widen h1 h2 ?_
  exact W.vret B.1 B.2.1 hr (fun t ht hW => ⟨⟨r, rfl, by rw [hret], by rw [hret, ht]; exact hH⟩, hS.F ht⟩) hS.2.2 hd B.2.2.2.2.2.1
end GC
/-- a method's contract out of the walk of its body -/
theorem g_con {X : gX} {l : Launch} {y : MethodName} {cc : ByteArray} {maxL : Nat} {rt : Option FieldType} {rm : Room} {α : Type} {ret : α → Option Value × mMem} {As : List Value} {M : mMem} {T : Option α} {own : String} (hy : plainName y.cls = true) (hown : y.cls = own) (hlen : (lg_sl As).length ≤ maxL)
    (body : ∀ (p : Program) (e : Env) (s : State) (m : MethodId) (args : Array Value) (below : List Frame) (meth : Method) (c : Code), gB X p rm s m args meth c own cc maxL rm → gS X s → meth.sig.returnType = rt → meth.name = y.name → GG X p l e rm s m args below meth c (gP X below args s rm.cells rm.slots ret) maxL 0 0 0 (lv_args 0 As) [] M T) : Con X l y cc maxL rt rm ret As M T := by
  intro hT
  subst hown
  refine Met.ofW (cc := cc) (maxL := maxL) (ret := rt) hy rfl ?_
  intro p e s m args below meth c s₁ B hml hv
  obtain ⟨rfl, hH, hK, hlo, hS9⟩ := hv
  have hts := atoms_spec (ws := Cond.code y cc maxL rt :: gTbl) B.pre
  have hB : gB X p rm s m As.toArray meth c y.cls cc maxL rm := ⟨B.exec, B.bytes, hml, findClass_of_methodNamed B.named, fun w hw => hts w (List.mem_cons_of_mem _ hw), B.notSynchronized, hK, ⟨Nat.le_refl _, Nat.le_refl _, Nat.le_refl _, Nat.le_refl _⟩, hlo⟩
  have hl := lv_entry As (n := maxL) hlen
  rw [lg_entry_eq]
  generalize (lg_sl As ++ List.replicate (maxL - (lg_sl As).length) Slot.unset).toArray = ls at hl ⊢
  exact body p e s m As.toArray below meth c hB hS9 B.returns (name_of_methodNamed B.named B.method).1 hT s.heap [] ls hH va_S.rf hl
