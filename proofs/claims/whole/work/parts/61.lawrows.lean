/-! THE CLAIM OUT OF ONE WALK OF THE LAW'S BODY. Your part is whole_start (and what it stands on); all else here is the same for every law, but numbers. -/
def R_law : String := "CribLineLaw"
def lw_P (b : Addr) (xs : List Int32) (args : Array Value) (s : State) : Prop := args = #[.ref b] ∧ s.IntsAt b xs ∧ xs.length ≤ 3072 ∧ (Jvm.Cond.and given_1 narrow_1).before args s = true
def lw_Q (_ : Array Value) (s : State) (o : Outcome) (t : State) : Prop := o = .returned (some (.int 1)) ∧ Framed s o t [] 601024 7293034
def lw_Z (below : List Frame) (a : Array Value) (s : State) : State → Prop := fun t => ∃ o, t.status = .running ∧ Ended t below o ∧ lw_Q a s o t
/-- the law's own end, with 1 on the stack, nothing written that was there before, its room as the claim has it -/
theorem lw_ret {p : Program} {l : Launch} {e : Env} {s : State} {m : MethodId} {below : List Frame} {meth : Method} {c : Code} {b : Nat} (hx : p.tables.exec = Jvm.exec) (hb : c.code = code) (hr : meth.sig.returnType = ret) (hlocks : meth.locks = false) {pc : Nat} {H : Heap} {ls : Array Slot} (hdg : decode code pc = .ok (.ireturn, 1)) : W p l e room_1 s m #[Value.ref b] below meth c H [] 601024 7293034 (lw_Z below #[Value.ref b] s) (F0 m pc ls [.int 1]) := by
  intro T hT X
  obtain ⟨fs, hret, hrun, hended, hW, hframe⟩ := X.leave (v := some (.int 1)) (hlocks := hlocks) (fun h => by rw [hr] at h; cases h)
  have hmeth' : T.vm.method? m = some meth := X.method'
  refine ⟨T.setFrames fs, ?_, .returned (some (.int 1)), hrun, hended, rfl, ⟨_, rfl⟩, hW, hframe⟩
  jvm_step X.here [X.here.top, hx, hb, hdg, hmeth', hr, ret, narrow_b1]
  (try refine ⟨rfl, ?_⟩); (try refine ⟨rfl, ?_⟩)
  first | (intro acts; rw [hret _ acts rfl rfl rfl]) | rw [hret _ _ rfl rfl rfl]
  exact Steps.refl _
/-- what holds at the law's entry: the machine, the code, the tables' words (any of lw_tbl by 'hts w (by decide +kernel)'), the script of L ints xs at the cell b, what the Statement gives of the start (any of its parts by flat_of_before) -/
def lw_At (p : Program) (s : State) (m : MethodId) (meth : Method) (c : Code) (b L : Nat) (xs : Nat → Int32) : Prop :=
  p.tables.exec = Jvm.exec ∧ c.code = code ∧ meth.sig.returnType = ret ∧ c.maxLocals = 7 ∧ s.vm.findClass R_law = some m.cls ∧ (∀ w ∈ lw_tbl, w.before #[Value.ref b] s = true) ∧ va_X b L xs s s.heap ∧ b < s.heap.size ∧ meth.locks = false ∧ (Jvm.Cond.and given_1 narrow_1).before #[Value.ref b] s = true

def sld (xs : Nat → Int32) (L : Nat) (j : Int32) : Option Int32 := if 0 ≤ j ∧ j.toNatClampNeg < L then some (xs j.toNatClampNeg) else none
def lwPhi (below : List Frame) (b : Nat) (s : State) : Option Int32 → State → Prop := fun T t => T = some 1 → lw_Z below #[Value.ref b] s t
section LWR
variable {X : gX} {p : Program} {l : Launch} {e : Env} {R : Room} {s : State} {m : MethodId} {args : Array Value} {below : List Frame} {meth : Method} {c : Code} {α : Type} {Φ : Option α → State → Prop} {nL cells slots pc : Nat} {lv : List (Nat × Value)} {st : List Value} {M : mMem} {own : String} {cc : ByteArray} {rm : Room} {b L : Nat} {xs : Nat → Int32}
theorem g_sld {j : Int32} {t : Int32 → Option α} (hXs : va_X b L xs s s.heap) (hbl : b < s.heap.size) (hbA : ¬ gA X b) (B : gB X p R s m args meth c own cc nL rm) (hd : decode cc pc = .ok (.iaload, 1)) (kk : ∀ v, GG X p l e R s m args below meth c Φ nL cells slots (pc + 1) lv (.int v :: st) M (t v)) : GG X p l e R s m args below meth c Φ nL cells slots pc lv (.int j :: .ref b :: st) M ((sld xs L j).bind t) := by
  intro hT H locs ls hH hS hl
  unfold sld at hT ⊢
  by_cases h : 0 ≤ j ∧ j.toNatClampNeg < L
  · rw [if_pos h, Option.bind_some] at hT ⊢
    exact va_sld B.1 B.2.1 hXs hbl hbA hS (g_in h) hd (kk _ hT H locs ls hH hS hl)
  · simp [h] at hT
theorem g_slaw {T : Option α} (hXs : va_X b L xs s s.heap) (hbl : b < s.heap.size) (hbA : ¬ gA X b) (B : gB X p R s m args meth c own cc nL rm) (hd : decode cc pc = .ok (.arraylength, 1)) (kk : GG X p l e R s m args below meth c Φ nL cells slots (pc + 1) lv (.int (Int32.ofNat L) :: st) M T) : GG X p l e R s m args below meth c Φ nL cells slots pc lv (.ref b :: st) M T := fun hT H locs ls hH hS hl => va_slen B.1 B.2.1 hXs hbl hbA hS hd (kk hT H locs ls hH hS hl)
theorem g_freeze {T : Option α} (kk : GG X p l e R s m args below meth c Φ nL cells slots pc lv st (mF M) T) : GG X p l e R s m args below meth c Φ nL cells slots pc lv st M T := by
  intro hT H locs ls hH hS hl
  obtain ⟨L, h1, h2, h3, h4⟩ := hH
  exact kk hT H locs ls ⟨L, h1, h2, h3, fun z => absurd rfl z⟩ hS hl
theorem g_lawret0 {v : Int32} (hv : v ≠ 1) : GG X p l e R s m args below meth c (lwPhi below b s) nL cells slots pc lv st M (some v) := by
  intro hT H locs ls hH hS hl T0 hT0 X0
  exact ⟨_, Steps.refl _, fun h => absurd (Option.some.inj h) hv⟩
theorem g_lawret1 (B : gB X p room_1 s m #[Value.ref b] meth c own code nL rm) (hr : meth.sig.returnType = ret) (hlo : X.1 = s.heap.size) (h1 : cells ≤ 601024) (h2 : slots ≤ 7293034) (hd : decode code pc = .ok (.ireturn, 1)) : GG X p l e room_1 s m #[Value.ref b] below meth c (lwPhi below b s) nL cells slots pc lv [.int 1] M (some 1) := by
  intro hT H locs ls hH hS hl T0 hT0 X0
  obtain ⟨t, a1, b1⟩ := va_forget (Q := lw_Z below #[Value.ref b] s) (fun q hq => by have := hS.2.2 q hq; show s.heap.size ≤ _; rw [← hlo]; exact this) (W.widen h1 h2 (lw_ret B.1 B.2.1 hr B.2.2.2.2.2.1 hd)) T0 hT0 X0
  exact ⟨t, a1, fun _ => b1⟩
end LWR
