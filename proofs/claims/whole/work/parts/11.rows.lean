/-! the judgement of the walks: from this frame, over a heap that holds M, the method comes to the end that T says -/
def gB (X : gX) (p : Program) (R : Room) (s : State) (m : MethodId) (args : Array Value) (meth : Method) (c : Code) (own : String) (cc : ByteArray) (nL : Nat) (rm : Room) : Prop :=
  p.tables.exec = Jvm.exec ∧ c.code = cc ∧ c.maxLocals = nL ∧ s.vm.findClass own = some m.cls ∧ (∀ w ∈ gTbl, w.before args s = true) ∧ meth.locks = false ∧ va_K X.2.1 vwCl (gT X) s ∧ (rm.frames ≤ R.frames ∧ rm.cells ≤ R.cells ∧ rm.slots ≤ R.slots ∧ rm.locals ≤ R.locals) ∧ X.1 ≤ s.heap.size
def GG (X : gX) (p : Program) (l : Launch) (e : Env) (R : Room) (s : State) (m : MethodId) (args : Array Value) (below : List Frame) (meth : Method) (c : Code) {α : Type} (Φ : Option α → State → Prop) (nL cells slots pc : Nat) (lv : List (Nat × Value)) (st : List Value) (M : mMem) (T : Option α) : Prop :=
  T ≠ none → ∀ (H : Heap) (locs : List Loc) (ls : Array Slot), gHold X M H → va_S (gA X) s.heap H locs → lv_has ls nL lv → W p l e R s m args below meth c H locs cells slots (Φ T) (F0 m pc ls st)
section GR
variable {X : gX} {p : Program} {l : Launch} {e : Env} {R : Room} {s : State} {m : MethodId} {args : Array Value} {below : List Frame} {meth : Method} {c : Code} {α : Type} {Φ : Option α → State → Prop} {nL cells slots pc : Nat} {lv : List (Nat × Value)} {st : List Value} {M : mMem} {T : Option α} {own : String} {cc : ByteArray} {rm : Room}
theorem g_none : GG X p l e R s m args below meth c Φ nL cells slots pc lv st M none := fun h => absurd rfl h
theorem g_eqT {T' : Option α} (h : T = T') (kk : GG X p l e R s m args below meth c Φ nL cells slots pc lv st M T') : GG X p l e R s m args below meth c Φ nL cells slots pc lv st M T := h ▸ kk
theorem g_sub {lv' : List (Nat × Value)} (ks : List Nat) (h : lv_pick lv ks = lv') (kk : GG X p l e R s m args below meth c Φ nL cells slots pc lv' st M T) : GG X p l e R s m args below meth c Φ nL cells slots pc lv st M T := fun hT H locs ls hH hS hl => kk hT H locs ls hH hS (lv_sub hl ks h)

theorem g_iconst (B : gB X p R s m args meth c own cc nL rm) {n : Int} {v : Int32} (hd : decode cc pc = .ok (.iconst n, 1)) (hv : Int32.ofInt n = v) (kk : GG X p l e R s m args below meth c Φ nL cells slots (pc + 1) lv (.int v :: st) M T) : GG X p l e R s m args below meth c Φ nL cells slots pc lv (st) M T := fun hT H locs ls hH hS hl => lv_iconst B.1 B.2.1 hd hv (kk hT H locs ls hH hS hl)
theorem g_bipush (B : gB X p R s m args meth c own cc nL rm) {n : Int} {v : Int32} (hd : decode cc pc = .ok (.bipush n, 2)) (hv : (Int8.ofInt n).toInt32 = v) (kk : GG X p l e R s m args below meth c Φ nL cells slots (pc + 2) lv (.int v :: st) M T) : GG X p l e R s m args below meth c Φ nL cells slots pc lv (st) M T := fun hT H locs ls hH hS hl => lv_bipush B.1 B.2.1 hd hv (kk hT H locs ls hH hS hl)
theorem g_sipush (B : gB X p R s m args meth c own cc nL rm) {n : Int} {v : Int32} (hd : decode cc pc = .ok (.sipush n, 3)) (hv : (Int16.ofInt n).toInt32 = v) (kk : GG X p l e R s m args below meth c Φ nL cells slots (pc + 3) lv (.int v :: st) M T) : GG X p l e R s m args below meth c Φ nL cells slots pc lv (st) M T := fun hT H locs ls hH hS hl => lv_sipush B.1 B.2.1 hd hv (kk hT H locs ls hH hS hl)
theorem g_lconst (B : gB X p R s m args meth c own cc nL rm) {n : Fin 2} {v : Int64} (hd : decode cc pc = .ok (.lconst n, 1)) (hv : Int64.ofNat (n : Nat) = v) (kk : GG X p l e R s m args below meth c Φ nL cells slots (pc + 1) lv (.long v :: st) M T) : GG X p l e R s m args below meth c Φ nL cells slots pc lv (st) M T := fun hT H locs ls hH hS hl => lv_lconst B.1 B.2.1 hd hv (kk hT H locs ls hH hS hl)
theorem g_ldc (B : gB X p R s m args meth c own cc nL rm) {index : Nat} {v : Int32} (hd : decode cc pc = .ok (.ldc index, 2)) (hw : Cond.constant own index v ∈ gTbl) (kk : GG X p l e R s m args below meth c Φ nL cells slots (pc + 2) lv (.int v :: st) M T) : GG X p l e R s m args below meth c Φ nL cells slots pc lv st M T := fun hT H locs ls hH hS hl => lv_ldc B.1 B.2.1 B.2.2.2.1 (B.2.2.2.2.1 _ hw) hd (kk hT H locs ls hH hS hl)
theorem g_ldc2 (B : gB X p R s m args meth c own cc nL rm) {index : Nat} {v : Int64} (hd : decode cc pc = .ok (.ldc2_w index, 3)) (hw : Cond.constantLong own index v ∈ gTbl) (kk : GG X p l e R s m args below meth c Φ nL cells slots (pc + 3) lv (.long v :: st) M T) : GG X p l e R s m args below meth c Φ nL cells slots pc lv st M T := fun hT H locs ls hH hS hl => lv_ldc2 B.1 B.2.1 B.2.2.2.1 (B.2.2.2.2.1 _ hw) hd (kk hT H locs ls hH hS hl)
theorem g_iload_n (B : gB X p R s m args meth c own cc nL rm) {k : Fin 4} {x : Int32} (hd : decode cc pc = .ok (.iload_n k, 1)) (q : Nat) (hl0 : lv[q]? = some ((k : Nat), .int x)) (kk : GG X p l e R s m args below meth c Φ nL cells slots (pc + 1) lv (.int x :: st) M T) : GG X p l e R s m args below meth c Φ nL cells slots pc lv st M T := fun hT H locs ls hH hS hl => lv_iload_n B.1 B.2.1 hd rfl (lv_at hl q hl0) (kk hT H locs ls hH hS hl)
theorem g_iload (B : gB X p R s m args meth c own cc nL rm) {i : Nat} {x : Int32} (hd : decode cc pc = .ok (.iload i, 2)) (q : Nat) (hl0 : lv[q]? = some (i, .int x)) (kk : GG X p l e R s m args below meth c Φ nL cells slots (pc + 2) lv (.int x :: st) M T) : GG X p l e R s m args below meth c Φ nL cells slots pc lv st M T := fun hT H locs ls hH hS hl => lv_iload B.1 B.2.1 hd (lv_at hl q hl0) (kk hT H locs ls hH hS hl)
theorem g_istore_n (B : gB X p R s m args meth c own cc nL rm) {k : Fin 4} {x : Int32} {lv' : List (Nat × Value)} (hd : decode cc pc = .ok (.istore_n k, 1)) (hn : (k : Nat) < nL) (ks : List Nat) (hl0 : lv_pick (((k : Nat), Value.int x) :: lv.filter (fun q => !(q.1 == (k : Nat)) && !(q.1 + 1 == (k : Nat) && q.2.category == 2))) ks = lv') (kk : GG X p l e R s m args below meth c Φ nL cells slots (pc + 1) lv' st M T) : GG X p l e R s m args below meth c Φ nL cells slots pc lv (.int x :: st) M T := fun hT H locs ls hH hS hl => lv_istore_n B.1 B.2.1 hd rfl hl hn rfl (fun ls' hl' => kk hT H locs ls' hH hS (lv_sub hl' ks hl0))
theorem g_istore (B : gB X p R s m args meth c own cc nL rm) {i : Nat} {x : Int32} {lv' : List (Nat × Value)} (hd : decode cc pc = .ok (.istore i, 2)) (hn : i < nL) (ks : List Nat) (hl0 : lv_pick ((i, Value.int x) :: lv.filter (fun q => !(q.1 == i) && !(q.1 + 1 == i && q.2.category == 2))) ks = lv') (kk : GG X p l e R s m args below meth c Φ nL cells slots (pc + 2) lv' st M T) : GG X p l e R s m args below meth c Φ nL cells slots pc lv (.int x :: st) M T := fun hT H locs ls hH hS hl => lv_istore B.1 B.2.1 hd hl hn rfl (fun ls' hl' => kk hT H locs ls' hH hS (lv_sub hl' ks hl0))
theorem g_aload_n (B : gB X p R s m args meth c own cc nL rm) {k : Fin 4} {x : Nat} (hd : decode cc pc = .ok (.aload_n k, 1)) (q : Nat) (hl0 : lv[q]? = some ((k : Nat), .ref x)) (kk : GG X p l e R s m args below meth c Φ nL cells slots (pc + 1) lv (.ref x :: st) M T) : GG X p l e R s m args below meth c Φ nL cells slots pc lv st M T := fun hT H locs ls hH hS hl => lv_aload_n B.1 B.2.1 hd rfl (lv_at hl q hl0) (kk hT H locs ls hH hS hl)
theorem g_aload (B : gB X p R s m args meth c own cc nL rm) {i : Nat} {x : Nat} (hd : decode cc pc = .ok (.aload i, 2)) (q : Nat) (hl0 : lv[q]? = some (i, .ref x)) (kk : GG X p l e R s m args below meth c Φ nL cells slots (pc + 2) lv (.ref x :: st) M T) : GG X p l e R s m args below meth c Φ nL cells slots pc lv st M T := fun hT H locs ls hH hS hl => lv_aload B.1 B.2.1 hd (lv_at hl q hl0) (kk hT H locs ls hH hS hl)
theorem g_astore_n (B : gB X p R s m args meth c own cc nL rm) {k : Fin 4} {x : Nat} {lv' : List (Nat × Value)} (hd : decode cc pc = .ok (.astore_n k, 1)) (hn : (k : Nat) < nL) (ks : List Nat) (hl0 : lv_pick (((k : Nat), Value.ref x) :: lv.filter (fun q => !(q.1 == (k : Nat)) && !(q.1 + 1 == (k : Nat) && q.2.category == 2))) ks = lv') (kk : GG X p l e R s m args below meth c Φ nL cells slots (pc + 1) lv' st M T) : GG X p l e R s m args below meth c Φ nL cells slots pc lv (.ref x :: st) M T := fun hT H locs ls hH hS hl => lv_astore_n B.1 B.2.1 hd rfl hl hn rfl (fun ls' hl' => kk hT H locs ls' hH hS (lv_sub hl' ks hl0))
theorem g_astore (B : gB X p R s m args meth c own cc nL rm) {i : Nat} {x : Nat} {lv' : List (Nat × Value)} (hd : decode cc pc = .ok (.astore i, 2)) (hn : i < nL) (ks : List Nat) (hl0 : lv_pick ((i, Value.ref x) :: lv.filter (fun q => !(q.1 == i) && !(q.1 + 1 == i && q.2.category == 2))) ks = lv') (kk : GG X p l e R s m args below meth c Φ nL cells slots (pc + 2) lv' st M T) : GG X p l e R s m args below meth c Φ nL cells slots pc lv (.ref x :: st) M T := fun hT H locs ls hH hS hl => lv_astore B.1 B.2.1 hd hl hn rfl (fun ls' hl' => kk hT H locs ls' hH hS (lv_sub hl' ks hl0))
theorem g_lload_n (B : gB X p R s m args meth c own cc nL rm) {k : Fin 4} {x : Int64} (hd : decode cc pc = .ok (.lload_n k, 1)) (q : Nat) (hl0 : lv[q]? = some ((k : Nat), .long x)) (kk : GG X p l e R s m args below meth c Φ nL cells slots (pc + 1) lv (.long x :: st) M T) : GG X p l e R s m args below meth c Φ nL cells slots pc lv st M T := fun hT H locs ls hH hS hl => lv_lload_n B.1 B.2.1 hd rfl (lv_at hl q hl0) (kk hT H locs ls hH hS hl)
theorem g_lload (B : gB X p R s m args meth c own cc nL rm) {i : Nat} {x : Int64} (hd : decode cc pc = .ok (.lload i, 2)) (q : Nat) (hl0 : lv[q]? = some (i, .long x)) (kk : GG X p l e R s m args below meth c Φ nL cells slots (pc + 2) lv (.long x :: st) M T) : GG X p l e R s m args below meth c Φ nL cells slots pc lv st M T := fun hT H locs ls hH hS hl => lv_lload B.1 B.2.1 hd (lv_at hl q hl0) (kk hT H locs ls hH hS hl)
theorem g_lstore_n (B : gB X p R s m args meth c own cc nL rm) {k : Fin 4} {x : Int64} {lv' : List (Nat × Value)} (hd : decode cc pc = .ok (.lstore_n k, 1)) (hn : (k : Nat) + 1 < nL) (ks : List Nat) (hl0 : lv_pick (((k : Nat), Value.long x) :: lv.filter (fun q => !(q.1 == (k : Nat)) && (!(q.1 == (k : Nat) + 1) && !(q.1 + 1 == (k : Nat) && q.2.category == 2)))) ks = lv') (kk : GG X p l e R s m args below meth c Φ nL cells slots (pc + 1) lv' st M T) : GG X p l e R s m args below meth c Φ nL cells slots pc lv (.long x :: st) M T := fun hT H locs ls hH hS hl => lv_lstore_n B.1 B.2.1 hd rfl hl hn rfl (fun ls' hl' => kk hT H locs ls' hH hS (lv_sub hl' ks hl0))
theorem g_lstore (B : gB X p R s m args meth c own cc nL rm) {i : Nat} {x : Int64} {lv' : List (Nat × Value)} (hd : decode cc pc = .ok (.lstore i, 2)) (hn : i + 1 < nL) (ks : List Nat) (hl0 : lv_pick ((i, Value.long x) :: lv.filter (fun q => !(q.1 == i) && (!(q.1 == i + 1) && !(q.1 + 1 == i && q.2.category == 2)))) ks = lv') (kk : GG X p l e R s m args below meth c Φ nL cells slots (pc + 2) lv' st M T) : GG X p l e R s m args below meth c Φ nL cells slots pc lv (.long x :: st) M T := fun hT H locs ls hH hS hl => lv_lstore B.1 B.2.1 hd hl hn rfl (fun ls' hl' => kk hT H locs ls' hH hS (lv_sub hl' ks hl0))
theorem g_iinc (B : gB X p R s m args meth c own cc nL rm) {i : Nat} {n : Int} {x v : Int32} {lv' : List (Nat × Value)} (hd : decode cc pc = .ok (.iinc i n, 3)) (q : Nat) (hl1 : lv[q]? = some (i, .int x)) (hv : x + Int32.ofInt n = v) (hn : i < nL) (ks : List Nat) (hl0 : lv_pick ((i, Value.int v) :: lv.filter (fun q => !(q.1 == i) && !(q.1 + 1 == i && q.2.category == 2))) ks = lv') (kk : GG X p l e R s m args below meth c Φ nL cells slots (pc + 3) lv' st M T) : GG X p l e R s m args below meth c Φ nL cells slots pc lv st M T := fun hT H locs ls hH hS hl => lv_iinc B.1 B.2.1 hd hl (k := q) hl1 hv hn rfl (fun ls' hl' => kk hT H locs ls' hH hS (lv_sub hl' ks hl0))
theorem g_iadd (B : gB X p R s m args meth c own cc nL rm) {x y : Int32} (hd : decode cc pc = .ok (.iadd, 1))  (kk : GG X p l e R s m args below meth c Φ nL cells slots (pc + 1) lv (.int (x + y) :: st) M T) : GG X p l e R s m args below meth c Φ nL cells slots pc lv (.int y :: .int x :: st) M T := fun hT H locs ls hH hS hl => lv_iadd B.1 B.2.1 hd  (kk hT H locs ls hH hS hl)
theorem g_isub (B : gB X p R s m args meth c own cc nL rm) {x y : Int32} (hd : decode cc pc = .ok (.isub, 1))  (kk : GG X p l e R s m args below meth c Φ nL cells slots (pc + 1) lv (.int (x - y) :: st) M T) : GG X p l e R s m args below meth c Φ nL cells slots pc lv (.int y :: .int x :: st) M T := fun hT H locs ls hH hS hl => lv_isub B.1 B.2.1 hd  (kk hT H locs ls hH hS hl)
theorem g_imul (B : gB X p R s m args meth c own cc nL rm) {x y : Int32} (hd : decode cc pc = .ok (.imul, 1))  (kk : GG X p l e R s m args below meth c Φ nL cells slots (pc + 1) lv (.int (x * y) :: st) M T) : GG X p l e R s m args below meth c Φ nL cells slots pc lv (.int y :: .int x :: st) M T := fun hT H locs ls hH hS hl => lv_imul B.1 B.2.1 hd  (kk hT H locs ls hH hS hl)
theorem g_iand (B : gB X p R s m args meth c own cc nL rm) {x y : Int32} (hd : decode cc pc = .ok (.iand, 1))  (kk : GG X p l e R s m args below meth c Φ nL cells slots (pc + 1) lv (.int (x &&& y) :: st) M T) : GG X p l e R s m args below meth c Φ nL cells slots pc lv (.int y :: .int x :: st) M T := fun hT H locs ls hH hS hl => lv_iand B.1 B.2.1 hd  (kk hT H locs ls hH hS hl)
theorem g_ior (B : gB X p R s m args meth c own cc nL rm) {x y : Int32} (hd : decode cc pc = .ok (.ior, 1))  (kk : GG X p l e R s m args below meth c Φ nL cells slots (pc + 1) lv (.int (x ||| y) :: st) M T) : GG X p l e R s m args below meth c Φ nL cells slots pc lv (.int y :: .int x :: st) M T := fun hT H locs ls hH hS hl => lv_ior B.1 B.2.1 hd  (kk hT H locs ls hH hS hl)
theorem g_ixor (B : gB X p R s m args meth c own cc nL rm) {x y : Int32} (hd : decode cc pc = .ok (.ixor, 1))  (kk : GG X p l e R s m args below meth c Φ nL cells slots (pc + 1) lv (.int (x ^^^ y) :: st) M T) : GG X p l e R s m args below meth c Φ nL cells slots pc lv (.int y :: .int x :: st) M T := fun hT H locs ls hH hS hl => lv_ixor B.1 B.2.1 hd  (kk hT H locs ls hH hS hl)
theorem g_ishl (B : gB X p R s m args meth c own cc nL rm) {x y : Int32} (hd : decode cc pc = .ok (.ishl, 1))  (kk : GG X p l e R s m args below meth c Φ nL cells slots (pc + 1) lv (.int (x <<< (y &&& 31)) :: st) M T) : GG X p l e R s m args below meth c Φ nL cells slots pc lv (.int y :: .int x :: st) M T := fun hT H locs ls hH hS hl => lv_ishl B.1 B.2.1 hd  (kk hT H locs ls hH hS hl)
theorem g_ishr (B : gB X p R s m args meth c own cc nL rm) {x y : Int32} (hd : decode cc pc = .ok (.ishr, 1))  (kk : GG X p l e R s m args below meth c Φ nL cells slots (pc + 1) lv (.int (x >>> (y &&& 31)) :: st) M T) : GG X p l e R s m args below meth c Φ nL cells slots pc lv (.int y :: .int x :: st) M T := fun hT H locs ls hH hS hl => lv_ishr B.1 B.2.1 hd  (kk hT H locs ls hH hS hl)
theorem g_iushr (B : gB X p R s m args meth c own cc nL rm) {x y : Int32} (hd : decode cc pc = .ok (.iushr, 1))  (kk : GG X p l e R s m args below meth c Φ nL cells slots (pc + 1) lv (.int (ushr x y) :: st) M T) : GG X p l e R s m args below meth c Φ nL cells slots pc lv (.int y :: .int x :: st) M T := fun hT H locs ls hH hS hl => lv_iushr B.1 B.2.1 hd rfl (kk hT H locs ls hH hS hl)
theorem g_ineg (B : gB X p R s m args meth c own cc nL rm) {x : Int32} (hd : decode cc pc = .ok (.ineg, 1))  (kk : GG X p l e R s m args below meth c Φ nL cells slots (pc + 1) lv (.int (-x) :: st) M T) : GG X p l e R s m args below meth c Φ nL cells slots pc lv (.int x :: st) M T := fun hT H locs ls hH hS hl => lv_ineg B.1 B.2.1 hd  (kk hT H locs ls hH hS hl)
theorem g_ladd (B : gB X p R s m args meth c own cc nL rm) {x y : Int64} (hd : decode cc pc = .ok (.ladd, 1))  (kk : GG X p l e R s m args below meth c Φ nL cells slots (pc + 1) lv (.long (x + y) :: st) M T) : GG X p l e R s m args below meth c Φ nL cells slots pc lv (.long y :: .long x :: st) M T := fun hT H locs ls hH hS hl => lv_ladd B.1 B.2.1 hd  (kk hT H locs ls hH hS hl)
theorem g_lsub (B : gB X p R s m args meth c own cc nL rm) {x y : Int64} (hd : decode cc pc = .ok (.lsub, 1))  (kk : GG X p l e R s m args below meth c Φ nL cells slots (pc + 1) lv (.long (x - y) :: st) M T) : GG X p l e R s m args below meth c Φ nL cells slots pc lv (.long y :: .long x :: st) M T := fun hT H locs ls hH hS hl => lv_lsub B.1 B.2.1 hd  (kk hT H locs ls hH hS hl)
theorem g_lmul (B : gB X p R s m args meth c own cc nL rm) {x y : Int64} (hd : decode cc pc = .ok (.lmul, 1))  (kk : GG X p l e R s m args below meth c Φ nL cells slots (pc + 1) lv (.long (x * y) :: st) M T) : GG X p l e R s m args below meth c Φ nL cells slots pc lv (.long y :: .long x :: st) M T := fun hT H locs ls hH hS hl => lv_lmul B.1 B.2.1 hd  (kk hT H locs ls hH hS hl)
theorem g_i2l (B : gB X p R s m args meth c own cc nL rm) {x : Int32} (hd : decode cc pc = .ok (.i2l, 1))  (kk : GG X p l e R s m args below meth c Φ nL cells slots (pc + 1) lv (.long x.toInt64 :: st) M T) : GG X p l e R s m args below meth c Φ nL cells slots pc lv (.int x :: st) M T := fun hT H locs ls hH hS hl => lv_i2l B.1 B.2.1 hd rfl (kk hT H locs ls hH hS hl)
theorem g_l2i (B : gB X p R s m args meth c own cc nL rm) {x : Int64} (hd : decode cc pc = .ok (.l2i, 1))  (kk : GG X p l e R s m args below meth c Φ nL cells slots (pc + 1) lv (.int x.toInt32 :: st) M T) : GG X p l e R s m args below meth c Φ nL cells slots pc lv (.long x :: st) M T := fun hT H locs ls hH hS hl => lv_l2i B.1 B.2.1 hd rfl (kk hT H locs ls hH hS hl)
theorem g_i2b (B : gB X p R s m args meth c own cc nL rm) {x : Int32} (hd : decode cc pc = .ok (.i2b, 1))  (kk : GG X p l e R s m args below meth c Φ nL cells slots (pc + 1) lv (.int (i2b x) :: st) M T) : GG X p l e R s m args below meth c Φ nL cells slots pc lv (.int x :: st) M T := fun hT H locs ls hH hS hl => lv_i2b B.1 B.2.1 hd rfl (kk hT H locs ls hH hS hl)
theorem g_i2c (B : gB X p R s m args meth c own cc nL rm) {x : Int32} (hd : decode cc pc = .ok (.i2c, 1))  (kk : GG X p l e R s m args below meth c Φ nL cells slots (pc + 1) lv (.int (i2c x) :: st) M T) : GG X p l e R s m args below meth c Φ nL cells slots pc lv (.int x :: st) M T := fun hT H locs ls hH hS hl => lv_i2c B.1 B.2.1 hd rfl (kk hT H locs ls hH hS hl)
theorem g_lcmp (B : gB X p R s m args meth c own cc nL rm) {x y : Int64} (hd : decode cc pc = .ok (.lcmp, 1)) (kk : GG X p l e R s m args below meth c Φ nL cells slots (pc + 1) lv (.int (lg_cmp x y) :: st) M T) : GG X p l e R s m args below meth c Φ nL cells slots pc lv (.long y :: .long x :: st) M T := fun hT H locs ls hH hS hl => W.lcmp B.1 B.2.1 hd (kk hT H locs ls hH hS hl)
theorem g_idiv (B : gB X p R s m args meth c own cc nL rm) {x y : Int32} {t : Int32 → Option α} (hd : decode cc pc = .ok (.idiv, 1)) (kk : ∀ v, GG X p l e R s m args below meth c Φ nL cells slots (pc + 1) lv (.int v :: st) M (t v)) : GG X p l e R s m args below meth c Φ nL cells slots pc lv (.int y :: .int x :: st) M (((divI x y).bind t)) := by
  intro hT H locs ls hH hS hl
  unfold divI at hT ⊢
  by_cases h : y = 0
  · simp [h] at hT
  · simp only [h, if_false, Option.bind_some] at hT ⊢
    exact lv_idiv B.1 B.2.1 hd h (kk _ hT H locs ls hH hS hl)
theorem g_irem (B : gB X p R s m args meth c own cc nL rm) {x y : Int32} {t : Int32 → Option α} (hd : decode cc pc = .ok (.irem, 1)) (kk : ∀ v, GG X p l e R s m args below meth c Φ nL cells slots (pc + 1) lv (.int v :: st) M (t v)) : GG X p l e R s m args below meth c Φ nL cells slots pc lv (.int y :: .int x :: st) M (((remI x y).bind t)) := by
  intro hT H locs ls hH hS hl
  unfold remI at hT ⊢
  by_cases h : y = 0
  · simp [h] at hT
  · simp only [h, if_false, Option.bind_some] at hT ⊢
    exact lv_irem B.1 B.2.1 hd h (kk _ hT H locs ls hH hS hl)
theorem g_ldiv (B : gB X p R s m args meth c own cc nL rm) {x y : Int64} {t : Int64 → Option α} (hd : decode cc pc = .ok (.ldiv, 1)) (kk : ∀ v, GG X p l e R s m args below meth c Φ nL cells slots (pc + 1) lv (.long v :: st) M (t v)) : GG X p l e R s m args below meth c Φ nL cells slots pc lv (.long y :: .long x :: st) M ((divL x y).bind t) := by
  intro hT H locs ls hH hS hl
  unfold divL at hT ⊢
  by_cases h : y = 0
  · simp [h] at hT
  · simp only [h, if_false, Option.bind_some] at hT ⊢
    exact lv_ldiv B.1 B.2.1 hd h (kk _ hT H locs ls hH hS hl)
theorem g_dup (B : gB X p R s m args meth c own cc nL rm) {va : Value} (hd : decode cc pc = .ok (.dup, 1)) (h1 : va.category = 1) (kk : GG X p l e R s m args below meth c Φ nL cells slots (pc + 1) lv (va :: va :: st) M T) : GG X p l e R s m args below meth c Φ nL cells slots pc lv (va :: st) M T := fun hT H locs ls hH hS hl => lv_dup B.1 B.2.1 hd h1 (kk hT H locs ls hH hS hl)
theorem g_dup2_11 (B : gB X p R s m args meth c own cc nL rm) {va vb : Value} (hd : decode cc pc = .ok (.dup2, 1)) (h1 : va.category = 1) (h2 : vb.category = 1) (kk : GG X p l e R s m args below meth c Φ nL cells slots (pc + 1) lv (va :: vb :: va :: vb :: st) M T) : GG X p l e R s m args below meth c Φ nL cells slots pc lv (va :: vb :: st) M T := fun hT H locs ls hH hS hl => lv_dup2_11 B.1 B.2.1 hd h1 h2 (kk hT H locs ls hH hS hl)
theorem g_pop (B : gB X p R s m args meth c own cc nL rm) {va : Value} (hd : decode cc pc = .ok (.pop, 1)) (h1 : va.category = 1) (kk : GG X p l e R s m args below meth c Φ nL cells slots (pc + 1) lv (st) M T) : GG X p l e R s m args below meth c Φ nL cells slots pc lv (va :: st) M T := fun hT H locs ls hH hS hl => lv_pop B.1 B.2.1 hd h1 (kk hT H locs ls hH hS hl)
theorem g_icmp_eq (B : gB X p R s m args meth c own cc nL rm) {x y : Int32} {off : Int} (tgt : Nat) {T1 T2 : Option α} (hd : decode cc pc = .ok (.if_icmp .eq off, 3)) (ht : (pc : Int) + off = (tgt : Int)) (kt : GG X p l e R s m args below meth c Φ nL cells slots tgt lv st M T1) (kf : GG X p l e R s m args below meth c Φ nL cells slots (pc + 3) lv st M T2) : GG X p l e R s m args below meth c Φ nL cells slots pc lv (.int y :: .int x :: st) M (if x = y then T1 else T2) := by
  intro hT H locs ls hH hS hl
  by_cases h : x = y
  · rw [if_pos h] at hT ⊢
    exact lv_icmp_eq B.1 B.2.1 hd ht (fun h2 => kt hT H locs ls hH hS hl) (fun h2 => absurd h (by exact h2))
  · rw [if_neg h] at hT ⊢
    exact lv_icmp_eq B.1 B.2.1 hd ht (fun h2 => absurd (h2) h) (fun h2 => kf hT H locs ls hH hS hl)
theorem g_icmp_ne (B : gB X p R s m args meth c own cc nL rm) {x y : Int32} {off : Int} (tgt : Nat) {T1 T2 : Option α} (hd : decode cc pc = .ok (.if_icmp .ne off, 3)) (ht : (pc : Int) + off = (tgt : Int)) (kf : GG X p l e R s m args below meth c Φ nL cells slots (pc + 3) lv st M T1) (kt : GG X p l e R s m args below meth c Φ nL cells slots tgt lv st M T2) : GG X p l e R s m args below meth c Φ nL cells slots pc lv (.int y :: .int x :: st) M (if x = y then T1 else T2) := by
  intro hT H locs ls hH hS hl
  by_cases h : x = y
  · rw [if_pos h] at hT ⊢
    exact lv_icmp_ne B.1 B.2.1 hd ht (fun h2 => absurd h (by exact h2)) (fun h2 => kf hT H locs ls hH hS hl)
  · rw [if_neg h] at hT ⊢
    exact lv_icmp_ne B.1 B.2.1 hd ht (fun h2 => kt hT H locs ls hH hS hl) (fun h2 => absurd (h2) h)
theorem g_icmp_lt (B : gB X p R s m args meth c own cc nL rm) {x y : Int32} {off : Int} (tgt : Nat) {T1 T2 : Option α} (hd : decode cc pc = .ok (.if_icmp .lt off, 3)) (ht : (pc : Int) + off = (tgt : Int)) (kt : GG X p l e R s m args below meth c Φ nL cells slots tgt lv st M T1) (kf : GG X p l e R s m args below meth c Φ nL cells slots (pc + 3) lv st M T2) : GG X p l e R s m args below meth c Φ nL cells slots pc lv (.int y :: .int x :: st) M (if x < y then T1 else T2) := by
  intro hT H locs ls hH hS hl
  by_cases h : x < y
  · rw [if_pos h] at hT ⊢
    exact lv_icmp_lt B.1 B.2.1 hd ht (fun h2 => kt hT H locs ls hH hS hl) (fun h2 => absurd h (by exact h2))
  · rw [if_neg h] at hT ⊢
    exact lv_icmp_lt B.1 B.2.1 hd ht (fun h2 => absurd (h2) h) (fun h2 => kf hT H locs ls hH hS hl)
theorem g_icmp_ge (B : gB X p R s m args meth c own cc nL rm) {x y : Int32} {off : Int} (tgt : Nat) {T1 T2 : Option α} (hd : decode cc pc = .ok (.if_icmp .ge off, 3)) (ht : (pc : Int) + off = (tgt : Int)) (kf : GG X p l e R s m args below meth c Φ nL cells slots (pc + 3) lv st M T1) (kt : GG X p l e R s m args below meth c Φ nL cells slots tgt lv st M T2) : GG X p l e R s m args below meth c Φ nL cells slots pc lv (.int y :: .int x :: st) M (if x < y then T1 else T2) := by
  intro hT H locs ls hH hS hl
  by_cases h : x < y
  · rw [if_pos h] at hT ⊢
    exact lv_icmp_ge B.1 B.2.1 hd ht (fun h2 => absurd h (by exact Int32.not_lt.mpr h2)) (fun h2 => kf hT H locs ls hH hS hl)
  · rw [if_neg h] at hT ⊢
    exact lv_icmp_ge B.1 B.2.1 hd ht (fun h2 => kt hT H locs ls hH hS hl) (fun h2 => absurd (Int32.not_le.mp h2) h)
theorem g_icmp_gt (B : gB X p R s m args meth c own cc nL rm) {x y : Int32} {off : Int} (tgt : Nat) {T1 T2 : Option α} (hd : decode cc pc = .ok (.if_icmp .gt off, 3)) (ht : (pc : Int) + off = (tgt : Int)) (kt : GG X p l e R s m args below meth c Φ nL cells slots tgt lv st M T1) (kf : GG X p l e R s m args below meth c Φ nL cells slots (pc + 3) lv st M T2) : GG X p l e R s m args below meth c Φ nL cells slots pc lv (.int y :: .int x :: st) M (if y < x then T1 else T2) := by
  intro hT H locs ls hH hS hl
  by_cases h : y < x
  · rw [if_pos h] at hT ⊢
    exact lv_icmp_gt B.1 B.2.1 hd ht (fun h2 => kt hT H locs ls hH hS hl) (fun h2 => absurd h (by exact h2))
  · rw [if_neg h] at hT ⊢
    exact lv_icmp_gt B.1 B.2.1 hd ht (fun h2 => absurd (h2) h) (fun h2 => kf hT H locs ls hH hS hl)
theorem g_icmp_le (B : gB X p R s m args meth c own cc nL rm) {x y : Int32} {off : Int} (tgt : Nat) {T1 T2 : Option α} (hd : decode cc pc = .ok (.if_icmp .le off, 3)) (ht : (pc : Int) + off = (tgt : Int)) (kf : GG X p l e R s m args below meth c Φ nL cells slots (pc + 3) lv st M T1) (kt : GG X p l e R s m args below meth c Φ nL cells slots tgt lv st M T2) : GG X p l e R s m args below meth c Φ nL cells slots pc lv (.int y :: .int x :: st) M (if y < x then T1 else T2) := by
  intro hT H locs ls hH hS hl
  by_cases h : y < x
  · rw [if_pos h] at hT ⊢
    exact lv_icmp_le B.1 B.2.1 hd ht (fun h2 => absurd h (by exact Int32.not_lt.mpr h2)) (fun h2 => kf hT H locs ls hH hS hl)
  · rw [if_neg h] at hT ⊢
    exact lv_icmp_le B.1 B.2.1 hd ht (fun h2 => kt hT H locs ls hH hS hl) (fun h2 => absurd (Int32.not_le.mp h2) h)
theorem g_if_eq (B : gB X p R s m args meth c own cc nL rm) {x : Int32} {off : Int} (tgt : Nat) {T1 T2 : Option α} (hd : decode cc pc = .ok (.ifCond .eq off, 3)) (ht : (pc : Int) + off = (tgt : Int)) (kt : GG X p l e R s m args below meth c Φ nL cells slots tgt lv st M T1) (kf : GG X p l e R s m args below meth c Φ nL cells slots (pc + 3) lv st M T2) : GG X p l e R s m args below meth c Φ nL cells slots pc lv (.int x :: st) M (if x = 0 then T1 else T2) := by
  intro hT H locs ls hH hS hl
  by_cases h : x = 0
  · rw [if_pos h] at hT ⊢
    exact lv_if_eq B.1 B.2.1 hd ht (fun h2 => kt hT H locs ls hH hS hl) (fun h2 => absurd h (by exact h2))
  · rw [if_neg h] at hT ⊢
    exact lv_if_eq B.1 B.2.1 hd ht (fun h2 => absurd (h2) h) (fun h2 => kf hT H locs ls hH hS hl)
theorem g_if_ne (B : gB X p R s m args meth c own cc nL rm) {x : Int32} {off : Int} (tgt : Nat) {T1 T2 : Option α} (hd : decode cc pc = .ok (.ifCond .ne off, 3)) (ht : (pc : Int) + off = (tgt : Int)) (kf : GG X p l e R s m args below meth c Φ nL cells slots (pc + 3) lv st M T1) (kt : GG X p l e R s m args below meth c Φ nL cells slots tgt lv st M T2) : GG X p l e R s m args below meth c Φ nL cells slots pc lv (.int x :: st) M (if x = 0 then T1 else T2) := by
  intro hT H locs ls hH hS hl
  by_cases h : x = 0
  · rw [if_pos h] at hT ⊢
    exact lv_if_ne B.1 B.2.1 hd ht (fun h2 => absurd h (by exact h2)) (fun h2 => kf hT H locs ls hH hS hl)
  · rw [if_neg h] at hT ⊢
    exact lv_if_ne B.1 B.2.1 hd ht (fun h2 => kt hT H locs ls hH hS hl) (fun h2 => absurd (h2) h)
theorem g_if_lt (B : gB X p R s m args meth c own cc nL rm) {x : Int32} {off : Int} (tgt : Nat) {T1 T2 : Option α} (hd : decode cc pc = .ok (.ifCond .lt off, 3)) (ht : (pc : Int) + off = (tgt : Int)) (kt : GG X p l e R s m args below meth c Φ nL cells slots tgt lv st M T1) (kf : GG X p l e R s m args below meth c Φ nL cells slots (pc + 3) lv st M T2) : GG X p l e R s m args below meth c Φ nL cells slots pc lv (.int x :: st) M (if x < 0 then T1 else T2) := by
  intro hT H locs ls hH hS hl
  by_cases h : x < 0
  · rw [if_pos h] at hT ⊢
    exact lv_if_lt B.1 B.2.1 hd ht (fun h2 => kt hT H locs ls hH hS hl) (fun h2 => absurd h (by exact h2))
  · rw [if_neg h] at hT ⊢
    exact lv_if_lt B.1 B.2.1 hd ht (fun h2 => absurd (h2) h) (fun h2 => kf hT H locs ls hH hS hl)
theorem g_if_ge (B : gB X p R s m args meth c own cc nL rm) {x : Int32} {off : Int} (tgt : Nat) {T1 T2 : Option α} (hd : decode cc pc = .ok (.ifCond .ge off, 3)) (ht : (pc : Int) + off = (tgt : Int)) (kf : GG X p l e R s m args below meth c Φ nL cells slots (pc + 3) lv st M T1) (kt : GG X p l e R s m args below meth c Φ nL cells slots tgt lv st M T2) : GG X p l e R s m args below meth c Φ nL cells slots pc lv (.int x :: st) M (if x < 0 then T1 else T2) := by
  intro hT H locs ls hH hS hl
  by_cases h : x < 0
  · rw [if_pos h] at hT ⊢
    exact lv_if_ge B.1 B.2.1 hd ht (fun h2 => absurd h (by exact Int32.not_lt.mpr h2)) (fun h2 => kf hT H locs ls hH hS hl)
  · rw [if_neg h] at hT ⊢
    exact lv_if_ge B.1 B.2.1 hd ht (fun h2 => kt hT H locs ls hH hS hl) (fun h2 => absurd (Int32.not_le.mp h2) h)
theorem g_if_gt (B : gB X p R s m args meth c own cc nL rm) {x : Int32} {off : Int} (tgt : Nat) {T1 T2 : Option α} (hd : decode cc pc = .ok (.ifCond .gt off, 3)) (ht : (pc : Int) + off = (tgt : Int)) (kt : GG X p l e R s m args below meth c Φ nL cells slots tgt lv st M T1) (kf : GG X p l e R s m args below meth c Φ nL cells slots (pc + 3) lv st M T2) : GG X p l e R s m args below meth c Φ nL cells slots pc lv (.int x :: st) M (if 0 < x then T1 else T2) := by
  intro hT H locs ls hH hS hl
  by_cases h : 0 < x
  · rw [if_pos h] at hT ⊢
    exact lv_if_gt B.1 B.2.1 hd ht (fun h2 => kt hT H locs ls hH hS hl) (fun h2 => absurd h (by exact h2))
  · rw [if_neg h] at hT ⊢
    exact lv_if_gt B.1 B.2.1 hd ht (fun h2 => absurd (h2) h) (fun h2 => kf hT H locs ls hH hS hl)
theorem g_if_le (B : gB X p R s m args meth c own cc nL rm) {x : Int32} {off : Int} (tgt : Nat) {T1 T2 : Option α} (hd : decode cc pc = .ok (.ifCond .le off, 3)) (ht : (pc : Int) + off = (tgt : Int)) (kf : GG X p l e R s m args below meth c Φ nL cells slots (pc + 3) lv st M T1) (kt : GG X p l e R s m args below meth c Φ nL cells slots tgt lv st M T2) : GG X p l e R s m args below meth c Φ nL cells slots pc lv (.int x :: st) M (if 0 < x then T1 else T2) := by
  intro hT H locs ls hH hS hl
  by_cases h : 0 < x
  · rw [if_pos h] at hT ⊢
    exact lv_if_le B.1 B.2.1 hd ht (fun h2 => absurd h (by exact Int32.not_lt.mpr h2)) (fun h2 => kf hT H locs ls hH hS hl)
  · rw [if_neg h] at hT ⊢
    exact lv_if_le B.1 B.2.1 hd ht (fun h2 => kt hT H locs ls hH hS hl) (fun h2 => absurd (Int32.not_le.mp h2) h)
theorem g_goto (B : gB X p R s m args meth c own cc nL rm) {off : Int} (tgt : Nat) (hd : decode cc pc = .ok (.goto off, 3)) (ht : (pc : Int) + off = (tgt : Int)) (kk : GG X p l e R s m args below meth c Φ nL cells slots tgt lv st M T) : GG X p l e R s m args below meth c Φ nL cells slots pc lv st M T := fun hT H locs ls hH hS hl => lv_goto B.1 B.2.1 hd ht (kk hT H locs ls hH hS hl)
theorem g_at {L : List Nat} {a : Nat} {H : Heap} (hL : ∀ a, a ∈ L ↔ mK M a ≠ 0) (hP : va_P X.2.1 vwCl (va_pl L (cellE X M)) H) (h : mK M a ≠ 0) : ∃ q : Nat, (va_pl L (cellE X M))[q]? = some (a, cellE X M a) := by
  obtain ⟨q, hq⟩ := va_pl_get (X := []) (f := cellE X M) ((hL a).mpr h)
  exact ⟨q, hq⟩
theorem cellE_obj {a ci : Nat} (h : mK M a = ci + 1) (hc : ci < 12) : cellE X M a = .inr (ci, flds ci M a) := by
  have h1 : mK M a ≠ 20 := by omega
  have h2 : mK M a ≠ 21 := by omega
  have h3 : mK M a ≠ 22 := by omega
  have h4 : mK M a ≠ 23 := by omega
  have h5 : mK M a ≠ 24 := by omega
  have h6 : mK M a - 1 = ci := by omega
  simp only [cellE, if_neg h1, if_neg h2, if_neg h3, if_neg h4, if_neg h5, h6]
theorem g_getI (B : gB X p R s m args meth c own cc nL rm) {ci k index a N : Nat} {C : String} {T0 : u_T} {t : Int32 → Option α} (hci : ci < 12) (hc : vwCl[ci]? = some (C, T0, N)) (hin : ∀ w ∈ u_ws C T0 N, w ∈ gTbl) (hk : k < N) (hm : (mskL.getD ci [])[k]? = some false) {ref : String} (hlink : Cond.fieldLink own index ref (T0 k).2.1 (T0 k).2.2.1 ∈ gTbl) (hsame : ∀ x, s.fieldFound? (T0 k).1 (T0 k).2.1 (T0 k).2.2.1 = some x → s.fieldFound? ref (T0 k).2.1 (T0 k).2.2.1 = some x) (hd : decode cc pc = .ok (.getfield index, 3)) (kk : ∀ v, GG X p l e R s m args below meth c Φ nL cells slots (pc + 3) lv (.int v :: st) M (t v)) : GG X p l e R s m args below meth c Φ nL cells slots pc lv (.ref a :: st) M ((getI M a (ci + 1) k).bind t) := by
  intro hT H locs ls hH hS hl
  unfold getI at hT ⊢
  by_cases h : mK M a = ci + 1
  · simp only [h, if_true, Option.bind_some] at hT ⊢
    obtain ⟨L, hL, hP, hD, hx⟩ := id hH
    obtain ⟨q, hq⟩ := g_at hL hP (a := a) (by omega)
    rw [cellE_obj h hci] at hq
    exact va_get B.1 B.2.1 B.2.2.2.2.1 hin B.2.2.2.1 B.2.2.2.2.2.2.1 hP q hq hc k hk (B.2.2.2.2.1 _ hlink) hsame (flds_I hm) hd (kk _ hT H locs ls hH hS hl)
  · simp [h] at hT
theorem g_getR (B : gB X p R s m args meth c own cc nL rm) {ci k index a N : Nat} {C : String} {T0 : u_T} {t : Nat → Option α} (hci : ci < 12) (hc : vwCl[ci]? = some (C, T0, N)) (hin : ∀ w ∈ u_ws C T0 N, w ∈ gTbl) (hk : k < N) (hm : (mskL.getD ci [])[k]? = some true) {ref : String} (hlink : Cond.fieldLink own index ref (T0 k).2.1 (T0 k).2.2.1 ∈ gTbl) (hsame : ∀ x, s.fieldFound? (T0 k).1 (T0 k).2.1 (T0 k).2.2.1 = some x → s.fieldFound? ref (T0 k).2.1 (T0 k).2.2.1 = some x) (hd : decode cc pc = .ok (.getfield index, 3)) (kk : ∀ v, GG X p l e R s m args below meth c Φ nL cells slots (pc + 3) lv (.ref v :: st) M (t v)) : GG X p l e R s m args below meth c Φ nL cells slots pc lv (.ref a :: st) M ((getR M a (ci + 1) k).bind t) := by
  intro hT H locs ls hH hS hl
  unfold getR at hT ⊢
  by_cases h : mK M a = ci + 1 ∧ mR M a k ≠ 0
  · rw [if_pos h, Option.bind_some] at hT ⊢
    obtain ⟨L, hL, hP, hD, hx⟩ := id hH
    obtain ⟨q, hq⟩ := g_at hL hP (a := a) (by omega)
    rw [cellE_obj h.1 hci] at hq
    refine va_get B.1 B.2.1 B.2.2.2.2.1 hin B.2.2.2.1 B.2.2.2.2.2.2.1 hP q hq hc k hk (B.2.2.2.2.1 _ hlink) hsame (v := .ref (mR M a k)) ?_ hd (kk _ hT H locs ls hH hS hl)
    rw [flds_R hm]
    simp [rO, h.2, va_rf]
  · simp [h] at hT
theorem g_pool {M' : mMem} {L : List Nat} {a q : Nat} {e1 : va_E} {H1 : Heap} (hL : ∀ a, a ∈ L ↔ mK M a ≠ 0) (hD0 : va_D (gA X) (va_pl L (cellE X M))) (hq : (va_pl L (cellE X M))[q]? = some (a, cellE X M a)) (ha : mK M a ≠ 0) (hk : ∀ b, mK M' b = mK M b) (he : cellE X M' a = e1) (ho : ∀ b, b ≠ a → cellE X M' b = cellE X M b) (hx : mX M' ≠ 0 → H1.size = mX M') (hP : va_P X.2.1 vwCl ((va_pl L (cellE X M)).set q (a, e1)) H1) (hD : va_D (gA X) ((va_pl L (cellE X M)).set q (a, e1))) : gHold X M' H1 := by
  have h1 : (va_pl L (cellE X M)).set q (a, e1) = va_pl L (cellE X M') := by
    have h2 := va_pl_set (X := []) (e := e1) (A := gA X) hD0 ((hL a).mpr ha) hq
    simp only [List.nil_append] at h2
    rw [h2]
    exact va_pl_congr (hold_set he ho)
  rw [h1] at hP hD
  exact ⟨L, fun b => by rw [hk b]; exact hL b, hP, hD, hx⟩
theorem g_size {H H1 : Heap} {locs locs1 : List Loc} {a k : Nat} (h : H1.size = H.size) (hx : mX M ≠ 0 → H.size = mX M) : mX M ≠ 0 → H1.size = mX M := fun z => h.trans (hx z)
theorem g_putI (B : gB X p R s m args meth c own cc nL rm) {ci k index a N : Nat} {C : String} {T0 : u_T} {t : mMem → Option α} (hci : ci < 12) (hc : vwCl[ci]? = some (C, T0, N)) (hin : ∀ w ∈ u_ws C T0 N, w ∈ gTbl) (ty0 : Nat → FieldType) (hty : ∀ k, k < N → parseFieldDescriptor (T0 k).2.2.1 = some (ty0 k)) (hnm : ∀ a, a < N → ∀ b, b < N → a ≠ b → (T0 a).2.1 ≠ (T0 b).2.1) (hk : k < N) {ref : String} (hlink : Cond.fieldLink own index ref (T0 k).2.1 (T0 k).2.2.1 ∈ gTbl) (hsame : ∀ x, s.fieldFound? (T0 k).1 (T0 k).2.1 (T0 k).2.2.1 = some x → s.fieldFound? ref (T0 k).2.1 (T0 k).2.2.1 = some x) (hm : (mskL.getD ci [])[k]? = some false) (hfin : (T0 k).2.2.2 = false) {ty : FieldType} {v : Int32} (hd0 : parseFieldDescriptor (T0 k).2.2.1 = some ty) (hn : narrow ty (.int v) = .int v) (hfit : fits ty (.int v) = true) (hd : decode cc pc = .ok (.putfield index, 3)) (kk : ∀ M', GG X p l e R s m args below meth c Φ nL cells slots (pc + 3) lv st M' (t M')) : GG X p l e R s m args below meth c Φ nL cells slots pc lv (.int v :: .ref a :: st) M ((putI M a (ci + 1) k v).bind t) := by
  intro hT H locs ls hH hS hl
  unfold putI at hT ⊢
  by_cases h : mK M a = ci + 1
  · rw [if_pos h, Option.bind_some] at hT ⊢
    obtain ⟨L, hL, hP, hD, hx⟩ := id hH
    obtain ⟨q, hq⟩ := g_at hL hP (a := a) (by omega)
    have hq0 := hq
    rw [cellE_obj h hci] at hq
    have hts := B.2.2.2.2.1
    have hK := B.2.2.2.2.2.2.1
    have hap := va_apart (own := own) hts hin ty0 hty hnm hK hc
    obtain ⟨r, r1, cell, q1, q2, q3, q4⟩ := hP q _ hq
    have hr : r = (C, T0, N) := Option.some.inj (r1.symm.trans hc)
    subst hr
    obtain ⟨hSl, hfc, kC, hkC, hkind⟩ := hK.1 ci _ hc
    obtain ⟨cf, kf, fi, f, hi, hsl⟩ := hSl k hk
    have hlay := hts _ (hin _ (u_in_lay hk))
    unfold u_lay at hlay
    have hst := (u_facts hfc hkC (u_lays hts hin hk) hi).1
    have hlen : k < (flds ci M a).length := by rw [flds_len]; exact (List.getElem?_eq_some_iff.mp hm).1
    have fin : ∀ (H' : Heap), H'[a]? = some (cell.setSlot f.slot (.int v)) → H'.size = H.size → (∀ q, q ≠ a → H'[q]? = H[q]?) → gHold X (sI M a k v) H' := by
      intro H' e1 e2 e3
      rw [hsl] at e1
      have p1 := hP.set (e := Sum.inr (ci, (flds ci M a).set k (.int v))) hD hq ⟨_, hc, t_OB.to (V := updV (vp_V (flds ci M a)) k (.int v)) ⟨_, e1, q2, q3, t_set q4 hap hk (.int v)⟩ (fun j _ => vp_updV_set hlen (.int v) j)⟩ e3
      have p2 := hD.set (e := Sum.inr (ci, (flds ci M a).set k (.int v))) hq
      exact g_pool hL hD hq0 (by omega) (fun _ => rfl) (M' := sI M a k v) (by rw [flds_sI hm]; exact cellE_obj (M := sI M a k v) h hci) (fun b hb => cellE_ne rfl rfl (sI_ne hb) rfl rfl) (fun z => e2.trans (hx z)) p1 p2
    rw [if_neg (by rw [hfin]; decide)] at hlay
    have h6 := u_store hfc hkC hkind hlay hi hd0 hn hfit
    refine W.putK B.1 B.2.1 (f := f) ⟨B.2.2.2.1, hts _ hlink, ⟨_, _, _, hsame _ hi⟩, hst⟩ (by rw [q2]; exact h6) q1 q3 (by rw [hsl]; exact k2_hasslot (q4 k hk)) rfl rfl hd fun H' e1 e2 e3 => ?_
    exact kk _ hT H' _ ls (fin H' e1 e2 e3) (hS.put e2 e3 (hD.2 q _ hq)) hl
  · simp [h] at hT
theorem g_putIF (B : gB X p R s m args meth c own cc nL rm) {ci k index a N : Nat} {C : String} {T0 : u_T} {t : mMem → Option α} (hci : ci < 12) (hc : vwCl[ci]? = some (C, T0, N)) (hin : ∀ w ∈ u_ws C T0 N, w ∈ gTbl) (ty0 : Nat → FieldType) (hty : ∀ k, k < N → parseFieldDescriptor (T0 k).2.2.1 = some (ty0 k)) (hnm : ∀ a, a < N → ∀ b, b < N → a ≠ b → (T0 a).2.1 ≠ (T0 b).2.1) (hk : k < N) {ref : String} (hlink : Cond.fieldLink own index ref (T0 k).2.1 (T0 k).2.2.1 ∈ gTbl) (hsame : ∀ x, s.fieldFound? (T0 k).1 (T0 k).2.1 (T0 k).2.2.1 = some x → s.fieldFound? ref (T0 k).2.1 (T0 k).2.2.1 = some x) (hm : (mskL.getD ci [])[k]? = some false) (hfin : (T0 k).2.2.2 = true) (hin2 : meth.name = "<init>") (hdecl : (T0 k).1 = own) {ty : FieldType} {v : Int32} (hd0 : parseFieldDescriptor (T0 k).2.2.1 = some ty) (hn : narrow ty (.int v) = .int v) (hfit : fits ty (.int v) = true) (hd : decode cc pc = .ok (.putfield index, 3)) (kk : ∀ M', GG X p l e R s m args below meth c Φ nL cells slots (pc + 3) lv st M' (t M')) : GG X p l e R s m args below meth c Φ nL cells slots pc lv (.int v :: .ref a :: st) M ((putI M a (ci + 1) k v).bind t) := by
  intro hT H locs ls hH hS hl
  unfold putI at hT ⊢
  by_cases h : mK M a = ci + 1
  · rw [if_pos h, Option.bind_some] at hT ⊢
    obtain ⟨L, hL, hP, hD, hx⟩ := id hH
    obtain ⟨q, hq⟩ := g_at hL hP (a := a) (by omega)
    have hq0 := hq
    rw [cellE_obj h hci] at hq
    have hts := B.2.2.2.2.1
    have hK := B.2.2.2.2.2.2.1
    have hap := va_apart (own := own) hts hin ty0 hty hnm hK hc
    obtain ⟨r, r1, cell, q1, q2, q3, q4⟩ := hP q _ hq
    have hr : r = (C, T0, N) := Option.some.inj (r1.symm.trans hc)
    subst hr
    obtain ⟨hSl, hfc, kC, hkC, hkind⟩ := hK.1 ci _ hc
    obtain ⟨cf, kf, fi, f, hi, hsl⟩ := hSl k hk
    have hlay := hts _ (hin _ (u_in_lay hk))
    unfold u_lay at hlay
    have hst := (u_facts hfc hkC (u_lays hts hin hk) hi).1
    have hlen : k < (flds ci M a).length := by rw [flds_len]; exact (List.getElem?_eq_some_iff.mp hm).1
    have fin : ∀ (H' : Heap), H'[a]? = some (cell.setSlot f.slot (.int v)) → H'.size = H.size → (∀ q, q ≠ a → H'[q]? = H[q]?) → gHold X (sI M a k v) H' := by
      intro H' e1 e2 e3
      rw [hsl] at e1
      have p1 := hP.set (e := Sum.inr (ci, (flds ci M a).set k (.int v))) hD hq ⟨_, hc, t_OB.to (V := updV (vp_V (flds ci M a)) k (.int v)) ⟨_, e1, q2, q3, t_set q4 hap hk (.int v)⟩ (fun j _ => vp_updV_set hlen (.int v) j)⟩ e3
      have p2 := hD.set (e := Sum.inr (ci, (flds ci M a).set k (.int v))) hq
      exact g_pool hL hD hq0 (by omega) (fun _ => rfl) (M' := sI M a k v) (by rw [flds_sI hm]; exact cellE_obj (M := sI M a k v) h hci) (fun b hb => cellE_ne rfl rfl (sI_ne hb) rfl rfl) (fun z => e2.trans (hx z)) p1 p2
    rw [if_pos hfin] at hlay
    have hcf : m.cls = cf := by
      obtain ⟨_, _, c', _, _, _, -, -, hf', -, -, -, hown2, -⟩ := Cond.laysFinal_spec hlay
      have e1 : c' = cf := by have := hi.symm.trans hf'; simp at this; exact this.1.symm
      rw [hdecl] at hown2
      rw [← e1]; exact Option.some.inj (B.2.2.2.1.symm.trans hown2)
    have h6 := u_fits hfc hkC hkind (Or.inr hlay) hi hd0 hn hfit
    refine W.putFinK B.1 B.2.1 B.2.2.2.1 (hts _ hlink) (hsame _ hi) hst hcf hin2 (by rw [q2]; exact h6) q1 q3 (by rw [hsl]; exact k2_hasslot (q4 k hk)) rfl rfl hd fun H' e1 e2 e3 => ?_
    exact kk _ hT H' _ ls (fin H' e1 e2 e3) (hS.put e2 e3 (hD.2 q _ hq)) hl
  · simp [h] at hT
theorem g_putRF (B : gB X p R s m args meth c own cc nL rm) {ci k index a N : Nat} {C : String} {T0 : u_T} {t : mMem → Option α} (hci : ci < 12) (hc : vwCl[ci]? = some (C, T0, N)) (hin : ∀ w ∈ u_ws C T0 N, w ∈ gTbl) (ty0 : Nat → FieldType) (hty : ∀ k, k < N → parseFieldDescriptor (T0 k).2.2.1 = some (ty0 k)) (hnm : ∀ a, a < N → ∀ b, b < N → a ≠ b → (T0 a).2.1 ≠ (T0 b).2.1) (hk : k < N) {ref : String} (hlink : Cond.fieldLink own index ref (T0 k).2.1 (T0 k).2.2.1 ∈ gTbl) (hsame : ∀ x, s.fieldFound? (T0 k).1 (T0 k).2.1 (T0 k).2.2.1 = some x → s.fieldFound? ref (T0 k).2.1 (T0 k).2.2.1 = some x) (hm : (mskL.getD ci [])[k]? = some true) (hfin : (T0 k).2.2.2 = true) (hin2 : meth.name = "<init>") (hdecl : (T0 k).1 = own) {ty : FieldType} {v : Nat} (hd0 : parseFieldDescriptor (T0 k).2.2.1 = some ty) (hn : narrow ty (.ref v) = .ref v) (hfit : fits ty (.ref v) = true) (hd : decode cc pc = .ok (.putfield index, 3)) (kk : ∀ M', GG X p l e R s m args below meth c Φ nL cells slots (pc + 3) lv st M' (t M')) : GG X p l e R s m args below meth c Φ nL cells slots pc lv (.ref v :: .ref a :: st) M ((putR M a (ci + 1) k v).bind t) := by
  intro hT H locs ls hH hS hl
  unfold putR at hT ⊢
  by_cases h : mK M a = ci + 1 ∧ v ≠ 0
  · rw [if_pos h, Option.bind_some] at hT ⊢
    obtain ⟨L, hL, hP, hD, hx⟩ := id hH
    obtain ⟨q, hq⟩ := g_at hL hP (a := a) (by omega)
    have hq0 := hq
    rw [cellE_obj h.1 hci] at hq
    have hts := B.2.2.2.2.1
    have hK := B.2.2.2.2.2.2.1
    have hap := va_apart (own := own) hts hin ty0 hty hnm hK hc
    obtain ⟨r, r1, cell, q1, q2, q3, q4⟩ := hP q _ hq
    have hr : r = (C, T0, N) := Option.some.inj (r1.symm.trans hc)
    subst hr
    obtain ⟨hSl, hfc, kC, hkC, hkind⟩ := hK.1 ci _ hc
    obtain ⟨cf, kf, fi, f, hi, hsl⟩ := hSl k hk
    have hlay := hts _ (hin _ (u_in_lay hk))
    unfold u_lay at hlay
    have hst := (u_facts hfc hkC (u_lays hts hin hk) hi).1
    have hlen : k < (flds ci M a).length := by rw [flds_len]; exact (List.getElem?_eq_some_iff.mp hm).1
    have fin : ∀ (H' : Heap), H'[a]? = some (cell.setSlot f.slot (.ref v)) → H'.size = H.size → (∀ q, q ≠ a → H'[q]? = H[q]?) → gHold X (sR M a k v) H' := by
      intro H' e1 e2 e3
      rw [hsl] at e1
      have p1 := hP.set (e := Sum.inr (ci, (flds ci M a).set k (.ref v))) hD hq ⟨_, hc, t_OB.to (V := updV (vp_V (flds ci M a)) k (.ref v)) ⟨_, e1, q2, q3, t_set q4 hap hk (.ref v)⟩ (fun j _ => vp_updV_set hlen (.ref v) j)⟩ e3
      have p2 := hD.set (e := Sum.inr (ci, (flds ci M a).set k (.ref v))) hq
      exact g_pool hL hD hq0 (by omega) (fun _ => rfl) (M' := sR M a k v) (by rw [flds_sR hm h.2]; exact cellE_obj (M := sR M a k v) h.1 hci) (fun b hb => cellE_ne rfl rfl rfl (sR_ne hb) rfl) (fun z => e2.trans (hx z)) p1 p2
    rw [if_pos hfin] at hlay
    have hcf : m.cls = cf := by
      obtain ⟨_, _, c', _, _, _, -, -, hf', -, -, -, hown2, -⟩ := Cond.laysFinal_spec hlay
      have e1 : c' = cf := by have := hi.symm.trans hf'; simp at this; exact this.1.symm
      rw [hdecl] at hown2
      rw [← e1]; exact Option.some.inj (B.2.2.2.1.symm.trans hown2)
    have h6 := u_fits hfc hkC hkind (Or.inr hlay) hi hd0 hn hfit
    refine W.putFinK B.1 B.2.1 B.2.2.2.1 (hts _ hlink) (hsame _ hi) hst hcf hin2 (by rw [q2]; exact h6) q1 q3 (by rw [hsl]; exact k2_hasslot (q4 k hk)) rfl rfl hd fun H' e1 e2 e3 => ?_
    exact kk _ hT H' _ ls (fin H' e1 e2 e3) (hS.put e2 e3 (hD.2 q _ hq)) hl
  · simp [h] at hT
theorem cellE_20 {a : Nat} (h : mK M a = 20) : cellE X M a = .inl (X.2.2.1 20, mN M a, .inl (mI M a)) := by simp only [cellE, h, if_true]
theorem cellE_21 {a : Nat} (h : mK M a = 21) : cellE X M a = .inl (X.2.2.1 21, mN M a, .inl (mI M a)) := by
  simp only [cellE, h]
  rfl
theorem cellE_22 {a : Nat} (h : mK M a = 22) : cellE X M a = .inl (X.2.2.1 22, mN M a, .inr (.inl (mL M a))) := by
  simp only [cellE, h]
  rfl
theorem cellE_23 {a : Nat} (h : mK M a = 23) : cellE X M a = .inl (X.2.2.1 23, mN M a, .inr (.inr (.inr (.inr (fun j => rO (mR M a j)))))) := by
  simp only [cellE, h]
  rfl
theorem cellE_24 {a : Nat} (h : mK M a = 24) : cellE X M a = .inl (X.2.2.1 24, mN M a, .inr (.inr (.inr (.inr (fun j => rO (mR M a j)))))) := by
  simp only [cellE, h]
  rfl
theorem g_in {j : Int32} {n : Nat} (h : 0 ≤ j ∧ j.toNatClampNeg < n) : vp_in j n := fun q => q.elim (fun q => Int32.not_lt.mpr h.1 q) (fun q => absurd h.2 (Nat.not_lt.mpr q))
theorem g_iaload (B : gB X p R s m args meth c own cc nL rm) {a : Nat} {j : Int32} {t : Int32 → Option α} (hd : decode cc pc = .ok (.iaload, 1)) (kk : ∀ v, GG X p l e R s m args below meth c Φ nL cells slots (pc + 1) lv (.int v :: st) M (t v)) : GG X p l e R s m args below meth c Φ nL cells slots pc lv (.int j :: .ref a :: st) M ((aldI M a 20 j).bind t) := by
  intro hT H locs ls hH hS hl
  unfold aldI at hT ⊢
  by_cases h : mK M a = 20 ∧ 0 ≤ j ∧ j.toNatClampNeg < mN M a
  · rw [if_pos h, Option.bind_some] at hT ⊢
    obtain ⟨L, hL, hP, hD, hx⟩ := id hH
    obtain ⟨q, hq⟩ := g_at hL hP (a := a) (by omega)
    rw [cellE_20 h.1] at hq
    exact va_iald B.1 B.2.1 B.2.2.2.2.2.2.1 hP q 0 hq rfl (g_in h.2) hd (kk _ hT H locs ls hH hS hl)
  · simp [h] at hT
theorem g_baload (B : gB X p R s m args meth c own cc nL rm) {a : Nat} {j : Int32} {t : Int32 → Option α} (hd : decode cc pc = .ok (.baload, 1)) (kk : ∀ v, GG X p l e R s m args below meth c Φ nL cells slots (pc + 1) lv (.int v :: st) M (t v)) : GG X p l e R s m args below meth c Φ nL cells slots pc lv (.int j :: .ref a :: st) M ((aldI M a 21 j).bind t) := by
  intro hT H locs ls hH hS hl
  unfold aldI at hT ⊢
  by_cases h : mK M a = 21 ∧ 0 ≤ j ∧ j.toNatClampNeg < mN M a
  · rw [if_pos h, Option.bind_some] at hT ⊢
    obtain ⟨L, hL, hP, hD, hx⟩ := id hH
    obtain ⟨q, hq⟩ := g_at hL hP (a := a) (by omega)
    rw [cellE_21 h.1] at hq
    exact va_bald B.1 B.2.1 B.2.2.2.2.2.2.1 hP q 1 hq rfl (g_in h.2) hd (kk _ hT H locs ls hH hS hl)
  · simp [h] at hT
theorem g_laload (B : gB X p R s m args meth c own cc nL rm) {a : Nat} {j : Int32} {t : Int64 → Option α} (hd : decode cc pc = .ok (.laload, 1)) (kk : ∀ v, GG X p l e R s m args below meth c Φ nL cells slots (pc + 1) lv (.long v :: st) M (t v)) : GG X p l e R s m args below meth c Φ nL cells slots pc lv (.int j :: .ref a :: st) M ((aldL M a j).bind t) := by
  intro hT H locs ls hH hS hl
  unfold aldL at hT ⊢
  by_cases h : mK M a = 22 ∧ 0 ≤ j ∧ j.toNatClampNeg < mN M a
  · rw [if_pos h, Option.bind_some] at hT ⊢
    obtain ⟨L, hL, hP, hD, hx⟩ := id hH
    obtain ⟨q, hq⟩ := g_at hL hP (a := a) (by omega)
    rw [cellE_22 h.1] at hq
    exact va_lald B.1 B.2.1 B.2.2.2.2.2.2.1 hP q 2 hq rfl (g_in h.2) hd (kk _ hT H locs ls hH hS hl)
  · simp [h] at hT
theorem g_aaload23 (B : gB X p R s m args meth c own cc nL rm) {a : Nat} {j : Int32} {t : Nat → Option α} (hd : decode cc pc = .ok (.aaload, 1)) (kk : ∀ v, GG X p l e R s m args below meth c Φ nL cells slots (pc + 1) lv (.ref v :: st) M (t v)) : GG X p l e R s m args below meth c Φ nL cells slots pc lv (.int j :: .ref a :: st) M ((aldR M a 23 j).bind t) := by
  intro hT H locs ls hH hS hl
  unfold aldR at hT ⊢
  by_cases h : mK M a = 23 ∧ (0 ≤ j ∧ j.toNatClampNeg < mN M a) ∧ mR M a j.toNatClampNeg ≠ 0
  · rw [if_pos h, Option.bind_some] at hT ⊢
    obtain ⟨L, hL, hP, hD, hx⟩ := id hH
    obtain ⟨q, hq⟩ := g_at hL hP (a := a) (by omega)
    rw [cellE_23 h.1] at hq
    refine va_aldq B.1 B.2.1 B.2.2.2.2.2.2.1 hP q 3 hq rfl (g_in h.2.1) hd ?_
    have e : va_rf (rO (mR M a j.toNatClampNeg)) = .ref (mR M a j.toNatClampNeg) := by simp [rO, h.2.2, va_rf]
    rw [e]
    exact kk _ hT H locs ls hH hS hl
  · simp [h] at hT
theorem g_aaload24 (B : gB X p R s m args meth c own cc nL rm) {a : Nat} {j : Int32} {t : Nat → Option α} (hd : decode cc pc = .ok (.aaload, 1)) (kk : ∀ v, GG X p l e R s m args below meth c Φ nL cells slots (pc + 1) lv (.ref v :: st) M (t v)) : GG X p l e R s m args below meth c Φ nL cells slots pc lv (.int j :: .ref a :: st) M ((aldR M a 24 j).bind t) := by
  intro hT H locs ls hH hS hl
  unfold aldR at hT ⊢
  by_cases h : mK M a = 24 ∧ (0 ≤ j ∧ j.toNatClampNeg < mN M a) ∧ mR M a j.toNatClampNeg ≠ 0
  · rw [if_pos h, Option.bind_some] at hT ⊢
    obtain ⟨L, hL, hP, hD, hx⟩ := id hH
    obtain ⟨q, hq⟩ := g_at hL hP (a := a) (by omega)
    rw [cellE_24 h.1] at hq
    refine va_aldq B.1 B.2.1 B.2.2.2.2.2.2.1 hP q 4 hq rfl (g_in h.2.1) hd ?_
    have e : va_rf (rO (mR M a j.toNatClampNeg)) = .ref (mR M a j.toNatClampNeg) := by simp [rO, h.2.2, va_rf]
    rw [e]
    exact kk _ hT H locs ls hH hS hl
  · simp [h] at hT
theorem g_alen (B : gB X p R s m args meth c own cc nL rm) {a : Nat} {t : Int32 → Option α} (hd : decode cc pc = .ok (.arraylength, 1)) (kk : ∀ v, GG X p l e R s m args below meth c Φ nL cells slots (pc + 1) lv (.int v :: st) M (t v)) : GG X p l e R s m args below meth c Φ nL cells slots pc lv (.ref a :: st) M ((lenA M a).bind t) := by
  intro hT H locs ls hH hS hl
  unfold lenA at hT ⊢
  by_cases h : 20 ≤ mK M a ∧ mK M a ≤ 24
  · rw [if_pos h, Option.bind_some] at hT ⊢
    obtain ⟨L, hL, hP, hD, hx⟩ := id hH
    obtain ⟨q, hq⟩ := g_at hL hP (a := a) (by omega)
    have h5 : mK M a = 20 ∨ mK M a = 21 ∨ mK M a = 22 ∨ mK M a = 23 ∨ mK M a = 24 := by omega
    rcases h5 with h5 | h5 | h5 | h5 | h5
    · rw [cellE_20 h5] at hq
      exact va_alen B.1 B.2.1 B.2.2.2.2.2.2.1 hP q 0 hq rfl rfl hd (kk _ hT H locs ls hH hS hl)
    · rw [cellE_21 h5] at hq
      exact va_alen B.1 B.2.1 B.2.2.2.2.2.2.1 hP q 1 hq rfl rfl hd (kk _ hT H locs ls hH hS hl)
    · rw [cellE_22 h5] at hq
      exact va_alen B.1 B.2.1 B.2.2.2.2.2.2.1 hP q 2 hq rfl rfl hd (kk _ hT H locs ls hH hS hl)
    · rw [cellE_23 h5] at hq
      exact va_alen B.1 B.2.1 B.2.2.2.2.2.2.1 hP q 3 hq rfl rfl hd (kk _ hT H locs ls hH hS hl)
    · rw [cellE_24 h5] at hq
      exact va_alen B.1 B.2.1 B.2.2.2.2.2.2.1 hP q 4 hq rfl rfl hd (kk _ hT H locs ls hH hS hl)
  · simp [h] at hT
theorem g_iastore (B : gB X p R s m args meth c own cc nL rm) {a : Nat} {j v : Int32} {t : mMem → Option α} (hd : decode cc pc = .ok (.iastore, 1)) (kk : ∀ M', GG X p l e R s m args below meth c Φ nL cells slots (pc + 1) lv st M' (t M')) : GG X p l e R s m args below meth c Φ nL cells slots pc lv (.int v :: .int j :: .ref a :: st) M ((astI M a j v).bind t) := by
  intro hT H locs ls hH hS hl
  unfold astI at hT ⊢
  by_cases h : mK M a = 20 ∧ 0 ≤ j ∧ j.toNatClampNeg < mN M a
  · rw [if_pos h, Option.bind_some] at hT ⊢
    obtain ⟨L, hL, hP, hD, hx⟩ := id hH
    obtain ⟨q, hq⟩ := g_at hL hP (a := a) (by omega)
    have hq0 := hq
    rw [cellE_20 h.1] at hq
    have hK := B.2.2.2.2.2.2.1
    refine W.iast B.1 B.2.1 (hP q _ hq) ((hK.2 0 _ rfl).1 (mN M a) (fun j => .int (mI M a j))) (fun q => by cases q) (by show ¬ (j < 0 ∨ (arrV _ _ _).slots.size ≤ _); rw [arrV_size]; exact g_in h.2) rfl rfl hd fun H1 e z oq => ?_
    have e9 : H1[a]? = some (vp_cell (X.2.2.1 20) (mN M a, .inl (up2 (mI M) a j.toNatClampNeg v a))) := by
      rw [e, vp_cell_i, vp_cell_i, arrV_store]
      congr 2
      funext k
      by_cases hk : k = j.toNatClampNeg
      · subst hk
        simp [updV, up2]
      · simp [updV, up2, hk]
    have p1 := hP.set (e := .inl (X.2.2.1 20, mN M a, .inl (up2 (mI M) a j.toNatClampNeg v a))) hD hq e9 oq
    exact kk _ hT H1 _ ls (g_pool hL hD hq0 (by omega) (fun _ => rfl) (M' := sI M a j.toNatClampNeg v) (cellE_20 (M := sI M a j.toNatClampNeg v) h.1) (fun b hb => cellE_ne rfl rfl (sI_ne hb) rfl rfl) (fun z9 => z.trans (hx z9)) p1 (hD.set hq)) (hS.put z oq (hD.2 q _ hq)) hl
  · simp [h] at hT
theorem g_bastore (B : gB X p R s m args meth c own cc nL rm) {a : Nat} {j : Int32} {v : Int32} {t : mMem → Option α} (hd : decode cc pc = .ok (.bastore, 1)) (kk : ∀ M', GG X p l e R s m args below meth c Φ nL cells slots (pc + 1) lv st M' (t M')) : GG X p l e R s m args below meth c Φ nL cells slots pc lv (.int v :: .int j :: .ref a :: st) M ((astB M a j v).bind t) := by
  intro hT H locs ls hH hS hl
  unfold astB at hT ⊢
  by_cases h : mX M = 0 ∧ mK M a = 21 ∧ 0 ≤ j ∧ j.toNatClampNeg < mN M a
  · rw [if_pos h, Option.bind_some] at hT ⊢
    obtain ⟨hx0, h⟩ := h
    obtain ⟨L, hL, hP, hD, hx⟩ := id hH
    obtain ⟨q, hq⟩ := g_at hL hP (a := a) (by omega)
    have hq0 := hq
    rw [cellE_21 h.1] at hq
    refine va_bast B.1 B.2.1 B.2.2.2.2.2.2.1 hP hD hS q 1 hq rfl (g_in h.2) hd (fun H1 locs1 p1 p2 hS1 => ?_)
    refine kk (sI M a j.toNatClampNeg (vp_nar .byte v)) hT H1 _ ls (g_pool hL hD hq0 (by omega) (fun _ => rfl) (M' := sI M a j.toNatClampNeg (vp_nar .byte v)) ?_ (fun b hb => cellE_ne rfl rfl (sI_ne hb) rfl rfl) (fun z => absurd hx0 z) p1 p2) hS1 hl
    rw [cellE_21 (M := sI M a j.toNatClampNeg (vp_nar .byte v)) h.1]
    have e8 : mI (sI M a j.toNatClampNeg (vp_nar .byte v)) a = upd (mI M a) j.toNatClampNeg (vp_nar .byte v) := by
      funext k
      by_cases hk : k = j.toNatClampNeg
      · subst hk
        simp [sI, mI, up2, upd]
      · simp [sI, mI, up2, upd, hk]
    rw [e8]
    rfl
  · simp [h] at hT
theorem g_lastore (B : gB X p R s m args meth c own cc nL rm) {a : Nat} {j : Int32} {v : Int64} {t : mMem → Option α} (hd : decode cc pc = .ok (.lastore, 1)) (kk : ∀ M', GG X p l e R s m args below meth c Φ nL cells slots (pc + 1) lv st M' (t M')) : GG X p l e R s m args below meth c Φ nL cells slots pc lv (.long v :: .int j :: .ref a :: st) M ((astL M a j v).bind t) := by
  intro hT H locs ls hH hS hl
  unfold astL at hT ⊢
  by_cases h : mX M = 0 ∧ mK M a = 22 ∧ 0 ≤ j ∧ j.toNatClampNeg < mN M a
  · rw [if_pos h, Option.bind_some] at hT ⊢
    obtain ⟨hx0, h⟩ := h
    obtain ⟨L, hL, hP, hD, hx⟩ := id hH
    obtain ⟨q, hq⟩ := g_at hL hP (a := a) (by omega)
    have hq0 := hq
    rw [cellE_22 h.1] at hq
    refine va_last B.1 B.2.1 B.2.2.2.2.2.2.1 hP hD hS q 2 hq rfl (g_in h.2) hd (fun H1 locs1 p1 p2 hS1 => ?_)
    refine kk (sL M a j.toNatClampNeg v) hT H1 _ ls (g_pool hL hD hq0 (by omega) (fun _ => rfl) (M' := sL M a j.toNatClampNeg v) ?_ (fun b hb => cellE_ne rfl rfl rfl rfl (sL_ne hb)) (fun z => absurd hx0 z) p1 p2) hS1 hl
    rw [cellE_22 (M := sL M a j.toNatClampNeg v) h.1]
    have e8 : mL (sL M a j.toNatClampNeg v) a = vp_updL (mL M a) j.toNatClampNeg v := by
      funext k
      by_cases hk : k = j.toNatClampNeg
      · subst hk
        simp [sL, mL, up2, vp_updL]
      · simp [sL, mL, up2, vp_updL, hk]
    rw [e8]
    rfl
  · simp [h] at hT
end GR
