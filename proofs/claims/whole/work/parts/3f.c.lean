theorem mf10_nextOf : gMF yX10_nextOf cX10_nextOf 5 (some .int) 2 := ⟨wd_1475, wd_12, ⟨by decide, by decide⟩, by decide +kernel⟩
set_option maxRecDepth 20000 in
set_option maxHeartbeats 2000000 in
theorem g10_nextOf_J57 {X : gX} {p : Program} {l : Launch} {e : Env} {s : State} {m : MethodId} {args : Array Value} {below : List Frame} {meth : Method} {c : Code} (B : gB X p (rm10_nextOf) s m args meth c RX10 cX10_nextOf 5 (rm10_nextOf)) (hS9 : gS X s) (hr : meth.sig.returnType = some .int) {M : mMem} (rec5 : Nat → Int32 → Int32 → Int32 → Int32 → Option Int32) (hrec5 : ∀ (a0 : Nat) (x1 : Int32) (x2 : Int32) (x3 : Int32) (x4 : Int32), GG X p l e (rm10_nextOf) s m args below meth c (gP X below args s 0 0 (fun r9 : Int32 => (some (.int r9), M))) 5 0 0 5 [(0, .ref a0), (1, .int x1), (2, .int x2), (3, .int x3), (4, .int x4)] [] M (rec5 a0 x1 x2 x3 x4)) (a0 : Nat) (x1 : Int32) (x2 : Int32) (x3 : Int32) (x4 : Int32) : GG X p l e (rm10_nextOf) s m args below meth c (gP X below args s 0 0 (fun r9 : Int32 => (some (.int r9), M))) 5 0 0 57 [(0, .ref a0), (1, .int x1), (2, .int x2), (3, .int x3), (4, .int x4)] [] M (p10_nextOf_J57 M rec5 a0 x1 x2 x3 x4) := by
  unfold p10_nextOf_J57
  refine g_iinc (v := (x4 + 1)) (lv' := [(4, .int (x4 + 1)), (0, .ref a0), (1, .int x1), (2, .int x2), (3, .int x3)]) B dX10_nextOf_57 4 rfl rfl (by decide) [0, 1, 2, 3, 4] rfl ?_
  refine g_goto B 5 dX10_nextOf_60 (by decide) ?_
  refine g_sub (lv' := [(0, .ref a0), (1, .int x1), (2, .int x2), (3, .int x3), (4, .int (x4 + 1))]) [1, 2, 3, 4, 0] rfl ?_
  exact hrec5 a0 x1 x2 x3 (x4 + 1)
set_option maxRecDepth 20000 in
set_option maxHeartbeats 2000000 in
theorem g10_nextOf_J50 {X : gX} {p : Program} {l : Launch} {e : Env} {s : State} {m : MethodId} {args : Array Value} {below : List Frame} {meth : Method} {c : Code} (B : gB X p (rm10_nextOf) s m args meth c RX10 cX10_nextOf 5 (rm10_nextOf)) (hS9 : gS X s) (hr : meth.sig.returnType = some .int) {M : mMem} (rec5 : Nat → Int32 → Int32 → Int32 → Int32 → Option Int32) (hrec5 : ∀ (a0 : Nat) (x1 : Int32) (x2 : Int32) (x3 : Int32) (x4 : Int32), GG X p l e (rm10_nextOf) s m args below meth c (gP X below args s 0 0 (fun r9 : Int32 => (some (.int r9), M))) 5 0 0 5 [(0, .ref a0), (1, .int x1), (2, .int x2), (3, .int x3), (4, .int x4)] [] M (rec5 a0 x1 x2 x3 x4)) (a0 : Nat) (x1 : Int32) (x2 : Int32) (x3 : Int32) (x4 : Int32) : GG X p l e (rm10_nextOf) s m args below meth c (gP X below args s 0 0 (fun r9 : Int32 => (some (.int r9), M))) 5 0 0 50 [(0, .ref a0), (1, .int x1), (2, .int x2), (3, .int x3), (4, .int x4)] [] M (p10_nextOf_J50 M rec5 a0 x1 x2 x3 x4) := by
  unfold p10_nextOf_J50
  refine g_iload_n B dX10_nextOf_50 3 rfl ?_
  refine g_iconst (v := 1) B dX10_nextOf_51 (by decide) ?_
  refine g_iload B dX10_nextOf_52 4 rfl ?_
  refine g_ishl B dX10_nextOf_54 ?_
  refine g_ior B dX10_nextOf_55 ?_
  refine g_istore_n (lv' := [(3, .int (x3 ||| ((1 : Int32) <<< (x4 &&& 31)))), (0, .ref a0), (1, .int x1), (2, .int x2), (4, .int x4)]) B dX10_nextOf_56 (by decide) [0, 1, 2, 3, 4] rfl ?_
  refine g_sub (lv' := [(0, .ref a0), (1, .int x1), (2, .int x2), (3, .int (x3 ||| ((1 : Int32) <<< (x4 &&& 31)))), (4, .int x4)]) [1, 2, 3, 0, 4] rfl ?_
  exact g10_nextOf_J57 B hS9 hr rec5 hrec5 a0 x1 x2 (x3 ||| ((1 : Int32) <<< (x4 &&& 31))) x4
set_option maxRecDepth 20000 in
set_option maxHeartbeats 2000000 in
theorem g10_nextOf_L5 {X : gX} {p : Program} {l : Launch} {e : Env} {s : State} {m : MethodId} {args : Array Value} {below : List Frame} {meth : Method} {c : Code} (B : gB X p (rm10_nextOf) s m args meth c RX10 cX10_nextOf 5 (rm10_nextOf)) (hS9 : gS X s) (hr : meth.sig.returnType = some .int) {M : mMem} : ∀ (n : Nat) (a0 : Nat) (x1 : Int32) (x2 : Int32) (x3 : Int32) (x4 : Int32), GG X p l e (rm10_nextOf) s m args below meth c (gP X below args s 0 0 (fun r9 : Int32 => (some (.int r9), M))) 5 0 0 5 [(0, .ref a0), (1, .int x1), (2, .int x2), (3, .int x3), (4, .int x4)] [] M (p10_nextOf_L5 M n a0 x1 x2 x3 x4) := by
  intro n
  induction n with
  | zero => intro a0 x1 x2 x3 x4; exact g_none
  | succ n ih =>
    intro a0 x1 x2 x3 x4
    rw [p10_nextOf_L5]
    refine g_iload B dX10_nextOf_5 4 rfl ?_
    refine g_aload_n B dX10_nextOf_7 0 rfl ?_
    refine g_getR (ci := 9) (T0 := TX10) (N := 1) B (by decide) rfl in_9 (k := 0) (by decide) rfl wd_378 (fun _ h => h) dX10_nextOf_8 (fun v_1 => ?_)
    refine g_getI (ci := 2) (T0 := TX2) (N := 11) B (by decide) rfl in_2 (k := 4) (by decide) rfl wd_140 (fun _ h => h) dX10_nextOf_11 (fun v_2 => ?_)
    refine g_icmp_ge B 63 dX10_nextOf_14 (by decide) ?_ ?_
    · refine g_iload_n B dX10_nextOf_17 2 rfl ?_
      refine g_if_eq B 37 dX10_nextOf_18 (by decide) ?_ ?_
      · refine g_aload_n B dX10_nextOf_37 0 rfl ?_
        refine g_getR (ci := 9) (T0 := TX10) (N := 1) B (by decide) rfl in_9 (k := 0) (by decide) rfl wd_378 (fun _ h => h) dX10_nextOf_38 (fun v_3 => ?_)
        refine g_iload_n B dX10_nextOf_41 1 rfl ?_
        refine g_iload B dX10_nextOf_42 4 rfl ?_
        refine g_callV_ip [.int x1, .int x4] (ci := 2) (T0 := TX2) (N := 11) B hS9 mf2_governs wd_499 (gw B wd_500) wd_1476 (by decide) rfl (fun h => (gd_ne h).1) (c2_governs X l v_3 x1 x4 M) (by decide) (by decide) (by decide) rfl (by decide) dX10_nextOf_44 rfl (fun v_4 => ?_)
        refine g_if_eq B 57 dX10_nextOf_47 (by decide) ?_ ?_
        · refine g_sub (lv' := [(0, .ref a0), (1, .int x1), (2, .int x2), (3, .int x3), (4, .int x4)]) [0, 1, 2, 3, 4] rfl ?_
          exact g10_nextOf_J57 B hS9 hr (p10_nextOf_L5 M n) ih a0 x1 x2 x3 x4
        · refine g_sub (lv' := [(0, .ref a0), (1, .int x1), (2, .int x2), (3, .int x3), (4, .int x4)]) [0, 1, 2, 3, 4] rfl ?_
          exact g10_nextOf_J50 B hS9 hr (p10_nextOf_L5 M n) ih a0 x1 x2 x3 x4
      · refine g_aload_n B dX10_nextOf_21 0 rfl ?_
        refine g_getR (ci := 9) (T0 := TX10) (N := 1) B (by decide) rfl in_9 (k := 0) (by decide) rfl wd_378 (fun _ h => h) dX10_nextOf_22 (fun v_5 => ?_)
        refine g_iload_n B dX10_nextOf_25 1 rfl ?_
        refine g_iload B dX10_nextOf_26 4 rfl ?_
        refine g_callV_ip [.int x1, .int x4] (ci := 2) (T0 := TX2) (N := 11) B hS9 mf2_lentBy wd_621 (gw B wd_622) wd_620 (by decide) rfl (fun h => (gd_ne h).1) (c2_lentBy X l v_5 x1 x4 M) (by decide) (by decide) (by decide) rfl (by decide) dX10_nextOf_28 rfl (fun v_6 => ?_)
        refine g_if_le B 57 dX10_nextOf_31 (by decide) ?_ ?_
        · refine g_goto B 50 dX10_nextOf_34 (by decide) ?_
          refine g_sub (lv' := [(0, .ref a0), (1, .int x1), (2, .int x2), (3, .int x3), (4, .int x4)]) [0, 1, 2, 3, 4] rfl ?_
          exact g10_nextOf_J50 B hS9 hr (p10_nextOf_L5 M n) ih a0 x1 x2 x3 x4
        · refine g_sub (lv' := [(0, .ref a0), (1, .int x1), (2, .int x2), (3, .int x3), (4, .int x4)]) [0, 1, 2, 3, 4] rfl ?_
          exact g10_nextOf_J57 B hS9 hr (p10_nextOf_L5 M n) ih a0 x1 x2 x3 x4
    · refine g_iload_n B dX10_nextOf_63 3 rfl ?_
      exact g_ireturn B hr rfl (by decide) (by decide) rfl dX10_nextOf_64
set_option maxRecDepth 20000 in
set_option maxHeartbeats 2000000 in
theorem g10_nextOf {X : gX} {p : Program} {l : Launch} {e : Env} {s : State} {m : MethodId} {args : Array Value} {below : List Frame} {meth : Method} {c : Code} (B : gB X p (rm10_nextOf) s m args meth c RX10 cX10_nextOf 5 (rm10_nextOf)) (hS9 : gS X s) (hr : meth.sig.returnType = some .int) {M : mMem} (a0 : Nat) (x1 : Int32) (x2 : Int32) : GG X p l e (rm10_nextOf) s m args below meth c (gP X below args s 0 0 (fun r9 : Int32 => (some (.int r9), M))) 5 0 0 0 [(0, .ref a0), (1, .int x1), (2, .int x2)] [] M (p10_nextOf a0 x1 x2 M) := by
  unfold p10_nextOf
  refine g_gd ?_
  refine g_iconst (v := 0) B dX10_nextOf_0 (by decide) ?_
  refine g_istore_n (lv' := [(3, .int 0), (0, .ref a0), (1, .int x1), (2, .int x2)]) B dX10_nextOf_1 (by decide) [0, 1, 2, 3] rfl ?_
  refine g_iconst (v := 0) B dX10_nextOf_2 (by decide) ?_
  refine g_istore (lv' := [(4, .int 0), (3, .int 0), (0, .ref a0), (1, .int x1), (2, .int x2)]) B dX10_nextOf_3 (by decide) [0, 1, 2, 3, 4] rfl ?_
  refine g_sub (lv' := [(0, .ref a0), (1, .int x1), (2, .int x2), (3, .int 0), (4, .int 0)]) [2, 3, 4, 1, 0] rfl ?_
  exact (g10_nextOf_L5 B hS9 hr) gF a0 x1 x2 0 0
theorem c10_nextOf (X : gX) (l : Launch) (a0 : Nat) (x1 : Int32) (x2 : Int32) (M : mMem) : Con X l yX10_nextOf cX10_nextOf 5 (some .int) rm10_nextOf (fun r9 : Int32 => (some (.int r9), M)) [.ref a0, .int x1, .int x2] M (p10_nextOf a0 x1 x2 M) := g_con (own := RX10) (by decide +kernel) rfl (Nat.le_of_ble_eq_true rfl) (fun p e s m args below meth c B hS9 hr hn => g10_nextOf B hS9 hr a0 x1 x2)
theorem mf10_reached : gMF yX10_reached cX10_reached 6 (some .int) 2 := ⟨wd_1471, wd_12, ⟨by decide, by decide⟩, by decide +kernel⟩
set_option maxRecDepth 20000 in
set_option maxHeartbeats 2000000 in
theorem g10_reached_J52 {X : gX} {p : Program} {l : Launch} {e : Env} {s : State} {m : MethodId} {args : Array Value} {below : List Frame} {meth : Method} {c : Code} (B : gB X p (rm10_reached) s m args meth c RX10 cX10_reached 6 (rm10_reached)) (hS9 : gS X s) (hr : meth.sig.returnType = some .int) {M : mMem} (rec20 : Nat → Int32 → Int32 → Int32 → Int32 → Option Int32) (hrec20 : ∀ (a0 : Nat) (x2 : Int32) (x3 : Int32) (x4 : Int32) (x5 : Int32), GG X p l e (rm10_reached) s m args below meth c (gP X below args s 0 0 (fun r9 : Int32 => (some (.int r9), M))) 6 0 0 20 [(0, .ref a0), (2, .int x2), (3, .int x3), (4, .int x4), (5, .int x5)] [] M (rec20 a0 x2 x3 x4 x5)) (a0 : Nat) (x2 : Int32) (x3 : Int32) (x4 : Int32) (x5 : Int32) : GG X p l e (rm10_reached) s m args below meth c (gP X below args s 0 0 (fun r9 : Int32 => (some (.int r9), M))) 6 0 0 52 [(0, .ref a0), (2, .int x2), (3, .int x3), (4, .int x4), (5, .int x5)] [] M (p10_reached_J52 M rec20 a0 x2 x3 x4 x5) := by
  unfold p10_reached_J52
  refine g_iinc (v := (x5 + 1)) (lv' := [(5, .int (x5 + 1)), (0, .ref a0), (2, .int x2), (3, .int x3), (4, .int x4)]) B dX10_reached_52 4 rfl rfl (by decide) [0, 1, 2, 3, 4] rfl ?_
  refine g_goto B 20 dX10_reached_55 (by decide) ?_
  refine g_sub (lv' := [(0, .ref a0), (2, .int x2), (3, .int x3), (4, .int x4), (5, .int (x5 + 1))]) [1, 2, 3, 4, 0] rfl ?_
  exact hrec20 a0 x2 x3 x4 (x5 + 1)
set_option maxRecDepth 20000 in
set_option maxHeartbeats 2000000 in
theorem g10_reached_L20 {X : gX} {p : Program} {l : Launch} {e : Env} {s : State} {m : MethodId} {args : Array Value} {below : List Frame} {meth : Method} {c : Code} (B : gB X p (rm10_reached) s m args meth c RX10 cX10_reached 6 (rm10_reached)) (hS9 : gS X s) (hr : meth.sig.returnType = some .int) {M : mMem} (k58 : Nat → Int32 → Int32 → Int32 → Option Int32) (hk58 : ∀ (a0 : Nat) (x2 : Int32) (x3 : Int32) (x4 : Int32), GG X p l e (rm10_reached) s m args below meth c (gP X below args s 0 0 (fun r9 : Int32 => (some (.int r9), M))) 6 0 0 58 [(0, .ref a0), (2, .int x2), (3, .int x3), (4, .int x4)] [] M (k58 a0 x2 x3 x4)) : ∀ (n : Nat) (a0 : Nat) (x2 : Int32) (x3 : Int32) (x4 : Int32) (x5 : Int32), GG X p l e (rm10_reached) s m args below meth c (gP X below args s 0 0 (fun r9 : Int32 => (some (.int r9), M))) 6 0 0 20 [(0, .ref a0), (2, .int x2), (3, .int x3), (4, .int x4), (5, .int x5)] [] M (p10_reached_L20 M k58 n a0 x2 x3 x4 x5) := by
  intro n
  induction n with
  | zero => intro a0 x2 x3 x4 x5; exact g_none
  | succ n ih =>
    intro a0 x2 x3 x4 x5
    rw [p10_reached_L20]
    refine g_iload B dX10_reached_20 4 rfl ?_
    refine g_aload_n B dX10_reached_22 0 rfl ?_
    refine g_getR (ci := 9) (T0 := TX10) (N := 1) B (by decide) rfl in_9 (k := 0) (by decide) rfl wd_378 (fun _ h => h) dX10_reached_23 (fun v_1 => ?_)
    refine g_getI (ci := 2) (T0 := TX2) (N := 11) B (by decide) rfl in_2 (k := 4) (by decide) rfl wd_140 (fun _ h => h) dX10_reached_26 (fun v_2 => ?_)
    refine g_icmp_ge B 58 dX10_reached_29 (by decide) ?_ ?_
    · refine g_iload_n B dX10_reached_32 2 rfl ?_
      refine g_iload B dX10_reached_33 4 rfl ?_
      refine g_ishr B dX10_reached_35 ?_
      refine g_iconst (v := 1) B dX10_reached_36 (by decide) ?_
      refine g_iand B dX10_reached_37 ?_
      refine g_iconst (v := 1) B dX10_reached_38 (by decide) ?_
      refine g_icmp_ne B 52 dX10_reached_39 (by decide) ?_ ?_
      · refine g_iload_n B dX10_reached_42 2 rfl ?_
        refine g_aload_n B dX10_reached_43 0 rfl ?_
        refine g_iload B dX10_reached_44 4 rfl ?_
        refine g_iload_n B dX10_reached_46 1 rfl ?_
        refine g_callV_ip [.int x5, .int x2] (ci := 9) (T0 := TX10) (N := 1) B hS9 mf10_nextOf wd_1474 (gw B wp_38) wd_1472 (by decide) rfl (fun h => (gd_ne h).1) (c10_nextOf X l a0 x5 x2 M) (by decide) (by decide) (by decide) rfl (Nat.le_of_ble_eq_true rfl) dX10_reached_47 rfl (fun v_3 => ?_)
        refine g_ior B dX10_reached_50 ?_
        refine g_istore_n (lv' := [(3, .int (x3 ||| v_3)), (0, .ref a0), (2, .int x2), (4, .int x4), (5, .int x5)]) B dX10_reached_51 (by decide) [0, 1, 2, 3, 4] rfl ?_
        refine g_sub (lv' := [(0, .ref a0), (2, .int x2), (3, .int (x3 ||| v_3)), (4, .int x4), (5, .int x5)]) [1, 2, 0, 3, 4] rfl ?_
        exact g10_reached_J52 B hS9 hr (p10_reached_L20 M k58 n) ih a0 x2 (x3 ||| v_3) x4 x5
      · refine g_sub (lv' := [(0, .ref a0), (2, .int x2), (3, .int x3), (4, .int x4), (5, .int x5)]) [0, 1, 2, 3, 4] rfl ?_
        exact g10_reached_J52 B hS9 hr (p10_reached_L20 M k58 n) ih a0 x2 x3 x4 x5
    · refine g_sub (lv' := [(0, .ref a0), (2, .int x2), (3, .int x3), (4, .int x4)]) [0, 1, 2, 3] rfl ?_
      exact hk58 a0 x2 x3 x4
set_option maxRecDepth 20000 in
set_option maxHeartbeats 2000000 in
theorem g10_reached_J58 {X : gX} {p : Program} {l : Launch} {e : Env} {s : State} {m : MethodId} {args : Array Value} {below : List Frame} {meth : Method} {c : Code} (B : gB X p (rm10_reached) s m args meth c RX10 cX10_reached 6 (rm10_reached)) (hS9 : gS X s) (hr : meth.sig.returnType = some .int) {M : mMem} (rec10 : Nat → Int32 → Int32 → Int32 → Option Int32) (hrec10 : ∀ (a0 : Nat) (x2 : Int32) (x3 : Int32) (x4 : Int32), GG X p l e (rm10_reached) s m args below meth c (gP X below args s 0 0 (fun r9 : Int32 => (some (.int r9), M))) 6 0 0 10 [(0, .ref a0), (2, .int x2), (3, .int x3), (4, .int x4)] [] M (rec10 a0 x2 x3 x4)) (a0 : Nat) (x2 : Int32) (x3 : Int32) (x4 : Int32) : GG X p l e (rm10_reached) s m args below meth c (gP X below args s 0 0 (fun r9 : Int32 => (some (.int r9), M))) 6 0 0 58 [(0, .ref a0), (2, .int x2), (3, .int x3), (4, .int x4)] [] M (p10_reached_J58 M rec10 a0 x2 x3 x4) := by
  unfold p10_reached_J58
  refine g_iinc (v := (x4 + 1)) (lv' := [(4, .int (x4 + 1)), (0, .ref a0), (2, .int x2), (3, .int x3)]) B dX10_reached_58 3 rfl rfl (by decide) [0, 1, 2, 3] rfl ?_
  refine g_goto B 10 dX10_reached_61 (by decide) ?_
  refine g_sub (lv' := [(0, .ref a0), (2, .int x2), (3, .int x3), (4, .int (x4 + 1))]) [1, 2, 3, 0] rfl ?_
  exact hrec10 a0 x2 x3 (x4 + 1)
set_option maxRecDepth 20000 in
set_option maxHeartbeats 2000000 in
theorem g10_reached_L10 {X : gX} {p : Program} {l : Launch} {e : Env} {s : State} {m : MethodId} {args : Array Value} {below : List Frame} {meth : Method} {c : Code} (B : gB X p (rm10_reached) s m args meth c RX10 cX10_reached 6 (rm10_reached)) (hS9 : gS X s) (hr : meth.sig.returnType = some .int) {M : mMem} : ∀ (n : Nat) (a0 : Nat) (x2 : Int32) (x3 : Int32) (x4 : Int32), GG X p l e (rm10_reached) s m args below meth c (gP X below args s 0 0 (fun r9 : Int32 => (some (.int r9), M))) 6 0 0 10 [(0, .ref a0), (2, .int x2), (3, .int x3), (4, .int x4)] [] M (p10_reached_L10 M n a0 x2 x3 x4) := by
  intro n
  induction n with
  | zero => intro a0 x2 x3 x4; exact g_none
  | succ n ih =>
    intro a0 x2 x3 x4
    rw [p10_reached_L10]
    refine g_iload B dX10_reached_10 3 rfl ?_
    refine g_bipush (v := 8) B dX10_reached_12 (by decide) ?_
    refine g_icmp_ge B 64 dX10_reached_14 (by decide) ?_ ?_
    · refine g_iconst (v := 0) B dX10_reached_17 (by decide) ?_
      refine g_istore (lv' := [(5, .int 0), (0, .ref a0), (2, .int x2), (3, .int x3), (4, .int x4)]) B dX10_reached_18 (by decide) [0, 1, 2, 3, 4] rfl ?_
      refine g_sub (lv' := [(0, .ref a0), (2, .int x2), (3, .int x3), (4, .int x4), (5, .int 0)]) [1, 2, 3, 4, 0] rfl ?_
      exact (g10_reached_L20 B hS9 hr (p10_reached_J58 M (p10_reached_L10 M n)) (fun e0 e1 e2 e3 => g10_reached_J58 B hS9 hr (p10_reached_L10 M n) ih e0 e1 e2 e3)) gF a0 x2 x3 x4 0
    · refine g_iload_n B dX10_reached_64 2 rfl ?_
      exact g_ireturn B hr rfl (by decide) (by decide) rfl dX10_reached_65
set_option maxRecDepth 20000 in
set_option maxHeartbeats 2000000 in
theorem g10_reached {X : gX} {p : Program} {l : Launch} {e : Env} {s : State} {m : MethodId} {args : Array Value} {below : List Frame} {meth : Method} {c : Code} (B : gB X p (rm10_reached) s m args meth c RX10 cX10_reached 6 (rm10_reached)) (hS9 : gS X s) (hr : meth.sig.returnType = some .int) {M : mMem} (a0 : Nat) (x1 : Int32) (x2 : Int32) : GG X p l e (rm10_reached) s m args below meth c (gP X below args s 0 0 (fun r9 : Int32 => (some (.int r9), M))) 6 0 0 0 [(0, .ref a0), (1, .int x1), (2, .int x2)] [] M (p10_reached a0 x1 x2 M) := by
  unfold p10_reached
  refine g_gd ?_
  refine g_aload_n B dX10_reached_0 0 rfl ?_
  refine g_iload_n B dX10_reached_1 1 rfl ?_
  refine g_iload_n B dX10_reached_2 2 rfl ?_
  refine g_callV_ip [.int x1, .int x2] (ci := 9) (T0 := TX10) (N := 1) B hS9 mf10_nextOf wd_1474 (gw B wp_38) wd_1472 (by decide) rfl (fun h => (gd_ne h).1) (c10_nextOf X l a0 x1 x2 M) (by decide) (by decide) (by decide) rfl (by decide) dX10_reached_3 rfl (fun v_1 => ?_)
  refine g_istore_n (lv' := [(3, .int v_1), (0, .ref a0), (1, .int x1), (2, .int x2)]) B dX10_reached_6 (by decide) [0, 1, 2, 3] rfl ?_
  refine g_iconst (v := 0) B dX10_reached_7 (by decide) ?_
  refine g_istore (lv' := [(4, .int 0), (3, .int v_1), (0, .ref a0), (1, .int x1), (2, .int x2)]) B dX10_reached_8 (by decide) [0, 1, 2, 3, 4] rfl ?_
  refine g_sub (lv' := [(0, .ref a0), (2, .int x2), (3, .int v_1), (4, .int 0)]) [2, 4, 1, 0] rfl ?_
  exact (g10_reached_L10 B hS9 hr) gF a0 x2 v_1 0
theorem c10_reached (X : gX) (l : Launch) (a0 : Nat) (x1 : Int32) (x2 : Int32) (M : mMem) : Con X l yX10_reached cX10_reached 6 (some .int) rm10_reached (fun r9 : Int32 => (some (.int r9), M)) [.ref a0, .int x1, .int x2] M (p10_reached a0 x1 x2 M) := g_con (own := RX10) (by decide +kernel) rfl (Nat.le_of_ble_eq_true rfl) (fun p e s m args below meth c B hS9 hr hn => g10_reached B hS9 hr a0 x1 x2)
theorem mf10_branchOf : gMF yX10_branchOf cX10_branchOf 5 (some .int) 1 := ⟨wd_642, wd_12, ⟨by decide, by decide⟩, by decide +kernel⟩
set_option maxRecDepth 20000 in
set_option maxHeartbeats 2000000 in
theorem g10_branchOf_J55 {X : gX} {p : Program} {l : Launch} {e : Env} {s : State} {m : MethodId} {args : Array Value} {below : List Frame} {meth : Method} {c : Code} (B : gB X p (rm10_branchOf) s m args meth c RX10 cX10_branchOf 5 (rm10_branchOf)) (hS9 : gS X s) (hr : meth.sig.returnType = some .int) {M : mMem} (rec4 : Nat → Int32 → Int32 → Int32 → Option Int32) (hrec4 : ∀ (a0 : Nat) (x1 : Int32) (x2 : Int32) (x3 : Int32), GG X p l e (rm10_branchOf) s m args below meth c (gP X below args s 0 0 (fun r9 : Int32 => (some (.int r9), M))) 5 0 0 4 [(0, .ref a0), (1, .int x1), (2, .int x2), (3, .int x3)] [] M (rec4 a0 x1 x2 x3)) (a0 : Nat) (x1 : Int32) (x2 : Int32) (x3 : Int32) : GG X p l e (rm10_branchOf) s m args below meth c (gP X below args s 0 0 (fun r9 : Int32 => (some (.int r9), M))) 5 0 0 55 [(0, .ref a0), (1, .int x1), (2, .int x2), (3, .int x3)] [] M (p10_branchOf_J55 M rec4 a0 x1 x2 x3) := by
  unfold p10_branchOf_J55
  refine g_iinc (v := (x3 + 1)) (lv' := [(3, .int (x3 + 1)), (0, .ref a0), (1, .int x1), (2, .int x2)]) B dX10_branchOf_55 3 rfl rfl (by decide) [0, 1, 2, 3] rfl ?_
  refine g_goto B 4 dX10_branchOf_58 (by decide) ?_
  refine g_sub (lv' := [(0, .ref a0), (1, .int x1), (2, .int x2), (3, .int (x3 + 1))]) [1, 2, 3, 0] rfl ?_
  exact hrec4 a0 x1 x2 (x3 + 1)
set_option maxRecDepth 20000 in
set_option maxHeartbeats 2000000 in
theorem g10_branchOf_J49 {X : gX} {p : Program} {l : Launch} {e : Env} {s : State} {m : MethodId} {args : Array Value} {below : List Frame} {meth : Method} {c : Code} (B : gB X p (rm10_branchOf) s m args meth c RX10 cX10_branchOf 5 (rm10_branchOf)) (hS9 : gS X s) (hr : meth.sig.returnType = some .int) {M : mMem} (rec4 : Nat → Int32 → Int32 → Int32 → Option Int32) (hrec4 : ∀ (a0 : Nat) (x1 : Int32) (x2 : Int32) (x3 : Int32), GG X p l e (rm10_branchOf) s m args below meth c (gP X below args s 0 0 (fun r9 : Int32 => (some (.int r9), M))) 5 0 0 4 [(0, .ref a0), (1, .int x1), (2, .int x2), (3, .int x3)] [] M (rec4 a0 x1 x2 x3)) (a0 : Nat) (x1 : Int32) (x2 : Int32) (x3 : Int32) : GG X p l e (rm10_branchOf) s m args below meth c (gP X below args s 0 0 (fun r9 : Int32 => (some (.int r9), M))) 5 0 0 49 [(0, .ref a0), (1, .int x1), (2, .int x2), (3, .int x3)] [] M (p10_branchOf_J49 M rec4 a0 x1 x2 x3) := by
  unfold p10_branchOf_J49
  refine g_iload_n B dX10_branchOf_49 2 rfl ?_
  refine g_iconst (v := 1) B dX10_branchOf_50 (by decide) ?_
  refine g_iload_n B dX10_branchOf_51 3 rfl ?_
  refine g_ishl B dX10_branchOf_52 ?_
  refine g_ior B dX10_branchOf_53 ?_
  refine g_istore_n (lv' := [(2, .int (x2 ||| ((1 : Int32) <<< (x3 &&& 31)))), (0, .ref a0), (1, .int x1), (3, .int x3)]) B dX10_branchOf_54 (by decide) [0, 1, 2, 3] rfl ?_
  refine g_sub (lv' := [(0, .ref a0), (1, .int x1), (2, .int (x2 ||| ((1 : Int32) <<< (x3 &&& 31)))), (3, .int x3)]) [1, 2, 0, 3] rfl ?_
  exact g10_branchOf_J55 B hS9 hr rec4 hrec4 a0 x1 (x2 ||| ((1 : Int32) <<< (x3 &&& 31))) x3
set_option maxRecDepth 20000 in
set_option maxHeartbeats 2000000 in
theorem g10_branchOf_L4 {X : gX} {p : Program} {l : Launch} {e : Env} {s : State} {m : MethodId} {args : Array Value} {below : List Frame} {meth : Method} {c : Code} (B : gB X p (rm10_branchOf) s m args meth c RX10 cX10_branchOf 5 (rm10_branchOf)) (hS9 : gS X s) (hr : meth.sig.returnType = some .int) {M : mMem} : ∀ (n : Nat) (a0 : Nat) (x1 : Int32) (x2 : Int32) (x3 : Int32), GG X p l e (rm10_branchOf) s m args below meth c (gP X below args s 0 0 (fun r9 : Int32 => (some (.int r9), M))) 5 0 0 4 [(0, .ref a0), (1, .int x1), (2, .int x2), (3, .int x3)] [] M (p10_branchOf_L4 M n a0 x1 x2 x3) := by
  intro n
  induction n with
  | zero => intro a0 x1 x2 x3; exact g_none
  | succ n ih =>
    intro a0 x1 x2 x3
    rw [p10_branchOf_L4]
    refine g_iload_n B dX10_branchOf_4 3 rfl ?_
    refine g_aload_n B dX10_branchOf_5 0 rfl ?_
    refine g_getR (ci := 9) (T0 := TX10) (N := 1) B (by decide) rfl in_9 (k := 0) (by decide) rfl wd_378 (fun _ h => h) dX10_branchOf_6 (fun v_1 => ?_)
    refine g_getI (ci := 2) (T0 := TX2) (N := 11) B (by decide) rfl in_2 (k := 4) (by decide) rfl wd_140 (fun _ h => h) dX10_branchOf_9 (fun v_2 => ?_)
    refine g_icmp_ge B 61 dX10_branchOf_12 (by decide) ?_ ?_
    · refine g_aload_n B dX10_branchOf_15 0 rfl ?_
      refine g_getR (ci := 9) (T0 := TX10) (N := 1) B (by decide) rfl in_9 (k := 0) (by decide) rfl wd_378 (fun _ h => h) dX10_branchOf_16 (fun v_3 => ?_)
      refine g_iload_n B dX10_branchOf_19 3 rfl ?_
      refine g_callV_ap [.int x3] (ci := 2) (T0 := TX2) (N := 11) B hS9 mf2_at wd_466 (gw B wd_467) wd_638 (by decide) rfl (fun h => (gd_ne h).1) (c2_at X l v_3 x3 M) (by decide) (by decide) (by decide) rfl (by decide) dX10_branchOf_20 rfl (fun v_4 => ?_)
      refine g_getI (ci := 8) (T0 := TX8) (N := 9) B (by decide) rfl in_8 (k := 3) (by decide) rfl wd_69 (fun _ h => h) dX10_branchOf_23 (fun v_5 => ?_)
      refine g_istore (lv' := [(4, .int v_5), (0, .ref a0), (1, .int x1), (2, .int x2), (3, .int x3)]) B dX10_branchOf_26 (by decide) [0, 1, 2, 3, 4] rfl ?_
      refine g_iload_n B dX10_branchOf_28 4 rfl ?_
      refine g_iload_n B dX10_branchOf_29 2 rfl ?_
      refine g_icmp_eq B 49 dX10_branchOf_30 (by decide) ?_ ?_
      · refine g_sub (lv' := [(0, .ref a0), (1, .int x1), (2, .int x2), (3, .int x3)]) [1, 2, 3, 4] rfl ?_
        exact g10_branchOf_J49 B hS9 hr (p10_branchOf_L4 M n) ih a0 x1 x2 x3
      · refine g_iload B dX10_branchOf_33 0 rfl ?_
        refine g_iconst (v := (-1)) B dX10_branchOf_35 (by decide) ?_
        refine g_icmp_eq B 55 dX10_branchOf_36 (by decide) ?_ ?_
        · refine g_sub (lv' := [(0, .ref a0), (1, .int x1), (2, .int x2), (3, .int x3)]) [1, 2, 3, 4] rfl ?_
          exact g10_branchOf_J55 B hS9 hr (p10_branchOf_L4 M n) ih a0 x1 x2 x3
        · refine g_iload_n B dX10_branchOf_39 3 rfl ?_
          refine g_iload B dX10_branchOf_40 0 rfl ?_
          refine g_ishr B dX10_branchOf_42 ?_
          refine g_iconst (v := 1) B dX10_branchOf_43 (by decide) ?_
          refine g_iand B dX10_branchOf_44 ?_
          refine g_iconst (v := 1) B dX10_branchOf_45 (by decide) ?_
          refine g_icmp_ne B 55 dX10_branchOf_46 (by decide) ?_ ?_
          · refine g_sub (lv' := [(0, .ref a0), (1, .int x1), (2, .int x2), (3, .int x3)]) [1, 2, 3, 4] rfl ?_
            exact g10_branchOf_J49 B hS9 hr (p10_branchOf_L4 M n) ih a0 x1 x2 x3
          · refine g_sub (lv' := [(0, .ref a0), (1, .int x1), (2, .int x2), (3, .int x3)]) [1, 2, 3, 4] rfl ?_
            exact g10_branchOf_J55 B hS9 hr (p10_branchOf_L4 M n) ih a0 x1 x2 x3
    · refine g_iload_n B dX10_branchOf_61 2 rfl ?_
      exact g_ireturn B hr rfl (by decide) (by decide) rfl dX10_branchOf_62
set_option maxRecDepth 20000 in
set_option maxHeartbeats 2000000 in
theorem g10_branchOf {X : gX} {p : Program} {l : Launch} {e : Env} {s : State} {m : MethodId} {args : Array Value} {below : List Frame} {meth : Method} {c : Code} (B : gB X p (rm10_branchOf) s m args meth c RX10 cX10_branchOf 5 (rm10_branchOf)) (hS9 : gS X s) (hr : meth.sig.returnType = some .int) {M : mMem} (a0 : Nat) (x1 : Int32) : GG X p l e (rm10_branchOf) s m args below meth c (gP X below args s 0 0 (fun r9 : Int32 => (some (.int r9), M))) 5 0 0 0 [(0, .ref a0), (1, .int x1)] [] M (p10_branchOf a0 x1 M) := by
  unfold p10_branchOf
  refine g_gd ?_
  refine g_iconst (v := 0) B dX10_branchOf_0 (by decide) ?_
  refine g_istore_n (lv' := [(2, .int 0), (0, .ref a0), (1, .int x1)]) B dX10_branchOf_1 (by decide) [0, 1, 2] rfl ?_
  refine g_iconst (v := 0) B dX10_branchOf_2 (by decide) ?_
  refine g_istore_n (lv' := [(3, .int 0), (2, .int 0), (0, .ref a0), (1, .int x1)]) B dX10_branchOf_3 (by decide) [0, 1, 2, 3] rfl ?_
  refine g_sub (lv' := [(0, .ref a0), (1, .int x1), (2, .int 0), (3, .int 0)]) [2, 3, 1, 0] rfl ?_
  exact (g10_branchOf_L4 B hS9 hr) gF a0 x1 0 0
theorem c10_branchOf (X : gX) (l : Launch) (a0 : Nat) (x1 : Int32) (M : mMem) : Con X l yX10_branchOf cX10_branchOf 5 (some .int) rm10_branchOf (fun r9 : Int32 => (some (.int r9), M)) [.ref a0, .int x1] M (p10_branchOf a0 x1 M) := g_con (own := RX10) (by decide +kernel) rfl (Nat.le_of_ble_eq_true rfl) (fun p e s m args below meth c B hS9 hr hn => g10_branchOf B hS9 hr a0 x1)
theorem mf10_agesOf : gMF yX10_agesOf cX10_agesOf 4 (some .int) 1 := ⟨wd_646, wd_12, ⟨by decide, by decide⟩, by decide +kernel⟩
set_option maxRecDepth 20000 in
set_option maxHeartbeats 2000000 in
theorem g10_agesOf_J40 {X : gX} {p : Program} {l : Launch} {e : Env} {s : State} {m : MethodId} {args : Array Value} {below : List Frame} {meth : Method} {c : Code} (B : gB X p (rm10_agesOf) s m args meth c RX10 cX10_agesOf 4 (rm10_agesOf)) (hS9 : gS X s) (hr : meth.sig.returnType = some .int) {M : mMem} (rec4 : Nat → Int32 → Int32 → Int32 → Option Int32) (hrec4 : ∀ (a0 : Nat) (x1 : Int32) (x2 : Int32) (x3 : Int32), GG X p l e (rm10_agesOf) s m args below meth c (gP X below args s 0 0 (fun r9 : Int32 => (some (.int r9), M))) 4 0 0 4 [(0, .ref a0), (1, .int x1), (2, .int x2), (3, .int x3)] [] M (rec4 a0 x1 x2 x3)) (a0 : Nat) (x1 : Int32) (x3 : Int32) (u0 : Int32) (u1 : Int32) : GG X p l e (rm10_agesOf) s m args below meth c (gP X below args s 0 0 (fun r9 : Int32 => (some (.int r9), M))) 4 0 0 40 [(0, .ref a0), (1, .int x1), (3, .int x3)] [.int u1, .int u0] M (p10_agesOf_J40 M rec4 a0 x1 x3 u0 u1) := by
  unfold p10_agesOf_J40
  refine g_iadd B dX10_agesOf_40 ?_
  refine g_istore_n (lv' := [(2, .int (u0 + u1)), (0, .ref a0), (1, .int x1), (3, .int x3)]) B dX10_agesOf_41 (by decide) [0, 1, 2, 3] rfl ?_
  refine g_iinc (v := (x3 + 1)) (lv' := [(3, .int (x3 + 1)), (2, .int (u0 + u1)), (0, .ref a0), (1, .int x1)]) B dX10_agesOf_42 3 rfl rfl (by decide) [0, 1, 2, 3] rfl ?_
  refine g_goto B 4 dX10_agesOf_45 (by decide) ?_
  refine g_sub (lv' := [(0, .ref a0), (1, .int x1), (2, .int (u0 + u1)), (3, .int (x3 + 1))]) [2, 3, 1, 0] rfl ?_
  exact hrec4 a0 x1 (u0 + u1) (x3 + 1)
set_option maxRecDepth 20000 in
set_option maxHeartbeats 2000000 in
theorem g10_agesOf_L4 {X : gX} {p : Program} {l : Launch} {e : Env} {s : State} {m : MethodId} {args : Array Value} {below : List Frame} {meth : Method} {c : Code} (B : gB X p (rm10_agesOf) s m args meth c RX10 cX10_agesOf 4 (rm10_agesOf)) (hS9 : gS X s) (hr : meth.sig.returnType = some .int) {M : mMem} : ∀ (n : Nat) (a0 : Nat) (x1 : Int32) (x2 : Int32) (x3 : Int32), GG X p l e (rm10_agesOf) s m args below meth c (gP X below args s 0 0 (fun r9 : Int32 => (some (.int r9), M))) 4 0 0 4 [(0, .ref a0), (1, .int x1), (2, .int x2), (3, .int x3)] [] M (p10_agesOf_L4 M n a0 x1 x2 x3) := by
  intro n
  induction n with
  | zero => intro a0 x1 x2 x3; exact g_none
  | succ n ih =>
    intro a0 x1 x2 x3
    rw [p10_agesOf_L4]
    refine g_iload_n B dX10_agesOf_4 3 rfl ?_
    refine g_aload_n B dX10_agesOf_5 0 rfl ?_
    refine g_getR (ci := 9) (T0 := TX10) (N := 1) B (by decide) rfl in_9 (k := 0) (by decide) rfl wd_378 (fun _ h => h) dX10_agesOf_6 (fun v_1 => ?_)
    refine g_getI (ci := 2) (T0 := TX2) (N := 11) B (by decide) rfl in_2 (k := 4) (by decide) rfl wd_140 (fun _ h => h) dX10_agesOf_9 (fun v_2 => ?_)
    refine g_icmp_ge B 48 dX10_agesOf_12 (by decide) ?_ ?_
    · refine g_iload_n B dX10_agesOf_15 2 rfl ?_
      refine g_iload_n B dX10_agesOf_16 1 rfl ?_
      refine g_iload_n B dX10_agesOf_17 3 rfl ?_
      refine g_ishr B dX10_agesOf_18 ?_
      refine g_iconst (v := 1) B dX10_agesOf_19 (by decide) ?_
      refine g_iand B dX10_agesOf_20 ?_
      refine g_iconst (v := 1) B dX10_agesOf_21 (by decide) ?_
      refine g_icmp_ne B 39 dX10_agesOf_22 (by decide) ?_ ?_
      · refine g_aload_n B dX10_agesOf_25 0 rfl ?_
        refine g_getR (ci := 9) (T0 := TX10) (N := 1) B (by decide) rfl in_9 (k := 0) (by decide) rfl wd_378 (fun _ h => h) dX10_agesOf_26 (fun v_3 => ?_)
        refine g_iload_n B dX10_agesOf_29 3 rfl ?_
        refine g_callV_ap [.int x3] (ci := 2) (T0 := TX2) (N := 11) B hS9 mf2_at wd_466 (gw B wd_467) wd_638 (by decide) rfl (fun h => (gd_ne h).1) (c2_at X l v_3 x3 M) (by decide) (by decide) (by decide) rfl (Nat.le_of_ble_eq_true rfl) dX10_agesOf_30 rfl (fun v_4 => ?_)
        refine g_getI (ci := 8) (T0 := TX8) (N := 9) B (by decide) rfl in_8 (k := 0) (by decide) rfl wd_56 (fun _ h => h) dX10_agesOf_33 (fun v_5 => ?_)
        refine g_goto B 40 dX10_agesOf_36 (by decide) ?_
        refine g_sub (lv' := [(0, .ref a0), (1, .int x1), (3, .int x3)]) [0, 1, 3] rfl ?_
        exact g10_agesOf_J40 B hS9 hr (p10_agesOf_L4 M n) ih a0 x1 x3 x2 v_5
      · refine g_iconst (v := 0) B dX10_agesOf_39 (by decide) ?_
        refine g_sub (lv' := [(0, .ref a0), (1, .int x1), (3, .int x3)]) [0, 1, 3] rfl ?_
        exact g10_agesOf_J40 B hS9 hr (p10_agesOf_L4 M n) ih a0 x1 x3 x2 0
    · refine g_iload_n B dX10_agesOf_48 2 rfl ?_
      exact g_ireturn B hr rfl (by decide) (by decide) rfl dX10_agesOf_49
set_option maxRecDepth 20000 in
set_option maxHeartbeats 2000000 in
theorem g10_agesOf {X : gX} {p : Program} {l : Launch} {e : Env} {s : State} {m : MethodId} {args : Array Value} {below : List Frame} {meth : Method} {c : Code} (B : gB X p (rm10_agesOf) s m args meth c RX10 cX10_agesOf 4 (rm10_agesOf)) (hS9 : gS X s) (hr : meth.sig.returnType = some .int) {M : mMem} (a0 : Nat) (x1 : Int32) : GG X p l e (rm10_agesOf) s m args below meth c (gP X below args s 0 0 (fun r9 : Int32 => (some (.int r9), M))) 4 0 0 0 [(0, .ref a0), (1, .int x1)] [] M (p10_agesOf a0 x1 M) := by
  unfold p10_agesOf
  refine g_gd ?_
  refine g_iconst (v := 0) B dX10_agesOf_0 (by decide) ?_
  refine g_istore_n (lv' := [(2, .int 0), (0, .ref a0), (1, .int x1)]) B dX10_agesOf_1 (by decide) [0, 1, 2] rfl ?_
  refine g_iconst (v := 0) B dX10_agesOf_2 (by decide) ?_
  refine g_istore_n (lv' := [(3, .int 0), (2, .int 0), (0, .ref a0), (1, .int x1)]) B dX10_agesOf_3 (by decide) [0, 1, 2, 3] rfl ?_
  refine g_sub (lv' := [(0, .ref a0), (1, .int x1), (2, .int 0), (3, .int 0)]) [2, 3, 1, 0] rfl ?_
  exact (g10_agesOf_L4 B hS9 hr) gF a0 x1 0 0
theorem c10_agesOf (X : gX) (l : Launch) (a0 : Nat) (x1 : Int32) (M : mMem) : Con X l yX10_agesOf cX10_agesOf 4 (some .int) rm10_agesOf (fun r9 : Int32 => (some (.int r9), M)) [.ref a0, .int x1] M (p10_agesOf a0 x1 M) := g_con (own := RX10) (by decide +kernel) rfl (Nat.le_of_ble_eq_true rfl) (fun p e s m args below meth c B hS9 hr hn => g10_agesOf B hS9 hr a0 x1)
theorem mf10_youngestBranch : gMF yX10_youngestBranch cX10_youngestBranch 5 (some .int) 0 := ⟨wd_637, wd_12, ⟨by decide, by decide⟩, by decide +kernel⟩
set_option maxRecDepth 20000 in
set_option maxHeartbeats 2000000 in
theorem g10_youngestBranch_J59 {X : gX} {p : Program} {l : Launch} {e : Env} {s : State} {m : MethodId} {args : Array Value} {below : List Frame} {meth : Method} {c : Code} (B : gB X p (rm10_youngestBranch) s m args meth c RX10 cX10_youngestBranch 5 (rm10_youngestBranch)) (hS9 : gS X s) (hr : meth.sig.returnType = some .int) {M : mMem} (rec6 : Nat → Int32 → Int32 → Int32 → Option Int32) (hrec6 : ∀ (a0 : Nat) (x1 : Int32) (x2 : Int32) (x3 : Int32), GG X p l e (rm10_youngestBranch) s m args below meth c (gP X below args s 0 0 (fun r9 : Int32 => (some (.int r9), M))) 5 0 0 6 [(0, .ref a0), (1, .int x1), (2, .int x2), (3, .int x3)] [] M (rec6 a0 x1 x2 x3)) (a0 : Nat) (x1 : Int32) (x2 : Int32) (x3 : Int32) : GG X p l e (rm10_youngestBranch) s m args below meth c (gP X below args s 0 0 (fun r9 : Int32 => (some (.int r9), M))) 5 0 0 59 [(0, .ref a0), (1, .int x1), (2, .int x2), (3, .int x3)] [] M (p10_youngestBranch_J59 M rec6 a0 x1 x2 x3) := by
  unfold p10_youngestBranch_J59
  refine g_iinc (v := (x3 + 1)) (lv' := [(3, .int (x3 + 1)), (0, .ref a0), (1, .int x1), (2, .int x2)]) B dX10_youngestBranch_59 3 rfl rfl (by decide) [0, 1, 2, 3] rfl ?_
  refine g_goto B 6 dX10_youngestBranch_62 (by decide) ?_
  refine g_sub (lv' := [(0, .ref a0), (1, .int x1), (2, .int x2), (3, .int (x3 + 1))]) [1, 2, 3, 0] rfl ?_
  exact hrec6 a0 x1 x2 (x3 + 1)
set_option maxRecDepth 20000 in
set_option maxHeartbeats 2000000 in
theorem g10_youngestBranch_J54 {X : gX} {p : Program} {l : Launch} {e : Env} {s : State} {m : MethodId} {args : Array Value} {below : List Frame} {meth : Method} {c : Code} (B : gB X p (rm10_youngestBranch) s m args meth c RX10 cX10_youngestBranch 5 (rm10_youngestBranch)) (hS9 : gS X s) (hr : meth.sig.returnType = some .int) {M : mMem} (rec6 : Nat → Int32 → Int32 → Int32 → Option Int32) (hrec6 : ∀ (a0 : Nat) (x1 : Int32) (x2 : Int32) (x3 : Int32), GG X p l e (rm10_youngestBranch) s m args below meth c (gP X below args s 0 0 (fun r9 : Int32 => (some (.int r9), M))) 5 0 0 6 [(0, .ref a0), (1, .int x1), (2, .int x2), (3, .int x3)] [] M (rec6 a0 x1 x2 x3)) (a0 : Nat) (x3 : Int32) (x4 : Int32) : GG X p l e (rm10_youngestBranch) s m args below meth c (gP X below args s 0 0 (fun r9 : Int32 => (some (.int r9), M))) 5 0 0 54 [(0, .ref a0), (3, .int x3), (4, .int x4)] [] M (p10_youngestBranch_J54 M rec6 a0 x3 x4) := by
  unfold p10_youngestBranch_J54
  refine g_iload_n B dX10_youngestBranch_54 1 rfl ?_
  refine g_istore_n (lv' := [(1, .int x3), (0, .ref a0), (3, .int x3), (4, .int x4)]) B dX10_youngestBranch_55 (by decide) [0, 1, 2, 3] rfl ?_
  refine g_iload B dX10_youngestBranch_56 3 rfl ?_
  refine g_istore_n (lv' := [(2, .int x4), (1, .int x3), (0, .ref a0), (3, .int x3), (4, .int x4)]) B dX10_youngestBranch_58 (by decide) [0, 1, 2, 3, 4] rfl ?_
  refine g_sub (lv' := [(0, .ref a0), (1, .int x3), (2, .int x4), (3, .int x3)]) [2, 1, 0, 3] rfl ?_
  exact g10_youngestBranch_J59 B hS9 hr rec6 hrec6 a0 x3 x4 x3
set_option maxRecDepth 20000 in
set_option maxHeartbeats 2000000 in
theorem g10_youngestBranch_L6 {X : gX} {p : Program} {l : Launch} {e : Env} {s : State} {m : MethodId} {args : Array Value} {below : List Frame} {meth : Method} {c : Code} (B : gB X p (rm10_youngestBranch) s m args meth c RX10 cX10_youngestBranch 5 (rm10_youngestBranch)) (hS9 : gS X s) (hr : meth.sig.returnType = some .int) {M : mMem} : ∀ (n : Nat) (a0 : Nat) (x1 : Int32) (x2 : Int32) (x3 : Int32), GG X p l e (rm10_youngestBranch) s m args below meth c (gP X below args s 0 0 (fun r9 : Int32 => (some (.int r9), M))) 5 0 0 6 [(0, .ref a0), (1, .int x1), (2, .int x2), (3, .int x3)] [] M (p10_youngestBranch_L6 M n a0 x1 x2 x3) := by
  intro n
  induction n with
  | zero => intro a0 x1 x2 x3; exact g_none
  | succ n ih =>
    intro a0 x1 x2 x3
    rw [p10_youngestBranch_L6]
    refine g_iload_n B dX10_youngestBranch_6 3 rfl ?_
    refine g_aload_n B dX10_youngestBranch_7 0 rfl ?_
    refine g_getR (ci := 9) (T0 := TX10) (N := 1) B (by decide) rfl in_9 (k := 0) (by decide) rfl wd_378 (fun _ h => h) dX10_youngestBranch_8 (fun v_1 => ?_)
    refine g_getI (ci := 2) (T0 := TX2) (N := 11) B (by decide) rfl in_2 (k := 4) (by decide) rfl wd_140 (fun _ h => h) dX10_youngestBranch_11 (fun v_2 => ?_)
    refine g_icmp_ge B 65 dX10_youngestBranch_14 (by decide) ?_ ?_
    · refine g_aload_n B dX10_youngestBranch_17 0 rfl ?_
      refine g_getR (ci := 9) (T0 := TX10) (N := 1) B (by decide) rfl in_9 (k := 0) (by decide) rfl wd_378 (fun _ h => h) dX10_youngestBranch_18 (fun v_3 => ?_)
      refine g_iload_n B dX10_youngestBranch_21 3 rfl ?_
      refine g_callV_ap [.int x3] (ci := 2) (T0 := TX2) (N := 11) B hS9 mf2_at wd_466 (gw B wd_467) wd_638 (by decide) rfl (fun h => (gd_ne h).1) (c2_at X l v_3 x3 M) (by decide) (by decide) (by decide) rfl (by decide) dX10_youngestBranch_22 rfl (fun v_4 => ?_)
      refine g_getI (ci := 8) (T0 := TX8) (N := 9) B (by decide) rfl in_8 (k := 3) (by decide) rfl wd_69 (fun _ h => h) dX10_youngestBranch_25 (fun v_5 => ?_)
      refine g_iconst (v := (-1)) B dX10_youngestBranch_28 (by decide) ?_
      refine g_icmp_ne B 59 dX10_youngestBranch_29 (by decide) ?_ ?_
      · refine g_aload_n B dX10_youngestBranch_32 0 rfl ?_
        refine g_aload_n B dX10_youngestBranch_33 0 rfl ?_
        refine g_iload_n B dX10_youngestBranch_34 3 rfl ?_
        refine g_callV_ip [.int x3] (ci := 9) (T0 := TX10) (N := 1) B hS9 mf10_branchOf wd_640 (gw B wd_641) wd_639 (by decide) rfl (fun h => (gd_ne h).1) (c10_branchOf X l a0 x3 M) (by decide) (by decide) (by decide) rfl (Nat.le_of_ble_eq_true rfl) dX10_youngestBranch_35 rfl (fun v_6 => ?_)
        refine g_callV_ip [.int v_6] (ci := 9) (T0 := TX10) (N := 1) B hS9 mf10_agesOf wd_645 (gw B wp_8) wd_643 (by decide) rfl (fun h => (gd_ne h).1) (c10_agesOf X l a0 v_6 M) (by decide) (by decide) (by decide) rfl (by decide) dX10_youngestBranch_38 rfl (fun v_7 => ?_)
        refine g_istore (lv' := [(4, .int v_7), (0, .ref a0), (1, .int x1), (2, .int x2), (3, .int x3)]) B dX10_youngestBranch_41 (by decide) [0, 1, 2, 3, 4] rfl ?_
        refine g_iload_n B dX10_youngestBranch_43 2 rfl ?_
        refine g_iconst (v := (-1)) B dX10_youngestBranch_44 (by decide) ?_
        refine g_icmp_eq B 54 dX10_youngestBranch_45 (by decide) ?_ ?_
        · refine g_sub (lv' := [(0, .ref a0), (3, .int x3), (4, .int v_7)]) [1, 4, 0] rfl ?_
          exact g10_youngestBranch_J54 B hS9 hr (p10_youngestBranch_L6 M n) ih a0 x3 v_7
        · refine g_iload B dX10_youngestBranch_48 0 rfl ?_
          refine g_iload_n B dX10_youngestBranch_50 3 rfl ?_
          refine g_icmp_ge B 59 dX10_youngestBranch_51 (by decide) ?_ ?_
          · refine g_sub (lv' := [(0, .ref a0), (3, .int x3), (4, .int v_7)]) [1, 4, 0] rfl ?_
            exact g10_youngestBranch_J54 B hS9 hr (p10_youngestBranch_L6 M n) ih a0 x3 v_7
          · refine g_sub (lv' := [(0, .ref a0), (1, .int x1), (2, .int x2), (3, .int x3)]) [1, 2, 3, 4] rfl ?_
            exact g10_youngestBranch_J59 B hS9 hr (p10_youngestBranch_L6 M n) ih a0 x1 x2 x3
      · refine g_sub (lv' := [(0, .ref a0), (1, .int x1), (2, .int x2), (3, .int x3)]) [0, 1, 2, 3] rfl ?_
        exact g10_youngestBranch_J59 B hS9 hr (p10_youngestBranch_L6 M n) ih a0 x1 x2 x3
    · refine g_iload_n B dX10_youngestBranch_65 1 rfl ?_
      exact g_ireturn B hr rfl (by decide) (by decide) rfl dX10_youngestBranch_66
set_option maxRecDepth 20000 in
set_option maxHeartbeats 2000000 in
theorem g10_youngestBranch {X : gX} {p : Program} {l : Launch} {e : Env} {s : State} {m : MethodId} {args : Array Value} {below : List Frame} {meth : Method} {c : Code} (B : gB X p (rm10_youngestBranch) s m args meth c RX10 cX10_youngestBranch 5 (rm10_youngestBranch)) (hS9 : gS X s) (hr : meth.sig.returnType = some .int) {M : mMem} (a0 : Nat) : GG X p l e (rm10_youngestBranch) s m args below meth c (gP X below args s 0 0 (fun r9 : Int32 => (some (.int r9), M))) 5 0 0 0 [(0, .ref a0)] [] M (p10_youngestBranch a0 M) := by
  unfold p10_youngestBranch
  refine g_gd ?_
  refine g_iconst (v := (-1)) B dX10_youngestBranch_0 (by decide) ?_
  refine g_istore_n (lv' := [(1, .int (-1)), (0, .ref a0)]) B dX10_youngestBranch_1 (by decide) [0, 1] rfl ?_
  refine g_iconst (v := 0) B dX10_youngestBranch_2 (by decide) ?_
  refine g_istore_n (lv' := [(2, .int 0), (1, .int (-1)), (0, .ref a0)]) B dX10_youngestBranch_3 (by decide) [0, 1, 2] rfl ?_
  refine g_iconst (v := 0) B dX10_youngestBranch_4 (by decide) ?_
  refine g_istore_n (lv' := [(3, .int 0), (2, .int 0), (1, .int (-1)), (0, .ref a0)]) B dX10_youngestBranch_5 (by decide) [0, 1, 2, 3] rfl ?_
  refine g_sub (lv' := [(0, .ref a0), (1, .int (-1)), (2, .int 0), (3, .int 0)]) [3, 2, 1, 0] rfl ?_
  exact (g10_youngestBranch_L6 B hS9 hr) gF a0 (-1) 0 0
theorem c10_youngestBranch (X : gX) (l : Launch) (a0 : Nat) (M : mMem) : Con X l yX10_youngestBranch cX10_youngestBranch 5 (some .int) rm10_youngestBranch (fun r9 : Int32 => (some (.int r9), M)) [.ref a0] M (p10_youngestBranch a0 M) := g_con (own := RX10) (by decide +kernel) rfl (Nat.le_of_ble_eq_true rfl) (fun p e s m args below meth c B hS9 hr hn => g10_youngestBranch B hS9 hr a0)
theorem mf10_stepsUp : gMF yX10_stepsUp cX10_stepsUp 5 (some .int) 2 := ⟨wd_1531, wd_12, ⟨by decide, by decide⟩, by decide +kernel⟩
set_option maxRecDepth 20000 in
set_option maxHeartbeats 2000000 in
theorem g10_stepsUp_J43 {X : gX} {p : Program} {l : Launch} {e : Env} {s : State} {m : MethodId} {args : Array Value} {below : List Frame} {meth : Method} {c : Code} (B : gB X p (rm10_stepsUp) s m args meth c RX10 cX10_stepsUp 5 (rm10_stepsUp)) (hS9 : gS X s) (hr : meth.sig.returnType = some .int) {M : mMem} : GG X p l e (rm10_stepsUp) s m args below meth c (gP X below args s 0 0 (fun r9 : Int32 => (some (.int r9), M))) 5 0 0 43 [] [] M (p10_stepsUp_J43 M) := by
  unfold p10_stepsUp_J43
  refine g_iconst (v := (-1)) B dX10_stepsUp_43 (by decide) ?_
  exact g_ireturn B hr rfl (by decide) (by decide) rfl dX10_stepsUp_44
set_option maxRecDepth 20000 in
set_option maxHeartbeats 2000000 in
theorem g10_stepsUp_L5 {X : gX} {p : Program} {l : Launch} {e : Env} {s : State} {m : MethodId} {args : Array Value} {below : List Frame} {meth : Method} {c : Code} (B : gB X p (rm10_stepsUp) s m args meth c RX10 cX10_stepsUp 5 (rm10_stepsUp)) (hS9 : gS X s) (hr : meth.sig.returnType = some .int) {M : mMem} : ∀ (n : Nat) (a0 : Nat) (x2 : Int32) (x3 : Int32) (x4 : Int32), GG X p l e (rm10_stepsUp) s m args below meth c (gP X below args s 0 0 (fun r9 : Int32 => (some (.int r9), M))) 5 0 0 5 [(0, .ref a0), (2, .int x2), (3, .int x3), (4, .int x4)] [] M (p10_stepsUp_L5 M n a0 x2 x3 x4) := by
  intro n
  induction n with
  | zero => intro a0 x2 x3 x4; exact g_none
  | succ n ih =>
    intro a0 x2 x3 x4
    rw [p10_stepsUp_L5]
    refine g_iload B dX10_stepsUp_5 3 rfl ?_
    refine g_bipush (v := 8) B dX10_stepsUp_7 (by decide) ?_
    refine g_icmp_ge B 43 dX10_stepsUp_9 (by decide) ?_ ?_
    · refine g_iload_n B dX10_stepsUp_12 2 rfl ?_
      refine g_iconst (v := (-1)) B dX10_stepsUp_13 (by decide) ?_
      refine g_icmp_eq B 43 dX10_stepsUp_14 (by decide) ?_ ?_
      · refine g_sub (lv' := []) [] rfl ?_
        exact g10_stepsUp_J43 B hS9 hr
      · refine g_iload_n B dX10_stepsUp_17 2 rfl ?_
        refine g_iload_n B dX10_stepsUp_18 1 rfl ?_
        refine g_icmp_ne B 25 dX10_stepsUp_19 (by decide) ?_ ?_
        · refine g_iload B dX10_stepsUp_22 3 rfl ?_
          exact g_ireturn B hr rfl (by decide) (by decide) rfl dX10_stepsUp_24
        · refine g_aload_n B dX10_stepsUp_25 0 rfl ?_
          refine g_getR (ci := 9) (T0 := TX10) (N := 1) B (by decide) rfl in_9 (k := 0) (by decide) rfl wd_378 (fun _ h => h) dX10_stepsUp_26 (fun v_1 => ?_)
          refine g_iload_n B dX10_stepsUp_29 2 rfl ?_
          refine g_callV_ap [.int x3] (ci := 2) (T0 := TX2) (N := 11) B hS9 mf2_at wd_466 (gw B wd_467) wd_638 (by decide) rfl (fun h => (gd_ne h).1) (c2_at X l v_1 x3 M) (by decide) (by decide) (by decide) rfl (by decide) dX10_stepsUp_30 rfl (fun v_2 => ?_)
          refine g_getI (ci := 8) (T0 := TX8) (N := 9) B (by decide) rfl in_8 (k := 3) (by decide) rfl wd_69 (fun _ h => h) dX10_stepsUp_33 (fun v_3 => ?_)
          refine g_istore_n (lv' := [(3, .int v_3), (0, .ref a0), (2, .int x2), (4, .int x4)]) B dX10_stepsUp_36 (by decide) [0, 1, 2, 3] rfl ?_
          refine g_iinc (v := (x4 + 1)) (lv' := [(4, .int (x4 + 1)), (3, .int v_3), (0, .ref a0), (2, .int x2)]) B dX10_stepsUp_37 3 rfl rfl (by decide) [0, 1, 2, 3] rfl ?_
          refine g_goto B 5 dX10_stepsUp_40 (by decide) ?_
          refine g_sub (lv' := [(0, .ref a0), (2, .int x2), (3, .int v_3), (4, .int (x4 + 1))]) [2, 3, 1, 0] rfl ?_
          exact ih a0 x2 v_3 (x4 + 1)
    · refine g_sub (lv' := []) [] rfl ?_
      exact g10_stepsUp_J43 B hS9 hr
set_option maxRecDepth 20000 in
set_option maxHeartbeats 2000000 in
theorem g10_stepsUp {X : gX} {p : Program} {l : Launch} {e : Env} {s : State} {m : MethodId} {args : Array Value} {below : List Frame} {meth : Method} {c : Code} (B : gB X p (rm10_stepsUp) s m args meth c RX10 cX10_stepsUp 5 (rm10_stepsUp)) (hS9 : gS X s) (hr : meth.sig.returnType = some .int) {M : mMem} (a0 : Nat) (x1 : Int32) (x2 : Int32) : GG X p l e (rm10_stepsUp) s m args below meth c (gP X below args s 0 0 (fun r9 : Int32 => (some (.int r9), M))) 5 0 0 0 [(0, .ref a0), (1, .int x1), (2, .int x2)] [] M (p10_stepsUp a0 x1 x2 M) := by
  unfold p10_stepsUp
  refine g_gd ?_
  refine g_iload_n B dX10_stepsUp_0 1 rfl ?_
  refine g_istore_n (lv' := [(3, .int x1), (0, .ref a0), (1, .int x1), (2, .int x2)]) B dX10_stepsUp_1 (by decide) [0, 1, 2, 3] rfl ?_
  refine g_iconst (v := 0) B dX10_stepsUp_2 (by decide) ?_
  refine g_istore (lv' := [(4, .int 0), (3, .int x1), (0, .ref a0), (1, .int x1), (2, .int x2)]) B dX10_stepsUp_3 (by decide) [0, 1, 2, 3, 4] rfl ?_
  refine g_sub (lv' := [(0, .ref a0), (2, .int x2), (3, .int x1), (4, .int 0)]) [2, 4, 1, 0] rfl ?_
  exact (g10_stepsUp_L5 B hS9 hr) gF a0 x2 x1 0
theorem c10_stepsUp (X : gX) (l : Launch) (a0 : Nat) (x1 : Int32) (x2 : Int32) (M : mMem) : Con X l yX10_stepsUp cX10_stepsUp 5 (some .int) rm10_stepsUp (fun r9 : Int32 => (some (.int r9), M)) [.ref a0, .int x1, .int x2] M (p10_stepsUp a0 x1 x2 M) := g_con (own := RX10) (by decide +kernel) rfl (Nat.le_of_ble_eq_true rfl) (fun p e s m args below meth c B hS9 hr hn => g10_stepsUp B hS9 hr a0 x1 x2)
theorem mf10_stepsBetween : gMF yX10_stepsBetween cX10_stepsBetween 6 (some .int) 2 := ⟨wd_1527, wd_12, ⟨by decide, by decide⟩, by decide +kernel⟩
set_option maxRecDepth 20000 in
set_option maxHeartbeats 2000000 in
theorem g10_stepsBetween_J55 {X : gX} {p : Program} {l : Launch} {e : Env} {s : State} {m : MethodId} {args : Array Value} {below : List Frame} {meth : Method} {c : Code} (B : gB X p (rm10_stepsBetween) s m args meth c RX10 cX10_stepsBetween 6 (rm10_stepsBetween)) (hS9 : gS X s) (hr : meth.sig.returnType = some .int) {M : mMem} : GG X p l e (rm10_stepsBetween) s m args below meth c (gP X below args s 0 0 (fun r9 : Int32 => (some (.int r9), M))) 6 0 0 55 [] [] M (p10_stepsBetween_J55 M) := by
  unfold p10_stepsBetween_J55
  refine g_iconst (v := (-1)) B dX10_stepsBetween_55 (by decide) ?_
  exact g_ireturn B hr rfl (by decide) (by decide) rfl dX10_stepsBetween_56
set_option maxRecDepth 20000 in
set_option maxHeartbeats 2000000 in
theorem g10_stepsBetween_L5 {X : gX} {p : Program} {l : Launch} {e : Env} {s : State} {m : MethodId} {args : Array Value} {below : List Frame} {meth : Method} {c : Code} (B : gB X p (rm10_stepsBetween) s m args meth c RX10 cX10_stepsBetween 6 (rm10_stepsBetween)) (hS9 : gS X s) (hr : meth.sig.returnType = some .int) {M : mMem} : ∀ (n : Nat) (a0 : Nat) (x2 : Int32) (x3 : Int32) (x4 : Int32), GG X p l e (rm10_stepsBetween) s m args below meth c (gP X below args s 0 0 (fun r9 : Int32 => (some (.int r9), M))) 6 0 0 5 [(0, .ref a0), (2, .int x2), (3, .int x3), (4, .int x4)] [] M (p10_stepsBetween_L5 M n a0 x2 x3 x4) := by
  intro n
  induction n with
  | zero => intro a0 x2 x3 x4; exact g_none
  | succ n ih =>
    intro a0 x2 x3 x4
    rw [p10_stepsBetween_L5]
    refine g_iload B dX10_stepsBetween_5 3 rfl ?_
    refine g_bipush (v := 8) B dX10_stepsBetween_7 (by decide) ?_
    refine g_icmp_ge B 55 dX10_stepsBetween_9 (by decide) ?_ ?_
    · refine g_iload_n B dX10_stepsBetween_12 2 rfl ?_
      refine g_iconst (v := (-1)) B dX10_stepsBetween_13 (by decide) ?_
      refine g_icmp_eq B 55 dX10_stepsBetween_14 (by decide) ?_ ?_
      · refine g_sub (lv' := []) [] rfl ?_
        exact g10_stepsBetween_J55 B hS9 hr
      · refine g_aload_n B dX10_stepsBetween_17 0 rfl ?_
        refine g_iload_n B dX10_stepsBetween_18 1 rfl ?_
        refine g_iload_n B dX10_stepsBetween_19 2 rfl ?_
        refine g_callV_ip [.int x2, .int x3] (ci := 9) (T0 := TX10) (N := 1) B hS9 mf10_stepsUp wd_1530 (gw B wp_40) wd_1528 (by decide) rfl (fun h => (gd_ne h).1) (c10_stepsUp X l a0 x2 x3 M) (by decide) (by decide) (by decide) rfl (by decide) dX10_stepsBetween_20 rfl (fun v_1 => ?_)
        refine g_istore (lv' := [(5, .int v_1), (0, .ref a0), (2, .int x2), (3, .int x3), (4, .int x4)]) B dX10_stepsBetween_23 (by decide) [0, 1, 2, 3, 4] rfl ?_
        refine g_iload B dX10_stepsBetween_25 0 rfl ?_
        refine g_iconst (v := (-1)) B dX10_stepsBetween_27 (by decide) ?_
        refine g_icmp_eq B 37 dX10_stepsBetween_28 (by decide) ?_ ?_
        · refine g_aload_n B dX10_stepsBetween_37 1 rfl ?_
          refine g_getR (ci := 9) (T0 := TX10) (N := 1) B (by decide) rfl in_9 (k := 0) (by decide) rfl wd_378 (fun _ h => h) dX10_stepsBetween_38 (fun v_2 => ?_)
          refine g_iload_n B dX10_stepsBetween_41 3 rfl ?_
          refine g_callV_ap [.int x3] (ci := 2) (T0 := TX2) (N := 11) B hS9 mf2_at wd_466 (gw B wd_467) wd_638 (by decide) rfl (fun h => (gd_ne h).1) (c2_at X l v_2 x3 M) (by decide) (by decide) (by decide) rfl (by decide) dX10_stepsBetween_42 rfl (fun v_3 => ?_)
          refine g_getI (ci := 8) (T0 := TX8) (N := 9) B (by decide) rfl in_8 (k := 3) (by decide) rfl wd_69 (fun _ h => h) dX10_stepsBetween_45 (fun v_4 => ?_)
          refine g_istore_n (lv' := [(3, .int v_4), (5, .int v_1), (0, .ref a0), (2, .int x2), (4, .int x4)]) B dX10_stepsBetween_48 (by decide) [0, 1, 2, 3, 4] rfl ?_
          refine g_iinc (v := (x4 + 1)) (lv' := [(4, .int (x4 + 1)), (3, .int v_4), (5, .int v_1), (0, .ref a0), (2, .int x2)]) B dX10_stepsBetween_49 4 rfl rfl (by decide) [0, 1, 2, 3, 4] rfl ?_
          refine g_goto B 5 dX10_stepsBetween_52 (by decide) ?_
          refine g_sub (lv' := [(0, .ref a0), (2, .int x2), (3, .int v_4), (4, .int (x4 + 1))]) [3, 4, 1, 0] rfl ?_
          exact ih a0 x2 v_4 (x4 + 1)
        · refine g_iload B dX10_stepsBetween_31 4 rfl ?_
          refine g_iload B dX10_stepsBetween_33 0 rfl ?_
          refine g_iadd B dX10_stepsBetween_35 ?_
          exact g_ireturn B hr rfl (by decide) (by decide) rfl dX10_stepsBetween_36
    · refine g_sub (lv' := []) [] rfl ?_
      exact g10_stepsBetween_J55 B hS9 hr
set_option maxRecDepth 20000 in
set_option maxHeartbeats 2000000 in
theorem g10_stepsBetween {X : gX} {p : Program} {l : Launch} {e : Env} {s : State} {m : MethodId} {args : Array Value} {below : List Frame} {meth : Method} {c : Code} (B : gB X p (rm10_stepsBetween) s m args meth c RX10 cX10_stepsBetween 6 (rm10_stepsBetween)) (hS9 : gS X s) (hr : meth.sig.returnType = some .int) {M : mMem} (a0 : Nat) (x1 : Int32) (x2 : Int32) : GG X p l e (rm10_stepsBetween) s m args below meth c (gP X below args s 0 0 (fun r9 : Int32 => (some (.int r9), M))) 6 0 0 0 [(0, .ref a0), (1, .int x1), (2, .int x2)] [] M (p10_stepsBetween a0 x1 x2 M) := by
  unfold p10_stepsBetween
  refine g_gd ?_
  refine g_iload_n B dX10_stepsBetween_0 1 rfl ?_
  refine g_istore_n (lv' := [(3, .int x1), (0, .ref a0), (1, .int x1), (2, .int x2)]) B dX10_stepsBetween_1 (by decide) [0, 1, 2, 3] rfl ?_
  refine g_iconst (v := 0) B dX10_stepsBetween_2 (by decide) ?_
  refine g_istore (lv' := [(4, .int 0), (3, .int x1), (0, .ref a0), (1, .int x1), (2, .int x2)]) B dX10_stepsBetween_3 (by decide) [0, 1, 2, 3, 4] rfl ?_
  refine g_sub (lv' := [(0, .ref a0), (2, .int x2), (3, .int x1), (4, .int 0)]) [2, 4, 1, 0] rfl ?_
  exact (g10_stepsBetween_L5 B hS9 hr) gF a0 x2 x1 0
theorem c10_stepsBetween (X : gX) (l : Launch) (a0 : Nat) (x1 : Int32) (x2 : Int32) (M : mMem) : Con X l yX10_stepsBetween cX10_stepsBetween 6 (some .int) rm10_stepsBetween (fun r9 : Int32 => (some (.int r9), M)) [.ref a0, .int x1, .int x2] M (p10_stepsBetween a0 x1 x2 M) := g_con (own := RX10) (by decide +kernel) rfl (Nat.le_of_ble_eq_true rfl) (fun p e s m args below meth c B hS9 hr hn => g10_stepsBetween B hS9 hr a0 x1 x2)
theorem mf10_grandparentOf : gMF yX10_grandparentOf cX10_grandparentOf 3 (some .int) 1 := ⟨wd_1546, wd_12, ⟨by decide, by decide⟩, by decide +kernel⟩
set_option maxRecDepth 20000 in
set_option maxHeartbeats 2000000 in
theorem g10_grandparentOf_J32 {X : gX} {p : Program} {l : Launch} {e : Env} {s : State} {m : MethodId} {args : Array Value} {below : List Frame} {meth : Method} {c : Code} (B : gB X p (rm10_grandparentOf) s m args meth c RX10 cX10_grandparentOf 3 (rm10_grandparentOf)) (hS9 : gS X s) (hr : meth.sig.returnType = some .int) {M : mMem} (u0 : Int32) : GG X p l e (rm10_grandparentOf) s m args below meth c (gP X below args s 0 0 (fun r9 : Int32 => (some (.int r9), M))) 3 0 0 32 [] [.int u0] M (p10_grandparentOf_J32 M u0) := by
  unfold p10_grandparentOf_J32
  exact g_ireturn B hr rfl (by decide) (by decide) rfl dX10_grandparentOf_32
set_option maxRecDepth 20000 in
set_option maxHeartbeats 2000000 in
theorem g10_grandparentOf {X : gX} {p : Program} {l : Launch} {e : Env} {s : State} {m : MethodId} {args : Array Value} {below : List Frame} {meth : Method} {c : Code} (B : gB X p (rm10_grandparentOf) s m args meth c RX10 cX10_grandparentOf 3 (rm10_grandparentOf)) (hS9 : gS X s) (hr : meth.sig.returnType = some .int) {M : mMem} (a0 : Nat) (x1 : Int32) : GG X p l e (rm10_grandparentOf) s m args below meth c (gP X below args s 0 0 (fun r9 : Int32 => (some (.int r9), M))) 3 0 0 0 [(0, .ref a0), (1, .int x1)] [] M (p10_grandparentOf a0 x1 M) := by
  unfold p10_grandparentOf
  refine g_gd ?_
  refine g_aload_n B dX10_grandparentOf_0 0 rfl ?_
  refine g_getR (ci := 9) (T0 := TX10) (N := 1) B (by decide) rfl in_9 (k := 0) (by decide) rfl wd_378 (fun _ h => h) dX10_grandparentOf_1 (fun v_1 => ?_)
  refine g_iload_n B dX10_grandparentOf_4 1 rfl ?_
  refine g_callV_ap [.int x1] (ci := 2) (T0 := TX2) (N := 11) B hS9 mf2_at wd_466 (gw B wd_467) wd_638 (by decide) rfl (fun h => (gd_ne h).1) (c2_at X l v_1 x1 M) (by decide) (by decide) (by decide) rfl (by decide) dX10_grandparentOf_5 rfl (fun v_2 => ?_)
  refine g_getI (ci := 8) (T0 := TX8) (N := 9) B (by decide) rfl in_8 (k := 3) (by decide) rfl wd_69 (fun _ h => h) dX10_grandparentOf_8 (fun v_3 => ?_)
  refine g_istore_n (lv' := [(2, .int v_3), (0, .ref a0), (1, .int x1)]) B dX10_grandparentOf_11 (by decide) [0, 1, 2] rfl ?_
  refine g_iload_n B dX10_grandparentOf_12 0 rfl ?_
  refine g_iconst (v := (-1)) B dX10_grandparentOf_13 (by decide) ?_
  refine g_icmp_ne B 21 dX10_grandparentOf_14 (by decide) ?_ ?_
  · refine g_iconst (v := (-1)) B dX10_grandparentOf_17 (by decide) ?_
    refine g_goto B 32 dX10_grandparentOf_18 (by decide) ?_
    refine g_sub (lv' := []) [] rfl ?_
    exact g10_grandparentOf_J32 B hS9 hr (-1)
  · refine g_aload_n B dX10_grandparentOf_21 1 rfl ?_
    refine g_getR (ci := 9) (T0 := TX10) (N := 1) B (by decide) rfl in_9 (k := 0) (by decide) rfl wd_378 (fun _ h => h) dX10_grandparentOf_22 (fun v_4 => ?_)
    refine g_iload_n B dX10_grandparentOf_25 0 rfl ?_
    refine g_callV_ap [.int v_3] (ci := 2) (T0 := TX2) (N := 11) B hS9 mf2_at wd_466 (gw B wd_467) wd_638 (by decide) rfl (fun h => (gd_ne h).1) (c2_at X l v_4 v_3 M) (by decide) (by decide) (by decide) rfl (by decide) dX10_grandparentOf_26 rfl (fun v_5 => ?_)
    refine g_getI (ci := 8) (T0 := TX8) (N := 9) B (by decide) rfl in_8 (k := 3) (by decide) rfl wd_69 (fun _ h => h) dX10_grandparentOf_29 (fun v_6 => ?_)
    refine g_sub (lv' := []) [] rfl ?_
    exact g10_grandparentOf_J32 B hS9 hr v_6
theorem c10_grandparentOf (X : gX) (l : Launch) (a0 : Nat) (x1 : Int32) (M : mMem) : Con X l yX10_grandparentOf cX10_grandparentOf 3 (some .int) rm10_grandparentOf (fun r9 : Int32 => (some (.int r9), M)) [.ref a0, .int x1] M (p10_grandparentOf a0 x1 M) := g_con (own := RX10) (by decide +kernel) rfl (Nat.le_of_ble_eq_true rfl) (fun p e s m args below meth c B hS9 hr hn => g10_grandparentOf B hS9 hr a0 x1)
theorem mf10_cousinsOf : gMF yX10_cousinsOf cX10_cousinsOf 6 (some .int) 1 := ⟨wd_1542, wd_12, ⟨by decide, by decide⟩, by decide +kernel⟩
set_option maxRecDepth 20000 in
set_option maxHeartbeats 2000000 in
theorem g10_cousinsOf_J76 {X : gX} {p : Program} {l : Launch} {e : Env} {s : State} {m : MethodId} {args : Array Value} {below : List Frame} {meth : Method} {c : Code} (B : gB X p (rm10_cousinsOf) s m args meth c RX10 cX10_cousinsOf 6 (rm10_cousinsOf)) (hS9 : gS X s) (hr : meth.sig.returnType = some .int) {M : mMem} (rec24 : Nat → Int32 → Int32 → Int32 → Int32 → Option Int32) (hrec24 : ∀ (a0 : Nat) (x2 : Int32) (x3 : Int32) (x4 : Int32) (x5 : Int32), GG X p l e (rm10_cousinsOf) s m args below meth c (gP X below args s 0 0 (fun r9 : Int32 => (some (.int r9), M))) 6 0 0 24 [(0, .ref a0), (2, .int x2), (3, .int x3), (4, .int x4), (5, .int x5)] [] M (rec24 a0 x2 x3 x4 x5)) (a0 : Nat) (x2 : Int32) (x3 : Int32) (x4 : Int32) (x5 : Int32) : GG X p l e (rm10_cousinsOf) s m args below meth c (gP X below args s 0 0 (fun r9 : Int32 => (some (.int r9), M))) 6 0 0 76 [(0, .ref a0), (2, .int x2), (3, .int x3), (4, .int x4), (5, .int x5)] [] M (p10_cousinsOf_J76 M rec24 a0 x2 x3 x4 x5) := by
  unfold p10_cousinsOf_J76
  refine g_iinc (v := (x5 + 1)) (lv' := [(5, .int (x5 + 1)), (0, .ref a0), (2, .int x2), (3, .int x3), (4, .int x4)]) B dX10_cousinsOf_76 4 rfl rfl (by decide) [0, 1, 2, 3, 4] rfl ?_
  refine g_goto B 24 dX10_cousinsOf_79 (by decide) ?_
  refine g_sub (lv' := [(0, .ref a0), (2, .int x2), (3, .int x3), (4, .int x4), (5, .int (x5 + 1))]) [1, 2, 3, 4, 0] rfl ?_
  exact hrec24 a0 x2 x3 x4 (x5 + 1)
set_option maxRecDepth 20000 in
set_option maxHeartbeats 2000000 in
theorem g10_cousinsOf_L24 {X : gX} {p : Program} {l : Launch} {e : Env} {s : State} {m : MethodId} {args : Array Value} {below : List Frame} {meth : Method} {c : Code} (B : gB X p (rm10_cousinsOf) s m args meth c RX10 cX10_cousinsOf 6 (rm10_cousinsOf)) (hS9 : gS X s) (hr : meth.sig.returnType = some .int) {M : mMem} : ∀ (n : Nat) (a0 : Nat) (x2 : Int32) (x3 : Int32) (x4 : Int32) (x5 : Int32), GG X p l e (rm10_cousinsOf) s m args below meth c (gP X below args s 0 0 (fun r9 : Int32 => (some (.int r9), M))) 6 0 0 24 [(0, .ref a0), (2, .int x2), (3, .int x3), (4, .int x4), (5, .int x5)] [] M (p10_cousinsOf_L24 M n a0 x2 x3 x4 x5) := by
  intro n
  induction n with
  | zero => intro a0 x2 x3 x4 x5; exact g_none
  | succ n ih =>
    intro a0 x2 x3 x4 x5
    rw [p10_cousinsOf_L24]
    refine g_iload B dX10_cousinsOf_24 4 rfl ?_
    refine g_aload_n B dX10_cousinsOf_26 0 rfl ?_
    refine g_getR (ci := 9) (T0 := TX10) (N := 1) B (by decide) rfl in_9 (k := 0) (by decide) rfl wd_378 (fun _ h => h) dX10_cousinsOf_27 (fun v_1 => ?_)
    refine g_getI (ci := 2) (T0 := TX2) (N := 11) B (by decide) rfl in_2 (k := 4) (by decide) rfl wd_140 (fun _ h => h) dX10_cousinsOf_30 (fun v_2 => ?_)
    refine g_icmp_ge B 82 dX10_cousinsOf_33 (by decide) ?_ ?_
    · refine g_iload_n B dX10_cousinsOf_36 2 rfl ?_
      refine g_iconst (v := (-1)) B dX10_cousinsOf_37 (by decide) ?_
      refine g_icmp_eq B 76 dX10_cousinsOf_38 (by decide) ?_ ?_
      · refine g_sub (lv' := [(0, .ref a0), (2, .int x2), (3, .int x3), (4, .int x4), (5, .int x5)]) [0, 1, 2, 3, 4] rfl ?_
        exact g10_cousinsOf_J76 B hS9 hr (p10_cousinsOf_L24 M n) ih a0 x2 x3 x4 x5
      · refine g_aload_n B dX10_cousinsOf_41 0 rfl ?_
        refine g_iload B dX10_cousinsOf_42 4 rfl ?_
        refine g_callV_ip [.int x5] (ci := 9) (T0 := TX10) (N := 1) B hS9 mf10_grandparentOf wd_1545 (gw B wp_41) wd_1543 (by decide) rfl (fun h => (gd_ne h).1) (c10_grandparentOf X l a0 x5 M) (by decide) (by decide) (by decide) rfl (by decide) dX10_cousinsOf_44 rfl (fun v_3 => ?_)
        refine g_iload_n B dX10_cousinsOf_47 2 rfl ?_
        refine g_icmp_ne B 76 dX10_cousinsOf_48 (by decide) ?_ ?_
        · refine g_aload_n B dX10_cousinsOf_51 0 rfl ?_
          refine g_getR (ci := 9) (T0 := TX10) (N := 1) B (by decide) rfl in_9 (k := 0) (by decide) rfl wd_378 (fun _ h => h) dX10_cousinsOf_52 (fun v_4 => ?_)
          refine g_iload B dX10_cousinsOf_55 4 rfl ?_
          refine g_callV_ap [.int x5] (ci := 2) (T0 := TX2) (N := 11) B hS9 mf2_at wd_466 (gw B wd_467) wd_638 (by decide) rfl (fun h => (gd_ne h).1) (c2_at X l v_4 x5 M) (by decide) (by decide) (by decide) rfl (by decide) dX10_cousinsOf_57 rfl (fun v_5 => ?_)
          refine g_getI (ci := 8) (T0 := TX8) (N := 9) B (by decide) rfl in_8 (k := 3) (by decide) rfl wd_69 (fun _ h => h) dX10_cousinsOf_60 (fun v_6 => ?_)
          refine g_iload_n B dX10_cousinsOf_63 1 rfl ?_
          refine g_icmp_eq B 76 dX10_cousinsOf_64 (by decide) ?_ ?_
          · refine g_sub (lv' := [(0, .ref a0), (2, .int x2), (3, .int x3), (4, .int x4), (5, .int x5)]) [0, 1, 2, 3, 4] rfl ?_
            exact g10_cousinsOf_J76 B hS9 hr (p10_cousinsOf_L24 M n) ih a0 x2 x3 x4 x5
          · refine g_iload B dX10_cousinsOf_67 3 rfl ?_
            refine g_iconst (v := 1) B dX10_cousinsOf_69 (by decide) ?_
            refine g_iload B dX10_cousinsOf_70 4 rfl ?_
            refine g_ishl B dX10_cousinsOf_72 ?_
            refine g_ior B dX10_cousinsOf_73 ?_
            refine g_istore (lv' := [(4, .int (x4 ||| ((1 : Int32) <<< (x5 &&& 31)))), (0, .ref a0), (2, .int x2), (3, .int x3), (5, .int x5)]) B dX10_cousinsOf_74 (by decide) [0, 1, 2, 3, 4] rfl ?_
            refine g_sub (lv' := [(0, .ref a0), (2, .int x2), (3, .int x3), (4, .int (x4 ||| ((1 : Int32) <<< (x5 &&& 31)))), (5, .int x5)]) [1, 2, 3, 0, 4] rfl ?_
            exact g10_cousinsOf_J76 B hS9 hr (p10_cousinsOf_L24 M n) ih a0 x2 x3 (x4 ||| ((1 : Int32) <<< (x5 &&& 31))) x5
        · refine g_sub (lv' := [(0, .ref a0), (2, .int x2), (3, .int x3), (4, .int x4), (5, .int x5)]) [0, 1, 2, 3, 4] rfl ?_
          exact g10_cousinsOf_J76 B hS9 hr (p10_cousinsOf_L24 M n) ih a0 x2 x3 x4 x5
    · refine g_iload B dX10_cousinsOf_82 3 rfl ?_
      exact g_ireturn B hr rfl (by decide) (by decide) rfl dX10_cousinsOf_84
set_option maxRecDepth 20000 in
set_option maxHeartbeats 2000000 in
theorem g10_cousinsOf {X : gX} {p : Program} {l : Launch} {e : Env} {s : State} {m : MethodId} {args : Array Value} {below : List Frame} {meth : Method} {c : Code} (B : gB X p (rm10_cousinsOf) s m args meth c RX10 cX10_cousinsOf 6 (rm10_cousinsOf)) (hS9 : gS X s) (hr : meth.sig.returnType = some .int) {M : mMem} (a0 : Nat) (x1 : Int32) : GG X p l e (rm10_cousinsOf) s m args below meth c (gP X below args s 0 0 (fun r9 : Int32 => (some (.int r9), M))) 6 0 0 0 [(0, .ref a0), (1, .int x1)] [] M (p10_cousinsOf a0 x1 M) := by
  unfold p10_cousinsOf
  refine g_gd ?_
  refine g_aload_n B dX10_cousinsOf_0 0 rfl ?_
  refine g_getR (ci := 9) (T0 := TX10) (N := 1) B (by decide) rfl in_9 (k := 0) (by decide) rfl wd_378 (fun _ h => h) dX10_cousinsOf_1 (fun v_1 => ?_)
  refine g_iload_n B dX10_cousinsOf_4 1 rfl ?_
  refine g_callV_ap [.int x1] (ci := 2) (T0 := TX2) (N := 11) B hS9 mf2_at wd_466 (gw B wd_467) wd_638 (by decide) rfl (fun h => (gd_ne h).1) (c2_at X l v_1 x1 M) (by decide) (by decide) (by decide) rfl (by decide) dX10_cousinsOf_5 rfl (fun v_2 => ?_)
  refine g_getI (ci := 8) (T0 := TX8) (N := 9) B (by decide) rfl in_8 (k := 3) (by decide) rfl wd_69 (fun _ h => h) dX10_cousinsOf_8 (fun v_3 => ?_)
  refine g_istore_n (lv' := [(2, .int v_3), (0, .ref a0), (1, .int x1)]) B dX10_cousinsOf_11 (by decide) [0, 1, 2] rfl ?_
  refine g_aload_n B dX10_cousinsOf_12 1 rfl ?_
  refine g_iload_n B dX10_cousinsOf_13 2 rfl ?_
  refine g_callV_ip [.int x1] (ci := 9) (T0 := TX10) (N := 1) B hS9 mf10_grandparentOf wd_1545 (gw B wp_41) wd_1543 (by decide) rfl (fun h => (gd_ne h).1) (c10_grandparentOf X l a0 x1 M) (by decide) (by decide) (by decide) rfl (by decide) dX10_cousinsOf_14 rfl (fun v_4 => ?_)
  refine g_istore_n (lv' := [(3, .int v_4), (2, .int v_3), (0, .ref a0), (1, .int x1)]) B dX10_cousinsOf_17 (by decide) [0, 1, 2, 3] rfl ?_
  refine g_iconst (v := 0) B dX10_cousinsOf_18 (by decide) ?_
  refine g_istore (lv' := [(4, .int 0), (3, .int v_4), (2, .int v_3), (0, .ref a0), (1, .int x1)]) B dX10_cousinsOf_19 (by decide) [0, 1, 2, 3, 4] rfl ?_
  refine g_iconst (v := 0) B dX10_cousinsOf_21 (by decide) ?_
  refine g_istore (lv' := [(5, .int 0), (4, .int 0), (3, .int v_4), (2, .int v_3), (0, .ref a0), (1, .int x1)]) B dX10_cousinsOf_22 (by decide) [0, 1, 2, 3, 4, 5] rfl ?_
  refine g_sub (lv' := [(0, .ref a0), (2, .int v_3), (3, .int v_4), (4, .int 0), (5, .int 0)]) [4, 3, 2, 1, 0] rfl ?_
  exact (g10_cousinsOf_L24 B hS9 hr) gF a0 v_3 v_4 0 0
theorem c10_cousinsOf (X : gX) (l : Launch) (a0 : Nat) (x1 : Int32) (M : mMem) : Con X l yX10_cousinsOf cX10_cousinsOf 6 (some .int) rm10_cousinsOf (fun r9 : Int32 => (some (.int r9), M)) [.ref a0, .int x1] M (p10_cousinsOf a0 x1 M) := g_con (own := RX10) (by decide +kernel) rfl (Nat.le_of_ble_eq_true rfl) (fun p e s m args below meth c B hS9 hr hn => g10_cousinsOf B hS9 hr a0 x1)
theorem mf10_gainOfOne : gMF yX10_gainOfOne cX10_gainOfOne 3 (some .int) 3 := ⟨wd_1490, wd_12, ⟨by decide, by decide⟩, by decide +kernel⟩
set_option maxRecDepth 20000 in
set_option maxHeartbeats 2000000 in
theorem g10_gainOfOne_J16 {X : gX} {p : Program} {l : Launch} {e : Env} {s : State} {m : MethodId} {args : Array Value} {below : List Frame} {meth : Method} {c : Code} (B : gB X p (rm10_gainOfOne) s m args meth c RX10 cX10_gainOfOne 3 (rm10_gainOfOne)) (hS9 : gS X s) (hr : meth.sig.returnType = some .int) {M : mMem} (u0 : Int32) : GG X p l e (rm10_gainOfOne) s m args below meth c (gP X below args s 0 0 (fun r9 : Int32 => (some (.int r9), M))) 3 0 0 16 [] [.int u0] M (p10_gainOfOne_J16 M u0) := by
  unfold p10_gainOfOne_J16
  exact g_ireturn B hr rfl (by decide) (by decide) rfl dX10_gainOfOne_16
set_option maxRecDepth 20000 in
set_option maxHeartbeats 2000000 in
theorem g10_gainOfOne {X : gX} {p : Program} {l : Launch} {e : Env} {s : State} {m : MethodId} {args : Array Value} {below : List Frame} {meth : Method} {c : Code} (B : gB X p (rm10_gainOfOne) s m args meth c RX10 cX10_gainOfOne 3 (rm10_gainOfOne)) (hS9 : gS X s) (hr : meth.sig.returnType = some .int) {M : mMem} (x0 : Int32) (x1 : Int32) (x2 : Int32) : GG X p l e (rm10_gainOfOne) s m args below meth c (gP X below args s 0 0 (fun r9 : Int32 => (some (.int r9), M))) 3 0 0 0 [(0, .int x0), (1, .int x1), (2, .int x2)] [] M (p10_gainOfOne x0 x1 x2 M) := by
  unfold p10_gainOfOne
  refine g_iload_n B dX10_gainOfOne_0 1 rfl ?_
  refine g_iconst (v := 1) B dX10_gainOfOne_1 (by decide) ?_
  refine g_icmp_ne B 7 dX10_gainOfOne_2 (by decide) ?_ ?_
  · refine g_iload_n B dX10_gainOfOne_5 0 rfl ?_
    exact g_ireturn B hr rfl (by decide) (by decide) rfl dX10_gainOfOne_6
  · refine g_iload_n B dX10_gainOfOne_7 0 rfl ?_
    refine g_if_ne B 15 dX10_gainOfOne_8 (by decide) ?_ ?_
    · refine g_iload_n B dX10_gainOfOne_11 2 rfl ?_
      refine g_goto B 16 dX10_gainOfOne_12 (by decide) ?_
      refine g_sub (lv' := []) [] rfl ?_
      exact g10_gainOfOne_J16 B hS9 hr x2
    · refine g_iconst (v := (-1)) B dX10_gainOfOne_15 (by decide) ?_
      refine g_sub (lv' := []) [] rfl ?_
      exact g10_gainOfOne_J16 B hS9 hr (-1)
theorem c10_gainOfOne (X : gX) (l : Launch) (x0 : Int32) (x1 : Int32) (x2 : Int32) (M : mMem) : Con X l yX10_gainOfOne cX10_gainOfOne 3 (some .int) rm10_gainOfOne (fun r9 : Int32 => (some (.int r9), M)) [.int x0, .int x1, .int x2] M (p10_gainOfOne x0 x1 x2 M) := g_con (own := RX10) (by decide +kernel) rfl (Nat.le_of_ble_eq_true rfl) (fun p e s m args below meth c B hS9 hr hn => g10_gainOfOne B hS9 hr x0 x1 x2)
theorem mf10_gainOfOther : gMF yX10_gainOfOther cX10_gainOfOther 4 (some .int) 4 := ⟨wd_1493, wd_12, ⟨by decide, by decide⟩, by decide +kernel⟩
set_option maxRecDepth 20000 in
set_option maxHeartbeats 2000000 in
theorem g10_gainOfOther_J17 {X : gX} {p : Program} {l : Launch} {e : Env} {s : State} {m : MethodId} {args : Array Value} {below : List Frame} {meth : Method} {c : Code} (B : gB X p (rm10_gainOfOther) s m args meth c RX10 cX10_gainOfOther 4 (rm10_gainOfOther)) (hS9 : gS X s) (hr : meth.sig.returnType = some .int) {M : mMem} (u0 : Int32) : GG X p l e (rm10_gainOfOther) s m args below meth c (gP X below args s 0 0 (fun r9 : Int32 => (some (.int r9), M))) 4 0 0 17 [] [.int u0] M (p10_gainOfOther_J17 M u0) := by
  unfold p10_gainOfOther_J17
  exact g_ireturn B hr rfl (by decide) (by decide) rfl dX10_gainOfOther_17
set_option maxRecDepth 20000 in
set_option maxHeartbeats 2000000 in
theorem g10_gainOfOther {X : gX} {p : Program} {l : Launch} {e : Env} {s : State} {m : MethodId} {args : Array Value} {below : List Frame} {meth : Method} {c : Code} (B : gB X p (rm10_gainOfOther) s m args meth c RX10 cX10_gainOfOther 4 (rm10_gainOfOther)) (hS9 : gS X s) (hr : meth.sig.returnType = some .int) {M : mMem} (x0 : Int32) (x1 : Int32) (x2 : Int32) (x3 : Int32) : GG X p l e (rm10_gainOfOther) s m args below meth c (gP X below args s 0 0 (fun r9 : Int32 => (some (.int r9), M))) 4 0 0 0 [(0, .int x0), (1, .int x1), (2, .int x2), (3, .int x3)] [] M (p10_gainOfOther x0 x1 x2 x3 M) := by
  unfold p10_gainOfOther
  refine g_iload_n B dX10_gainOfOther_0 1 rfl ?_
  refine g_iconst (v := 1) B dX10_gainOfOther_1 (by decide) ?_
  refine g_icmp_ne B 7 dX10_gainOfOther_2 (by decide) ?_ ?_
  · refine g_iconst (v := 0) B dX10_gainOfOther_5 (by decide) ?_
    exact g_ireturn B hr rfl (by decide) (by decide) rfl dX10_gainOfOther_6
  · refine g_iload_n B dX10_gainOfOther_7 0 rfl ?_
    refine g_if_ne B 16 dX10_gainOfOther_8 (by decide) ?_ ?_
    · refine g_iload_n B dX10_gainOfOther_11 2 rfl ?_
      refine g_ineg B dX10_gainOfOther_12 ?_
      refine g_goto B 17 dX10_gainOfOther_13 (by decide) ?_
      refine g_sub (lv' := []) [] rfl ?_
      exact g10_gainOfOther_J17 B hS9 hr (-x2)
    · refine g_iload_n B dX10_gainOfOther_16 3 rfl ?_
      refine g_sub (lv' := []) [] rfl ?_
      exact g10_gainOfOther_J17 B hS9 hr x3
theorem c10_gainOfOther (X : gX) (l : Launch) (x0 : Int32) (x1 : Int32) (x2 : Int32) (x3 : Int32) (M : mMem) : Con X l yX10_gainOfOther cX10_gainOfOther 4 (some .int) rm10_gainOfOther (fun r9 : Int32 => (some (.int r9), M)) [.int x0, .int x1, .int x2, .int x3] M (p10_gainOfOther x0 x1 x2 x3 M) := g_con (own := RX10) (by decide +kernel) rfl (Nat.le_of_ble_eq_true rfl) (fun p e s m args below meth c B hS9 hr hn => g10_gainOfOther B hS9 hr x0 x1 x2 x3)
theorem mf10_restingChoices : gMF yX10_restingChoices cX10_restingChoices 7 (some .int) 3 := ⟨wd_1487, wd_12, ⟨by decide, by decide⟩, by decide +kernel⟩
set_option maxRecDepth 20000 in
set_option maxHeartbeats 2000000 in
theorem g10_restingChoices_J79 {X : gX} {p : Program} {l : Launch} {e : Env} {s : State} {m : MethodId} {args : Array Value} {below : List Frame} {meth : Method} {c : Code} (B : gB X p (rm10_restingChoices) s m args meth c RX10 cX10_restingChoices 7 (rm10_restingChoices)) (hS9 : gS X s) (hr : meth.sig.returnType = some .int) {M : mMem} (rec15 : Int32 → Int32 → Int32 → Int32 → Int32 → Int32 → Option Int32) (hrec15 : ∀ (x1 : Int32) (x2 : Int32) (x3 : Int32) (x4 : Int32) (x5 : Int32) (x6 : Int32), GG X p l e (rm10_restingChoices) s m args below meth c (gP X below args s 0 0 (fun r9 : Int32 => (some (.int r9), M))) 7 0 0 15 [(1, .int x1), (2, .int x2), (3, .int x3), (4, .int x4), (5, .int x5), (6, .int x6)] [] M (rec15 x1 x2 x3 x4 x5 x6)) (x1 : Int32) (x2 : Int32) (x3 : Int32) (x4 : Int32) (x5 : Int32) (x6 : Int32) : GG X p l e (rm10_restingChoices) s m args below meth c (gP X below args s 0 0 (fun r9 : Int32 => (some (.int r9), M))) 7 0 0 79 [(1, .int x1), (2, .int x2), (3, .int x3), (4, .int x4), (5, .int x5), (6, .int x6)] [] M (p10_restingChoices_J79 M rec15 x1 x2 x3 x4 x5 x6) := by
  unfold p10_restingChoices_J79
  refine g_iinc (v := (x6 + 1)) (lv' := [(6, .int (x6 + 1)), (1, .int x1), (2, .int x2), (3, .int x3), (4, .int x4), (5, .int x5)]) B dX10_restingChoices_79 5 rfl rfl (by decide) [0, 1, 2, 3, 4, 5] rfl ?_
  refine g_goto B 15 dX10_restingChoices_82 (by decide) ?_
  refine g_sub (lv' := [(1, .int x1), (2, .int x2), (3, .int x3), (4, .int x4), (5, .int x5), (6, .int (x6 + 1))]) [1, 2, 3, 4, 5, 0] rfl ?_
  exact hrec15 x1 x2 x3 x4 x5 (x6 + 1)
set_option maxRecDepth 20000 in
set_option maxHeartbeats 2000000 in
theorem g10_restingChoices_L15 {X : gX} {p : Program} {l : Launch} {e : Env} {s : State} {m : MethodId} {args : Array Value} {below : List Frame} {meth : Method} {c : Code} (B : gB X p (rm10_restingChoices) s m args meth c RX10 cX10_restingChoices 7 (rm10_restingChoices)) (hS9 : gS X s) (hr : meth.sig.returnType = some .int) {M : mMem} (k85 : Int32 → Int32 → Int32 → Int32 → Int32 → Option Int32) (hk85 : ∀ (x1 : Int32) (x2 : Int32) (x3 : Int32) (x4 : Int32) (x5 : Int32), GG X p l e (rm10_restingChoices) s m args below meth c (gP X below args s 0 0 (fun r9 : Int32 => (some (.int r9), M))) 7 0 0 85 [(1, .int x1), (2, .int x2), (3, .int x3), (4, .int x4), (5, .int x5)] [] M (k85 x1 x2 x3 x4 x5)) : ∀ (n : Nat) (x1 : Int32) (x2 : Int32) (x3 : Int32) (x4 : Int32) (x5 : Int32) (x6 : Int32), GG X p l e (rm10_restingChoices) s m args below meth c (gP X below args s 0 0 (fun r9 : Int32 => (some (.int r9), M))) 7 0 0 15 [(1, .int x1), (2, .int x2), (3, .int x3), (4, .int x4), (5, .int x5), (6, .int x6)] [] M (p10_restingChoices_L15 M k85 n x1 x2 x3 x4 x5 x6) := by
  intro n
  induction n with
  | zero => intro x1 x2 x3 x4 x5 x6; exact g_none
  | succ n ih =>
    intro x1 x2 x3 x4 x5 x6
    rw [p10_restingChoices_L15]
    refine g_iload B dX10_restingChoices_15 5 rfl ?_
    refine g_iconst (v := 2) B dX10_restingChoices_17 (by decide) ?_
    refine g_icmp_ge B 85 dX10_restingChoices_18 (by decide) ?_ ?_
    · refine g_iconst (v := 1) B dX10_restingChoices_21 (by decide) ?_
      refine g_iload B dX10_restingChoices_22 4 rfl ?_
      refine g_isub B dX10_restingChoices_24 ?_
      refine g_iload B dX10_restingChoices_25 5 rfl ?_
      refine g_iload_n B dX10_restingChoices_27 0 rfl ?_
      refine g_callS_ip [.int ((1 : Int32) - x5), .int x6, .int x1] B hS9 mf10_gainOfOne wd_1489 wd_1488 (c10_gainOfOne X l ((1 : Int32) - x5) x6 x1 M) (by decide) (by decide) (by decide) rfl (by decide) dX10_restingChoices_28 rfl (fun v_1 => ?_)
      refine g_iload B dX10_restingChoices_31 4 rfl ?_
      refine g_iload B dX10_restingChoices_33 5 rfl ?_
      refine g_iload_n B dX10_restingChoices_35 0 rfl ?_
      refine g_callS_ip [.int x5, .int x6, .int x1] B hS9 mf10_gainOfOne wd_1489 wd_1488 (c10_gainOfOne X l x5 x6 x1 M) (by decide) (by decide) (by decide) rfl (Nat.le_of_ble_eq_true rfl) dX10_restingChoices_36 rfl (fun v_2 => ?_)
      refine g_icmp_gt B 79 dX10_restingChoices_39 (by decide) ?_ ?_
      · refine g_sub (lv' := [(1, .int x1), (2, .int x2), (3, .int x3), (4, .int x4), (5, .int x5), (6, .int x6)]) [0, 1, 2, 3, 4, 5] rfl ?_
        exact g10_restingChoices_J79 B hS9 hr (p10_restingChoices_L15 M k85 n) ih x1 x2 x3 x4 x5 x6
      · refine g_iload B dX10_restingChoices_42 4 rfl ?_
        refine g_iconst (v := 1) B dX10_restingChoices_44 (by decide) ?_
        refine g_iload B dX10_restingChoices_45 5 rfl ?_
        refine g_isub B dX10_restingChoices_47 ?_
        refine g_iload_n B dX10_restingChoices_48 1 rfl ?_
        refine g_iload_n B dX10_restingChoices_49 2 rfl ?_
        refine g_callS_ip [.int x5, .int ((1 : Int32) - x6), .int x2, .int x3] B hS9 mf10_gainOfOther wd_1492 wd_1491 (c10_gainOfOther X l x5 ((1 : Int32) - x6) x2 x3 M) (by decide) (by decide) (by decide) rfl (by decide) dX10_restingChoices_50 rfl (fun v_3 => ?_)
        refine g_iload B dX10_restingChoices_53 4 rfl ?_
        refine g_iload B dX10_restingChoices_55 5 rfl ?_
        refine g_iload_n B dX10_restingChoices_57 1 rfl ?_
        refine g_iload_n B dX10_restingChoices_58 2 rfl ?_
        refine g_callS_ip [.int x5, .int x6, .int x2, .int x3] B hS9 mf10_gainOfOther wd_1492 wd_1491 (c10_gainOfOther X l x5 x6 x2 x3 M) (by decide) (by decide) (by decide) rfl (Nat.le_of_ble_eq_true rfl) dX10_restingChoices_59 rfl (fun v_4 => ?_)
        refine g_icmp_gt B 79 dX10_restingChoices_62 (by decide) ?_ ?_
        · refine g_sub (lv' := [(1, .int x1), (2, .int x2), (3, .int x3), (4, .int x4), (5, .int x5), (6, .int x6)]) [0, 1, 2, 3, 4, 5] rfl ?_
          exact g10_restingChoices_J79 B hS9 hr (p10_restingChoices_L15 M k85 n) ih x1 x2 x3 x4 x5 x6
        · refine g_iload B dX10_restingChoices_65 3 rfl ?_
          refine g_iconst (v := 1) B dX10_restingChoices_67 (by decide) ?_
          refine g_iconst (v := 2) B dX10_restingChoices_68 (by decide) ?_
          refine g_iload B dX10_restingChoices_69 4 rfl ?_
          refine g_imul B dX10_restingChoices_71 ?_
          refine g_iload B dX10_restingChoices_72 5 rfl ?_
          refine g_iadd B dX10_restingChoices_74 ?_
          refine g_ishl B dX10_restingChoices_75 ?_
          refine g_ior B dX10_restingChoices_76 ?_
          refine g_istore (lv' := [(4, .int (x4 ||| ((1 : Int32) <<< ((((2 : Int32) * x5) + x6) &&& 31)))), (1, .int x1), (2, .int x2), (3, .int x3), (5, .int x5), (6, .int x6)]) B dX10_restingChoices_77 (by decide) [0, 1, 2, 3, 4, 5] rfl ?_
          refine g_sub (lv' := [(1, .int x1), (2, .int x2), (3, .int x3), (4, .int (x4 ||| ((1 : Int32) <<< ((((2 : Int32) * x5) + x6) &&& 31)))), (5, .int x5), (6, .int x6)]) [1, 2, 3, 0, 4, 5] rfl ?_
          exact g10_restingChoices_J79 B hS9 hr (p10_restingChoices_L15 M k85 n) ih x1 x2 x3 (x4 ||| ((1 : Int32) <<< ((((2 : Int32) * x5) + x6) &&& 31))) x5 x6
    · refine g_sub (lv' := [(1, .int x1), (2, .int x2), (3, .int x3), (4, .int x4), (5, .int x5)]) [0, 1, 2, 3, 4] rfl ?_
      exact hk85 x1 x2 x3 x4 x5
set_option maxRecDepth 20000 in
set_option maxHeartbeats 2000000 in
theorem g10_restingChoices_J85 {X : gX} {p : Program} {l : Launch} {e : Env} {s : State} {m : MethodId} {args : Array Value} {below : List Frame} {meth : Method} {c : Code} (B : gB X p (rm10_restingChoices) s m args meth c RX10 cX10_restingChoices 7 (rm10_restingChoices)) (hS9 : gS X s) (hr : meth.sig.returnType = some .int) {M : mMem} (rec6 : Int32 → Int32 → Int32 → Int32 → Int32 → Option Int32) (hrec6 : ∀ (x1 : Int32) (x2 : Int32) (x3 : Int32) (x4 : Int32) (x5 : Int32), GG X p l e (rm10_restingChoices) s m args below meth c (gP X below args s 0 0 (fun r9 : Int32 => (some (.int r9), M))) 7 0 0 6 [(1, .int x1), (2, .int x2), (3, .int x3), (4, .int x4), (5, .int x5)] [] M (rec6 x1 x2 x3 x4 x5)) (x1 : Int32) (x2 : Int32) (x3 : Int32) (x4 : Int32) (x5 : Int32) : GG X p l e (rm10_restingChoices) s m args below meth c (gP X below args s 0 0 (fun r9 : Int32 => (some (.int r9), M))) 7 0 0 85 [(1, .int x1), (2, .int x2), (3, .int x3), (4, .int x4), (5, .int x5)] [] M (p10_restingChoices_J85 M rec6 x1 x2 x3 x4 x5) := by
  unfold p10_restingChoices_J85
  refine g_iinc (v := (x5 + 1)) (lv' := [(5, .int (x5 + 1)), (1, .int x1), (2, .int x2), (3, .int x3), (4, .int x4)]) B dX10_restingChoices_85 4 rfl rfl (by decide) [0, 1, 2, 3, 4] rfl ?_
  refine g_goto B 6 dX10_restingChoices_88 (by decide) ?_
  refine g_sub (lv' := [(1, .int x1), (2, .int x2), (3, .int x3), (4, .int x4), (5, .int (x5 + 1))]) [1, 2, 3, 4, 0] rfl ?_
  exact hrec6 x1 x2 x3 x4 (x5 + 1)
set_option maxRecDepth 20000 in
set_option maxHeartbeats 2000000 in
theorem g10_restingChoices_L6 {X : gX} {p : Program} {l : Launch} {e : Env} {s : State} {m : MethodId} {args : Array Value} {below : List Frame} {meth : Method} {c : Code} (B : gB X p (rm10_restingChoices) s m args meth c RX10 cX10_restingChoices 7 (rm10_restingChoices)) (hS9 : gS X s) (hr : meth.sig.returnType = some .int) {M : mMem} : ∀ (n : Nat) (x1 : Int32) (x2 : Int32) (x3 : Int32) (x4 : Int32) (x5 : Int32), GG X p l e (rm10_restingChoices) s m args below meth c (gP X below args s 0 0 (fun r9 : Int32 => (some (.int r9), M))) 7 0 0 6 [(1, .int x1), (2, .int x2), (3, .int x3), (4, .int x4), (5, .int x5)] [] M (p10_restingChoices_L6 M n x1 x2 x3 x4 x5) := by
  intro n
  induction n with
  | zero => intro x1 x2 x3 x4 x5; exact g_none
  | succ n ih =>
    intro x1 x2 x3 x4 x5
    rw [p10_restingChoices_L6]
    refine g_iload B dX10_restingChoices_6 4 rfl ?_
    refine g_iconst (v := 2) B dX10_restingChoices_8 (by decide) ?_
    refine g_icmp_ge B 91 dX10_restingChoices_9 (by decide) ?_ ?_
    · refine g_iconst (v := 0) B dX10_restingChoices_12 (by decide) ?_
      refine g_istore (lv' := [(6, .int 0), (1, .int x1), (2, .int x2), (3, .int x3), (4, .int x4), (5, .int x5)]) B dX10_restingChoices_13 (by decide) [0, 1, 2, 3, 4, 5] rfl ?_
      refine g_sub (lv' := [(1, .int x1), (2, .int x2), (3, .int x3), (4, .int x4), (5, .int x5), (6, .int 0)]) [1, 2, 3, 4, 5, 0] rfl ?_
      exact (g10_restingChoices_L15 B hS9 hr (p10_restingChoices_J85 M (p10_restingChoices_L6 M n)) (fun e0 e1 e2 e3 e4 => g10_restingChoices_J85 B hS9 hr (p10_restingChoices_L6 M n) ih e0 e1 e2 e3 e4)) gF x1 x2 x3 x4 x5 0
    · refine g_iload B dX10_restingChoices_91 3 rfl ?_
      exact g_ireturn B hr rfl (by decide) (by decide) rfl dX10_restingChoices_93
set_option maxRecDepth 20000 in
set_option maxHeartbeats 2000000 in
theorem g10_restingChoices {X : gX} {p : Program} {l : Launch} {e : Env} {s : State} {m : MethodId} {args : Array Value} {below : List Frame} {meth : Method} {c : Code} (B : gB X p (rm10_restingChoices) s m args meth c RX10 cX10_restingChoices 7 (rm10_restingChoices)) (hS9 : gS X s) (hr : meth.sig.returnType = some .int) {M : mMem} (a0 : Nat) (x1 : Int32) (x2 : Int32) (x3 : Int32) : GG X p l e (rm10_restingChoices) s m args below meth c (gP X below args s 0 0 (fun r9 : Int32 => (some (.int r9), M))) 7 0 0 0 [(0, .ref a0), (1, .int x1), (2, .int x2), (3, .int x3)] [] M (p10_restingChoices a0 x1 x2 x3 M) := by
  unfold p10_restingChoices
  refine g_gd ?_
  refine g_iconst (v := 0) B dX10_restingChoices_0 (by decide) ?_
  refine g_istore (lv' := [(4, .int 0), (0, .ref a0), (1, .int x1), (2, .int x2), (3, .int x3)]) B dX10_restingChoices_1 (by decide) [0, 1, 2, 3, 4] rfl ?_
  refine g_iconst (v := 0) B dX10_restingChoices_3 (by decide) ?_
  refine g_istore (lv' := [(5, .int 0), (4, .int 0), (0, .ref a0), (1, .int x1), (2, .int x2), (3, .int x3)]) B dX10_restingChoices_4 (by decide) [0, 1, 2, 3, 4, 5] rfl ?_
  refine g_sub (lv' := [(1, .int x1), (2, .int x2), (3, .int x3), (4, .int 0), (5, .int 0)]) [3, 4, 5, 1, 0] rfl ?_
  exact (g10_restingChoices_L6 B hS9 hr) gF x1 x2 x3 0 0
theorem c10_restingChoices (X : gX) (l : Launch) (a0 : Nat) (x1 : Int32) (x2 : Int32) (x3 : Int32) (M : mMem) : Con X l yX10_restingChoices cX10_restingChoices 7 (some .int) rm10_restingChoices (fun r9 : Int32 => (some (.int r9), M)) [.ref a0, .int x1, .int x2, .int x3] M (p10_restingChoices a0 x1 x2 x3 M) := g_con (own := RX10) (by decide +kernel) rfl (Nat.le_of_ble_eq_true rfl) (fun p e s m args below meth c B hS9 hr hn => g10_restingChoices B hS9 hr a0 x1 x2 x3)
theorem mf10_ways : gMF yX10_ways cX10_ways 2 (some .long) 2 := ⟨wd_1569, wd_12, ⟨by decide, by decide⟩, by decide +kernel⟩
set_option maxRecDepth 20000 in
set_option maxHeartbeats 2000000 in
theorem g10_ways_J15 {X : gX} {p : Program} {l : Launch} {e : Env} {s : State} {m : MethodId} {args : Array Value} {below : List Frame} {meth : Method} {c : Code} (B : gB X p (rm10_ways) s m args meth c RX10 cX10_ways 2 (rm10_ways)) (hS9 : gS X s) (hr : meth.sig.returnType = some .long) {M : mMem} (w0 : Int64) : GG X p l e (rm10_ways) s m args below meth c (gP X below args s 0 0 (fun r9 : Int64 => (some (.long r9), M))) 2 0 0 15 [] [.long w0] M (p10_ways_J15 M w0) := by
  unfold p10_ways_J15
  exact g_lreturn B hr (by decide) (by decide) rfl dX10_ways_15
set_option maxRecDepth 20000 in
set_option maxHeartbeats 2000000 in
theorem g10_ways_J9 {X : gX} {p : Program} {l : Launch} {e : Env} {s : State} {m : MethodId} {args : Array Value} {below : List Frame} {meth : Method} {c : Code} (B : gB X p (rm10_ways) s m args meth c RX10 cX10_ways 2 (rm10_ways)) (hS9 : gS X s) (hr : meth.sig.returnType = some .long) {M : mMem} : GG X p l e (rm10_ways) s m args below meth c (gP X below args s 0 0 (fun r9 : Int64 => (some (.long r9), M))) 2 0 0 9 [] [] M (p10_ways_J9 M) := by
  unfold p10_ways_J9
  refine g_lconst (v := 1) B dX10_ways_9 (by decide) ?_
  refine g_goto B 15 dX10_ways_10 (by decide) ?_
  refine g_sub (lv' := []) [] rfl ?_
  exact g10_ways_J15 B hS9 hr 1
set_option maxRecDepth 20000 in
set_option maxHeartbeats 2000000 in
theorem g10_ways {X : gX} {p : Program} {l : Launch} {e : Env} {s : State} {m : MethodId} {args : Array Value} {below : List Frame} {meth : Method} {c : Code} (B : gB X p (rm10_ways) s m args meth c RX10 cX10_ways 2 (rm10_ways)) (hS9 : gS X s) (hr : meth.sig.returnType = some .long) {M : mMem} (x0 : Int32) (x1 : Int32) : GG X p l e (rm10_ways) s m args below meth c (gP X below args s 0 0 (fun r9 : Int64 => (some (.long r9), M))) 2 0 0 0 [(0, .int x0), (1, .int x1)] [] M (p10_ways x0 x1 M) := by
  unfold p10_ways
  refine g_iload_n B dX10_ways_0 1 rfl ?_
  refine g_if_eq B 9 dX10_ways_1 (by decide) ?_ ?_
  · refine g_sub (lv' := []) [] rfl ?_
    exact g10_ways_J9 B hS9 hr
  · refine g_iload_n B dX10_ways_4 1 rfl ?_
    refine g_iload_n B dX10_ways_5 0 rfl ?_
    refine g_icmp_ne B 13 dX10_ways_6 (by decide) ?_ ?_
    · refine g_sub (lv' := []) [] rfl ?_
      exact g10_ways_J9 B hS9 hr
    · refine g_iload_n B dX10_ways_13 0 rfl ?_
      refine g_i2l B dX10_ways_14 ?_
      refine g_sub (lv' := []) [] rfl ?_
      exact g10_ways_J15 B hS9 hr (x0.toInt64)
theorem c10_ways (X : gX) (l : Launch) (x0 : Int32) (x1 : Int32) (M : mMem) : Con X l yX10_ways cX10_ways 2 (some .long) rm10_ways (fun r9 : Int64 => (some (.long r9), M)) [.int x0, .int x1] M (p10_ways x0 x1 M) := g_con (own := RX10) (by decide +kernel) rfl (Nat.le_of_ble_eq_true rfl) (fun p e s m args below meth c B hS9 hr hn => g10_ways B hS9 hr x0 x1)
theorem mf10_power : gMF yX10_power cX10_power 6 (some .long) 2 := ⟨wd_1572, wd_12, ⟨by decide, by decide⟩, by decide +kernel⟩
set_option maxRecDepth 20000 in
set_option maxHeartbeats 2000000 in
theorem g10_power_L5 {X : gX} {p : Program} {l : Launch} {e : Env} {s : State} {m : MethodId} {args : Array Value} {below : List Frame} {meth : Method} {c : Code} (B : gB X p (rm10_power) s m args meth c RX10 cX10_power 6 (rm10_power)) (hS9 : gS X s) (hr : meth.sig.returnType = some .long) {M : mMem} : ∀ (n : Nat) (y0 : Int64) (x2 : Int32) (y3 : Int64) (x5 : Int32), GG X p l e (rm10_power) s m args below meth c (gP X below args s 0 0 (fun r9 : Int64 => (some (.long r9), M))) 6 0 0 5 [(0, .long y0), (2, .int x2), (3, .long y3), (5, .int x5)] [] M (p10_power_L5 M n y0 x2 y3 x5) := by
  intro n
  induction n with
  | zero => intro y0 x2 y3 x5; exact g_none
  | succ n ih =>
    intro y0 x2 y3 x5
    rw [p10_power_L5]
    refine g_iload B dX10_power_5 3 rfl ?_
    refine g_iload_n B dX10_power_7 1 rfl ?_
    refine g_icmp_ge B 21 dX10_power_8 (by decide) ?_ ?_
    · refine g_lload_n B dX10_power_11 2 rfl ?_
      refine g_lload_n B dX10_power_12 0 rfl ?_
      refine g_lmul B dX10_power_13 ?_
      refine g_lstore_n (lv' := [(3, .long (y3 * y0)), (0, .long y0), (2, .int x2), (5, .int x5)]) B dX10_power_14 (by decide) [0, 1, 2, 3] rfl ?_
      refine g_iinc (v := (x5 + 1)) (lv' := [(5, .int (x5 + 1)), (3, .long (y3 * y0)), (0, .long y0), (2, .int x2)]) B dX10_power_15 3 rfl rfl (by decide) [0, 1, 2, 3] rfl ?_
      refine g_goto B 5 dX10_power_18 (by decide) ?_
      refine g_sub (lv' := [(0, .long y0), (2, .int x2), (3, .long (y3 * y0)), (5, .int (x5 + 1))]) [2, 3, 1, 0] rfl ?_
      exact ih y0 x2 (y3 * y0) (x5 + 1)
    · refine g_lload_n B dX10_power_21 2 rfl ?_
      exact g_lreturn B hr (by decide) (by decide) rfl dX10_power_22
set_option maxRecDepth 20000 in
set_option maxHeartbeats 2000000 in
theorem g10_power {X : gX} {p : Program} {l : Launch} {e : Env} {s : State} {m : MethodId} {args : Array Value} {below : List Frame} {meth : Method} {c : Code} (B : gB X p (rm10_power) s m args meth c RX10 cX10_power 6 (rm10_power)) (hS9 : gS X s) (hr : meth.sig.returnType = some .long) {M : mMem} (y0 : Int64) (x2 : Int32) : GG X p l e (rm10_power) s m args below meth c (gP X below args s 0 0 (fun r9 : Int64 => (some (.long r9), M))) 6 0 0 0 [(0, .long y0), (2, .int x2)] [] M (p10_power y0 x2 M) := by
  unfold p10_power
  refine g_lconst (v := 1) B dX10_power_0 (by decide) ?_
  refine g_lstore_n (lv' := [(3, .long 1), (0, .long y0), (2, .int x2)]) B dX10_power_1 (by decide) [0, 1, 2] rfl ?_
  refine g_iconst (v := 0) B dX10_power_2 (by decide) ?_
  refine g_istore (lv' := [(5, .int 0), (3, .long 1), (0, .long y0), (2, .int x2)]) B dX10_power_3 (by decide) [0, 1, 2, 3] rfl ?_
  refine g_sub (lv' := [(0, .long y0), (2, .int x2), (3, .long 1), (5, .int 0)]) [2, 3, 1, 0] rfl ?_
  exact (g10_power_L5 B hS9 hr) gF y0 x2 1 0
theorem c10_power (X : gX) (l : Launch) (y0 : Int64) (x2 : Int32) (M : mMem) : Con X l yX10_power cX10_power 6 (some .long) rm10_power (fun r9 : Int64 => (some (.long r9), M)) [.long y0, .int x2] M (p10_power y0 x2 M) := g_con (own := RX10) (by decide +kernel) rfl (Nat.le_of_ble_eq_true rfl) (fun p e s m args below meth c B hS9 hr hn => g10_power B hS9 hr y0 x2)
theorem mf10_chanceOfNo : gMF yX10_chanceOfNo cX10_chanceOfNo 16 (some .int) 3 := ⟨wd_1564, wd_12, ⟨by decide, by decide⟩, by decide +kernel⟩
set_option maxRecDepth 20000 in
set_option maxHeartbeats 2000000 in
theorem g10_chanceOfNo_J73 {X : gX} {p : Program} {l : Launch} {e : Env} {s : State} {m : MethodId} {args : Array Value} {below : List Frame} {meth : Method} {c : Code} (B : gB X p (rm10_chanceOfNo) s m args meth c RX10 cX10_chanceOfNo 16 (rm10_chanceOfNo)) (hS9 : gS X s) (hr : meth.sig.returnType = some .int) {M : mMem} (rec29 : Nat → Int32 → Int32 → Int32 → Int32 → Int64 → Int32 → Option Int32) (hrec29 : ∀ (a0 : Nat) (x1 : Int32) (x2 : Int32) (x3 : Int32) (x4 : Int32) (y5 : Int64) (x7 : Int32), GG X p l e (rm10_chanceOfNo) s m args below meth c (gP X below args s 0 0 (fun r9 : Int32 => (some (.int r9), M))) 16 0 0 29 [(0, .ref a0), (1, .int x1), (2, .int x2), (3, .int x3), (4, .int x4), (5, .long y5), (7, .int x7)] [] M (rec29 a0 x1 x2 x3 x4 y5 x7)) (a0 : Nat) (x1 : Int32) (x2 : Int32) (x3 : Int32) (x4 : Int32) (x7 : Int32) (w0 : Int64) (w1 : Int64) : GG X p l e (rm10_chanceOfNo) s m args below meth c (gP X below args s 0 0 (fun r9 : Int32 => (some (.int r9), M))) 16 0 0 73 [(0, .ref a0), (1, .int x1), (2, .int x2), (3, .int x3), (4, .int x4), (7, .int x7)] [.long w1, .long w0] M (p10_chanceOfNo_J73 M rec29 a0 x1 x2 x3 x4 x7 w0 w1) := by
  unfold p10_chanceOfNo_J73
  refine g_ladd B dX10_chanceOfNo_73 ?_
  refine g_lstore (lv' := [(5, .long (w0 + w1)), (0, .ref a0), (1, .int x1), (2, .int x2), (3, .int x3), (4, .int x4), (7, .int x7)]) B dX10_chanceOfNo_74 (by decide) [0, 1, 2, 3, 4, 5, 6] rfl ?_
  refine g_iinc (v := (x7 + 1)) (lv' := [(7, .int (x7 + 1)), (5, .long (w0 + w1)), (0, .ref a0), (1, .int x1), (2, .int x2), (3, .int x3), (4, .int x4)]) B dX10_chanceOfNo_76 6 rfl rfl (by decide) [0, 1, 2, 3, 4, 5, 6] rfl ?_
  refine g_goto B 29 dX10_chanceOfNo_79 (by decide) ?_
  refine g_sub (lv' := [(0, .ref a0), (1, .int x1), (2, .int x2), (3, .int x3), (4, .int x4), (5, .long (w0 + w1)), (7, .int (x7 + 1))]) [2, 3, 4, 5, 6, 1, 0] rfl ?_
  exact hrec29 a0 x1 x2 x3 x4 (w0 + w1) (x7 + 1)
set_option maxRecDepth 20000 in
set_option maxHeartbeats 2000000 in
theorem g10_chanceOfNo_L29 {X : gX} {p : Program} {l : Launch} {e : Env} {s : State} {m : MethodId} {args : Array Value} {below : List Frame} {meth : Method} {c : Code} (B : gB X p (rm10_chanceOfNo) s m args meth c RX10 cX10_chanceOfNo 16 (rm10_chanceOfNo)) (hS9 : gS X s) (hr : meth.sig.returnType = some .int) {M : mMem} (k82 : Nat → Int32 → Int32 → Int32 → Int32 → Int64 → Option Int32) (hk82 : ∀ (a0 : Nat) (x1 : Int32) (x2 : Int32) (x3 : Int32) (x4 : Int32) (y5 : Int64), GG X p l e (rm10_chanceOfNo) s m args below meth c (gP X below args s 0 0 (fun r9 : Int32 => (some (.int r9), M))) 16 0 0 82 [(0, .ref a0), (1, .int x1), (2, .int x2), (3, .int x3), (4, .int x4), (5, .long y5)] [] M (k82 a0 x1 x2 x3 x4 y5)) : ∀ (n : Nat) (a0 : Nat) (x1 : Int32) (x2 : Int32) (x3 : Int32) (x4 : Int32) (y5 : Int64) (x7 : Int32), GG X p l e (rm10_chanceOfNo) s m args below meth c (gP X below args s 0 0 (fun r9 : Int32 => (some (.int r9), M))) 16 0 0 29 [(0, .ref a0), (1, .int x1), (2, .int x2), (3, .int x3), (4, .int x4), (5, .long y5), (7, .int x7)] [] M (p10_chanceOfNo_L29 M k82 n a0 x1 x2 x3 x4 y5 x7) := by
  intro n
  induction n with
  | zero => intro a0 x1 x2 x3 x4 y5 x7; exact g_none
  | succ n ih =>
    intro a0 x1 x2 x3 x4 y5 x7
    rw [p10_chanceOfNo_L29]
    refine g_iload B dX10_chanceOfNo_29 6 rfl ?_
    refine g_aload_n B dX10_chanceOfNo_31 0 rfl ?_
    refine g_getR (ci := 9) (T0 := TX10) (N := 1) B (by decide) rfl in_9 (k := 0) (by decide) rfl wd_378 (fun _ h => h) dX10_chanceOfNo_32 (fun v_1 => ?_)
    refine g_getI (ci := 2) (T0 := TX2) (N := 11) B (by decide) rfl in_2 (k := 4) (by decide) rfl wd_140 (fun _ h => h) dX10_chanceOfNo_35 (fun v_2 => ?_)
    refine g_icmp_ge B 82 dX10_chanceOfNo_38 (by decide) ?_ ?_
    · refine g_lload B dX10_chanceOfNo_41 5 rfl ?_
      refine g_aload_n B dX10_chanceOfNo_43 0 rfl ?_
      refine g_getR (ci := 9) (T0 := TX10) (N := 1) B (by decide) rfl in_9 (k := 0) (by decide) rfl wd_378 (fun _ h => h) dX10_chanceOfNo_44 (fun v_3 => ?_)
      refine g_iload B dX10_chanceOfNo_47 6 rfl ?_
      refine g_iload_n B dX10_chanceOfNo_49 1 rfl ?_
      refine g_callV_ip [.int x7, .int x1] (ci := 2) (T0 := TX2) (N := 11) B hS9 mf2_governs wd_499 (gw B wd_500) wd_1476 (by decide) rfl (fun h => (gd_ne h).1) (c2_governs X l v_3 x7 x1 M) (by decide) (by decide) (by decide) rfl (Nat.le_of_ble_eq_true rfl) dX10_chanceOfNo_50 rfl (fun v_4 => ?_)
      refine g_if_eq B 72 dX10_chanceOfNo_53 (by decide) ?_ ?_
      · refine g_lconst (v := 0) B dX10_chanceOfNo_72 (by decide) ?_
        refine g_sub (lv' := [(0, .ref a0), (1, .int x1), (2, .int x2), (3, .int x3), (4, .int x4), (7, .int x7)]) [0, 1, 2, 3, 4, 6] rfl ?_
        exact g10_chanceOfNo_J73 B hS9 hr (p10_chanceOfNo_L29 M k82 n) ih a0 x1 x2 x3 x4 x7 y5 0
      · refine g_aload_n B dX10_chanceOfNo_56 0 rfl ?_
        refine g_getR (ci := 9) (T0 := TX10) (N := 1) B (by decide) rfl in_9 (k := 0) (by decide) rfl wd_378 (fun _ h => h) dX10_chanceOfNo_57 (fun v_5 => ?_)
        refine g_iload B dX10_chanceOfNo_60 6 rfl ?_
        refine g_callV_ap [.int x7] (ci := 2) (T0 := TX2) (N := 11) B hS9 mf2_at wd_466 (gw B wd_467) wd_638 (by decide) rfl (fun h => (gd_ne h).1) (c2_at X l v_5 x7 M) (by decide) (by decide) (by decide) rfl (Nat.le_of_ble_eq_true rfl) dX10_chanceOfNo_62 rfl (fun v_6 => ?_)
        refine g_getI (ci := 8) (T0 := TX8) (N := 9) B (by decide) rfl in_8 (k := 6) (by decide) rfl wd_87 (fun _ h => h) dX10_chanceOfNo_65 (fun v_7 => ?_)
        refine g_i2l B dX10_chanceOfNo_68 ?_
        refine g_goto B 73 dX10_chanceOfNo_69 (by decide) ?_
        refine g_sub (lv' := [(0, .ref a0), (1, .int x1), (2, .int x2), (3, .int x3), (4, .int x4), (7, .int x7)]) [0, 1, 2, 3, 4, 6] rfl ?_
        exact g10_chanceOfNo_J73 B hS9 hr (p10_chanceOfNo_L29 M k82 n) ih a0 x1 x2 x3 x4 x7 y5 (v_7.toInt64)
    · refine g_sub (lv' := [(0, .ref a0), (1, .int x1), (2, .int x2), (3, .int x3), (4, .int x4), (5, .long y5)]) [0, 1, 2, 3, 4, 5] rfl ?_
      exact hk82 a0 x1 x2 x3 x4 y5
set_option maxRecDepth 20000 in
set_option maxHeartbeats 2000000 in
theorem g10_chanceOfNo_L117 {X : gX} {p : Program} {l : Launch} {e : Env} {s : State} {m : MethodId} {args : Array Value} {below : List Frame} {meth : Method} {c : Code} (B : gB X p (rm10_chanceOfNo) s m args meth c RX10 cX10_chanceOfNo 16 (rm10_chanceOfNo)) (hS9 : gS X s) (hr : meth.sig.returnType = some .int) {M : mMem} (k136 : Int32 → Int32 → Int64 → Int64 → Int64 → Int64 → Option Int32) (hk136 : ∀ (x2 : Int32) (x3 : Int32) (y7 : Int64) (y9 : Int64) (y11 : Int64) (y13 : Int64), GG X p l e (rm10_chanceOfNo) s m args below meth c (gP X below args s 0 0 (fun r9 : Int32 => (some (.int r9), M))) 16 0 0 136 [(2, .int x2), (3, .int x3), (7, .long y7), (9, .long y9), (11, .long y11), (13, .long y13)] [] M (k136 x2 x3 y7 y9 y11 y13)) : ∀ (n : Nat) (x2 : Int32) (x3 : Int32) (y7 : Int64) (y9 : Int64) (y11 : Int64) (y13 : Int64) (x15 : Int32), GG X p l e (rm10_chanceOfNo) s m args below meth c (gP X below args s 0 0 (fun r9 : Int32 => (some (.int r9), M))) 16 0 0 117 [(2, .int x2), (3, .int x3), (7, .long y7), (9, .long y9), (11, .long y11), (13, .long y13), (15, .int x15)] [] M (p10_chanceOfNo_L117 M k136 n x2 x3 y7 y9 y11 y13 x15) := by
  intro n
  induction n with
  | zero => intro x2 x3 y7 y9 y11 y13 x15; exact g_none
  | succ n ih =>
    intro x2 x3 y7 y9 y11 y13 x15
    rw [p10_chanceOfNo_L117]
    refine g_iload B dX10_chanceOfNo_117 6 rfl ?_
    refine g_iload_n B dX10_chanceOfNo_119 0 rfl ?_
    refine g_icmp_ge B 136 dX10_chanceOfNo_120 (by decide) ?_ ?_
    · refine g_lload B dX10_chanceOfNo_123 5 rfl ?_
      refine g_lload B dX10_chanceOfNo_125 2 rfl ?_
      refine g_lmul B dX10_chanceOfNo_127 ?_
      refine g_lstore (lv' := [(13, .long (y13 * y7)), (2, .int x2), (3, .int x3), (7, .long y7), (9, .long y9), (11, .long y11), (15, .int x15)]) B dX10_chanceOfNo_128 (by decide) [0, 1, 2, 3, 4, 5, 6] rfl ?_
      refine g_iinc (v := (x15 + 1)) (lv' := [(15, .int (x15 + 1)), (13, .long (y13 * y7)), (2, .int x2), (3, .int x3), (7, .long y7), (9, .long y9), (11, .long y11)]) B dX10_chanceOfNo_130 6 rfl rfl (by decide) [0, 1, 2, 3, 4, 5, 6] rfl ?_
      refine g_goto B 117 dX10_chanceOfNo_133 (by decide) ?_
      refine g_sub (lv' := [(2, .int x2), (3, .int x3), (7, .long y7), (9, .long y9), (11, .long y11), (13, .long (y13 * y7)), (15, .int (x15 + 1))]) [2, 3, 4, 5, 6, 1, 0] rfl ?_
      exact ih x2 x3 y7 y9 y11 (y13 * y7) (x15 + 1)
    · refine g_sub (lv' := [(2, .int x2), (3, .int x3), (7, .long y7), (9, .long y9), (11, .long y11), (13, .long y13)]) [0, 1, 2, 3, 4, 5] rfl ?_
      exact hk136 x2 x3 y7 y9 y11 y13
set_option maxRecDepth 20000 in
set_option maxHeartbeats 2000000 in
theorem g10_chanceOfNo_L139 {X : gX} {p : Program} {l : Launch} {e : Env} {s : State} {m : MethodId} {args : Array Value} {below : List Frame} {meth : Method} {c : Code} (B : gB X p (rm10_chanceOfNo) s m args meth c RX10 cX10_chanceOfNo 16 (rm10_chanceOfNo)) (hS9 : gS X s) (hr : meth.sig.returnType = some .int) {M : mMem} (k183 : Int64 → Int64 → Option Int32) (hk183 : ∀ (y11 : Int64) (y13 : Int64), GG X p l e (rm10_chanceOfNo) s m args below meth c (gP X below args s 0 0 (fun r9 : Int32 => (some (.int r9), M))) 16 0 0 183 [(11, .long y11), (13, .long y13)] [] M (k183 y11 y13)) : ∀ (n : Nat) (x2 : Int32) (y7 : Int64) (y9 : Int64) (y11 : Int64) (y13 : Int64) (x15 : Int32), GG X p l e (rm10_chanceOfNo) s m args below meth c (gP X below args s 0 0 (fun r9 : Int32 => (some (.int r9), M))) 16 0 0 139 [(2, .int x2), (7, .long y7), (9, .long y9), (11, .long y11), (13, .long y13), (15, .int x15)] [] M (p10_chanceOfNo_L139 M k183 n x2 y7 y9 y11 y13 x15) := by
  intro n
  induction n with
  | zero => intro x2 y7 y9 y11 y13 x15; exact g_none
  | succ n ih =>
    intro x2 y7 y9 y11 y13 x15
    rw [p10_chanceOfNo_L139]
    refine g_iload B dX10_chanceOfNo_139 5 rfl ?_
    refine g_iload_n B dX10_chanceOfNo_141 0 rfl ?_
    refine g_icmp_gt B 183 dX10_chanceOfNo_142 (by decide) ?_ ?_
    · refine g_sub (lv' := [(11, .long y11), (13, .long y13)]) [3, 4] rfl ?_
      exact hk183 y11 y13
    · refine g_lload B dX10_chanceOfNo_145 3 rfl ?_
      refine g_iload_n B dX10_chanceOfNo_147 0 rfl ?_
      refine g_iload B dX10_chanceOfNo_148 5 rfl ?_
      refine g_callS_jp [.int x2, .int x15] B hS9 mf10_ways wd_1568 wd_1567 (c10_ways X l x2 x15 M) (by decide) (by decide) (by decide) rfl (Nat.le_of_ble_eq_true rfl) dX10_chanceOfNo_150 rfl (fun v_1 => ?_)
      refine g_lload B dX10_chanceOfNo_153 2 rfl ?_
      refine g_iload B dX10_chanceOfNo_155 5 rfl ?_
      refine g_callS_jp [.long y9, .int x15] B hS9 mf10_power wd_1571 wd_1570 (c10_power X l y9 x15 M) (by decide) (by decide) (by decide) rfl (Nat.le_of_ble_eq_true rfl) dX10_chanceOfNo_157 rfl (fun v_2 => ?_)
      refine g_lmul B dX10_chanceOfNo_160 ?_
      refine g_lload B dX10_chanceOfNo_161 1 rfl ?_
      refine g_lload B dX10_chanceOfNo_163 2 rfl ?_
      refine g_lsub B dX10_chanceOfNo_165 ?_
      refine g_iload_n B dX10_chanceOfNo_166 0 rfl ?_
      refine g_iload B dX10_chanceOfNo_167 5 rfl ?_
      refine g_isub B dX10_chanceOfNo_169 ?_
      refine g_callS_jp [.long (y7 - y9), .int (x2 - x15)] B hS9 mf10_power wd_1571 wd_1570 (c10_power X l (y7 - y9) (x2 - x15) M) (by decide) (by decide) (by decide) rfl (Nat.le_of_ble_eq_true rfl) dX10_chanceOfNo_170 rfl (fun v_3 => ?_)
      refine g_lmul B dX10_chanceOfNo_173 ?_
      refine g_ladd B dX10_chanceOfNo_174 ?_
      refine g_lstore (lv' := [(11, .long (y11 + ((v_1 * v_2) * v_3))), (2, .int x2), (7, .long y7), (9, .long y9), (13, .long y13), (15, .int x15)]) B dX10_chanceOfNo_175 (by decide) [0, 1, 2, 3, 4, 5] rfl ?_
      refine g_iinc (v := (x15 + 1)) (lv' := [(15, .int (x15 + 1)), (11, .long (y11 + ((v_1 * v_2) * v_3))), (2, .int x2), (7, .long y7), (9, .long y9), (13, .long y13)]) B dX10_chanceOfNo_177 5 rfl rfl (by decide) [0, 1, 2, 3, 4, 5] rfl ?_
      refine g_goto B 139 dX10_chanceOfNo_180 (by decide) ?_
      refine g_sub (lv' := [(2, .int x2), (7, .long y7), (9, .long y9), (11, .long (y11 + ((v_1 * v_2) * v_3))), (13, .long y13), (15, .int (x15 + 1))]) [2, 3, 4, 1, 5, 0] rfl ?_
      exact ih x2 y7 y9 (y11 + ((v_1 * v_2) * v_3)) y13 (x15 + 1)
set_option maxRecDepth 20000 in
set_option maxHeartbeats 2000000 in
theorem g10_chanceOfNo_J204 {X : gX} {p : Program} {l : Launch} {e : Env} {s : State} {m : MethodId} {args : Array Value} {below : List Frame} {meth : Method} {c : Code} (B : gB X p (rm10_chanceOfNo) s m args meth c RX10 cX10_chanceOfNo 16 (rm10_chanceOfNo)) (hS9 : gS X s) (hr : meth.sig.returnType = some .int) {M : mMem} (u0 : Int32) : GG X p l e (rm10_chanceOfNo) s m args below meth c (gP X below args s 0 0 (fun r9 : Int32 => (some (.int r9), M))) 16 0 0 204 [] [.int u0] M (p10_chanceOfNo_J204 M u0) := by
  unfold p10_chanceOfNo_J204
  exact g_ireturn B hr rfl (by decide) (by decide) rfl dX10_chanceOfNo_204
set_option maxRecDepth 20000 in
set_option maxHeartbeats 2000000 in
theorem g10_chanceOfNo_J183 {X : gX} {p : Program} {l : Launch} {e : Env} {s : State} {m : MethodId} {args : Array Value} {below : List Frame} {meth : Method} {c : Code} (B : gB X p (rm10_chanceOfNo) s m args meth c RX10 cX10_chanceOfNo 16 (rm10_chanceOfNo)) (hS9 : gS X s) (hr : meth.sig.returnType = some .int) {M : mMem} (y11 : Int64) (y13 : Int64) : GG X p l e (rm10_chanceOfNo) s m args below meth c (gP X below args s 0 0 (fun r9 : Int32 => (some (.int r9), M))) 16 0 0 183 [(11, .long y11), (13, .long y13)] [] M (p10_chanceOfNo_J183 M y11 y13) := by
  unfold p10_chanceOfNo_J183
  refine g_lload B dX10_chanceOfNo_183 1 rfl ?_
  refine g_lconst (v := 0) B dX10_chanceOfNo_185 (by decide) ?_
  refine g_lcmp B dX10_chanceOfNo_186 ?_
  refine g_if_le B 203 dX10_chanceOfNo_187 (by decide) ?_ ?_
  · refine g_ldc2 B dX10_chanceOfNo_190 wd_1566 ?_
    refine g_lload B dX10_chanceOfNo_193 0 rfl ?_
    refine g_lmul B dX10_chanceOfNo_195 ?_
    refine g_lload B dX10_chanceOfNo_196 1 rfl ?_
    refine g_ldiv B dX10_chanceOfNo_198 (fun v_1 => ?_)
    refine g_l2i B dX10_chanceOfNo_199 ?_
    refine g_goto B 204 dX10_chanceOfNo_200 (by decide) ?_
    refine g_sub (lv' := []) [] rfl ?_
    exact g10_chanceOfNo_J204 B hS9 hr (v_1.toInt32)
  · refine g_iconst (v := 0) B dX10_chanceOfNo_203 (by decide) ?_
    refine g_sub (lv' := []) [] rfl ?_
    exact g10_chanceOfNo_J204 B hS9 hr 0
set_option maxRecDepth 20000 in
set_option maxHeartbeats 2000000 in
theorem g10_chanceOfNo_J136 {X : gX} {p : Program} {l : Launch} {e : Env} {s : State} {m : MethodId} {args : Array Value} {below : List Frame} {meth : Method} {c : Code} (B : gB X p (rm10_chanceOfNo) s m args meth c RX10 cX10_chanceOfNo 16 (rm10_chanceOfNo)) (hS9 : gS X s) (hr : meth.sig.returnType = some .int) {M : mMem} (x2 : Int32) (x3 : Int32) (y7 : Int64) (y9 : Int64) (y11 : Int64) (y13 : Int64) : GG X p l e (rm10_chanceOfNo) s m args below meth c (gP X below args s 0 0 (fun r9 : Int32 => (some (.int r9), M))) 16 0 0 136 [(2, .int x2), (3, .int x3), (7, .long y7), (9, .long y9), (11, .long y11), (13, .long y13)] [] M (p10_chanceOfNo_J136 M x2 x3 y7 y9 y11 y13) := by
  unfold p10_chanceOfNo_J136
  refine g_iload_n B dX10_chanceOfNo_136 1 rfl ?_
  refine g_istore (lv' := [(15, .int x3), (2, .int x2), (3, .int x3), (7, .long y7), (9, .long y9), (11, .long y11), (13, .long y13)]) B dX10_chanceOfNo_137 (by decide) [0, 1, 2, 3, 4, 5, 6] rfl ?_
  refine g_sub (lv' := [(2, .int x2), (7, .long y7), (9, .long y9), (11, .long y11), (13, .long y13), (15, .int x3)]) [1, 3, 4, 5, 6, 0] rfl ?_
  exact (g10_chanceOfNo_L139 B hS9 hr (p10_chanceOfNo_J183 M) (fun e0 e1 => g10_chanceOfNo_J183 B hS9 hr e0 e1)) gF x2 y7 y9 y11 y13 x3
set_option maxRecDepth 20000 in
set_option maxHeartbeats 2000000 in
theorem g10_chanceOfNo_J82 {X : gX} {p : Program} {l : Launch} {e : Env} {s : State} {m : MethodId} {args : Array Value} {below : List Frame} {meth : Method} {c : Code} (B : gB X p (rm10_chanceOfNo) s m args meth c RX10 cX10_chanceOfNo 16 (rm10_chanceOfNo)) (hS9 : gS X s) (hr : meth.sig.returnType = some .int) {M : mMem} (a0 : Nat) (x1 : Int32) (x2 : Int32) (x3 : Int32) (x4 : Int32) (y5 : Int64) : GG X p l e (rm10_chanceOfNo) s m args below meth c (gP X below args s 0 0 (fun r9 : Int32 => (some (.int r9), M))) 16 0 0 82 [(0, .ref a0), (1, .int x1), (2, .int x2), (3, .int x3), (4, .int x4), (5, .long y5)] [] M (p10_chanceOfNo_J82 M a0 x1 x2 x3 x4 y5) := by
  unfold p10_chanceOfNo_J82
  refine g_ldc2 B dX10_chanceOfNo_82 wd_1566 ?_
  refine g_iload B dX10_chanceOfNo_85 4 rfl ?_
  refine g_i2l B dX10_chanceOfNo_87 ?_
  refine g_lmul B dX10_chanceOfNo_88 ?_
  refine g_lstore (lv' := [(7, .long ((10000 : Int64) * (x4.toInt64))), (0, .ref a0), (1, .int x1), (2, .int x2), (3, .int x3), (4, .int x4), (5, .long y5)]) B dX10_chanceOfNo_89 (by decide) [0, 1, 2, 3, 4, 5, 6] rfl ?_
  refine g_aload_n B dX10_chanceOfNo_91 1 rfl ?_
  refine g_getR (ci := 9) (T0 := TX10) (N := 1) B (by decide) rfl in_9 (k := 0) (by decide) rfl wd_378 (fun _ h => h) dX10_chanceOfNo_92 (fun v_1 => ?_)
  refine g_iload_n B dX10_chanceOfNo_95 2 rfl ?_
  refine g_callV_ap [.int x1] (ci := 2) (T0 := TX2) (N := 11) B hS9 mf2_at wd_466 (gw B wd_467) wd_638 (by decide) rfl (fun h => (gd_ne h).1) (c2_at X l v_1 x1 M) (by decide) (by decide) (by decide) rfl (by decide) dX10_chanceOfNo_96 rfl (fun v_2 => ?_)
  refine g_getI (ci := 8) (T0 := TX8) (N := 9) B (by decide) rfl in_8 (k := 5) (by decide) rfl wd_82 (fun _ h => h) dX10_chanceOfNo_99 (fun v_3 => ?_)
  refine g_i2l B dX10_chanceOfNo_102 ?_
  refine g_lload B dX10_chanceOfNo_103 6 rfl ?_
  refine g_lmul B dX10_chanceOfNo_105 ?_
  refine g_lstore (lv' := [(9, .long ((v_3.toInt64) * y5)), (7, .long ((10000 : Int64) * (x4.toInt64))), (0, .ref a0), (1, .int x1), (2, .int x2), (3, .int x3), (4, .int x4), (5, .long y5)]) B dX10_chanceOfNo_106 (by decide) [0, 1, 2, 3, 4, 5, 6, 7] rfl ?_
  refine g_lconst (v := 0) B dX10_chanceOfNo_108 (by decide) ?_
  refine g_lstore (lv' := [(11, .long 0), (9, .long ((v_3.toInt64) * y5)), (7, .long ((10000 : Int64) * (x4.toInt64))), (0, .ref a0), (1, .int x1), (2, .int x2), (3, .int x3), (4, .int x4), (5, .long y5)]) B dX10_chanceOfNo_109 (by decide) [0, 1, 2, 3, 4, 5, 6, 7, 8] rfl ?_
  refine g_lconst (v := 1) B dX10_chanceOfNo_111 (by decide) ?_
  refine g_lstore (lv' := [(13, .long 1), (11, .long 0), (9, .long ((v_3.toInt64) * y5)), (7, .long ((10000 : Int64) * (x4.toInt64))), (0, .ref a0), (1, .int x1), (2, .int x2), (3, .int x3), (4, .int x4), (5, .long y5)]) B dX10_chanceOfNo_112 (by decide) [0, 1, 2, 3, 4, 5, 6, 7, 8, 9] rfl ?_
  refine g_iconst (v := 0) B dX10_chanceOfNo_114 (by decide) ?_
  refine g_istore (lv' := [(15, .int 0), (13, .long 1), (11, .long 0), (9, .long ((v_3.toInt64) * y5)), (7, .long ((10000 : Int64) * (x4.toInt64))), (0, .ref a0), (1, .int x1), (2, .int x2), (3, .int x3), (4, .int x4), (5, .long y5)]) B dX10_chanceOfNo_115 (by decide) [0, 1, 2, 3, 4, 5, 6, 7, 8, 9, 10] rfl ?_
  refine g_sub (lv' := [(2, .int x2), (3, .int x3), (7, .long ((10000 : Int64) * (x4.toInt64))), (9, .long ((v_3.toInt64) * y5)), (11, .long 0), (13, .long 1), (15, .int 0)]) [7, 8, 4, 3, 2, 1, 0] rfl ?_
  exact (g10_chanceOfNo_L117 B hS9 hr (p10_chanceOfNo_J136 M) (fun e0 e1 e2 e3 e4 e5 => g10_chanceOfNo_J136 B hS9 hr e0 e1 e2 e3 e4 e5)) gF x2 x3 ((10000 : Int64) * (x4.toInt64)) ((v_3.toInt64) * y5) 0 1 0
set_option maxRecDepth 20000 in
set_option maxHeartbeats 2000000 in
theorem g10_chanceOfNo {X : gX} {p : Program} {l : Launch} {e : Env} {s : State} {m : MethodId} {args : Array Value} {below : List Frame} {meth : Method} {c : Code} (B : gB X p (rm10_chanceOfNo) s m args meth c RX10 cX10_chanceOfNo 16 (rm10_chanceOfNo)) (hS9 : gS X s) (hr : meth.sig.returnType = some .int) {M : mMem} (a0 : Nat) (x1 : Int32) (x2 : Int32) (x3 : Int32) : GG X p l e (rm10_chanceOfNo) s m args below meth c (gP X below args s 0 0 (fun r9 : Int32 => (some (.int r9), M))) 16 0 0 0 [(0, .ref a0), (1, .int x1), (2, .int x2), (3, .int x3)] [] M (p10_chanceOfNo a0 x1 x2 x3 M) := by
  unfold p10_chanceOfNo
  refine g_gd ?_
  refine g_aload_n B dX10_chanceOfNo_0 0 rfl ?_
  refine g_getR (ci := 9) (T0 := TX10) (N := 1) B (by decide) rfl in_9 (k := 0) (by decide) rfl wd_378 (fun _ h => h) dX10_chanceOfNo_1 (fun v_1 => ?_)
  refine g_iload_n B dX10_chanceOfNo_4 1 rfl ?_
  refine g_callV_ap [.int x1] (ci := 2) (T0 := TX2) (N := 11) B hS9 mf2_at wd_466 (gw B wd_467) wd_638 (by decide) rfl (fun h => (gd_ne h).1) (c2_at X l v_1 x1 M) (by decide) (by decide) (by decide) rfl (by decide) dX10_chanceOfNo_5 rfl (fun v_2 => ?_)
  refine g_getI (ci := 8) (T0 := TX8) (N := 9) B (by decide) rfl in_8 (k := 8) (by decide) rfl wd_96 (fun _ h => h) dX10_chanceOfNo_8 (fun v_3 => ?_)
  refine g_callS_ip [.int v_3] B hS9 mfJ6_bitCount wd_1272 wd_1565 (cJ6_bitCount X l v_3 M) (by decide) (by decide) (by decide) rfl (by decide) dX10_chanceOfNo_11 rfl (fun v_4 => ?_)
  refine g_istore (lv' := [(4, .int v_4), (0, .ref a0), (1, .int x1), (2, .int x2), (3, .int x3)]) B dX10_chanceOfNo_14 (by decide) [0, 1, 2, 3, 4] rfl ?_
  refine g_iload B dX10_chanceOfNo_16 0 rfl ?_
  refine g_if_ne B 23 dX10_chanceOfNo_18 (by decide) ?_ ?_
  · refine g_iconst (v := 0) B dX10_chanceOfNo_21 (by decide) ?_
    exact g_ireturn B hr rfl (by decide) (by decide) rfl dX10_chanceOfNo_22
  · refine g_lconst (v := 0) B dX10_chanceOfNo_23 (by decide) ?_
    refine g_lstore (lv' := [(5, .long 0), (4, .int v_4), (0, .ref a0), (1, .int x1), (2, .int x2), (3, .int x3)]) B dX10_chanceOfNo_24 (by decide) [0, 1, 2, 3, 4, 5] rfl ?_
    refine g_iconst (v := 0) B dX10_chanceOfNo_26 (by decide) ?_
    refine g_istore (lv' := [(7, .int 0), (5, .long 0), (4, .int v_4), (0, .ref a0), (1, .int x1), (2, .int x2), (3, .int x3)]) B dX10_chanceOfNo_27 (by decide) [0, 1, 2, 3, 4, 5, 6] rfl ?_
    refine g_sub (lv' := [(0, .ref a0), (1, .int x1), (2, .int x2), (3, .int x3), (4, .int v_4), (5, .long 0), (7, .int 0)]) [3, 4, 5, 6, 2, 1, 0] rfl ?_
    exact (g10_chanceOfNo_L29 B hS9 hr (p10_chanceOfNo_J82 M) (fun e0 e1 e2 e3 e4 e5 => g10_chanceOfNo_J82 B hS9 hr e0 e1 e2 e3 e4 e5)) gF a0 x1 x2 x3 v_4 0 0
theorem c10_chanceOfNo (X : gX) (l : Launch) (a0 : Nat) (x1 : Int32) (x2 : Int32) (x3 : Int32) (M : mMem) : Con X l yX10_chanceOfNo cX10_chanceOfNo 16 (some .int) rm10_chanceOfNo (fun r9 : Int32 => (some (.int r9), M)) [.ref a0, .int x1, .int x2, .int x3] M (p10_chanceOfNo a0 x1 x2 x3 M) := g_con (own := RX10) (by decide +kernel) rfl (Nat.le_of_ble_eq_true rfl) (fun p e s m args below meth c B hS9 hr hn => g10_chanceOfNo B hS9 hr a0 x1 x2 x3)
theorem mf11_init : gMF yX11_init cX11_init 2 (none) 0 := ⟨wd_34, wd_1, ⟨by decide, by decide⟩, by decide +kernel⟩
set_option maxRecDepth 20000 in
set_option maxHeartbeats 2000000 in
theorem g11_init_L208 {X : gX} {p : Program} {l : Launch} {e : Env} {s : State} {m : MethodId} {args : Array Value} {below : List Frame} {meth : Method} {c : Code} (B : gB X p (rm11_init) s m args meth c RX11 cX11_init 2 (rm11_init)) (hS9 : gS X s) (hr : meth.sig.returnType = none) (hin2 : meth.name = "<init>") : ∀ (n j : Nat) (_ : j + n = 13) (a0 : Nat) (x1 : Int32) (M : mMem), GG X p l e (rm11_init) s m args below meth c (gP X below args s 318 15700 (fun M9 : mMem => (none, M9))) 2 (123 + 15 * j) (9512 + 476 * j) 208 [(0, .ref a0), (1, .int x1)] [] M (p11_init_L208 n a0 x1 M) := by
  intro n
  induction n with
  | zero => intro j hj a0 x1 M; exact g_none
  | succ n ih =>
    intro j hj a0 x1 M
    rw [p11_init_L208]
    refine g_iload_n B dX11_init_208 1 rfl ?_
    refine g_aload_n B dX11_init_209 0 rfl ?_
    refine g_getR (ci := 10) (T0 := TX11) (N := 18) B (by decide) rfl in_10 (k := 9) (by decide) rfl wd_391 (fun _ h => h) dX11_init_210 (fun v_1 => ?_)
    refine g_alen B dX11_init_213 (fun v_2 => ?_)
    refine g_icmp_ge B 236 dX11_init_214 (by decide) ?_ ?_
    · refine g_aload_n B dX11_init_217 0 rfl ?_
      refine g_getR (ci := 10) (T0 := TX11) (N := 18) B (by decide) rfl in_10 (k := 9) (by decide) rfl wd_391 (fun _ h => h) dX11_init_218 (fun v_3 => ?_)
      refine g_iload_n B dX11_init_221 1 rfl ?_
      refine g_new (ci := 2) (T0 := TX2) (N := 11) B (by decide) rfl in_2 tyX2 tyX2_ok df_2 wd_38 wd_39 wd_2 ⟨by show (123 + 15 * j + 1) ≤ 318; omega, by show (9512 + 476 * j + 11) ≤ 15700; omega⟩ dX11_init_222 (fun n_4 => ?_)
      refine g_dup B dX11_init_225 rfl ?_
      refine g_callI_vw [] B hS9 mf2_init rfl wd_41 wd_40 (c2_init X l n_4.1 n_4.2) (by decide) (by decide) ⟨by show (123 + 15 * j + 1) + 14 ≤ 318; omega, by show (9512 + 476 * j + 11) + 465 ≤ 15700; omega⟩ rfl (Nat.le_of_ble_eq_true rfl) dX11_init_226 rfl (fun q_5 => ?_)
      refine g_aastore (k := 23) (t0 := 3) (ci := 2) (T0 := TX2) (N := 11) (Or.inl rfl) (by decide) rfl B rfl dX11_init_229 (fun M_6 => ?_)
      refine g_iinc (v := (x1 + 1)) (lv' := [(1, .int (x1 + 1)), (0, .ref a0)]) B dX11_init_230 1 rfl rfl (by decide) [0, 1] rfl ?_
      refine g_goto B 208 dX11_init_233 (by decide) ?_
      refine g_sub (lv' := [(0, .ref a0), (1, .int (x1 + 1))]) [1, 0] rfl ?_
      exact ih (j + 1) (by omega) a0 (x1 + 1) M_6
    · exact g_vreturn B hr (by omega) (by omega) rfl dX11_init_236
set_option maxRecDepth 20000 in
set_option maxHeartbeats 2000000 in
theorem g11_init {X : gX} {p : Program} {l : Launch} {e : Env} {s : State} {m : MethodId} {args : Array Value} {below : List Frame} {meth : Method} {c : Code} (B : gB X p (rm11_init) s m args meth c RX11 cX11_init 2 (rm11_init)) (hS9 : gS X s) (hr : meth.sig.returnType = none) (hin2 : meth.name = "<init>") (a0 : Nat) (M : mMem) : GG X p l e (rm11_init) s m args below meth c (gP X below args s 318 15700 (fun M9 : mMem => (none, M9))) 2 0 0 0 [(0, .ref a0)] [] M (p11_init a0 M) := by
  unfold p11_init
  refine g_gd ?_
  refine g_aload_n B dX11_init_0 0 rfl ?_
  refine g_objinit B wd_35 wd_36 wd_37 (by decide) (by decide) dX11_init_1 ?_
  refine g_aload_n B dX11_init_4 0 rfl ?_
  refine g_sipush (v := 400) B dX11_init_5 (by decide) ?_
  refine g_newarrayI (N := 400) B wd_116 (by decide +kernel) (by decide +kernel) (by decide +kernel) (by decide) dX11_init_8 (fun n_1 => ?_)
  refine g_putRF (ci := 10) (T0 := TX11) (N := 18) B (by decide) rfl in_10 tyX11 tyX11_ok nmX11 (k := 0) (by decide) wd_382 (fun _ h => h) rfl rfl hin2 rfl (ty := (.array .int)) (by decide +kernel) rfl rfl dX11_init_10 (fun M_2 => ?_)
  refine g_aload_n B dX11_init_13 0 rfl ?_
  refine g_iconst (v := 0) B dX11_init_14 (by decide) ?_
  refine g_putI (ci := 10) (T0 := TX11) (N := 18) B (by decide) rfl in_10 tyX11 tyX11_ok nmX11 (k := 1) (by decide) wd_383 (fun _ h => h) rfl rfl (ty := .int) (by decide +kernel) rfl rfl dX11_init_15 (fun M_3 => ?_)
  refine g_aload_n B dX11_init_18 0 rfl ?_
  refine g_iconst (v := (-1)) B dX11_init_19 (by decide) ?_
  refine g_putI (ci := 10) (T0 := TX11) (N := 18) B (by decide) rfl in_10 tyX11 tyX11_ok nmX11 (k := 2) (by decide) wd_384 (fun _ h => h) rfl rfl (ty := .int) (by decide +kernel) rfl rfl dX11_init_20 (fun M_4 => ?_)
  refine g_aload_n B dX11_init_23 0 rfl ?_
  refine g_new (ci := 2) (T0 := TX2) (N := 11) B (by decide) rfl in_2 tyX2 tyX2_ok df_2 wd_38 wd_39 wd_2 (by decide) dX11_init_24 (fun n_5 => ?_)
  refine g_dup B dX11_init_27 rfl ?_
  refine g_callI_vw [] B hS9 mf2_init rfl wd_41 wd_40 (c2_init X l n_5.1 n_5.2) (by decide) (by decide) (by decide) rfl (Nat.le_of_ble_eq_true rfl) dX11_init_28 rfl (fun q_6 => ?_)
  refine g_putRF (ci := 10) (T0 := TX11) (N := 18) B (by decide) rfl in_10 tyX11 tyX11_ok nmX11 (k := 3) (by decide) wd_385 (fun _ h => h) rfl rfl hin2 rfl (ty := (.object "CribLine$Family")) (by decide +kernel) rfl rfl dX11_init_31 (fun M_7 => ?_)
  refine g_aload_n B dX11_init_34 0 rfl ?_
  refine g_new (ci := 2) (T0 := TX2) (N := 11) B (by decide) rfl in_2 tyX2 tyX2_ok df_2 wd_38 wd_39 wd_2 (by decide) dX11_init_35 (fun n_8 => ?_)
  refine g_dup B dX11_init_38 rfl ?_
  refine g_callI_vw [] B hS9 mf2_init rfl wd_41 wd_40 (c2_init X l n_8.1 n_8.2) (by decide) (by decide) (by decide) rfl (Nat.le_of_ble_eq_true rfl) dX11_init_39 rfl (fun q_9 => ?_)
  refine g_putRF (ci := 10) (T0 := TX11) (N := 18) B (by decide) rfl in_10 tyX11 tyX11_ok nmX11 (k := 4) (by decide) wd_386 (fun _ h => h) rfl rfl hin2 rfl (ty := (.object "CribLine$Family")) (by decide +kernel) rfl rfl dX11_init_42 (fun M_10 => ?_)
  refine g_aload_n B dX11_init_45 0 rfl ?_
  refine g_new (ci := 4) (T0 := TX4) (N := 10) B (by decide) rfl in_4 tyX4 tyX4_ok df_4 wd_191 wd_192 wd_5 (by decide) dX11_init_46 (fun n_11 => ?_)
  refine g_dup B dX11_init_49 rfl ?_
  refine g_callI_vw [] B hS9 mf4_init rfl wd_194 wd_193 (c4_init X l n_11.1 n_11.2) (by decide) (by decide) (by decide) rfl (Nat.le_of_ble_eq_true rfl) dX11_init_50 rfl (fun q_12 => ?_)
  refine g_putRF (ci := 10) (T0 := TX11) (N := 18) B (by decide) rfl in_10 tyX11 tyX11_ok nmX11 (k := 5) (by decide) wd_387 (fun _ h => h) rfl rfl hin2 rfl (ty := (.object "CribLine$Law")) (by decide +kernel) rfl rfl dX11_init_53 (fun M_13 => ?_)
  refine g_aload_n B dX11_init_56 0 rfl ?_
  refine g_new (ci := 4) (T0 := TX4) (N := 10) B (by decide) rfl in_4 tyX4 tyX4_ok df_4 wd_191 wd_192 wd_5 (by decide) dX11_init_57 (fun n_14 => ?_)
  refine g_dup B dX11_init_60 rfl ?_
  refine g_callI_vw [] B hS9 mf4_init rfl wd_194 wd_193 (c4_init X l n_14.1 n_14.2) (by decide) (by decide) (by decide) rfl (Nat.le_of_ble_eq_true rfl) dX11_init_61 rfl (fun q_15 => ?_)
  refine g_putRF (ci := 10) (T0 := TX11) (N := 18) B (by decide) rfl in_10 tyX11 tyX11_ok nmX11 (k := 6) (by decide) wd_388 (fun _ h => h) rfl rfl hin2 rfl (ty := (.object "CribLine$Law")) (by decide +kernel) rfl rfl dX11_init_64 (fun M_16 => ?_)
  refine g_aload_n B dX11_init_67 0 rfl ?_
  refine g_new (ci := 3) (T0 := TX3) (N := 9) B (by decide) rfl in_3 tyX3 tyX3_ok df_3 wd_230 wd_231 wd_7 (by decide) dX11_init_68 (fun n_17 => ?_)
  refine g_dup B dX11_init_71 rfl ?_
  refine g_aload_n B dX11_init_72 0 rfl ?_
  refine g_getR (ci := 10) (T0 := TX11) (N := 18) B (by decide) rfl in_10 (k := 4) (by decide) rfl wd_386 (fun _ h => h) dX11_init_73 (fun v_18 => ?_)
  refine g_callI_vw [.ref v_18] B hS9 mf3_init rfl wd_233 wd_232 (c3_init X l n_17.1 v_18 n_17.2) (by decide) (by decide) (by decide) rfl (Nat.le_of_ble_eq_true rfl) dX11_init_76 rfl (fun q_19 => ?_)
  refine g_putRF (ci := 10) (T0 := TX11) (N := 18) B (by decide) rfl in_10 tyX11 tyX11_ok nmX11 (k := 7) (by decide) wd_389 (fun _ h => h) rfl rfl hin2 rfl (ty := (.object "CribLine$FamilyReader")) (by decide +kernel) rfl rfl dX11_init_79 (fun M_20 => ?_)
  refine g_aload_n B dX11_init_82 0 rfl ?_
  refine g_new (ci := 5) (T0 := TX5) (N := 9) B (by decide) rfl in_5 tyX5 tyX5_ok df_5 wd_275 wd_276 wd_8 (by decide) dX11_init_83 (fun n_21 => ?_)
  refine g_dup B dX11_init_86 rfl ?_
  refine g_aload_n B dX11_init_87 0 rfl ?_
  refine g_getR (ci := 10) (T0 := TX11) (N := 18) B (by decide) rfl in_10 (k := 6) (by decide) rfl wd_388 (fun _ h => h) dX11_init_88 (fun v_22 => ?_)
  refine g_callI_vw [.ref v_22] B hS9 mf5_init rfl wd_278 wd_277 (c5_init X l n_21.1 v_22 n_21.2) (by decide) (by decide) (by decide) rfl (Nat.le_of_ble_eq_true rfl) dX11_init_91 rfl (fun q_23 => ?_)
  refine g_putRF (ci := 10) (T0 := TX11) (N := 18) B (by decide) rfl in_10 tyX11 tyX11_ok nmX11 (k := 8) (by decide) wd_390 (fun _ h => h) rfl rfl hin2 rfl (ty := (.object "CribLine$LawReader")) (by decide +kernel) rfl rfl dX11_init_94 (fun M_24 => ?_)
  refine g_aload_n B dX11_init_97 0 rfl ?_
  refine g_bipush (v := 12) B dX11_init_98 (by decide) ?_
  refine g_anewarray (N := 12) (k := 23) (t0 := 3) (Or.inl rfl) B wd_38 hS9.2.2.1 rfl (by decide +kernel) (by decide +kernel) (by decide +kernel) (by decide) dX11_init_100 (fun n_25 => ?_)
  refine g_putRF (ci := 10) (T0 := TX11) (N := 18) B (by decide) rfl in_10 tyX11 tyX11_ok nmX11 (k := 9) (by decide) wd_391 (fun _ h => h) rfl rfl hin2 rfl (ty := (.array (.object "CribLine$Family"))) (by decide +kernel) rfl rfl dX11_init_103 (fun M_26 => ?_)
  refine g_aload_n B dX11_init_106 0 rfl ?_
  refine g_iconst (v := 0) B dX11_init_107 (by decide) ?_
  refine g_putI (ci := 10) (T0 := TX11) (N := 18) B (by decide) rfl in_10 tyX11 tyX11_ok nmX11 (k := 10) (by decide) wd_392 (fun _ h => h) rfl rfl (ty := .int) (by decide +kernel) rfl rfl dX11_init_108 (fun M_27 => ?_)
  refine g_aload_n B dX11_init_111 0 rfl ?_
  refine g_new (ci := 2) (T0 := TX2) (N := 11) B (by decide) rfl in_2 tyX2 tyX2_ok df_2 wd_38 wd_39 wd_2 (by decide) dX11_init_112 (fun n_28 => ?_)
  refine g_dup B dX11_init_115 rfl ?_
  refine g_callI_vw [] B hS9 mf2_init rfl wd_41 wd_40 (c2_init X l n_28.1 n_28.2) (by decide) (by decide) (by decide) rfl (Nat.le_of_ble_eq_true rfl) dX11_init_116 rfl (fun q_29 => ?_)
  refine g_putRF (ci := 10) (T0 := TX11) (N := 18) B (by decide) rfl in_10 tyX11 tyX11_ok nmX11 (k := 11) (by decide) wd_393 (fun _ h => h) rfl rfl hin2 rfl (ty := (.object "CribLine$Family")) (by decide +kernel) rfl rfl dX11_init_119 (fun M_30 => ?_)
  refine g_aload_n B dX11_init_122 0 rfl ?_
  refine g_new (ci := 4) (T0 := TX4) (N := 10) B (by decide) rfl in_4 tyX4 tyX4_ok df_4 wd_191 wd_192 wd_5 (by decide) dX11_init_123 (fun n_31 => ?_)
  refine g_dup B dX11_init_126 rfl ?_
  refine g_callI_vw [] B hS9 mf4_init rfl wd_194 wd_193 (c4_init X l n_31.1 n_31.2) (by decide) (by decide) (by decide) rfl (Nat.le_of_ble_eq_true rfl) dX11_init_127 rfl (fun q_32 => ?_)
  refine g_putRF (ci := 10) (T0 := TX11) (N := 18) B (by decide) rfl in_10 tyX11 tyX11_ok nmX11 (k := 12) (by decide) wd_394 (fun _ h => h) rfl rfl hin2 rfl (ty := (.object "CribLine$Law")) (by decide +kernel) rfl rfl dX11_init_130 (fun M_33 => ?_)
  refine g_aload_n B dX11_init_133 0 rfl ?_
  refine g_iconst (v := 0) B dX11_init_134 (by decide) ?_
  refine g_putI (ci := 10) (T0 := TX11) (N := 18) B (by decide) rfl in_10 tyX11 tyX11_ok nmX11 (k := 13) (by decide) wd_395 (fun _ h => h) rfl rfl (ty := .boolean) (by decide +kernel) rfl rfl dX11_init_135 (fun M_34 => ?_)
  refine g_aload_n B dX11_init_138 0 rfl ?_
  refine g_new (ci := 1) (T0 := TX1) (N := 3) B (by decide) rfl in_1 tyX1 tyX1_ok df_1 wd_294 wd_295 wd_9 (by decide) dX11_init_139 (fun n_35 => ?_)
  refine g_dup B dX11_init_142 rfl ?_
  refine g_aload_n B dX11_init_143 0 rfl ?_
  refine g_getR (ci := 10) (T0 := TX11) (N := 18) B (by decide) rfl in_10 (k := 3) (by decide) rfl wd_385 (fun _ h => h) dX11_init_144 (fun v_36 => ?_)
  refine g_aload_n B dX11_init_147 0 rfl ?_
  refine g_getR (ci := 10) (T0 := TX11) (N := 18) B (by decide) rfl in_10 (k := 5) (by decide) rfl wd_387 (fun _ h => h) dX11_init_148 (fun v_37 => ?_)
  refine g_callI_vw [.ref v_36, .ref v_37] B hS9 mf1_init rfl wd_297 wd_296 (c1_init X l n_35.1 v_36 v_37 n_35.2) (by decide) (by decide) (by decide) rfl (Nat.le_of_ble_eq_true rfl) dX11_init_151 rfl (fun q_38 => ?_)
  refine g_putRF (ci := 10) (T0 := TX11) (N := 18) B (by decide) rfl in_10 tyX11 tyX11_ok nmX11 (k := 14) (by decide) wd_396 (fun _ h => h) rfl rfl hin2 rfl (ty := (.object "CribLine$Days")) (by decide +kernel) rfl rfl dX11_init_154 (fun M_39 => ?_)
  refine g_aload_n B dX11_init_157 0 rfl ?_
  refine g_new (ci := 0) (T0 := TX0) (N := 8) B (by decide) rfl in_0 tyX0 tyX0_ok df_0 wd_312 wd_313 wd_10 (by decide) dX11_init_158 (fun n_40 => ?_)
  refine g_dup B dX11_init_161 rfl ?_
  refine g_aload_n B dX11_init_162 0 rfl ?_
  refine g_getR (ci := 10) (T0 := TX11) (N := 18) B (by decide) rfl in_10 (k := 3) (by decide) rfl wd_385 (fun _ h => h) dX11_init_163 (fun v_41 => ?_)
  refine g_aload_n B dX11_init_166 0 rfl ?_
  refine g_getR (ci := 10) (T0 := TX11) (N := 18) B (by decide) rfl in_10 (k := 5) (by decide) rfl wd_387 (fun _ h => h) dX11_init_167 (fun v_42 => ?_)
  refine g_callI_vw [.ref v_41, .ref v_42] B hS9 mf0_init rfl wd_315 wd_314 (c0_init X l n_40.1 v_41 v_42 n_40.2) (by decide) (by decide) (by decide) rfl (Nat.le_of_ble_eq_true rfl) dX11_init_170 rfl (fun q_43 => ?_)
  refine g_putRF (ci := 10) (T0 := TX11) (N := 18) B (by decide) rfl in_10 tyX11 tyX11_ok nmX11 (k := 15) (by decide) wd_397 (fun _ h => h) rfl rfl hin2 rfl (ty := (.object "CribLine$Ages")) (by decide +kernel) rfl rfl dX11_init_173 (fun M_44 => ?_)
  refine g_aload_n B dX11_init_176 0 rfl ?_
  refine g_new (ci := 7) (T0 := TX7) (N := 6) B (by decide) rfl in_7 tyX7 tyX7_ok df_7 wd_345 wd_346 wd_11 (by decide) dX11_init_177 (fun n_45 => ?_)
  refine g_dup B dX11_init_180 rfl ?_
  refine g_aload_n B dX11_init_181 0 rfl ?_
  refine g_getR (ci := 10) (T0 := TX11) (N := 18) B (by decide) rfl in_10 (k := 3) (by decide) rfl wd_385 (fun _ h => h) dX11_init_182 (fun v_46 => ?_)
  refine g_callI_vw [.ref v_46] B hS9 mf7_init rfl wd_348 wd_347 (c7_init X l n_45.1 v_46 n_45.2) (by decide) (by decide) (by decide) rfl (Nat.le_of_ble_eq_true rfl) dX11_init_185 rfl (fun q_47 => ?_)
  refine g_putRF (ci := 10) (T0 := TX11) (N := 18) B (by decide) rfl in_10 tyX11 tyX11_ok nmX11 (k := 16) (by decide) wd_398 (fun _ h => h) rfl rfl hin2 rfl (ty := (.object "CribLine$Pairs")) (by decide +kernel) rfl rfl dX11_init_188 (fun M_48 => ?_)
  refine g_aload_n B dX11_init_191 0 rfl ?_
  refine g_new (ci := 9) (T0 := TX10) (N := 1) B (by decide) rfl in_9 tyX10 tyX10_ok df_9 wd_372 wd_373 wd_12 (by decide) dX11_init_192 (fun n_49 => ?_)
  refine g_dup B dX11_init_195 rfl ?_
  refine g_aload_n B dX11_init_196 0 rfl ?_
  refine g_getR (ci := 10) (T0 := TX11) (N := 18) B (by decide) rfl in_10 (k := 3) (by decide) rfl wd_385 (fun _ h => h) dX11_init_197 (fun v_50 => ?_)
  refine g_callI_vw [.ref v_50] B hS9 mf10_init rfl wd_375 wd_374 (c10_init X l n_49.1 v_50 n_49.2) (by decide) (by decide) (by decide) rfl (Nat.le_of_ble_eq_true rfl) dX11_init_200 rfl (fun q_51 => ?_)
  refine g_putRF (ci := 10) (T0 := TX11) (N := 18) B (by decide) rfl in_10 tyX11 tyX11_ok nmX11 (k := 17) (by decide) wd_399 (fun _ h => h) rfl rfl hin2 rfl (ty := (.object "CribLine$Ties")) (by decide +kernel) rfl rfl dX11_init_203 (fun M_52 => ?_)
  refine g_iconst (v := 0) B dX11_init_206 (by decide) ?_
  refine g_istore_n (lv' := [(1, .int 0), (0, .ref a0)]) B dX11_init_207 (by decide) [0, 1] rfl ?_
  refine g_sub (lv' := [(0, .ref a0), (1, .int 0)]) [1, 0] rfl ?_
  exact (g11_init_L208 B hS9 hr hin2) 13 0 rfl a0 0 M_52
theorem c11_init (X : gX) (l : Launch) (a0 : Nat) (M : mMem) : Con X l yX11_init cX11_init 2 (none) rm11_init (fun M9 : mMem => (none, M9)) [.ref a0] M (p11_init a0 M) := g_con (own := RX11) (by decide +kernel) rfl (Nat.le_of_ble_eq_true rfl) (fun p e s m args below meth c B hS9 hr hn => g11_init B hS9 hr hn a0 M)
theorem mf11_putOnTape : gMF yX11_putOnTape cX11_putOnTape 3 (none) 1 := ⟨wd_444, wd_1, ⟨by decide, by decide⟩, by decide +kernel⟩
set_option maxRecDepth 20000 in
set_option maxHeartbeats 2000000 in
theorem g11_putOnTape_J52 {X : gX} {p : Program} {l : Launch} {e : Env} {s : State} {m : MethodId} {args : Array Value} {below : List Frame} {meth : Method} {c : Code} (B : gB X p (rm11_putOnTape) s m args meth c RX11 cX11_putOnTape 3 (rm11_putOnTape)) (hS9 : gS X s) (hr : meth.sig.returnType = none) (rec3 : Nat → Int32 → Int32 → mMem → Option mMem) (hrec3 : ∀ (a0 : Nat) (x1 : Int32) (x2 : Int32) (M : mMem), GG X p l e (rm11_putOnTape) s m args below meth c (gP X below args s 0 0 (fun M9 : mMem => (none, M9))) 3 0 0 3 [(0, .ref a0), (1, .int x1), (2, .int x2)] [] M (rec3 a0 x1 x2 M)) (a0 : Nat) (x1 : Int32) (x2 : Int32) (M : mMem) : GG X p l e (rm11_putOnTape) s m args below meth c (gP X below args s 0 0 (fun M9 : mMem => (none, M9))) 3 0 0 52 [(0, .ref a0), (1, .int x1), (2, .int x2)] [] M (p11_putOnTape_J52 rec3 a0 x1 x2 M) := by
  unfold p11_putOnTape_J52
  refine g_iinc (v := (x2 + (-8))) (lv' := [(2, .int (x2 + (-8))), (0, .ref a0), (1, .int x1)]) B dX11_putOnTape_52 2 rfl rfl (by decide) [0, 1, 2] rfl ?_
  refine g_goto B 3 dX11_putOnTape_55 (by decide) ?_
  refine g_sub (lv' := [(0, .ref a0), (1, .int x1), (2, .int (x2 + (-8)))]) [1, 2, 0] rfl ?_
  exact hrec3 a0 x1 (x2 + (-8)) M
set_option maxRecDepth 20000 in
set_option maxHeartbeats 2000000 in
theorem g11_putOnTape_L3 {X : gX} {p : Program} {l : Launch} {e : Env} {s : State} {m : MethodId} {args : Array Value} {below : List Frame} {meth : Method} {c : Code} (B : gB X p (rm11_putOnTape) s m args meth c RX11 cX11_putOnTape 3 (rm11_putOnTape)) (hS9 : gS X s) (hr : meth.sig.returnType = none) : ∀ (n : Nat) (a0 : Nat) (x1 : Int32) (x2 : Int32) (M : mMem), GG X p l e (rm11_putOnTape) s m args below meth c (gP X below args s 0 0 (fun M9 : mMem => (none, M9))) 3 0 0 3 [(0, .ref a0), (1, .int x1), (2, .int x2)] [] M (p11_putOnTape_L3 n a0 x1 x2 M) := by
  intro n
  induction n with
  | zero => intro a0 x1 x2 M; exact g_none
  | succ n ih =>
    intro a0 x1 x2 M
    rw [p11_putOnTape_L3]
    refine g_iload_n B dX11_putOnTape_3 2 rfl ?_
    refine g_if_lt B 58 dX11_putOnTape_4 (by decide) ?_ ?_
    · exact g_vreturn B hr (by decide) (by decide) rfl dX11_putOnTape_58
    · refine g_aload_n B dX11_putOnTape_7 0 rfl ?_
      refine g_getI (ci := 10) (T0 := TX11) (N := 18) B (by decide) rfl in_10 (k := 1) (by decide) rfl wd_383 (fun _ h => h) dX11_putOnTape_8 (fun v_1 => ?_)
      refine g_if_lt B 52 dX11_putOnTape_11 (by decide) ?_ ?_
      · refine g_sub (lv' := [(0, .ref a0), (1, .int x1), (2, .int x2)]) [0, 1, 2] rfl ?_
        exact g11_putOnTape_J52 B hS9 hr (p11_putOnTape_L3 n) ih a0 x1 x2 M
      · refine g_aload_n B dX11_putOnTape_14 0 rfl ?_
        refine g_getI (ci := 10) (T0 := TX11) (N := 18) B (by decide) rfl in_10 (k := 1) (by decide) rfl wd_383 (fun _ h => h) dX11_putOnTape_15 (fun v_2 => ?_)
        refine g_aload_n B dX11_putOnTape_18 0 rfl ?_
        refine g_getR (ci := 10) (T0 := TX11) (N := 18) B (by decide) rfl in_10 (k := 0) (by decide) rfl wd_382 (fun _ h => h) dX11_putOnTape_19 (fun v_3 => ?_)
        refine g_alen B dX11_putOnTape_22 (fun v_4 => ?_)
        refine g_icmp_ge B 52 dX11_putOnTape_23 (by decide) ?_ ?_
        · refine g_aload_n B dX11_putOnTape_26 0 rfl ?_
          refine g_getR (ci := 10) (T0 := TX11) (N := 18) B (by decide) rfl in_10 (k := 0) (by decide) rfl wd_382 (fun _ h => h) dX11_putOnTape_27 (fun v_5 => ?_)
          refine g_aload_n B dX11_putOnTape_30 0 rfl ?_
          refine g_getI (ci := 10) (T0 := TX11) (N := 18) B (by decide) rfl in_10 (k := 1) (by decide) rfl wd_383 (fun _ h => h) dX11_putOnTape_31 (fun v_6 => ?_)
          refine g_iload_n B dX11_putOnTape_34 1 rfl ?_
          refine g_iload_n B dX11_putOnTape_35 2 rfl ?_
          refine g_iushr B dX11_putOnTape_36 ?_
          refine g_sipush (v := 255) B dX11_putOnTape_37 (by decide) ?_
          refine g_iand B dX11_putOnTape_40 ?_
          refine g_iastore B dX11_putOnTape_41 (fun M_7 => ?_)
          refine g_aload_n B dX11_putOnTape_42 0 rfl ?_
          refine g_dup B dX11_putOnTape_43 rfl ?_
          refine g_getI (ci := 10) (T0 := TX11) (N := 18) B (by decide) rfl in_10 (k := 1) (by decide) rfl wd_383 (fun _ h => h) dX11_putOnTape_44 (fun v_8 => ?_)
          refine g_iconst (v := 1) B dX11_putOnTape_47 (by decide) ?_
          refine g_iadd B dX11_putOnTape_48 ?_
          refine g_putI (ci := 10) (T0 := TX11) (N := 18) B (by decide) rfl in_10 tyX11 tyX11_ok nmX11 (k := 1) (by decide) wd_383 (fun _ h => h) rfl rfl (ty := .int) (by decide +kernel) rfl rfl dX11_putOnTape_49 (fun M_9 => ?_)
          refine g_sub (lv' := [(0, .ref a0), (1, .int x1), (2, .int x2)]) [0, 1, 2] rfl ?_
          exact g11_putOnTape_J52 B hS9 hr (p11_putOnTape_L3 n) ih a0 x1 x2 M_9
        · refine g_sub (lv' := [(0, .ref a0), (1, .int x1), (2, .int x2)]) [0, 1, 2] rfl ?_
          exact g11_putOnTape_J52 B hS9 hr (p11_putOnTape_L3 n) ih a0 x1 x2 M
set_option maxRecDepth 20000 in
set_option maxHeartbeats 2000000 in
theorem g11_putOnTape {X : gX} {p : Program} {l : Launch} {e : Env} {s : State} {m : MethodId} {args : Array Value} {below : List Frame} {meth : Method} {c : Code} (B : gB X p (rm11_putOnTape) s m args meth c RX11 cX11_putOnTape 3 (rm11_putOnTape)) (hS9 : gS X s) (hr : meth.sig.returnType = none) (a0 : Nat) (x1 : Int32) (M : mMem) : GG X p l e (rm11_putOnTape) s m args below meth c (gP X below args s 0 0 (fun M9 : mMem => (none, M9))) 3 0 0 0 [(0, .ref a0), (1, .int x1)] [] M (p11_putOnTape a0 x1 M) := by
  unfold p11_putOnTape
  refine g_gd ?_
  refine g_bipush (v := 24) B dX11_putOnTape_0 (by decide) ?_
  refine g_istore_n (lv' := [(2, .int 24), (0, .ref a0), (1, .int x1)]) B dX11_putOnTape_2 (by decide) [0, 1, 2] rfl ?_
  refine g_sub (lv' := [(0, .ref a0), (1, .int x1), (2, .int 24)]) [1, 2, 0] rfl ?_
  exact (g11_putOnTape_L3 B hS9 hr) gF a0 x1 24 M
theorem c11_putOnTape (X : gX) (l : Launch) (a0 : Nat) (x1 : Int32) (M : mMem) : Con X l yX11_putOnTape cX11_putOnTape 3 (none) rm11_putOnTape (fun M9 : mMem => (none, M9)) [.ref a0, .int x1] M (p11_putOnTape a0 x1 M) := g_con (own := RX11) (by decide +kernel) rfl (Nat.le_of_ble_eq_true rfl) (fun p e s m args below meth c B hS9 hr hn => g11_putOnTape B hS9 hr a0 x1 M)
theorem mf11_feed : gMF yX11_feed cX11_feed 6 (some .int) 5 := ⟨wd_440, wd_1, ⟨by decide, by decide⟩, by decide +kernel⟩
set_option maxRecDepth 20000 in
set_option maxHeartbeats 2000000 in
theorem g11_feed {X : gX} {p : Program} {l : Launch} {e : Env} {s : State} {m : MethodId} {args : Array Value} {below : List Frame} {meth : Method} {c : Code} (B : gB X p (rm11_feed) s m args meth c RX11 cX11_feed 6 (rm11_feed)) (hS9 : gS X s) (hr : meth.sig.returnType = some .int) (a0 : Nat) (x1 : Int32) (x2 : Int32) (x3 : Int32) (x4 : Int32) (x5 : Int32) (M : mMem) : GG X p l e (rm11_feed) s m args below meth c (gP X below args s 0 0 (fun r9 : (Int32 × mMem) => (some (.int r9.1), r9.2))) 6 0 0 0 [(0, .ref a0), (1, .int x1), (2, .int x2), (3, .int x3), (4, .int x4), (5, .int x5)] [] M (p11_feed a0 x1 x2 x3 x4 x5 M) := by
  unfold p11_feed
  refine g_gd ?_
  refine g_aload_n B dX11_feed_0 0 rfl ?_
  refine g_getI (ci := 10) (T0 := TX11) (N := 18) B (by decide) rfl in_10 (k := 1) (by decide) rfl wd_383 (fun _ h => h) dX11_feed_1 (fun v_1 => ?_)
  refine g_bipush (v := 20) B dX11_feed_4 (by decide) ?_
  refine g_iadd B dX11_feed_6 ?_
  refine g_sipush (v := 400) B dX11_feed_7 (by decide) ?_
  refine g_icmp_le B 15 dX11_feed_10 (by decide) ?_ ?_
  · refine g_iconst (v := (-1)) B dX11_feed_13 (by decide) ?_
    exact g_ireturn B hr rfl (by decide) (by decide) rfl dX11_feed_14
  · refine g_aload_n B dX11_feed_15 0 rfl ?_
    refine g_iload_n B dX11_feed_16 1 rfl ?_
    refine g_callV_vw [.int x1] (ci := 10) (T0 := TX11) (N := 18) B hS9 mf11_putOnTape wd_443 (gw B wp_0) wd_441 (by decide) rfl (fun h => (gd_ne h).1) (c11_putOnTape X l a0 x1 M) (by decide) (by decide) (by decide) rfl (by decide) dX11_feed_17 rfl (fun q_2 => ?_)
    refine g_aload_n B dX11_feed_20 0 rfl ?_
    refine g_iload_n B dX11_feed_21 2 rfl ?_
    refine g_callV_vw [.int x2] (ci := 10) (T0 := TX11) (N := 18) B hS9 mf11_putOnTape wd_443 (gw B wp_0) wd_441 (by decide) rfl (fun h => (gd_ne h).1) (c11_putOnTape X l a0 x2 q_2) (by decide) (by decide) (by decide) rfl (by decide) dX11_feed_22 rfl (fun q_3 => ?_)
    refine g_aload_n B dX11_feed_25 0 rfl ?_
    refine g_iload_n B dX11_feed_26 3 rfl ?_
    refine g_callV_vw [.int x3] (ci := 10) (T0 := TX11) (N := 18) B hS9 mf11_putOnTape wd_443 (gw B wp_0) wd_441 (by decide) rfl (fun h => (gd_ne h).1) (c11_putOnTape X l a0 x3 q_3) (by decide) (by decide) (by decide) rfl (by decide) dX11_feed_27 rfl (fun q_4 => ?_)
    refine g_aload_n B dX11_feed_30 0 rfl ?_
    refine g_iload B dX11_feed_31 4 rfl ?_
    refine g_callV_vw [.int x4] (ci := 10) (T0 := TX11) (N := 18) B hS9 mf11_putOnTape wd_443 (gw B wp_0) wd_441 (by decide) rfl (fun h => (gd_ne h).1) (c11_putOnTape X l a0 x4 q_4) (by decide) (by decide) (by decide) rfl (by decide) dX11_feed_33 rfl (fun q_5 => ?_)
    refine g_aload_n B dX11_feed_36 0 rfl ?_
    refine g_iload B dX11_feed_37 5 rfl ?_
    refine g_callV_vw [.int x5] (ci := 10) (T0 := TX11) (N := 18) B hS9 mf11_putOnTape wd_443 (gw B wp_0) wd_441 (by decide) rfl (fun h => (gd_ne h).1) (c11_putOnTape X l a0 x5 q_5) (by decide) (by decide) (by decide) rfl (by decide) dX11_feed_39 rfl (fun q_6 => ?_)
    refine g_aload_n B dX11_feed_42 0 rfl ?_
    refine g_getI (ci := 10) (T0 := TX11) (N := 18) B (by decide) rfl in_10 (k := 1) (by decide) rfl wd_383 (fun _ h => h) dX11_feed_43 (fun v_7 => ?_)
    exact g_ireturn B hr rfl (by decide) (by decide) rfl dX11_feed_46
theorem c11_feed (X : gX) (l : Launch) (a0 : Nat) (x1 : Int32) (x2 : Int32) (x3 : Int32) (x4 : Int32) (x5 : Int32) (M : mMem) : Con X l yX11_feed cX11_feed 6 (some .int) rm11_feed (fun r9 : (Int32 × mMem) => (some (.int r9.1), r9.2)) [.ref a0, .int x1, .int x2, .int x3, .int x4, .int x5] M (p11_feed a0 x1 x2 x3 x4 x5 M) := g_con (own := RX11) (by decide +kernel) rfl (Nat.le_of_ble_eq_true rfl) (fun p e s m args below meth c B hS9 hr hn => g11_feed B hS9 hr a0 x1 x2 x3 x4 x5 M)
theorem mf11_usedTape : gMF yX11_usedTape cX11_usedTape 2 (some .int) 0 := ⟨wd_735, wd_1, ⟨by decide, by decide⟩, by decide +kernel⟩
set_option maxRecDepth 20000 in
set_option maxHeartbeats 2000000 in
theorem g11_usedTape {X : gX} {p : Program} {l : Launch} {e : Env} {s : State} {m : MethodId} {args : Array Value} {below : List Frame} {meth : Method} {c : Code} (B : gB X p (rm11_usedTape) s m args meth c RX11 cX11_usedTape 2 (rm11_usedTape)) (hS9 : gS X s) (hr : meth.sig.returnType = some .int) (a0 : Nat) (M : mMem) : GG X p l e (rm11_usedTape) s m args below meth c (gP X below args s 0 0 (fun r9 : (Int32 × mMem) => (some (.int r9.1), r9.2))) 2 0 0 0 [(0, .ref a0)] [] M (p11_usedTape a0 M) := by
  unfold p11_usedTape
  refine g_gd ?_
  refine g_aload_n B dX11_usedTape_0 0 rfl ?_
  refine g_getI (ci := 10) (T0 := TX11) (N := 18) B (by decide) rfl in_10 (k := 1) (by decide) rfl wd_383 (fun _ h => h) dX11_usedTape_1 (fun v_1 => ?_)
  refine g_istore_n (lv' := [(1, .int v_1), (0, .ref a0)]) B dX11_usedTape_4 (by decide) [0, 1] rfl ?_
  refine g_aload_n B dX11_usedTape_5 1 rfl ?_
  refine g_iconst (v := 0) B dX11_usedTape_6 (by decide) ?_
  refine g_putI (ci := 10) (T0 := TX11) (N := 18) B (by decide) rfl in_10 tyX11 tyX11_ok nmX11 (k := 1) (by decide) wd_383 (fun _ h => h) rfl rfl (ty := .int) (by decide +kernel) rfl rfl dX11_usedTape_7 (fun M_2 => ?_)
  refine g_iload_n B dX11_usedTape_10 0 rfl ?_
  exact g_ireturn B hr rfl (by decide) (by decide) rfl dX11_usedTape_11
theorem c11_usedTape (X : gX) (l : Launch) (a0 : Nat) (M : mMem) : Con X l yX11_usedTape cX11_usedTape 2 (some .int) rm11_usedTape (fun r9 : (Int32 × mMem) => (some (.int r9.1), r9.2)) [.ref a0] M (p11_usedTape a0 M) := g_con (own := RX11) (by decide +kernel) rfl (Nat.le_of_ble_eq_true rfl) (fun p e s m args below meth c B hS9 hr hn => g11_usedTape B hS9 hr a0 M)
theorem mf11_end : gMF yX11_end cX11_end 2 (some .boolean) 1 := ⟨wd_448, wd_1, ⟨by decide, by decide⟩, by decide +kernel⟩
set_option maxRecDepth 20000 in
set_option maxHeartbeats 2000000 in
theorem g11_end_J12 {X : gX} {p : Program} {l : Launch} {e : Env} {s : State} {m : MethodId} {args : Array Value} {below : List Frame} {meth : Method} {c : Code} (B : gB X p (rm11_end) s m args meth c RX11 cX11_end 2 (rm11_end)) (hS9 : gS X s) (hr : meth.sig.returnType = some .boolean) (M : mMem) : GG X p l e (rm11_end) s m args below meth c (gP X below args s 0 0 (fun r9 : (Int32 × mMem) => (some (.int r9.1), r9.2))) 2 0 0 12 [] [] M (p11_end_J12 M) := by
  unfold p11_end_J12
  refine g_iconst (v := 0) B dX11_end_12 (by decide) ?_
  exact g_ireturn B hr rfl (by decide) (by decide) rfl dX11_end_13
set_option maxRecDepth 20000 in
set_option maxHeartbeats 2000000 in
theorem g11_end {X : gX} {p : Program} {l : Launch} {e : Env} {s : State} {m : MethodId} {args : Array Value} {below : List Frame} {meth : Method} {c : Code} (B : gB X p (rm11_end) s m args meth c RX11 cX11_end 2 (rm11_end)) (hS9 : gS X s) (hr : meth.sig.returnType = some .boolean) (a0 : Nat) (x1 : Int32) (M : mMem) : GG X p l e (rm11_end) s m args below meth c (gP X below args s 0 0 (fun r9 : (Int32 × mMem) => (some (.int r9.1), r9.2))) 2 0 0 0 [(0, .ref a0), (1, .int x1)] [] M (p11_end a0 x1 M) := by
  unfold p11_end
  refine g_gd ?_
  refine g_iload_n B dX11_end_0 1 rfl ?_
  refine g_if_lt B 12 dX11_end_1 (by decide) ?_ ?_
  · refine g_sub (lv' := []) [] rfl ?_
    exact g11_end_J12 B hS9 hr M
  · refine g_iload_n B dX11_end_4 1 rfl ?_
    refine g_aload_n B dX11_end_5 0 rfl ?_
    refine g_getI (ci := 10) (T0 := TX11) (N := 18) B (by decide) rfl in_10 (k := 1) (by decide) rfl wd_383 (fun _ h => h) dX11_end_6 (fun v_1 => ?_)
    refine g_icmp_le B 14 dX11_end_9 (by decide) ?_ ?_
    · refine g_sub (lv' := []) [] rfl ?_
      exact g11_end_J12 B hS9 hr M
    · refine g_aload_n B dX11_end_14 0 rfl ?_
      refine g_iload_n B dX11_end_15 1 rfl ?_
      refine g_putI (ci := 10) (T0 := TX11) (N := 18) B (by decide) rfl in_10 tyX11 tyX11_ok nmX11 (k := 1) (by decide) wd_383 (fun _ h => h) rfl rfl (ty := .int) (by decide +kernel) rfl rfl dX11_end_16 (fun M_2 => ?_)
      refine g_iconst (v := 1) B dX11_end_19 (by decide) ?_
      exact g_ireturn B hr rfl (by decide) (by decide) rfl dX11_end_20
theorem c11_end (X : gX) (l : Launch) (a0 : Nat) (x1 : Int32) (M : mMem) : Con X l yX11_end cX11_end 2 (some .boolean) rm11_end (fun r9 : (Int32 × mMem) => (some (.int r9.1), r9.2)) [.ref a0, .int x1] M (p11_end a0 x1 M) := g_con (own := RX11) (by decide +kernel) rfl (Nat.le_of_ble_eq_true rfl) (fun p e s m args below meth c B hS9 hr hn => g11_end B hS9 hr a0 x1 M)
theorem mf11_fault : gMF yX11_fault cX11_fault 1 (some .int) 0 := ⟨wd_452, wd_1, ⟨by decide, by decide⟩, by decide +kernel⟩
set_option maxRecDepth 20000 in
set_option maxHeartbeats 2000000 in
theorem g11_fault {X : gX} {p : Program} {l : Launch} {e : Env} {s : State} {m : MethodId} {args : Array Value} {below : List Frame} {meth : Method} {c : Code} (B : gB X p (rm11_fault) s m args meth c RX11 cX11_fault 1 (rm11_fault)) (hS9 : gS X s) (hr : meth.sig.returnType = some .int) {M : mMem} (a0 : Nat) : GG X p l e (rm11_fault) s m args below meth c (gP X below args s 0 0 (fun r9 : Int32 => (some (.int r9), M))) 1 0 0 0 [(0, .ref a0)] [] M (p11_fault a0 M) := by
  unfold p11_fault
  refine g_gd ?_
  refine g_aload_n B dX11_fault_0 0 rfl ?_
  refine g_getI (ci := 10) (T0 := TX11) (N := 18) B (by decide) rfl in_10 (k := 2) (by decide) rfl wd_384 (fun _ h => h) dX11_fault_1 (fun v_1 => ?_)
  exact g_ireturn B hr rfl (by decide) (by decide) rfl dX11_fault_4
theorem c11_fault (X : gX) (l : Launch) (a0 : Nat) (M : mMem) : Con X l yX11_fault cX11_fault 1 (some .int) rm11_fault (fun r9 : Int32 => (some (.int r9), M)) [.ref a0] M (p11_fault a0 M) := g_con (own := RX11) (by decide +kernel) rfl (Nat.le_of_ble_eq_true rfl) (fun p e s m args below meth c B hS9 hr hn => g11_fault B hS9 hr a0)
theorem mf11_remember : gMF yX11_remember cX11_remember 3 (none) 0 := ⟨wd_1192, wd_1, ⟨by decide, by decide⟩, by decide +kernel⟩
set_option maxRecDepth 20000 in
set_option maxHeartbeats 2000000 in
theorem g11_remember_J119 {X : gX} {p : Program} {l : Launch} {e : Env} {s : State} {m : MethodId} {args : Array Value} {below : List Frame} {meth : Method} {c : Code} (B : gB X p (rm11_remember) s m args meth c RX11 cX11_remember 3 (rm11_remember)) (hS9 : gS X s) (hr : meth.sig.returnType = none) (M : mMem) : GG X p l e (rm11_remember) s m args below meth c (gP X below args s 0 0 (fun M9 : mMem => (none, M9))) 3 0 0 119 [] [] M (p11_remember_J119 M) := by
  unfold p11_remember_J119
  exact g_vreturn B hr (by decide) (by decide) rfl dX11_remember_119
set_option maxRecDepth 20000 in
set_option maxHeartbeats 2000000 in
theorem g11_remember_J74 {X : gX} {p : Program} {l : Launch} {e : Env} {s : State} {m : MethodId} {args : Array Value} {below : List Frame} {meth : Method} {c : Code} (B : gB X p (rm11_remember) s m args meth c RX11 cX11_remember 3 (rm11_remember)) (hS9 : gS X s) (hr : meth.sig.returnType = none) (a0 : Nat) (M : mMem) : GG X p l e (rm11_remember) s m args below meth c (gP X below args s 0 0 (fun M9 : mMem => (none, M9))) 3 0 0 74 [(0, .ref a0)] [] M (p11_remember_J74 a0 M) := by
  unfold p11_remember_J74
  refine g_aload_n B dX11_remember_74 0 rfl ?_
  refine g_getI (ci := 10) (T0 := TX11) (N := 18) B (by decide) rfl in_10 (k := 10) (by decide) rfl wd_392 (fun _ h => h) dX11_remember_75 (fun v_1 => ?_)
  refine g_if_lt B 119 dX11_remember_78 (by decide) ?_ ?_
  · refine g_sub (lv' := []) [] rfl ?_
    exact g11_remember_J119 B hS9 hr M
  · refine g_aload_n B dX11_remember_81 0 rfl ?_
    refine g_getI (ci := 10) (T0 := TX11) (N := 18) B (by decide) rfl in_10 (k := 10) (by decide) rfl wd_392 (fun _ h => h) dX11_remember_82 (fun v_2 => ?_)
    refine g_aload_n B dX11_remember_85 0 rfl ?_
    refine g_getR (ci := 10) (T0 := TX11) (N := 18) B (by decide) rfl in_10 (k := 9) (by decide) rfl wd_391 (fun _ h => h) dX11_remember_86 (fun v_3 => ?_)
    refine g_alen B dX11_remember_89 (fun v_4 => ?_)
    refine g_icmp_ge B 119 dX11_remember_90 (by decide) ?_ ?_
    · refine g_aload_n B dX11_remember_93 0 rfl ?_
      refine g_getR (ci := 10) (T0 := TX11) (N := 18) B (by decide) rfl in_10 (k := 9) (by decide) rfl wd_391 (fun _ h => h) dX11_remember_94 (fun v_5 => ?_)
      refine g_aload_n B dX11_remember_97 0 rfl ?_
      refine g_getI (ci := 10) (T0 := TX11) (N := 18) B (by decide) rfl in_10 (k := 10) (by decide) rfl wd_392 (fun _ h => h) dX11_remember_98 (fun v_6 => ?_)
      refine g_aaload23 B dX11_remember_101 (fun v_7 => ?_)
      refine g_aload_n B dX11_remember_102 0 rfl ?_
      refine g_getR (ci := 10) (T0 := TX11) (N := 18) B (by decide) rfl in_10 (k := 3) (by decide) rfl wd_385 (fun _ h => h) dX11_remember_103 (fun v_8 => ?_)
      refine g_callV_vw [.ref v_8] (ci := 2) (T0 := TX2) (N := 11) B hS9 mf2_take wd_462 (gw B wd_463) wd_693 (by decide) rfl (fun h => (gd_ne h).1) (c2_take X l v_7 v_8 M) (by decide) (by decide) (by decide) rfl (by decide) dX11_remember_106 rfl (fun q_9 => ?_)
      refine g_aload_n B dX11_remember_109 0 rfl ?_
      refine g_dup B dX11_remember_110 rfl ?_
      refine g_getI (ci := 10) (T0 := TX11) (N := 18) B (by decide) rfl in_10 (k := 10) (by decide) rfl wd_392 (fun _ h => h) dX11_remember_111 (fun v_10 => ?_)
      refine g_iconst (v := 1) B dX11_remember_114 (by decide) ?_
      refine g_iadd B dX11_remember_115 ?_
      refine g_putI (ci := 10) (T0 := TX11) (N := 18) B (by decide) rfl in_10 tyX11 tyX11_ok nmX11 (k := 10) (by decide) wd_392 (fun _ h => h) rfl rfl (ty := .int) (by decide +kernel) rfl rfl dX11_remember_116 (fun M_11 => ?_)
      refine g_sub (lv' := []) [] rfl ?_
      exact g11_remember_J119 B hS9 hr M_11
    · refine g_sub (lv' := []) [] rfl ?_
      exact g11_remember_J119 B hS9 hr M
set_option maxRecDepth 20000 in
set_option maxHeartbeats 2000000 in
theorem g11_remember_L21 {X : gX} {p : Program} {l : Launch} {e : Env} {s : State} {m : MethodId} {args : Array Value} {below : List Frame} {meth : Method} {c : Code} (B : gB X p (rm11_remember) s m args meth c RX11 cX11_remember 3 (rm11_remember)) (hS9 : gS X s) (hr : meth.sig.returnType = none) (k50 : Nat → Nat → mMem → Option mMem) (hk50 : ∀ (a0 : Nat) (a1 : Nat) (M : mMem), GG X p l e (rm11_remember) s m args below meth c (gP X below args s 0 0 (fun M9 : mMem => (none, M9))) 3 0 0 50 [(0, .ref a0), (1, .ref a1)] [] M (k50 a0 a1 M)) : ∀ (n : Nat) (a0 : Nat) (a1 : Nat) (x2 : Int32) (M : mMem), GG X p l e (rm11_remember) s m args below meth c (gP X below args s 0 0 (fun M9 : mMem => (none, M9))) 3 0 0 21 [(0, .ref a0), (1, .ref a1), (2, .int x2)] [] M (p11_remember_L21 k50 n a0 a1 x2 M) := by
  intro n
  induction n with
  | zero => intro a0 a1 x2 M; exact g_none
  | succ n ih =>
    intro a0 a1 x2 M
    rw [p11_remember_L21]
    refine g_iload_n B dX11_remember_21 2 rfl ?_
    refine g_aload_n B dX11_remember_22 0 rfl ?_
    refine g_getR (ci := 10) (T0 := TX11) (N := 18) B (by decide) rfl in_10 (k := 9) (by decide) rfl wd_391 (fun _ h => h) dX11_remember_23 (fun v_1 => ?_)
    refine g_alen B dX11_remember_26 (fun v_2 => ?_)
    refine g_icmp_ge B 50 dX11_remember_27 (by decide) ?_ ?_
    · refine g_aload_n B dX11_remember_30 0 rfl ?_
      refine g_getR (ci := 10) (T0 := TX11) (N := 18) B (by decide) rfl in_10 (k := 9) (by decide) rfl wd_391 (fun _ h => h) dX11_remember_31 (fun v_3 => ?_)
      refine g_iload_n B dX11_remember_34 2 rfl ?_
      refine g_iconst (v := 1) B dX11_remember_35 (by decide) ?_
      refine g_isub B dX11_remember_36 ?_
      refine g_aload_n B dX11_remember_37 0 rfl ?_
      refine g_getR (ci := 10) (T0 := TX11) (N := 18) B (by decide) rfl in_10 (k := 9) (by decide) rfl wd_391 (fun _ h => h) dX11_remember_38 (fun v_4 => ?_)
      refine g_iload_n B dX11_remember_41 2 rfl ?_
      refine g_aaload23 B dX11_remember_42 (fun v_5 => ?_)
      refine g_aastore (k := 23) (t0 := 3) (ci := 2) (T0 := TX2) (N := 11) (Or.inl rfl) (by decide) rfl B rfl dX11_remember_43 (fun M_6 => ?_)
      refine g_iinc (v := (x2 + 1)) (lv' := [(2, .int (x2 + 1)), (0, .ref a0), (1, .ref a1)]) B dX11_remember_44 2 rfl rfl (by decide) [0, 1, 2] rfl ?_
      refine g_goto B 21 dX11_remember_47 (by decide) ?_
      refine g_sub (lv' := [(0, .ref a0), (1, .ref a1), (2, .int (x2 + 1))]) [1, 2, 0] rfl ?_
      exact ih a0 a1 (x2 + 1) M_6
    · refine g_sub (lv' := [(0, .ref a0), (1, .ref a1)]) [0, 1] rfl ?_
      exact hk50 a0 a1 M
set_option maxRecDepth 20000 in
set_option maxHeartbeats 2000000 in
theorem g11_remember_J50 {X : gX} {p : Program} {l : Launch} {e : Env} {s : State} {m : MethodId} {args : Array Value} {below : List Frame} {meth : Method} {c : Code} (B : gB X p (rm11_remember) s m args meth c RX11 cX11_remember 3 (rm11_remember)) (hS9 : gS X s) (hr : meth.sig.returnType = none) (a0 : Nat) (a1 : Nat) (M : mMem) : GG X p l e (rm11_remember) s m args below meth c (gP X below args s 0 0 (fun M9 : mMem => (none, M9))) 3 0 0 50 [(0, .ref a0), (1, .ref a1)] [] M (p11_remember_J50 a0 a1 M) := by
  unfold p11_remember_J50
  refine g_aload_n B dX11_remember_50 0 rfl ?_
  refine g_getR (ci := 10) (T0 := TX11) (N := 18) B (by decide) rfl in_10 (k := 9) (by decide) rfl wd_391 (fun _ h => h) dX11_remember_51 (fun v_1 => ?_)
  refine g_aload_n B dX11_remember_54 0 rfl ?_
  refine g_getR (ci := 10) (T0 := TX11) (N := 18) B (by decide) rfl in_10 (k := 9) (by decide) rfl wd_391 (fun _ h => h) dX11_remember_55 (fun v_2 => ?_)
  refine g_alen B dX11_remember_58 (fun v_3 => ?_)
  refine g_iconst (v := 1) B dX11_remember_59 (by decide) ?_
  refine g_isub B dX11_remember_60 ?_
  refine g_aload_n B dX11_remember_61 1 rfl ?_
  refine g_aastore (k := 23) (t0 := 3) (ci := 2) (T0 := TX2) (N := 11) (Or.inl rfl) (by decide) rfl B rfl dX11_remember_62 (fun M_4 => ?_)
  refine g_aload_n B dX11_remember_63 0 rfl ?_
  refine g_aload_n B dX11_remember_64 0 rfl ?_
  refine g_getR (ci := 10) (T0 := TX11) (N := 18) B (by decide) rfl in_10 (k := 9) (by decide) rfl wd_391 (fun _ h => h) dX11_remember_65 (fun v_5 => ?_)
  refine g_alen B dX11_remember_68 (fun v_6 => ?_)
  refine g_iconst (v := 1) B dX11_remember_69 (by decide) ?_
  refine g_isub B dX11_remember_70 ?_
  refine g_putI (ci := 10) (T0 := TX11) (N := 18) B (by decide) rfl in_10 tyX11 tyX11_ok nmX11 (k := 10) (by decide) wd_392 (fun _ h => h) rfl rfl (ty := .int) (by decide +kernel) rfl rfl dX11_remember_71 (fun M_7 => ?_)
  refine g_sub (lv' := [(0, .ref a0)]) [0] rfl ?_
  exact g11_remember_J74 B hS9 hr a0 M_7
set_option maxRecDepth 20000 in
set_option maxHeartbeats 2000000 in
theorem g11_remember {X : gX} {p : Program} {l : Launch} {e : Env} {s : State} {m : MethodId} {args : Array Value} {below : List Frame} {meth : Method} {c : Code} (B : gB X p (rm11_remember) s m args meth c RX11 cX11_remember 3 (rm11_remember)) (hS9 : gS X s) (hr : meth.sig.returnType = none) (a0 : Nat) (M : mMem) : GG X p l e (rm11_remember) s m args below meth c (gP X below args s 0 0 (fun M9 : mMem => (none, M9))) 3 0 0 0 [(0, .ref a0)] [] M (p11_remember a0 M) := by
  unfold p11_remember
  refine g_gd ?_
  refine g_aload_n B dX11_remember_0 0 rfl ?_
  refine g_getI (ci := 10) (T0 := TX11) (N := 18) B (by decide) rfl in_10 (k := 10) (by decide) rfl wd_392 (fun _ h => h) dX11_remember_1 (fun v_1 => ?_)
  refine g_aload_n B dX11_remember_4 0 rfl ?_
  refine g_getR (ci := 10) (T0 := TX11) (N := 18) B (by decide) rfl in_10 (k := 9) (by decide) rfl wd_391 (fun _ h => h) dX11_remember_5 (fun v_2 => ?_)
  refine g_alen B dX11_remember_8 (fun v_3 => ?_)
  refine g_icmp_lt B 74 dX11_remember_9 (by decide) ?_ ?_
  · refine g_sub (lv' := [(0, .ref a0)]) [0] rfl ?_
    exact g11_remember_J74 B hS9 hr a0 M
  · refine g_aload_n B dX11_remember_12 0 rfl ?_
    refine g_getR (ci := 10) (T0 := TX11) (N := 18) B (by decide) rfl in_10 (k := 9) (by decide) rfl wd_391 (fun _ h => h) dX11_remember_13 (fun v_4 => ?_)
    refine g_iconst (v := 0) B dX11_remember_16 (by decide) ?_
    refine g_aaload23 B dX11_remember_17 (fun v_5 => ?_)
    refine g_astore_n (lv' := [(1, .ref v_5), (0, .ref a0)]) B dX11_remember_18 (by decide) [0, 1] rfl ?_
    refine g_iconst (v := 1) B dX11_remember_19 (by decide) ?_
    refine g_istore_n (lv' := [(2, .int 1), (1, .ref v_5), (0, .ref a0)]) B dX11_remember_20 (by decide) [0, 1, 2] rfl ?_
    refine g_sub (lv' := [(0, .ref a0), (1, .ref v_5), (2, .int 1)]) [2, 1, 0] rfl ?_
    exact (g11_remember_L21 B hS9 hr p11_remember_J50 (fun e0 e1 e2 => g11_remember_J50 B hS9 hr e0 e1 e2)) gF a0 v_5 1 M
theorem c11_remember (X : gX) (l : Launch) (a0 : Nat) (M : mMem) : Con X l yX11_remember cX11_remember 3 (none) rm11_remember (fun M9 : mMem => (none, M9)) [.ref a0] M (p11_remember a0 M) := g_con (own := RX11) (by decide +kernel) rfl (Nat.le_of_ble_eq_true rfl) (fun p e s m args below meth c B hS9 hr hn => g11_remember B hS9 hr a0 M)
theorem mf11_cradle : gMF yX11_cradle cX11_cradle 3 (some .int) 2 := ⟨wd_456, wd_1, ⟨by decide, by decide⟩, by decide +kernel⟩
set_option maxRecDepth 20000 in
set_option maxHeartbeats 2000000 in
theorem g11_cradle {X : gX} {p : Program} {l : Launch} {e : Env} {s : State} {m : MethodId} {args : Array Value} {below : List Frame} {meth : Method} {c : Code} (B : gB X p (rm11_cradle) s m args meth c RX11 cX11_cradle 3 (rm11_cradle)) (hS9 : gS X s) (hr : meth.sig.returnType = some .int) (a0 : Nat) (x1 : Int32) (x2 : Int32) (M : mMem) : GG X p l e (rm11_cradle) s m args below meth c (gP X below args s 0 0 (fun r9 : (Int32 × mMem) => (some (.int r9.1), r9.2))) 3 0 0 0 [(0, .ref a0), (1, .int x1), (2, .int x2)] [] M (p11_cradle a0 x1 x2 M) := by
  unfold p11_cradle
  refine g_gd ?_
  refine g_aload_n B dX11_cradle_0 0 rfl ?_
  refine g_getR (ci := 10) (T0 := TX11) (N := 18) B (by decide) rfl in_10 (k := 14) (by decide) rfl wd_396 (fun _ h => h) dX11_cradle_1 (fun v_1 => ?_)
  refine g_iload_n B dX11_cradle_4 1 rfl ?_
  refine g_iload_n B dX11_cradle_5 2 rfl ?_
  refine g_callV_iw [.int x1, .int x2] (ci := 1) (T0 := TX1) (N := 3) B hS9 mf1_firstInCrib wd_458 (gw B wd_459) wd_457 (by decide) rfl (fun h => (gd_ne h).1) (c1_firstInCrib X l v_1 x1 x2 M) (by decide) (by decide) (by decide) rfl (by decide) dX11_cradle_6 rfl (fun q_2 => ?_)
  exact g_ireturn B hr rfl (by decide) (by decide) rfl dX11_cradle_9
theorem c11_cradle (X : gX) (l : Launch) (a0 : Nat) (x1 : Int32) (x2 : Int32) (M : mMem) : Con X l yX11_cradle cX11_cradle 3 (some .int) rm11_cradle (fun r9 : (Int32 × mMem) => (some (.int r9.1), r9.2)) [.ref a0, .int x1, .int x2] M (p11_cradle a0 x1 x2 M) := g_con (own := RX11) (by decide +kernel) rfl (Nat.le_of_ble_eq_true rfl) (fun p e s m args below meth c B hS9 hr hn => g11_cradle B hS9 hr a0 x1 x2 M)
theorem mf11_again : gMF yX11_again cX11_again 2 (some .int) 1 := ⟨wd_556, wd_1, ⟨by decide, by decide⟩, by decide +kernel⟩
set_option maxRecDepth 20000 in
set_option maxHeartbeats 2000000 in
theorem g11_again {X : gX} {p : Program} {l : Launch} {e : Env} {s : State} {m : MethodId} {args : Array Value} {below : List Frame} {meth : Method} {c : Code} (B : gB X p (rm11_again) s m args meth c RX11 cX11_again 2 (rm11_again)) (hS9 : gS X s) (hr : meth.sig.returnType = some .int) (a0 : Nat) (x1 : Int32) (M : mMem) : GG X p l e (rm11_again) s m args below meth c (gP X below args s 0 0 (fun r9 : (Int32 × mMem) => (some (.int r9.1), r9.2))) 2 0 0 0 [(0, .ref a0), (1, .int x1)] [] M (p11_again a0 x1 M) := by
  unfold p11_again
  refine g_gd ?_
  refine g_aload_n B dX11_again_0 0 rfl ?_
  refine g_getR (ci := 10) (T0 := TX11) (N := 18) B (by decide) rfl in_10 (k := 14) (by decide) rfl wd_396 (fun _ h => h) dX11_again_1 (fun v_1 => ?_)
  refine g_iload_n B dX11_again_4 1 rfl ?_
  refine g_callV_iw [.int x1] (ci := 1) (T0 := TX1) (N := 3) B hS9 mf1_firstAsNow wd_558 (gw B wd_559) wd_557 (by decide) rfl (fun h => (gd_ne h).1) (c1_firstAsNow X l v_1 x1 M) (by decide) (by decide) (by decide) rfl (by decide) dX11_again_5 rfl (fun q_2 => ?_)
  exact g_ireturn B hr rfl (by decide) (by decide) rfl dX11_again_8
theorem c11_again (X : gX) (l : Launch) (a0 : Nat) (x1 : Int32) (M : mMem) : Con X l yX11_again cX11_again 2 (some .int) rm11_again (fun r9 : (Int32 × mMem) => (some (.int r9.1), r9.2)) [.ref a0, .int x1] M (p11_again a0 x1 M) := g_con (own := RX11) (by decide +kernel) rfl (Nat.le_of_ble_eq_true rfl) (fun p e s m args below meth c B hS9 hr hn => g11_again B hS9 hr a0 x1 M)
theorem mf11_match : gMF yX11_match cX11_match 2 (some .int) 1 := ⟨wd_568, wd_1, ⟨by decide, by decide⟩, by decide +kernel⟩
set_option maxRecDepth 20000 in
set_option maxHeartbeats 2000000 in
theorem g11_match_J28 {X : gX} {p : Program} {l : Launch} {e : Env} {s : State} {m : MethodId} {args : Array Value} {below : List Frame} {meth : Method} {c : Code} (B : gB X p (rm11_match) s m args meth c RX11 cX11_match 2 (rm11_match)) (hS9 : gS X s) (hr : meth.sig.returnType = some .int) (u0 : Int32) (M : mMem) : GG X p l e (rm11_match) s m args below meth c (gP X below args s 0 0 (fun r9 : (Int32 × mMem) => (some (.int r9.1), r9.2))) 2 0 0 28 [] [.int u0] M (p11_match_J28 u0 M) := by
  unfold p11_match_J28
  exact g_ireturn B hr rfl (by decide) (by decide) rfl dX11_match_28
set_option maxRecDepth 20000 in
set_option maxHeartbeats 2000000 in
theorem g11_match {X : gX} {p : Program} {l : Launch} {e : Env} {s : State} {m : MethodId} {args : Array Value} {below : List Frame} {meth : Method} {c : Code} (B : gB X p (rm11_match) s m args meth c RX11 cX11_match 2 (rm11_match)) (hS9 : gS X s) (hr : meth.sig.returnType = some .int) (a0 : Nat) (x1 : Int32) (M : mMem) : GG X p l e (rm11_match) s m args below meth c (gP X below args s 0 0 (fun r9 : (Int32 × mMem) => (some (.int r9.1), r9.2))) 2 0 0 0 [(0, .ref a0), (1, .int x1)] [] M (p11_match a0 x1 M) := by
  unfold p11_match
  refine g_gd ?_
  refine g_aload_n B dX11_match_0 0 rfl ?_
  refine g_getR (ci := 10) (T0 := TX11) (N := 18) B (by decide) rfl in_10 (k := 16) (by decide) rfl wd_398 (fun _ h => h) dX11_match_1 (fun v_1 => ?_)
  refine g_callV_vw [] (ci := 7) (T0 := TX7) (N := 6) B hS9 mf7_bestMatching wd_570 (gw B wd_571) wd_569 (by decide) rfl (fun h => (gd_ne h).1) (c7_bestMatching X l v_1 M) (by decide) (by decide) (by decide) rfl (by decide) dX11_match_4 rfl (fun q_2 => ?_)
  refine g_iload_n B dX11_match_7 1 rfl ?_
  refine g_if_eq B 21 dX11_match_8 (by decide) ?_ ?_
  · refine g_aload_n B dX11_match_21 0 rfl ?_
    refine g_getR (ci := 10) (T0 := TX11) (N := 18) B (by decide) rfl in_10 (k := 16) (by decide) rfl wd_398 (fun _ h => h) dX11_match_22 (fun v_3 => ?_)
    refine g_getI (ci := 7) (T0 := TX7) (N := 6) B (by decide) rfl in_7 (k := 4) (by decide) rfl wd_356 (fun _ h => h) dX11_match_25 (fun v_4 => ?_)
    refine g_sub (lv' := []) [] rfl ?_
    exact g11_match_J28 B hS9 hr v_4 q_2
  · refine g_aload_n B dX11_match_11 0 rfl ?_
    refine g_getR (ci := 10) (T0 := TX11) (N := 18) B (by decide) rfl in_10 (k := 16) (by decide) rfl wd_398 (fun _ h => h) dX11_match_12 (fun v_5 => ?_)
    refine g_getI (ci := 7) (T0 := TX7) (N := 6) B (by decide) rfl in_7 (k := 5) (by decide) rfl wd_358 (fun _ h => h) dX11_match_15 (fun v_6 => ?_)
    refine g_goto B 28 dX11_match_18 (by decide) ?_
    refine g_sub (lv' := []) [] rfl ?_
    exact g11_match_J28 B hS9 hr v_6 q_2
theorem c11_match (X : gX) (l : Launch) (a0 : Nat) (x1 : Int32) (M : mMem) : Con X l yX11_match cX11_match 2 (some .int) rm11_match (fun r9 : (Int32 × mMem) => (some (.int r9.1), r9.2)) [.ref a0, .int x1] M (p11_match a0 x1 M) := g_con (own := RX11) (by decide +kernel) rfl (Nat.le_of_ble_eq_true rfl) (fun p e s m args below meth c B hS9 hr hn => g11_match B hS9 hr a0 x1 M)
theorem mf11_runs : gMF yX11_runs cX11_runs 1 (some .int) 0 := ⟨wd_602, wd_1, ⟨by decide, by decide⟩, by decide +kernel⟩
set_option maxRecDepth 20000 in
set_option maxHeartbeats 2000000 in
theorem g11_runs {X : gX} {p : Program} {l : Launch} {e : Env} {s : State} {m : MethodId} {args : Array Value} {below : List Frame} {meth : Method} {c : Code} (B : gB X p (rm11_runs) s m args meth c RX11 cX11_runs 1 (rm11_runs)) (hS9 : gS X s) (hr : meth.sig.returnType = some .int) {M : mMem} (a0 : Nat) : GG X p l e (rm11_runs) s m args below meth c (gP X below args s 0 0 (fun r9 : Int32 => (some (.int r9), M))) 1 0 0 0 [(0, .ref a0)] [] M (p11_runs a0 M) := by
  unfold p11_runs
  refine g_gd ?_
  refine g_aload_n B dX11_runs_0 0 rfl ?_
  refine g_getR (ci := 10) (T0 := TX11) (N := 18) B (by decide) rfl in_10 (k := 16) (by decide) rfl wd_398 (fun _ h => h) dX11_runs_1 (fun v_1 => ?_)
  refine g_callV_ip [] (ci := 7) (T0 := TX7) (N := 6) B hS9 mf7_runaways wd_604 (gw B wd_605) wd_603 (by decide) rfl (fun h => (gd_ne h).1) (c7_runaways X l v_1 M) (by decide) (by decide) (by decide) rfl (by decide) dX11_runs_4 rfl (fun v_2 => ?_)
  exact g_ireturn B hr rfl (by decide) (by decide) rfl dX11_runs_7
theorem c11_runs (X : gX) (l : Launch) (a0 : Nat) (M : mMem) : Con X l yX11_runs cX11_runs 1 (some .int) rm11_runs (fun r9 : Int32 => (some (.int r9), M)) [.ref a0] M (p11_runs a0 M) := g_con (own := RX11) (by decide +kernel) rfl (Nat.le_of_ble_eq_true rfl) (fun p e s m args below meth c B hS9 hr hn => g11_runs B hS9 hr a0)
theorem mf11_net : gMF yX11_net cX11_net 1 (some .int) 0 := ⟨wd_615, wd_1, ⟨by decide, by decide⟩, by decide +kernel⟩
set_option maxRecDepth 20000 in
set_option maxHeartbeats 2000000 in
theorem g11_net {X : gX} {p : Program} {l : Launch} {e : Env} {s : State} {m : MethodId} {args : Array Value} {below : List Frame} {meth : Method} {c : Code} (B : gB X p (rm11_net) s m args meth c RX11 cX11_net 1 (rm11_net)) (hS9 : gS X s) (hr : meth.sig.returnType = some .int) {M : mMem} (a0 : Nat) : GG X p l e (rm11_net) s m args below meth c (gP X below args s 0 0 (fun r9 : Int32 => (some (.int r9), M))) 1 0 0 0 [(0, .ref a0)] [] M (p11_net a0 M) := by
  unfold p11_net
  refine g_gd ?_
  refine g_aload_n B dX11_net_0 0 rfl ?_
  refine g_getR (ci := 10) (T0 := TX11) (N := 18) B (by decide) rfl in_10 (k := 17) (by decide) rfl wd_399 (fun _ h => h) dX11_net_1 (fun v_1 => ?_)
  refine g_callV_ip [] (ci := 9) (T0 := TX10) (N := 1) B hS9 mf10_netDebts wd_617 (gw B wd_618) wd_616 (by decide) rfl (fun h => (gd_ne h).1) (c10_netDebts X l v_1 M) (by decide) (by decide) (by decide) rfl (by decide) dX11_net_4 rfl (fun v_2 => ?_)
  exact g_ireturn B hr rfl (by decide) (by decide) rfl dX11_net_7
theorem c11_net (X : gX) (l : Launch) (a0 : Nat) (M : mMem) : Con X l yX11_net cX11_net 1 (some .int) rm11_net (fun r9 : Int32 => (some (.int r9), M)) [.ref a0] M (p11_net a0 M) := g_con (own := RX11) (by decide +kernel) rfl (Nat.le_of_ble_eq_true rfl) (fun p e s m args below meth c B hS9 hr hn => g11_net B hS9 hr a0)
theorem mf11_rich : gMF yX11_rich cX11_rich 3 (some .int) 0 := ⟨wd_628, wd_1, ⟨by decide, by decide⟩, by decide +kernel⟩
set_option maxRecDepth 20000 in
set_option maxHeartbeats 2000000 in
theorem g11_rich_J47 {X : gX} {p : Program} {l : Launch} {e : Env} {s : State} {m : MethodId} {args : Array Value} {below : List Frame} {meth : Method} {c : Code} (B : gB X p (rm11_rich) s m args meth c RX11 cX11_rich 3 (rm11_rich)) (hS9 : gS X s) (hr : meth.sig.returnType = some .int) {M : mMem} (rec4 : Nat → Int32 → Int32 → Option Int32) (hrec4 : ∀ (a0 : Nat) (x1 : Int32) (x2 : Int32), GG X p l e (rm11_rich) s m args below meth c (gP X below args s 0 0 (fun r9 : Int32 => (some (.int r9), M))) 3 0 0 4 [(0, .ref a0), (1, .int x1), (2, .int x2)] [] M (rec4 a0 x1 x2)) (a0 : Nat) (x1 : Int32) (x2 : Int32) : GG X p l e (rm11_rich) s m args below meth c (gP X below args s 0 0 (fun r9 : Int32 => (some (.int r9), M))) 3 0 0 47 [(0, .ref a0), (1, .int x1), (2, .int x2)] [] M (p11_rich_J47 M rec4 a0 x1 x2) := by
  unfold p11_rich_J47
  refine g_iinc (v := (x2 + 1)) (lv' := [(2, .int (x2 + 1)), (0, .ref a0), (1, .int x1)]) B dX11_rich_47 2 rfl rfl (by decide) [0, 1, 2] rfl ?_
  refine g_goto B 4 dX11_rich_50 (by decide) ?_
  refine g_sub (lv' := [(0, .ref a0), (1, .int x1), (2, .int (x2 + 1))]) [1, 2, 0] rfl ?_
  exact hrec4 a0 x1 (x2 + 1)
set_option maxRecDepth 20000 in
set_option maxHeartbeats 2000000 in
theorem g11_rich_J45 {X : gX} {p : Program} {l : Launch} {e : Env} {s : State} {m : MethodId} {args : Array Value} {below : List Frame} {meth : Method} {c : Code} (B : gB X p (rm11_rich) s m args meth c RX11 cX11_rich 3 (rm11_rich)) (hS9 : gS X s) (hr : meth.sig.returnType = some .int) {M : mMem} (rec4 : Nat → Int32 → Int32 → Option Int32) (hrec4 : ∀ (a0 : Nat) (x1 : Int32) (x2 : Int32), GG X p l e (rm11_rich) s m args below meth c (gP X below args s 0 0 (fun r9 : Int32 => (some (.int r9), M))) 3 0 0 4 [(0, .ref a0), (1, .int x1), (2, .int x2)] [] M (rec4 a0 x1 x2)) (a0 : Nat) (x2 : Int32) : GG X p l e (rm11_rich) s m args below meth c (gP X below args s 0 0 (fun r9 : Int32 => (some (.int r9), M))) 3 0 0 45 [(0, .ref a0), (2, .int x2)] [] M (p11_rich_J45 M rec4 a0 x2) := by
  unfold p11_rich_J45
  refine g_iload_n B dX11_rich_45 1 rfl ?_
  refine g_istore_n (lv' := [(1, .int x2), (0, .ref a0), (2, .int x2)]) B dX11_rich_46 (by decide) [0, 1, 2] rfl ?_
  refine g_sub (lv' := [(0, .ref a0), (1, .int x2), (2, .int x2)]) [1, 0, 2] rfl ?_
  exact g11_rich_J47 B hS9 hr rec4 hrec4 a0 x2 x2
set_option maxRecDepth 20000 in
set_option maxHeartbeats 2000000 in
theorem g11_rich_L4 {X : gX} {p : Program} {l : Launch} {e : Env} {s : State} {m : MethodId} {args : Array Value} {below : List Frame} {meth : Method} {c : Code} (B : gB X p (rm11_rich) s m args meth c RX11 cX11_rich 3 (rm11_rich)) (hS9 : gS X s) (hr : meth.sig.returnType = some .int) {M : mMem} : ∀ (n : Nat) (a0 : Nat) (x1 : Int32) (x2 : Int32), GG X p l e (rm11_rich) s m args below meth c (gP X below args s 0 0 (fun r9 : Int32 => (some (.int r9), M))) 3 0 0 4 [(0, .ref a0), (1, .int x1), (2, .int x2)] [] M (p11_rich_L4 M n a0 x1 x2) := by
  intro n
  induction n with
  | zero => intro a0 x1 x2; exact g_none
  | succ n ih =>
    intro a0 x1 x2
    rw [p11_rich_L4]
    refine g_iload_n B dX11_rich_4 2 rfl ?_
    refine g_aload_n B dX11_rich_5 0 rfl ?_
    refine g_getR (ci := 10) (T0 := TX11) (N := 18) B (by decide) rfl in_10 (k := 3) (by decide) rfl wd_385 (fun _ h => h) dX11_rich_6 (fun v_1 => ?_)
    refine g_getI (ci := 2) (T0 := TX2) (N := 11) B (by decide) rfl in_2 (k := 4) (by decide) rfl wd_145 (fun _ h => h) dX11_rich_9 (fun v_2 => ?_)
    refine g_icmp_ge B 53 dX11_rich_12 (by decide) ?_ ?_
    · refine g_iload_n B dX11_rich_15 1 rfl ?_
      refine g_iconst (v := (-1)) B dX11_rich_16 (by decide) ?_
      refine g_icmp_eq B 45 dX11_rich_17 (by decide) ?_ ?_
      · refine g_sub (lv' := [(0, .ref a0), (2, .int x2)]) [0, 2] rfl ?_
        exact g11_rich_J45 B hS9 hr (p11_rich_L4 M n) ih a0 x2
      · refine g_aload_n B dX11_rich_20 0 rfl ?_
        refine g_getR (ci := 10) (T0 := TX11) (N := 18) B (by decide) rfl in_10 (k := 3) (by decide) rfl wd_385 (fun _ h => h) dX11_rich_21 (fun v_3 => ?_)
        refine g_iload_n B dX11_rich_24 2 rfl ?_
        refine g_callV_ap [.int x2] (ci := 2) (T0 := TX2) (N := 11) B hS9 mf2_at wd_466 (gw B wd_467) wd_629 (by decide) rfl (fun h => (gd_ne h).1) (c2_at X l v_3 x2 M) (by decide) (by decide) (by decide) rfl (by decide) dX11_rich_25 rfl (fun v_4 => ?_)
        refine g_getI (ci := 8) (T0 := TX8) (N := 9) B (by decide) rfl in_8 (k := 7) (by decide) rfl wd_90 (fun _ h => h) dX11_rich_28 (fun v_5 => ?_)
        refine g_aload_n B dX11_rich_31 0 rfl ?_
        refine g_getR (ci := 10) (T0 := TX11) (N := 18) B (by decide) rfl in_10 (k := 3) (by decide) rfl wd_385 (fun _ h => h) dX11_rich_32 (fun v_6 => ?_)
        refine g_iload_n B dX11_rich_35 1 rfl ?_
        refine g_callV_ap [.int x1] (ci := 2) (T0 := TX2) (N := 11) B hS9 mf2_at wd_466 (gw B wd_467) wd_629 (by decide) rfl (fun h => (gd_ne h).1) (c2_at X l v_6 x1 M) (by decide) (by decide) (by decide) rfl (Nat.le_of_ble_eq_true rfl) dX11_rich_36 rfl (fun v_7 => ?_)
        refine g_getI (ci := 8) (T0 := TX8) (N := 9) B (by decide) rfl in_8 (k := 7) (by decide) rfl wd_90 (fun _ h => h) dX11_rich_39 (fun v_8 => ?_)
        refine g_icmp_le B 47 dX11_rich_42 (by decide) ?_ ?_
        · refine g_sub (lv' := [(0, .ref a0), (2, .int x2)]) [0, 2] rfl ?_
          exact g11_rich_J45 B hS9 hr (p11_rich_L4 M n) ih a0 x2
        · refine g_sub (lv' := [(0, .ref a0), (1, .int x1), (2, .int x2)]) [0, 1, 2] rfl ?_
          exact g11_rich_J47 B hS9 hr (p11_rich_L4 M n) ih a0 x1 x2
    · refine g_iload_n B dX11_rich_53 1 rfl ?_
      exact g_ireturn B hr rfl (by decide) (by decide) rfl dX11_rich_54
set_option maxRecDepth 20000 in
set_option maxHeartbeats 2000000 in
theorem g11_rich {X : gX} {p : Program} {l : Launch} {e : Env} {s : State} {m : MethodId} {args : Array Value} {below : List Frame} {meth : Method} {c : Code} (B : gB X p (rm11_rich) s m args meth c RX11 cX11_rich 3 (rm11_rich)) (hS9 : gS X s) (hr : meth.sig.returnType = some .int) {M : mMem} (a0 : Nat) : GG X p l e (rm11_rich) s m args below meth c (gP X below args s 0 0 (fun r9 : Int32 => (some (.int r9), M))) 3 0 0 0 [(0, .ref a0)] [] M (p11_rich a0 M) := by
  unfold p11_rich
  refine g_gd ?_
  refine g_iconst (v := (-1)) B dX11_rich_0 (by decide) ?_
  refine g_istore_n (lv' := [(1, .int (-1)), (0, .ref a0)]) B dX11_rich_1 (by decide) [0, 1] rfl ?_
  refine g_iconst (v := 0) B dX11_rich_2 (by decide) ?_
  refine g_istore_n (lv' := [(2, .int 0), (1, .int (-1)), (0, .ref a0)]) B dX11_rich_3 (by decide) [0, 1, 2] rfl ?_
  refine g_sub (lv' := [(0, .ref a0), (1, .int (-1)), (2, .int 0)]) [2, 1, 0] rfl ?_
  exact (g11_rich_L4 B hS9 hr) gF a0 (-1) 0
theorem c11_rich (X : gX) (l : Launch) (a0 : Nat) (M : mMem) : Con X l yX11_rich cX11_rich 3 (some .int) rm11_rich (fun r9 : Int32 => (some (.int r9), M)) [.ref a0] M (p11_rich a0 M) := g_con (own := RX11) (by decide +kernel) rfl (Nat.le_of_ble_eq_true rfl) (fun p e s m args below meth c B hS9 hr hn => g11_rich B hS9 hr a0)
theorem mf11_senior : gMF yX11_senior cX11_senior 1 (some .int) 0 := ⟨wd_633, wd_1, ⟨by decide, by decide⟩, by decide +kernel⟩
set_option maxRecDepth 20000 in
set_option maxHeartbeats 2000000 in
theorem g11_senior {X : gX} {p : Program} {l : Launch} {e : Env} {s : State} {m : MethodId} {args : Array Value} {below : List Frame} {meth : Method} {c : Code} (B : gB X p (rm11_senior) s m args meth c RX11 cX11_senior 1 (rm11_senior)) (hS9 : gS X s) (hr : meth.sig.returnType = some .int) {M : mMem} (a0 : Nat) : GG X p l e (rm11_senior) s m args below meth c (gP X below args s 0 0 (fun r9 : Int32 => (some (.int r9), M))) 1 0 0 0 [(0, .ref a0)] [] M (p11_senior a0 M) := by
  unfold p11_senior
  refine g_gd ?_
  refine g_aload_n B dX11_senior_0 0 rfl ?_
  refine g_getR (ci := 10) (T0 := TX11) (N := 18) B (by decide) rfl in_10 (k := 17) (by decide) rfl wd_399 (fun _ h => h) dX11_senior_1 (fun v_1 => ?_)
  refine g_callV_ip [] (ci := 9) (T0 := TX10) (N := 1) B hS9 mf10_youngestBranch wd_635 (gw B wd_636) wd_634 (by decide) rfl (fun h => (gd_ne h).1) (c10_youngestBranch X l v_1 M) (by decide) (by decide) (by decide) rfl (by decide) dX11_senior_4 rfl (fun v_2 => ?_)
  exact g_ireturn B hr rfl (by decide) (by decide) rfl dX11_senior_7
theorem c11_senior (X : gX) (l : Launch) (a0 : Nat) (M : mMem) : Con X l yX11_senior cX11_senior 1 (some .int) rm11_senior (fun r9 : Int32 => (some (.int r9), M)) [.ref a0] M (p11_senior a0 M) := g_con (own := RX11) (by decide +kernel) rfl (Nat.le_of_ble_eq_true rfl) (fun p e s m args below meth c B hS9 hr hn => g11_senior B hS9 hr a0)
theorem mf11_free : gMF yX11_free cX11_free 3 (some .int) 0 := ⟨wd_650, wd_1, ⟨by decide, by decide⟩, by decide +kernel⟩
set_option maxRecDepth 20000 in
set_option maxHeartbeats 2000000 in
theorem g11_free_J35 {X : gX} {p : Program} {l : Launch} {e : Env} {s : State} {m : MethodId} {args : Array Value} {below : List Frame} {meth : Method} {c : Code} (B : gB X p (rm11_free) s m args meth c RX11 cX11_free 3 (rm11_free)) (hS9 : gS X s) (hr : meth.sig.returnType = some .int) {M : mMem} (rec4 : Nat → Int32 → Int32 → Option Int32) (hrec4 : ∀ (a0 : Nat) (x1 : Int32) (x2 : Int32), GG X p l e (rm11_free) s m args below meth c (gP X below args s 0 0 (fun r9 : Int32 => (some (.int r9), M))) 3 0 0 4 [(0, .ref a0), (1, .int x1), (2, .int x2)] [] M (rec4 a0 x1 x2)) (a0 : Nat) (x1 : Int32) (x2 : Int32) : GG X p l e (rm11_free) s m args below meth c (gP X below args s 0 0 (fun r9 : Int32 => (some (.int r9), M))) 3 0 0 35 [(0, .ref a0), (1, .int x1), (2, .int x2)] [] M (p11_free_J35 M rec4 a0 x1 x2) := by
  unfold p11_free_J35
  refine g_iinc (v := (x2 + 1)) (lv' := [(2, .int (x2 + 1)), (0, .ref a0), (1, .int x1)]) B dX11_free_35 2 rfl rfl (by decide) [0, 1, 2] rfl ?_
  refine g_goto B 4 dX11_free_38 (by decide) ?_
  refine g_sub (lv' := [(0, .ref a0), (1, .int x1), (2, .int (x2 + 1))]) [1, 2, 0] rfl ?_
  exact hrec4 a0 x1 (x2 + 1)
set_option maxRecDepth 20000 in
set_option maxHeartbeats 2000000 in
theorem g11_free_L4 {X : gX} {p : Program} {l : Launch} {e : Env} {s : State} {m : MethodId} {args : Array Value} {below : List Frame} {meth : Method} {c : Code} (B : gB X p (rm11_free) s m args meth c RX11 cX11_free 3 (rm11_free)) (hS9 : gS X s) (hr : meth.sig.returnType = some .int) {M : mMem} : ∀ (n : Nat) (a0 : Nat) (x1 : Int32) (x2 : Int32), GG X p l e (rm11_free) s m args below meth c (gP X below args s 0 0 (fun r9 : Int32 => (some (.int r9), M))) 3 0 0 4 [(0, .ref a0), (1, .int x1), (2, .int x2)] [] M (p11_free_L4 M n a0 x1 x2) := by
  intro n
  induction n with
  | zero => intro a0 x1 x2; exact g_none
  | succ n ih =>
    intro a0 x1 x2
    rw [p11_free_L4]
    refine g_iload_n B dX11_free_4 2 rfl ?_
    refine g_aload_n B dX11_free_5 0 rfl ?_
    refine g_getR (ci := 10) (T0 := TX11) (N := 18) B (by decide) rfl in_10 (k := 3) (by decide) rfl wd_385 (fun _ h => h) dX11_free_6 (fun v_1 => ?_)
    refine g_getI (ci := 2) (T0 := TX2) (N := 11) B (by decide) rfl in_2 (k := 4) (by decide) rfl wd_145 (fun _ h => h) dX11_free_9 (fun v_2 => ?_)
    refine g_icmp_ge B 41 dX11_free_12 (by decide) ?_ ?_
    · refine g_aload_n B dX11_free_15 0 rfl ?_
      refine g_getR (ci := 10) (T0 := TX11) (N := 18) B (by decide) rfl in_10 (k := 3) (by decide) rfl wd_385 (fun _ h => h) dX11_free_16 (fun v_3 => ?_)
      refine g_iload_n B dX11_free_19 2 rfl ?_
      refine g_callV_ap [.int x2] (ci := 2) (T0 := TX2) (N := 11) B hS9 mf2_at wd_466 (gw B wd_467) wd_629 (by decide) rfl (fun h => (gd_ne h).1) (c2_at X l v_3 x2 M) (by decide) (by decide) (by decide) rfl (by decide) dX11_free_20 rfl (fun v_4 => ?_)
      refine g_getI (ci := 8) (T0 := TX8) (N := 9) B (by decide) rfl in_8 (k := 8) (by decide) rfl wd_95 (fun _ h => h) dX11_free_23 (fun v_5 => ?_)
      refine g_if_ne B 35 dX11_free_26 (by decide) ?_ ?_
      · refine g_iload_n B dX11_free_29 1 rfl ?_
        refine g_iconst (v := 1) B dX11_free_30 (by decide) ?_
        refine g_iload_n B dX11_free_31 2 rfl ?_
        refine g_ishl B dX11_free_32 ?_
        refine g_ior B dX11_free_33 ?_
        refine g_istore_n (lv' := [(1, .int (x1 ||| ((1 : Int32) <<< (x2 &&& 31)))), (0, .ref a0), (2, .int x2)]) B dX11_free_34 (by decide) [0, 1, 2] rfl ?_
        refine g_sub (lv' := [(0, .ref a0), (1, .int (x1 ||| ((1 : Int32) <<< (x2 &&& 31)))), (2, .int x2)]) [1, 0, 2] rfl ?_
        exact g11_free_J35 B hS9 hr (p11_free_L4 M n) ih a0 (x1 ||| ((1 : Int32) <<< (x2 &&& 31))) x2
      · refine g_sub (lv' := [(0, .ref a0), (1, .int x1), (2, .int x2)]) [0, 1, 2] rfl ?_
        exact g11_free_J35 B hS9 hr (p11_free_L4 M n) ih a0 x1 x2
    · refine g_iload_n B dX11_free_41 1 rfl ?_
      exact g_ireturn B hr rfl (by decide) (by decide) rfl dX11_free_42
set_option maxRecDepth 20000 in
set_option maxHeartbeats 2000000 in
theorem g11_free {X : gX} {p : Program} {l : Launch} {e : Env} {s : State} {m : MethodId} {args : Array Value} {below : List Frame} {meth : Method} {c : Code} (B : gB X p (rm11_free) s m args meth c RX11 cX11_free 3 (rm11_free)) (hS9 : gS X s) (hr : meth.sig.returnType = some .int) {M : mMem} (a0 : Nat) : GG X p l e (rm11_free) s m args below meth c (gP X below args s 0 0 (fun r9 : Int32 => (some (.int r9), M))) 3 0 0 0 [(0, .ref a0)] [] M (p11_free a0 M) := by
  unfold p11_free
  refine g_gd ?_
  refine g_iconst (v := 0) B dX11_free_0 (by decide) ?_
  refine g_istore_n (lv' := [(1, .int 0), (0, .ref a0)]) B dX11_free_1 (by decide) [0, 1] rfl ?_
  refine g_iconst (v := 0) B dX11_free_2 (by decide) ?_
  refine g_istore_n (lv' := [(2, .int 0), (1, .int 0), (0, .ref a0)]) B dX11_free_3 (by decide) [0, 1, 2] rfl ?_
  refine g_sub (lv' := [(0, .ref a0), (1, .int 0), (2, .int 0)]) [2, 1, 0] rfl ?_
  exact (g11_free_L4 B hS9 hr) gF a0 0 0
theorem c11_free (X : gX) (l : Launch) (a0 : Nat) (M : mMem) : Con X l yX11_free cX11_free 3 (some .int) rm11_free (fun r9 : Int32 => (some (.int r9), M)) [.ref a0] M (p11_free a0 M) := g_con (own := RX11) (by decide +kernel) rfl (Nat.le_of_ble_eq_true rfl) (fun p e s m args below meth c B hS9 hr hn => g11_free B hS9 hr a0)
theorem mf11_twins : gMF yX11_twins cX11_twins 4 (some .int) 0 := ⟨wd_654, wd_1, ⟨by decide, by decide⟩, by decide +kernel⟩
set_option maxRecDepth 20000 in
set_option maxHeartbeats 2000000 in
theorem g11_twins_J58 {X : gX} {p : Program} {l : Launch} {e : Env} {s : State} {m : MethodId} {args : Array Value} {below : List Frame} {meth : Method} {c : Code} (B : gB X p (rm11_twins) s m args meth c RX11 cX11_twins 4 (rm11_twins)) (hS9 : gS X s) (hr : meth.sig.returnType = some .int) {M : mMem} (rec19 : Nat → Int32 → Int32 → Int32 → Option Int32) (hrec19 : ∀ (a0 : Nat) (x1 : Int32) (x2 : Int32) (x3 : Int32), GG X p l e (rm11_twins) s m args below meth c (gP X below args s 0 0 (fun r9 : Int32 => (some (.int r9), M))) 4 0 0 19 [(0, .ref a0), (1, .int x1), (2, .int x2), (3, .int x3)] [] M (rec19 a0 x1 x2 x3)) (a0 : Nat) (x1 : Int32) (x2 : Int32) (x3 : Int32) : GG X p l e (rm11_twins) s m args below meth c (gP X below args s 0 0 (fun r9 : Int32 => (some (.int r9), M))) 4 0 0 58 [(0, .ref a0), (1, .int x1), (2, .int x2), (3, .int x3)] [] M (p11_twins_J58 M rec19 a0 x1 x2 x3) := by
  unfold p11_twins_J58
  refine g_iinc (v := (x3 + 1)) (lv' := [(3, .int (x3 + 1)), (0, .ref a0), (1, .int x1), (2, .int x2)]) B dX11_twins_58 3 rfl rfl (by decide) [0, 1, 2, 3] rfl ?_
  refine g_goto B 19 dX11_twins_61 (by decide) ?_
  refine g_sub (lv' := [(0, .ref a0), (1, .int x1), (2, .int x2), (3, .int (x3 + 1))]) [1, 2, 3, 0] rfl ?_
  exact hrec19 a0 x1 x2 (x3 + 1)
set_option maxRecDepth 20000 in
set_option maxHeartbeats 2000000 in
theorem g11_twins_L19 {X : gX} {p : Program} {l : Launch} {e : Env} {s : State} {m : MethodId} {args : Array Value} {below : List Frame} {meth : Method} {c : Code} (B : gB X p (rm11_twins) s m args meth c RX11 cX11_twins 4 (rm11_twins)) (hS9 : gS X s) (hr : meth.sig.returnType = some .int) {M : mMem} (k64 : Nat → Int32 → Int32 → Option Int32) (hk64 : ∀ (a0 : Nat) (x1 : Int32) (x2 : Int32), GG X p l e (rm11_twins) s m args below meth c (gP X below args s 0 0 (fun r9 : Int32 => (some (.int r9), M))) 4 0 0 64 [(0, .ref a0), (1, .int x1), (2, .int x2)] [] M (k64 a0 x1 x2)) : ∀ (n : Nat) (a0 : Nat) (x1 : Int32) (x2 : Int32) (x3 : Int32), GG X p l e (rm11_twins) s m args below meth c (gP X below args s 0 0 (fun r9 : Int32 => (some (.int r9), M))) 4 0 0 19 [(0, .ref a0), (1, .int x1), (2, .int x2), (3, .int x3)] [] M (p11_twins_L19 M k64 n a0 x1 x2 x3) := by
  intro n
  induction n with
  | zero => intro a0 x1 x2 x3; exact g_none
  | succ n ih =>
    intro a0 x1 x2 x3
    rw [p11_twins_L19]
    refine g_iload_n B dX11_twins_19 3 rfl ?_
    refine g_aload_n B dX11_twins_20 0 rfl ?_
    refine g_getR (ci := 10) (T0 := TX11) (N := 18) B (by decide) rfl in_10 (k := 3) (by decide) rfl wd_385 (fun _ h => h) dX11_twins_21 (fun v_1 => ?_)
    refine g_getI (ci := 2) (T0 := TX2) (N := 11) B (by decide) rfl in_2 (k := 4) (by decide) rfl wd_145 (fun _ h => h) dX11_twins_24 (fun v_2 => ?_)
    refine g_icmp_ge B 64 dX11_twins_27 (by decide) ?_ ?_
    · refine g_aload_n B dX11_twins_30 0 rfl ?_
      refine g_getR (ci := 10) (T0 := TX11) (N := 18) B (by decide) rfl in_10 (k := 3) (by decide) rfl wd_385 (fun _ h => h) dX11_twins_31 (fun v_3 => ?_)
      refine g_iload_n B dX11_twins_34 2 rfl ?_
      refine g_callV_ap [.int x2] (ci := 2) (T0 := TX2) (N := 11) B hS9 mf2_at wd_466 (gw B wd_467) wd_629 (by decide) rfl (fun h => (gd_ne h).1) (c2_at X l v_3 x2 M) (by decide) (by decide) (by decide) rfl (by decide) dX11_twins_35 rfl (fun v_4 => ?_)
      refine g_getI (ci := 8) (T0 := TX8) (N := 9) B (by decide) rfl in_8 (k := 0) (by decide) rfl wd_58 (fun _ h => h) dX11_twins_38 (fun v_5 => ?_)
      refine g_aload_n B dX11_twins_41 0 rfl ?_
      refine g_getR (ci := 10) (T0 := TX11) (N := 18) B (by decide) rfl in_10 (k := 3) (by decide) rfl wd_385 (fun _ h => h) dX11_twins_42 (fun v_6 => ?_)
      refine g_iload_n B dX11_twins_45 3 rfl ?_
      refine g_callV_ap [.int x3] (ci := 2) (T0 := TX2) (N := 11) B hS9 mf2_at wd_466 (gw B wd_467) wd_629 (by decide) rfl (fun h => (gd_ne h).1) (c2_at X l v_6 x3 M) (by decide) (by decide) (by decide) rfl (Nat.le_of_ble_eq_true rfl) dX11_twins_46 rfl (fun v_7 => ?_)
      refine g_getI (ci := 8) (T0 := TX8) (N := 9) B (by decide) rfl in_8 (k := 0) (by decide) rfl wd_58 (fun _ h => h) dX11_twins_49 (fun v_8 => ?_)
      refine g_icmp_ne B 58 dX11_twins_52 (by decide) ?_ ?_
      · refine g_iinc (v := (x1 + 1)) (lv' := [(1, .int (x1 + 1)), (0, .ref a0), (2, .int x2), (3, .int x3)]) B dX11_twins_55 1 rfl rfl (by decide) [0, 1, 2, 3] rfl ?_
        refine g_sub (lv' := [(0, .ref a0), (1, .int (x1 + 1)), (2, .int x2), (3, .int x3)]) [1, 0, 2, 3] rfl ?_
        exact g11_twins_J58 B hS9 hr (p11_twins_L19 M k64 n) ih a0 (x1 + 1) x2 x3
      · refine g_sub (lv' := [(0, .ref a0), (1, .int x1), (2, .int x2), (3, .int x3)]) [0, 1, 2, 3] rfl ?_
        exact g11_twins_J58 B hS9 hr (p11_twins_L19 M k64 n) ih a0 x1 x2 x3
    · refine g_sub (lv' := [(0, .ref a0), (1, .int x1), (2, .int x2)]) [0, 1, 2] rfl ?_
      exact hk64 a0 x1 x2
set_option maxRecDepth 20000 in
set_option maxHeartbeats 2000000 in
theorem g11_twins_J64 {X : gX} {p : Program} {l : Launch} {e : Env} {s : State} {m : MethodId} {args : Array Value} {below : List Frame} {meth : Method} {c : Code} (B : gB X p (rm11_twins) s m args meth c RX11 cX11_twins 4 (rm11_twins)) (hS9 : gS X s) (hr : meth.sig.returnType = some .int) {M : mMem} (rec4 : Nat → Int32 → Int32 → Option Int32) (hrec4 : ∀ (a0 : Nat) (x1 : Int32) (x2 : Int32), GG X p l e (rm11_twins) s m args below meth c (gP X below args s 0 0 (fun r9 : Int32 => (some (.int r9), M))) 4 0 0 4 [(0, .ref a0), (1, .int x1), (2, .int x2)] [] M (rec4 a0 x1 x2)) (a0 : Nat) (x1 : Int32) (x2 : Int32) : GG X p l e (rm11_twins) s m args below meth c (gP X below args s 0 0 (fun r9 : Int32 => (some (.int r9), M))) 4 0 0 64 [(0, .ref a0), (1, .int x1), (2, .int x2)] [] M (p11_twins_J64 M rec4 a0 x1 x2) := by
  unfold p11_twins_J64
  refine g_iinc (v := (x2 + 1)) (lv' := [(2, .int (x2 + 1)), (0, .ref a0), (1, .int x1)]) B dX11_twins_64 2 rfl rfl (by decide) [0, 1, 2] rfl ?_
  refine g_goto B 4 dX11_twins_67 (by decide) ?_
  refine g_sub (lv' := [(0, .ref a0), (1, .int x1), (2, .int (x2 + 1))]) [1, 2, 0] rfl ?_
  exact hrec4 a0 x1 (x2 + 1)
set_option maxRecDepth 20000 in
set_option maxHeartbeats 2000000 in
theorem g11_twins_L4 {X : gX} {p : Program} {l : Launch} {e : Env} {s : State} {m : MethodId} {args : Array Value} {below : List Frame} {meth : Method} {c : Code} (B : gB X p (rm11_twins) s m args meth c RX11 cX11_twins 4 (rm11_twins)) (hS9 : gS X s) (hr : meth.sig.returnType = some .int) {M : mMem} : ∀ (n : Nat) (a0 : Nat) (x1 : Int32) (x2 : Int32), GG X p l e (rm11_twins) s m args below meth c (gP X below args s 0 0 (fun r9 : Int32 => (some (.int r9), M))) 4 0 0 4 [(0, .ref a0), (1, .int x1), (2, .int x2)] [] M (p11_twins_L4 M n a0 x1 x2) := by
  intro n
  induction n with
  | zero => intro a0 x1 x2; exact g_none
  | succ n ih =>
    intro a0 x1 x2
    rw [p11_twins_L4]
    refine g_iload_n B dX11_twins_4 2 rfl ?_
    refine g_aload_n B dX11_twins_5 0 rfl ?_
    refine g_getR (ci := 10) (T0 := TX11) (N := 18) B (by decide) rfl in_10 (k := 3) (by decide) rfl wd_385 (fun _ h => h) dX11_twins_6 (fun v_1 => ?_)
    refine g_getI (ci := 2) (T0 := TX2) (N := 11) B (by decide) rfl in_2 (k := 4) (by decide) rfl wd_145 (fun _ h => h) dX11_twins_9 (fun v_2 => ?_)
    refine g_icmp_ge B 70 dX11_twins_12 (by decide) ?_ ?_
    · refine g_iload_n B dX11_twins_15 2 rfl ?_
      refine g_iconst (v := 1) B dX11_twins_16 (by decide) ?_
      refine g_iadd B dX11_twins_17 ?_
      refine g_istore_n (lv' := [(3, .int (x2 + 1)), (0, .ref a0), (1, .int x1), (2, .int x2)]) B dX11_twins_18 (by decide) [0, 1, 2, 3] rfl ?_
      refine g_sub (lv' := [(0, .ref a0), (1, .int x1), (2, .int x2), (3, .int (x2 + 1))]) [1, 2, 3, 0] rfl ?_
      exact (g11_twins_L19 B hS9 hr (p11_twins_J64 M (p11_twins_L4 M n)) (fun e0 e1 e2 => g11_twins_J64 B hS9 hr (p11_twins_L4 M n) ih e0 e1 e2)) gF a0 x1 x2 (x2 + 1)
    · refine g_iload_n B dX11_twins_70 1 rfl ?_
      exact g_ireturn B hr rfl (by decide) (by decide) rfl dX11_twins_71
set_option maxRecDepth 20000 in
set_option maxHeartbeats 2000000 in
theorem g11_twins {X : gX} {p : Program} {l : Launch} {e : Env} {s : State} {m : MethodId} {args : Array Value} {below : List Frame} {meth : Method} {c : Code} (B : gB X p (rm11_twins) s m args meth c RX11 cX11_twins 4 (rm11_twins)) (hS9 : gS X s) (hr : meth.sig.returnType = some .int) {M : mMem} (a0 : Nat) : GG X p l e (rm11_twins) s m args below meth c (gP X below args s 0 0 (fun r9 : Int32 => (some (.int r9), M))) 4 0 0 0 [(0, .ref a0)] [] M (p11_twins a0 M) := by
  unfold p11_twins
  refine g_gd ?_
  refine g_iconst (v := 0) B dX11_twins_0 (by decide) ?_
  refine g_istore_n (lv' := [(1, .int 0), (0, .ref a0)]) B dX11_twins_1 (by decide) [0, 1] rfl ?_
  refine g_iconst (v := 0) B dX11_twins_2 (by decide) ?_
  refine g_istore_n (lv' := [(2, .int 0), (1, .int 0), (0, .ref a0)]) B dX11_twins_3 (by decide) [0, 1, 2] rfl ?_
  refine g_sub (lv' := [(0, .ref a0), (1, .int 0), (2, .int 0)]) [2, 1, 0] rfl ?_
  exact (g11_twins_L4 B hS9 hr) gF a0 0 0
theorem c11_twins (X : gX) (l : Launch) (a0 : Nat) (M : mMem) : Con X l yX11_twins cX11_twins 4 (some .int) rm11_twins (fun r9 : Int32 => (some (.int r9), M)) [.ref a0] M (p11_twins a0 M) := g_con (own := RX11) (by decide +kernel) rfl (Nat.le_of_ble_eq_true rfl) (fun p e s m args below meth c B hS9 hr hn => g11_twins B hS9 hr a0)
theorem mf11_mean : gMF yX11_mean cX11_mean 1 (some .int) 0 := ⟨wd_658, wd_1, ⟨by decide, by decide⟩, by decide +kernel⟩
set_option maxRecDepth 20000 in
set_option maxHeartbeats 2000000 in
theorem g11_mean_J29 {X : gX} {p : Program} {l : Launch} {e : Env} {s : State} {m : MethodId} {args : Array Value} {below : List Frame} {meth : Method} {c : Code} (B : gB X p (rm11_mean) s m args meth c RX11 cX11_mean 1 (rm11_mean)) (hS9 : gS X s) (hr : meth.sig.returnType = some .int) {M : mMem} (u0 : Int32) : GG X p l e (rm11_mean) s m args below meth c (gP X below args s 0 0 (fun r9 : Int32 => (some (.int r9), M))) 1 0 0 29 [] [.int u0] M (p11_mean_J29 M u0) := by
  unfold p11_mean_J29
  exact g_ireturn B hr rfl (by decide) (by decide) rfl dX11_mean_29
set_option maxRecDepth 20000 in
set_option maxHeartbeats 2000000 in
theorem g11_mean {X : gX} {p : Program} {l : Launch} {e : Env} {s : State} {m : MethodId} {args : Array Value} {below : List Frame} {meth : Method} {c : Code} (B : gB X p (rm11_mean) s m args meth c RX11 cX11_mean 1 (rm11_mean)) (hS9 : gS X s) (hr : meth.sig.returnType = some .int) {M : mMem} (a0 : Nat) : GG X p l e (rm11_mean) s m args below meth c (gP X below args s 0 0 (fun r9 : Int32 => (some (.int r9), M))) 1 0 0 0 [(0, .ref a0)] [] M (p11_mean a0 M) := by
  unfold p11_mean
  refine g_gd ?_
  refine g_aload_n B dX11_mean_0 0 rfl ?_
  refine g_getR (ci := 10) (T0 := TX11) (N := 18) B (by decide) rfl in_10 (k := 3) (by decide) rfl wd_385 (fun _ h => h) dX11_mean_1 (fun v_1 => ?_)
  refine g_getI (ci := 2) (T0 := TX2) (N := 11) B (by decide) rfl in_2 (k := 4) (by decide) rfl wd_145 (fun _ h => h) dX11_mean_4 (fun v_2 => ?_)
  refine g_if_le B 28 dX11_mean_7 (by decide) ?_ ?_
  · refine g_aload_n B dX11_mean_10 0 rfl ?_
    refine g_getR (ci := 10) (T0 := TX11) (N := 18) B (by decide) rfl in_10 (k := 3) (by decide) rfl wd_385 (fun _ h => h) dX11_mean_11 (fun v_3 => ?_)
    refine g_callV_ip [] (ci := 2) (T0 := TX2) (N := 11) B hS9 mf2_agesTogether wd_660 (gw B wd_661) wd_659 (by decide) rfl (fun h => (gd_ne h).1) (c2_agesTogether X l v_3 M) (by decide) (by decide) (by decide) rfl (by decide) dX11_mean_14 rfl (fun v_4 => ?_)
    refine g_aload_n B dX11_mean_17 0 rfl ?_
    refine g_getR (ci := 10) (T0 := TX11) (N := 18) B (by decide) rfl in_10 (k := 3) (by decide) rfl wd_385 (fun _ h => h) dX11_mean_18 (fun v_5 => ?_)
    refine g_getI (ci := 2) (T0 := TX2) (N := 11) B (by decide) rfl in_2 (k := 4) (by decide) rfl wd_145 (fun _ h => h) dX11_mean_21 (fun v_6 => ?_)
    refine g_idiv B dX11_mean_24 (fun v_7 => ?_)
    refine g_goto B 29 dX11_mean_25 (by decide) ?_
    refine g_sub (lv' := []) [] rfl ?_
    exact g11_mean_J29 B hS9 hr v_7
  · refine g_iconst (v := 0) B dX11_mean_28 (by decide) ?_
    refine g_sub (lv' := []) [] rfl ?_
    exact g11_mean_J29 B hS9 hr 0
theorem c11_mean (X : gX) (l : Launch) (a0 : Nat) (M : mMem) : Con X l yX11_mean cX11_mean 1 (some .int) rm11_mean (fun r9 : Int32 => (some (.int r9), M)) [.ref a0] M (p11_mean a0 M) := g_con (own := RX11) (by decide +kernel) rfl (Nat.le_of_ble_eq_true rfl) (fun p e s m args below meth c B hS9 hr hn => g11_mean B hS9 hr a0)
