theorem mf11_furthest : gMF yX11_furthest cX11_furthest 4 (some .int) 1 := ⟨wd_670, wd_1, ⟨by decide, by decide⟩, by decide +kernel⟩
set_option maxRecDepth 20000 in
set_option maxHeartbeats 2000000 in
theorem g11_furthest_J51 {X : gX} {p : Program} {l : Launch} {e : Env} {s : State} {m : MethodId} {args : Array Value} {below : List Frame} {meth : Method} {c : Code} (B : gB X p (rm11_furthest) s m args meth c RX11 cX11_furthest 4 (rm11_furthest)) (hS9 : gS X s) (hr : meth.sig.returnType = some .int) {M : mMem} (rec4 : Nat → Int32 → Int32 → Int32 → Option Int32) (hrec4 : ∀ (a0 : Nat) (x1 : Int32) (x2 : Int32) (x3 : Int32), GG X p l e (rm11_furthest) s m args below meth c (gP X below args s 0 0 (fun r9 : Int32 => (some (.int r9), M))) 4 0 0 4 [(0, .ref a0), (1, .int x1), (2, .int x2), (3, .int x3)] [] M (rec4 a0 x1 x2 x3)) (a0 : Nat) (x1 : Int32) (x2 : Int32) (x3 : Int32) : GG X p l e (rm11_furthest) s m args below meth c (gP X below args s 0 0 (fun r9 : Int32 => (some (.int r9), M))) 4 0 0 51 [(0, .ref a0), (1, .int x1), (2, .int x2), (3, .int x3)] [] M (p11_furthest_J51 M rec4 a0 x1 x2 x3) := by
  unfold p11_furthest_J51
  refine g_iinc (v := (x3 + 1)) (lv' := [(3, .int (x3 + 1)), (0, .ref a0), (1, .int x1), (2, .int x2)]) B dX11_furthest_51 3 rfl rfl (by decide) [0, 1, 2, 3] rfl ?_
  refine g_goto B 4 dX11_furthest_54 (by decide) ?_
  refine g_sub (lv' := [(0, .ref a0), (1, .int x1), (2, .int x2), (3, .int (x3 + 1))]) [1, 2, 3, 0] rfl ?_
  exact hrec4 a0 x1 x2 (x3 + 1)
set_option maxRecDepth 20000 in
set_option maxHeartbeats 2000000 in
theorem g11_furthest_J49 {X : gX} {p : Program} {l : Launch} {e : Env} {s : State} {m : MethodId} {args : Array Value} {below : List Frame} {meth : Method} {c : Code} (B : gB X p (rm11_furthest) s m args meth c RX11 cX11_furthest 4 (rm11_furthest)) (hS9 : gS X s) (hr : meth.sig.returnType = some .int) {M : mMem} (rec4 : Nat → Int32 → Int32 → Int32 → Option Int32) (hrec4 : ∀ (a0 : Nat) (x1 : Int32) (x2 : Int32) (x3 : Int32), GG X p l e (rm11_furthest) s m args below meth c (gP X below args s 0 0 (fun r9 : Int32 => (some (.int r9), M))) 4 0 0 4 [(0, .ref a0), (1, .int x1), (2, .int x2), (3, .int x3)] [] M (rec4 a0 x1 x2 x3)) (a0 : Nat) (x1 : Int32) (x3 : Int32) : GG X p l e (rm11_furthest) s m args below meth c (gP X below args s 0 0 (fun r9 : Int32 => (some (.int r9), M))) 4 0 0 49 [(0, .ref a0), (1, .int x1), (3, .int x3)] [] M (p11_furthest_J49 M rec4 a0 x1 x3) := by
  unfold p11_furthest_J49
  refine g_iload_n B dX11_furthest_49 2 rfl ?_
  refine g_istore_n (lv' := [(2, .int x3), (0, .ref a0), (1, .int x1), (3, .int x3)]) B dX11_furthest_50 (by decide) [0, 1, 2, 3] rfl ?_
  refine g_sub (lv' := [(0, .ref a0), (1, .int x1), (2, .int x3), (3, .int x3)]) [1, 2, 0, 3] rfl ?_
  exact g11_furthest_J51 B hS9 hr rec4 hrec4 a0 x1 x3 x3
set_option maxRecDepth 20000 in
set_option maxHeartbeats 2000000 in
theorem g11_furthest_L4 {X : gX} {p : Program} {l : Launch} {e : Env} {s : State} {m : MethodId} {args : Array Value} {below : List Frame} {meth : Method} {c : Code} (B : gB X p (rm11_furthest) s m args meth c RX11 cX11_furthest 4 (rm11_furthest)) (hS9 : gS X s) (hr : meth.sig.returnType = some .int) {M : mMem} : ∀ (n : Nat) (a0 : Nat) (x1 : Int32) (x2 : Int32) (x3 : Int32), GG X p l e (rm11_furthest) s m args below meth c (gP X below args s 0 0 (fun r9 : Int32 => (some (.int r9), M))) 4 0 0 4 [(0, .ref a0), (1, .int x1), (2, .int x2), (3, .int x3)] [] M (p11_furthest_L4 M n a0 x1 x2 x3) := by
  intro n
  induction n with
  | zero => intro a0 x1 x2 x3; exact g_none
  | succ n ih =>
    intro a0 x1 x2 x3
    rw [p11_furthest_L4]
    refine g_iload_n B dX11_furthest_4 3 rfl ?_
    refine g_aload_n B dX11_furthest_5 0 rfl ?_
    refine g_getR (ci := 10) (T0 := TX11) (N := 18) B (by decide) rfl in_10 (k := 3) (by decide) rfl wd_385 (fun _ h => h) dX11_furthest_6 (fun v_1 => ?_)
    refine g_getI (ci := 2) (T0 := TX2) (N := 11) B (by decide) rfl in_2 (k := 4) (by decide) rfl wd_145 (fun _ h => h) dX11_furthest_9 (fun v_2 => ?_)
    refine g_icmp_ge B 57 dX11_furthest_12 (by decide) ?_ ?_
    · refine g_iload_n B dX11_furthest_15 2 rfl ?_
      refine g_iconst (v := (-1)) B dX11_furthest_16 (by decide) ?_
      refine g_icmp_eq B 49 dX11_furthest_17 (by decide) ?_ ?_
      · refine g_sub (lv' := [(0, .ref a0), (1, .int x1), (3, .int x3)]) [0, 1, 3] rfl ?_
        exact g11_furthest_J49 B hS9 hr (p11_furthest_L4 M n) ih a0 x1 x3
      · refine g_iload_n B dX11_furthest_20 1 rfl ?_
        refine g_aload_n B dX11_furthest_21 0 rfl ?_
        refine g_getR (ci := 10) (T0 := TX11) (N := 18) B (by decide) rfl in_10 (k := 3) (by decide) rfl wd_385 (fun _ h => h) dX11_furthest_22 (fun v_3 => ?_)
        refine g_iload_n B dX11_furthest_25 3 rfl ?_
        refine g_callV_ap [.int x3] (ci := 2) (T0 := TX2) (N := 11) B hS9 mf2_at wd_466 (gw B wd_467) wd_629 (by decide) rfl (fun h => (gd_ne h).1) (c2_at X l v_3 x3 M) (by decide) (by decide) (by decide) rfl (Nat.le_of_ble_eq_true rfl) dX11_furthest_26 rfl (fun v_4 => ?_)
        refine g_getI (ci := 8) (T0 := TX8) (N := 9) B (by decide) rfl in_8 (k := 0) (by decide) rfl wd_58 (fun _ h => h) dX11_furthest_29 (fun v_5 => ?_)
        refine g_imul B dX11_furthest_32 ?_
        refine g_iload_n B dX11_furthest_33 1 rfl ?_
        refine g_aload_n B dX11_furthest_34 0 rfl ?_
        refine g_getR (ci := 10) (T0 := TX11) (N := 18) B (by decide) rfl in_10 (k := 3) (by decide) rfl wd_385 (fun _ h => h) dX11_furthest_35 (fun v_6 => ?_)
        refine g_iload_n B dX11_furthest_38 2 rfl ?_
        refine g_callV_ap [.int x2] (ci := 2) (T0 := TX2) (N := 11) B hS9 mf2_at wd_466 (gw B wd_467) wd_629 (by decide) rfl (fun h => (gd_ne h).1) (c2_at X l v_6 x2 M) (by decide) (by decide) (by decide) rfl (Nat.le_of_ble_eq_true rfl) dX11_furthest_39 rfl (fun v_7 => ?_)
        refine g_getI (ci := 8) (T0 := TX8) (N := 9) B (by decide) rfl in_8 (k := 0) (by decide) rfl wd_58 (fun _ h => h) dX11_furthest_42 (fun v_8 => ?_)
        refine g_imul B dX11_furthest_45 ?_
        refine g_icmp_le B 51 dX11_furthest_46 (by decide) ?_ ?_
        · refine g_sub (lv' := [(0, .ref a0), (1, .int x1), (3, .int x3)]) [0, 1, 3] rfl ?_
          exact g11_furthest_J49 B hS9 hr (p11_furthest_L4 M n) ih a0 x1 x3
        · refine g_sub (lv' := [(0, .ref a0), (1, .int x1), (2, .int x2), (3, .int x3)]) [0, 1, 2, 3] rfl ?_
          exact g11_furthest_J51 B hS9 hr (p11_furthest_L4 M n) ih a0 x1 x2 x3
    · refine g_iload_n B dX11_furthest_57 2 rfl ?_
      exact g_ireturn B hr rfl (by decide) (by decide) rfl dX11_furthest_58
set_option maxRecDepth 20000 in
set_option maxHeartbeats 2000000 in
theorem g11_furthest {X : gX} {p : Program} {l : Launch} {e : Env} {s : State} {m : MethodId} {args : Array Value} {below : List Frame} {meth : Method} {c : Code} (B : gB X p (rm11_furthest) s m args meth c RX11 cX11_furthest 4 (rm11_furthest)) (hS9 : gS X s) (hr : meth.sig.returnType = some .int) {M : mMem} (a0 : Nat) (x1 : Int32) : GG X p l e (rm11_furthest) s m args below meth c (gP X below args s 0 0 (fun r9 : Int32 => (some (.int r9), M))) 4 0 0 0 [(0, .ref a0), (1, .int x1)] [] M (p11_furthest a0 x1 M) := by
  unfold p11_furthest
  refine g_gd ?_
  refine g_iconst (v := (-1)) B dX11_furthest_0 (by decide) ?_
  refine g_istore_n (lv' := [(2, .int (-1)), (0, .ref a0), (1, .int x1)]) B dX11_furthest_1 (by decide) [0, 1, 2] rfl ?_
  refine g_iconst (v := 0) B dX11_furthest_2 (by decide) ?_
  refine g_istore_n (lv' := [(3, .int 0), (2, .int (-1)), (0, .ref a0), (1, .int x1)]) B dX11_furthest_3 (by decide) [0, 1, 2, 3] rfl ?_
  refine g_sub (lv' := [(0, .ref a0), (1, .int x1), (2, .int (-1)), (3, .int 0)]) [2, 3, 1, 0] rfl ?_
  exact (g11_furthest_L4 B hS9 hr) gF a0 x1 (-1) 0
theorem c11_furthest (X : gX) (l : Launch) (a0 : Nat) (x1 : Int32) (M : mMem) : Con X l yX11_furthest cX11_furthest 4 (some .int) rm11_furthest (fun r9 : Int32 => (some (.int r9), M)) [.ref a0, .int x1] M (p11_furthest a0 x1 M) := g_con (own := RX11) (by decide +kernel) rfl (Nat.le_of_ble_eq_true rfl) (fun p e s m args below meth c B hS9 hr hn => g11_furthest B hS9 hr a0 x1)
theorem mf11_oldest : gMF yX11_oldest cX11_oldest 1 (some .int) 0 := ⟨wd_666, wd_1, ⟨by decide, by decide⟩, by decide +kernel⟩
set_option maxRecDepth 20000 in
set_option maxHeartbeats 2000000 in
theorem g11_oldest {X : gX} {p : Program} {l : Launch} {e : Env} {s : State} {m : MethodId} {args : Array Value} {below : List Frame} {meth : Method} {c : Code} (B : gB X p (rm11_oldest) s m args meth c RX11 cX11_oldest 1 (rm11_oldest)) (hS9 : gS X s) (hr : meth.sig.returnType = some .int) {M : mMem} (a0 : Nat) : GG X p l e (rm11_oldest) s m args below meth c (gP X below args s 0 0 (fun r9 : Int32 => (some (.int r9), M))) 1 0 0 0 [(0, .ref a0)] [] M (p11_oldest a0 M) := by
  unfold p11_oldest
  refine g_gd ?_
  refine g_aload_n B dX11_oldest_0 0 rfl ?_
  refine g_iconst (v := 1) B dX11_oldest_1 (by decide) ?_
  refine g_callV_ip [.int 1] (ci := 10) (T0 := TX11) (N := 18) B hS9 mf11_furthest wd_669 (gw B wp_9) wd_667 (by decide) rfl (fun h => (gd_ne h).1) (c11_furthest X l a0 1 M) (by decide) (by decide) (by decide) rfl (by decide) dX11_oldest_2 rfl (fun v_1 => ?_)
  exact g_ireturn B hr rfl (by decide) (by decide) rfl dX11_oldest_5
theorem c11_oldest (X : gX) (l : Launch) (a0 : Nat) (M : mMem) : Con X l yX11_oldest cX11_oldest 1 (some .int) rm11_oldest (fun r9 : Int32 => (some (.int r9), M)) [.ref a0] M (p11_oldest a0 M) := g_con (own := RX11) (by decide +kernel) rfl (Nat.le_of_ble_eq_true rfl) (fun p e s m args below meth c B hS9 hr hn => g11_oldest B hS9 hr a0)
theorem mf11_youngest : gMF yX11_youngest cX11_youngest 1 (some .int) 0 := ⟨wd_674, wd_1, ⟨by decide, by decide⟩, by decide +kernel⟩
set_option maxRecDepth 20000 in
set_option maxHeartbeats 2000000 in
theorem g11_youngest {X : gX} {p : Program} {l : Launch} {e : Env} {s : State} {m : MethodId} {args : Array Value} {below : List Frame} {meth : Method} {c : Code} (B : gB X p (rm11_youngest) s m args meth c RX11 cX11_youngest 1 (rm11_youngest)) (hS9 : gS X s) (hr : meth.sig.returnType = some .int) {M : mMem} (a0 : Nat) : GG X p l e (rm11_youngest) s m args below meth c (gP X below args s 0 0 (fun r9 : Int32 => (some (.int r9), M))) 1 0 0 0 [(0, .ref a0)] [] M (p11_youngest a0 M) := by
  unfold p11_youngest
  refine g_gd ?_
  refine g_aload_n B dX11_youngest_0 0 rfl ?_
  refine g_iconst (v := (-1)) B dX11_youngest_1 (by decide) ?_
  refine g_callV_ip [.int (-1)] (ci := 10) (T0 := TX11) (N := 18) B hS9 mf11_furthest wd_669 (gw B wp_9) wd_667 (by decide) rfl (fun h => (gd_ne h).1) (c11_furthest X l a0 (-1) M) (by decide) (by decide) (by decide) rfl (by decide) dX11_youngest_2 rfl (fun v_1 => ?_)
  exact g_ireturn B hr rfl (by decide) (by decide) rfl dX11_youngest_5
theorem c11_youngest (X : gX) (l : Launch) (a0 : Nat) (M : mMem) : Con X l yX11_youngest cX11_youngest 1 (some .int) rm11_youngest (fun r9 : Int32 => (some (.int r9), M)) [.ref a0] M (p11_youngest a0 M) := g_con (own := RX11) (by decide +kernel) rfl (Nat.le_of_ble_eq_true rfl) (fun p e s m args below meth c B hS9 hr hn => g11_youngest B hS9 hr a0)
theorem mf11_crib : gMF yX11_crib cX11_crib 1 (some .int) 0 := ⟨wd_678, wd_1, ⟨by decide, by decide⟩, by decide +kernel⟩
set_option maxRecDepth 20000 in
set_option maxHeartbeats 2000000 in
theorem g11_crib {X : gX} {p : Program} {l : Launch} {e : Env} {s : State} {m : MethodId} {args : Array Value} {below : List Frame} {meth : Method} {c : Code} (B : gB X p (rm11_crib) s m args meth c RX11 cX11_crib 1 (rm11_crib)) (hS9 : gS X s) (hr : meth.sig.returnType = some .int) {M : mMem} (a0 : Nat) : GG X p l e (rm11_crib) s m args below meth c (gP X below args s 0 0 (fun r9 : Int32 => (some (.int r9), M))) 1 0 0 0 [(0, .ref a0)] [] M (p11_crib a0 M) := by
  unfold p11_crib
  refine g_gd ?_
  refine g_aload_n B dX11_crib_0 0 rfl ?_
  refine g_getR (ci := 10) (T0 := TX11) (N := 18) B (by decide) rfl in_10 (k := 3) (by decide) rfl wd_385 (fun _ h => h) dX11_crib_1 (fun v_1 => ?_)
  refine g_callV_ip [] (ci := 2) (T0 := TX2) (N := 11) B hS9 mf2_inCrib wd_482 (gw B wd_483) wd_679 (by decide) rfl (fun h => (gd_ne h).1) (c2_inCrib X l v_1 M) (by decide) (by decide) (by decide) rfl (by decide) dX11_crib_4 rfl (fun v_2 => ?_)
  exact g_ireturn B hr rfl (by decide) (by decide) rfl dX11_crib_7
theorem c11_crib (X : gX) (l : Launch) (a0 : Nat) (M : mMem) : Con X l yX11_crib cX11_crib 1 (some .int) rm11_crib (fun r9 : Int32 => (some (.int r9), M)) [.ref a0] M (p11_crib a0 M) := g_con (own := RX11) (by decide +kernel) rfl (Nat.le_of_ble_eq_true rfl) (fun p e s m args below meth c B hS9 hr hn => g11_crib B hS9 hr a0)
theorem mf11_spread : gMF yX11_spread cX11_spread 6 (some .int) 0 := ⟨wd_683, wd_1, ⟨by decide, by decide⟩, by decide +kernel⟩
set_option maxRecDepth 20000 in
set_option maxHeartbeats 2000000 in
theorem g11_spread_J79 {X : gX} {p : Program} {l : Launch} {e : Env} {s : State} {m : MethodId} {args : Array Value} {below : List Frame} {meth : Method} {c : Code} (B : gB X p (rm11_spread) s m args meth c RX11 cX11_spread 6 (rm11_spread)) (hS9 : gS X s) (hr : meth.sig.returnType = some .int) {M : mMem} (rec20 : Nat → Int32 → Int32 → Int32 → Int32 → Option Int32) (hrec20 : ∀ (a0 : Nat) (x1 : Int32) (x2 : Int32) (x3 : Int32) (x4 : Int32), GG X p l e (rm11_spread) s m args below meth c (gP X below args s 0 0 (fun r9 : Int32 => (some (.int r9), M))) 6 0 0 20 [(0, .ref a0), (1, .int x1), (2, .int x2), (3, .int x3), (4, .int x4)] [] M (rec20 a0 x1 x2 x3 x4)) (a0 : Nat) (x1 : Int32) (x2 : Int32) (x4 : Int32) (u0 : Int32) (u1 : Int32) : GG X p l e (rm11_spread) s m args below meth c (gP X below args s 0 0 (fun r9 : Int32 => (some (.int r9), M))) 6 0 0 79 [(0, .ref a0), (1, .int x1), (2, .int x2), (4, .int x4)] [.int u1, .int u0] M (p11_spread_J79 M rec20 a0 x1 x2 x4 u0 u1) := by
  unfold p11_spread_J79
  refine g_max B wd_684 wd_516 wd_15 wd_517 (by decide) (Nat.le_of_ble_eq_true rfl) (by decide) dX11_spread_79 ?_
  refine g_istore_n (lv' := [(3, .int (maxI u0 u1)), (0, .ref a0), (1, .int x1), (2, .int x2), (4, .int x4)]) B dX11_spread_82 (by decide) [0, 1, 2, 3, 4] rfl ?_
  refine g_iinc (v := (x4 + 1)) (lv' := [(4, .int (x4 + 1)), (3, .int (maxI u0 u1)), (0, .ref a0), (1, .int x1), (2, .int x2)]) B dX11_spread_83 4 rfl rfl (by decide) [0, 1, 2, 3, 4] rfl ?_
  refine g_goto B 20 dX11_spread_86 (by decide) ?_
  refine g_sub (lv' := [(0, .ref a0), (1, .int x1), (2, .int x2), (3, .int (maxI u0 u1)), (4, .int (x4 + 1))]) [2, 3, 4, 1, 0] rfl ?_
  exact hrec20 a0 x1 x2 (maxI u0 u1) (x4 + 1)
set_option maxRecDepth 20000 in
set_option maxHeartbeats 2000000 in
theorem g11_spread_L20 {X : gX} {p : Program} {l : Launch} {e : Env} {s : State} {m : MethodId} {args : Array Value} {below : List Frame} {meth : Method} {c : Code} (B : gB X p (rm11_spread) s m args meth c RX11 cX11_spread 6 (rm11_spread)) (hS9 : gS X s) (hr : meth.sig.returnType = some .int) {M : mMem} (k89 : Nat → Int32 → Int32 → Int32 → Option Int32) (hk89 : ∀ (a0 : Nat) (x1 : Int32) (x2 : Int32) (x3 : Int32), GG X p l e (rm11_spread) s m args below meth c (gP X below args s 0 0 (fun r9 : Int32 => (some (.int r9), M))) 6 0 0 89 [(0, .ref a0), (1, .int x1), (2, .int x2), (3, .int x3)] [] M (k89 a0 x1 x2 x3)) : ∀ (n : Nat) (a0 : Nat) (x1 : Int32) (x2 : Int32) (x3 : Int32) (x4 : Int32), GG X p l e (rm11_spread) s m args below meth c (gP X below args s 0 0 (fun r9 : Int32 => (some (.int r9), M))) 6 0 0 20 [(0, .ref a0), (1, .int x1), (2, .int x2), (3, .int x3), (4, .int x4)] [] M (p11_spread_L20 M k89 n a0 x1 x2 x3 x4) := by
  intro n
  induction n with
  | zero => intro a0 x1 x2 x3 x4; exact g_none
  | succ n ih =>
    intro a0 x1 x2 x3 x4
    rw [p11_spread_L20]
    refine g_iload B dX11_spread_20 4 rfl ?_
    refine g_aload_n B dX11_spread_22 0 rfl ?_
    refine g_getR (ci := 10) (T0 := TX11) (N := 18) B (by decide) rfl in_10 (k := 3) (by decide) rfl wd_385 (fun _ h => h) dX11_spread_23 (fun v_1 => ?_)
    refine g_getI (ci := 2) (T0 := TX2) (N := 11) B (by decide) rfl in_2 (k := 4) (by decide) rfl wd_145 (fun _ h => h) dX11_spread_26 (fun v_2 => ?_)
    refine g_icmp_ge B 89 dX11_spread_29 (by decide) ?_ ?_
    · refine g_aload_n B dX11_spread_32 0 rfl ?_
      refine g_getR (ci := 10) (T0 := TX11) (N := 18) B (by decide) rfl in_10 (k := 3) (by decide) rfl wd_385 (fun _ h => h) dX11_spread_33 (fun v_3 => ?_)
      refine g_iload B dX11_spread_36 4 rfl ?_
      refine g_callV_ap [.int x4] (ci := 2) (T0 := TX2) (N := 11) B hS9 mf2_at wd_466 (gw B wd_467) wd_629 (by decide) rfl (fun h => (gd_ne h).1) (c2_at X l v_3 x4 M) (by decide) (by decide) (by decide) rfl (by decide) dX11_spread_38 rfl (fun v_4 => ?_)
      refine g_getI (ci := 8) (T0 := TX8) (N := 9) B (by decide) rfl in_8 (k := 0) (by decide) rfl wd_58 (fun _ h => h) dX11_spread_41 (fun v_5 => ?_)
      refine g_aload_n B dX11_spread_44 0 rfl ?_
      refine g_getR (ci := 10) (T0 := TX11) (N := 18) B (by decide) rfl in_10 (k := 3) (by decide) rfl wd_385 (fun _ h => h) dX11_spread_45 (fun v_6 => ?_)
      refine g_iload_n B dX11_spread_48 2 rfl ?_
      refine g_callV_ap [.int x2] (ci := 2) (T0 := TX2) (N := 11) B hS9 mf2_at wd_466 (gw B wd_467) wd_629 (by decide) rfl (fun h => (gd_ne h).1) (c2_at X l v_6 x2 M) (by decide) (by decide) (by decide) rfl (Nat.le_of_ble_eq_true rfl) dX11_spread_49 rfl (fun v_7 => ?_)
      refine g_getI (ci := 8) (T0 := TX8) (N := 9) B (by decide) rfl in_8 (k := 0) (by decide) rfl wd_58 (fun _ h => h) dX11_spread_52 (fun v_8 => ?_)
      refine g_isub B dX11_spread_55 ?_
      refine g_istore (lv' := [(5, .int (v_5 - v_8)), (0, .ref a0), (1, .int x1), (2, .int x2), (3, .int x3), (4, .int x4)]) B dX11_spread_56 (by decide) [0, 1, 2, 3, 4, 5] rfl ?_
      refine g_iload_n B dX11_spread_58 4 rfl ?_
      refine g_iload B dX11_spread_59 0 rfl ?_
      refine g_if_ge B 77 dX11_spread_61 (by decide) ?_ ?_
      · refine g_iload B dX11_spread_64 0 rfl ?_
        refine g_aload_n B dX11_spread_66 1 rfl ?_
        refine g_getR (ci := 10) (T0 := TX11) (N := 18) B (by decide) rfl in_10 (k := 3) (by decide) rfl wd_385 (fun _ h => h) dX11_spread_67 (fun v_9 => ?_)
        refine g_getI (ci := 2) (T0 := TX2) (N := 11) B (by decide) rfl in_2 (k := 5) (by decide) rfl wd_149 (fun _ h => h) dX11_spread_70 (fun v_10 => ?_)
        refine g_iadd B dX11_spread_73 ?_
        refine g_goto B 79 dX11_spread_74 (by decide) ?_
        refine g_sub (lv' := [(0, .ref a0), (1, .int x1), (2, .int x2), (4, .int x4)]) [1, 2, 3, 5] rfl ?_
        exact g11_spread_J79 B hS9 hr (p11_spread_L20 M k89 n) ih a0 x1 x2 x4 x3 ((v_5 - v_8) + v_10)
      · refine g_iload B dX11_spread_77 0 rfl ?_
        refine g_sub (lv' := [(0, .ref a0), (1, .int x1), (2, .int x2), (4, .int x4)]) [1, 2, 3, 5] rfl ?_
        exact g11_spread_J79 B hS9 hr (p11_spread_L20 M k89 n) ih a0 x1 x2 x4 x3 (v_5 - v_8)
    · refine g_sub (lv' := [(0, .ref a0), (1, .int x1), (2, .int x2), (3, .int x3)]) [0, 1, 2, 3] rfl ?_
      exact hk89 a0 x1 x2 x3
set_option maxRecDepth 20000 in
set_option maxHeartbeats 2000000 in
theorem g11_spread_J101 {X : gX} {p : Program} {l : Launch} {e : Env} {s : State} {m : MethodId} {args : Array Value} {below : List Frame} {meth : Method} {c : Code} (B : gB X p (rm11_spread) s m args meth c RX11 cX11_spread 6 (rm11_spread)) (hS9 : gS X s) (hr : meth.sig.returnType = some .int) {M : mMem} (rec4 : Nat → Int32 → Int32 → Option Int32) (hrec4 : ∀ (a0 : Nat) (x1 : Int32) (x2 : Int32), GG X p l e (rm11_spread) s m args below meth c (gP X below args s 0 0 (fun r9 : Int32 => (some (.int r9), M))) 6 0 0 4 [(0, .ref a0), (1, .int x1), (2, .int x2)] [] M (rec4 a0 x1 x2)) (a0 : Nat) (x1 : Int32) (x2 : Int32) : GG X p l e (rm11_spread) s m args below meth c (gP X below args s 0 0 (fun r9 : Int32 => (some (.int r9), M))) 6 0 0 101 [(0, .ref a0), (1, .int x1), (2, .int x2)] [] M (p11_spread_J101 M rec4 a0 x1 x2) := by
  unfold p11_spread_J101
  refine g_iinc (v := (x2 + 1)) (lv' := [(2, .int (x2 + 1)), (0, .ref a0), (1, .int x1)]) B dX11_spread_101 2 rfl rfl (by decide) [0, 1, 2] rfl ?_
  refine g_goto B 4 dX11_spread_104 (by decide) ?_
  refine g_sub (lv' := [(0, .ref a0), (1, .int x1), (2, .int (x2 + 1))]) [1, 2, 0] rfl ?_
  exact hrec4 a0 x1 (x2 + 1)
set_option maxRecDepth 20000 in
set_option maxHeartbeats 2000000 in
theorem g11_spread_J99 {X : gX} {p : Program} {l : Launch} {e : Env} {s : State} {m : MethodId} {args : Array Value} {below : List Frame} {meth : Method} {c : Code} (B : gB X p (rm11_spread) s m args meth c RX11 cX11_spread 6 (rm11_spread)) (hS9 : gS X s) (hr : meth.sig.returnType = some .int) {M : mMem} (rec4 : Nat → Int32 → Int32 → Option Int32) (hrec4 : ∀ (a0 : Nat) (x1 : Int32) (x2 : Int32), GG X p l e (rm11_spread) s m args below meth c (gP X below args s 0 0 (fun r9 : Int32 => (some (.int r9), M))) 6 0 0 4 [(0, .ref a0), (1, .int x1), (2, .int x2)] [] M (rec4 a0 x1 x2)) (a0 : Nat) (x2 : Int32) (x3 : Int32) : GG X p l e (rm11_spread) s m args below meth c (gP X below args s 0 0 (fun r9 : Int32 => (some (.int r9), M))) 6 0 0 99 [(0, .ref a0), (2, .int x2), (3, .int x3)] [] M (p11_spread_J99 M rec4 a0 x2 x3) := by
  unfold p11_spread_J99
  refine g_iload_n B dX11_spread_99 2 rfl ?_
  refine g_istore_n (lv' := [(1, .int x3), (0, .ref a0), (2, .int x2), (3, .int x3)]) B dX11_spread_100 (by decide) [0, 1, 2, 3] rfl ?_
  refine g_sub (lv' := [(0, .ref a0), (1, .int x3), (2, .int x2)]) [1, 0, 2] rfl ?_
  exact g11_spread_J101 B hS9 hr rec4 hrec4 a0 x3 x2
set_option maxRecDepth 20000 in
set_option maxHeartbeats 2000000 in
theorem g11_spread_J89 {X : gX} {p : Program} {l : Launch} {e : Env} {s : State} {m : MethodId} {args : Array Value} {below : List Frame} {meth : Method} {c : Code} (B : gB X p (rm11_spread) s m args meth c RX11 cX11_spread 6 (rm11_spread)) (hS9 : gS X s) (hr : meth.sig.returnType = some .int) {M : mMem} (rec4 : Nat → Int32 → Int32 → Option Int32) (hrec4 : ∀ (a0 : Nat) (x1 : Int32) (x2 : Int32), GG X p l e (rm11_spread) s m args below meth c (gP X below args s 0 0 (fun r9 : Int32 => (some (.int r9), M))) 6 0 0 4 [(0, .ref a0), (1, .int x1), (2, .int x2)] [] M (rec4 a0 x1 x2)) (a0 : Nat) (x1 : Int32) (x2 : Int32) (x3 : Int32) : GG X p l e (rm11_spread) s m args below meth c (gP X below args s 0 0 (fun r9 : Int32 => (some (.int r9), M))) 6 0 0 89 [(0, .ref a0), (1, .int x1), (2, .int x2), (3, .int x3)] [] M (p11_spread_J89 M rec4 a0 x1 x2 x3) := by
  unfold p11_spread_J89
  refine g_iload_n B dX11_spread_89 1 rfl ?_
  refine g_iconst (v := (-1)) B dX11_spread_90 (by decide) ?_
  refine g_icmp_eq B 99 dX11_spread_91 (by decide) ?_ ?_
  · refine g_sub (lv' := [(0, .ref a0), (2, .int x2), (3, .int x3)]) [0, 2, 3] rfl ?_
    exact g11_spread_J99 B hS9 hr rec4 hrec4 a0 x2 x3
  · refine g_iload_n B dX11_spread_94 3 rfl ?_
    refine g_iload_n B dX11_spread_95 1 rfl ?_
    refine g_icmp_ge B 101 dX11_spread_96 (by decide) ?_ ?_
    · refine g_sub (lv' := [(0, .ref a0), (2, .int x2), (3, .int x3)]) [0, 2, 3] rfl ?_
      exact g11_spread_J99 B hS9 hr rec4 hrec4 a0 x2 x3
    · refine g_sub (lv' := [(0, .ref a0), (1, .int x1), (2, .int x2)]) [0, 1, 2] rfl ?_
      exact g11_spread_J101 B hS9 hr rec4 hrec4 a0 x1 x2
set_option maxRecDepth 20000 in
set_option maxHeartbeats 2000000 in
theorem g11_spread_L4 {X : gX} {p : Program} {l : Launch} {e : Env} {s : State} {m : MethodId} {args : Array Value} {below : List Frame} {meth : Method} {c : Code} (B : gB X p (rm11_spread) s m args meth c RX11 cX11_spread 6 (rm11_spread)) (hS9 : gS X s) (hr : meth.sig.returnType = some .int) {M : mMem} (k107 : Int32 → Option Int32) (hk107 : ∀ (x1 : Int32), GG X p l e (rm11_spread) s m args below meth c (gP X below args s 0 0 (fun r9 : Int32 => (some (.int r9), M))) 6 0 0 107 [(1, .int x1)] [] M (k107 x1)) : ∀ (n : Nat) (a0 : Nat) (x1 : Int32) (x2 : Int32), GG X p l e (rm11_spread) s m args below meth c (gP X below args s 0 0 (fun r9 : Int32 => (some (.int r9), M))) 6 0 0 4 [(0, .ref a0), (1, .int x1), (2, .int x2)] [] M (p11_spread_L4 M k107 n a0 x1 x2) := by
  intro n
  induction n with
  | zero => intro a0 x1 x2; exact g_none
  | succ n ih =>
    intro a0 x1 x2
    rw [p11_spread_L4]
    refine g_iload_n B dX11_spread_4 2 rfl ?_
    refine g_aload_n B dX11_spread_5 0 rfl ?_
    refine g_getR (ci := 10) (T0 := TX11) (N := 18) B (by decide) rfl in_10 (k := 3) (by decide) rfl wd_385 (fun _ h => h) dX11_spread_6 (fun v_1 => ?_)
    refine g_getI (ci := 2) (T0 := TX2) (N := 11) B (by decide) rfl in_2 (k := 4) (by decide) rfl wd_145 (fun _ h => h) dX11_spread_9 (fun v_2 => ?_)
    refine g_icmp_ge B 107 dX11_spread_12 (by decide) ?_ ?_
    · refine g_iconst (v := 0) B dX11_spread_15 (by decide) ?_
      refine g_istore_n (lv' := [(3, .int 0), (0, .ref a0), (1, .int x1), (2, .int x2)]) B dX11_spread_16 (by decide) [0, 1, 2, 3] rfl ?_
      refine g_iconst (v := 0) B dX11_spread_17 (by decide) ?_
      refine g_istore (lv' := [(4, .int 0), (3, .int 0), (0, .ref a0), (1, .int x1), (2, .int x2)]) B dX11_spread_18 (by decide) [0, 1, 2, 3, 4] rfl ?_
      refine g_sub (lv' := [(0, .ref a0), (1, .int x1), (2, .int x2), (3, .int 0), (4, .int 0)]) [2, 3, 4, 1, 0] rfl ?_
      exact (g11_spread_L20 B hS9 hr (p11_spread_J89 M (p11_spread_L4 M k107 n)) (fun e0 e1 e2 e3 => g11_spread_J89 B hS9 hr (p11_spread_L4 M k107 n) ih e0 e1 e2 e3)) gF a0 x1 x2 0 0
    · refine g_sub (lv' := [(1, .int x1)]) [1] rfl ?_
      exact hk107 x1
set_option maxRecDepth 20000 in
set_option maxHeartbeats 2000000 in
theorem g11_spread_J117 {X : gX} {p : Program} {l : Launch} {e : Env} {s : State} {m : MethodId} {args : Array Value} {below : List Frame} {meth : Method} {c : Code} (B : gB X p (rm11_spread) s m args meth c RX11 cX11_spread 6 (rm11_spread)) (hS9 : gS X s) (hr : meth.sig.returnType = some .int) {M : mMem} (u0 : Int32) : GG X p l e (rm11_spread) s m args below meth c (gP X below args s 0 0 (fun r9 : Int32 => (some (.int r9), M))) 6 0 0 117 [] [.int u0] M (p11_spread_J117 M u0) := by
  unfold p11_spread_J117
  exact g_ireturn B hr rfl (by decide) (by decide) rfl dX11_spread_117
set_option maxRecDepth 20000 in
set_option maxHeartbeats 2000000 in
theorem g11_spread_J107 {X : gX} {p : Program} {l : Launch} {e : Env} {s : State} {m : MethodId} {args : Array Value} {below : List Frame} {meth : Method} {c : Code} (B : gB X p (rm11_spread) s m args meth c RX11 cX11_spread 6 (rm11_spread)) (hS9 : gS X s) (hr : meth.sig.returnType = some .int) {M : mMem} (x1 : Int32) : GG X p l e (rm11_spread) s m args below meth c (gP X below args s 0 0 (fun r9 : Int32 => (some (.int r9), M))) 6 0 0 107 [(1, .int x1)] [] M (p11_spread_J107 M x1) := by
  unfold p11_spread_J107
  refine g_iload_n B dX11_spread_107 0 rfl ?_
  refine g_iconst (v := (-1)) B dX11_spread_108 (by decide) ?_
  refine g_icmp_ne B 116 dX11_spread_109 (by decide) ?_ ?_
  · refine g_iconst (v := 0) B dX11_spread_112 (by decide) ?_
    refine g_goto B 117 dX11_spread_113 (by decide) ?_
    refine g_sub (lv' := []) [] rfl ?_
    exact g11_spread_J117 B hS9 hr 0
  · refine g_iload_n B dX11_spread_116 0 rfl ?_
    refine g_sub (lv' := []) [] rfl ?_
    exact g11_spread_J117 B hS9 hr x1
set_option maxRecDepth 20000 in
set_option maxHeartbeats 2000000 in
theorem g11_spread {X : gX} {p : Program} {l : Launch} {e : Env} {s : State} {m : MethodId} {args : Array Value} {below : List Frame} {meth : Method} {c : Code} (B : gB X p (rm11_spread) s m args meth c RX11 cX11_spread 6 (rm11_spread)) (hS9 : gS X s) (hr : meth.sig.returnType = some .int) {M : mMem} (a0 : Nat) : GG X p l e (rm11_spread) s m args below meth c (gP X below args s 0 0 (fun r9 : Int32 => (some (.int r9), M))) 6 0 0 0 [(0, .ref a0)] [] M (p11_spread a0 M) := by
  unfold p11_spread
  refine g_gd ?_
  refine g_iconst (v := (-1)) B dX11_spread_0 (by decide) ?_
  refine g_istore_n (lv' := [(1, .int (-1)), (0, .ref a0)]) B dX11_spread_1 (by decide) [0, 1] rfl ?_
  refine g_iconst (v := 0) B dX11_spread_2 (by decide) ?_
  refine g_istore_n (lv' := [(2, .int 0), (1, .int (-1)), (0, .ref a0)]) B dX11_spread_3 (by decide) [0, 1, 2] rfl ?_
  refine g_sub (lv' := [(0, .ref a0), (1, .int (-1)), (2, .int 0)]) [2, 1, 0] rfl ?_
  exact (g11_spread_L4 B hS9 hr (p11_spread_J107 M) (fun e0 => g11_spread_J107 B hS9 hr e0)) gF a0 (-1) 0
theorem c11_spread (X : gX) (l : Launch) (a0 : Nat) (M : mMem) : Con X l yX11_spread cX11_spread 6 (some .int) rm11_spread (fun r9 : Int32 => (some (.int r9), M)) [.ref a0] M (p11_spread a0 M) := g_con (own := RX11) (by decide +kernel) rfl (Nat.le_of_ble_eq_true rfl) (fun p e s m args below meth c B hS9 hr hn => g11_spread B hS9 hr a0)
theorem mf11_seed : gMF yX11_seed cX11_seed 3 (some .int) 1 := ⟨wd_688, wd_1, ⟨by decide, by decide⟩, by decide +kernel⟩
set_option maxRecDepth 20000 in
set_option maxHeartbeats 2000000 in
theorem g11_seed {X : gX} {p : Program} {l : Launch} {e : Env} {s : State} {m : MethodId} {args : Array Value} {below : List Frame} {meth : Method} {c : Code} (B : gB X p (rm11_seed) s m args meth c RX11 cX11_seed 3 (rm11_seed)) (hS9 : gS X s) (hr : meth.sig.returnType = some .int) (a0 : Nat) (x1 : Int32) (M : mMem) : GG X p l e (rm11_seed) s m args below meth c (gP X below args s 0 0 (fun r9 : (Int32 × mMem) => (some (.int r9.1), r9.2))) 3 0 0 0 [(0, .ref a0), (1, .int x1)] [] M (p11_seed a0 x1 M) := by
  unfold p11_seed
  refine g_gd ?_
  refine g_aload_n B dX11_seed_0 0 rfl ?_
  refine g_getR (ci := 10) (T0 := TX11) (N := 18) B (by decide) rfl in_10 (k := 3) (by decide) rfl wd_385 (fun _ h => h) dX11_seed_1 (fun v_1 => ?_)
  refine g_getI (ci := 2) (T0 := TX2) (N := 11) B (by decide) rfl in_2 (k := 9) (by decide) rfl wd_165 (fun _ h => h) dX11_seed_4 (fun v_2 => ?_)
  refine g_istore_n (lv' := [(2, .int v_2), (0, .ref a0), (1, .int x1)]) B dX11_seed_7 (by decide) [0, 1, 2] rfl ?_
  refine g_aload_n B dX11_seed_8 1 rfl ?_
  refine g_getR (ci := 10) (T0 := TX11) (N := 18) B (by decide) rfl in_10 (k := 3) (by decide) rfl wd_385 (fun _ h => h) dX11_seed_9 (fun v_3 => ?_)
  refine g_iload_n B dX11_seed_12 2 rfl ?_
  refine g_putI (ci := 2) (T0 := TX2) (N := 11) B (by decide) rfl in_2 tyX2 tyX2_ok nmX2 (k := 9) (by decide) wd_165 (fun _ h => h) rfl rfl (ty := .int) (by decide +kernel) rfl rfl dX11_seed_13 (fun M_4 => ?_)
  refine g_iload_n B dX11_seed_16 0 rfl ?_
  exact g_ireturn B hr rfl (by decide) (by decide) rfl dX11_seed_17
theorem c11_seed (X : gX) (l : Launch) (a0 : Nat) (x1 : Int32) (M : mMem) : Con X l yX11_seed cX11_seed 3 (some .int) rm11_seed (fun r9 : (Int32 × mMem) => (some (.int r9.1), r9.2)) [.ref a0, .int x1] M (p11_seed a0 x1 M) := g_con (own := RX11) (by decide +kernel) rfl (Nat.le_of_ble_eq_true rfl) (fun p e s m args below meth c B hS9 hr hn => g11_seed B hS9 hr a0 x1 M)
theorem mf11_undo : gMF yX11_undo cX11_undo 1 (some .boolean) 0 := ⟨wd_692, wd_1, ⟨by decide, by decide⟩, by decide +kernel⟩
set_option maxRecDepth 20000 in
set_option maxHeartbeats 2000000 in
theorem g11_undo_J19 {X : gX} {p : Program} {l : Launch} {e : Env} {s : State} {m : MethodId} {args : Array Value} {below : List Frame} {meth : Method} {c : Code} (B : gB X p (rm11_undo) s m args meth c RX11 cX11_undo 1 (rm11_undo)) (hS9 : gS X s) (hr : meth.sig.returnType = some .boolean) (M : mMem) : GG X p l e (rm11_undo) s m args below meth c (gP X below args s 0 0 (fun r9 : (Int32 × mMem) => (some (.int r9.1), r9.2))) 1 0 0 19 [] [] M (p11_undo_J19 M) := by
  unfold p11_undo_J19
  refine g_iconst (v := 0) B dX11_undo_19 (by decide) ?_
  exact g_ireturn B hr rfl (by decide) (by decide) rfl dX11_undo_20
set_option maxRecDepth 20000 in
set_option maxHeartbeats 2000000 in
theorem g11_undo {X : gX} {p : Program} {l : Launch} {e : Env} {s : State} {m : MethodId} {args : Array Value} {below : List Frame} {meth : Method} {c : Code} (B : gB X p (rm11_undo) s m args meth c RX11 cX11_undo 1 (rm11_undo)) (hS9 : gS X s) (hr : meth.sig.returnType = some .boolean) (a0 : Nat) (M : mMem) : GG X p l e (rm11_undo) s m args below meth c (gP X below args s 0 0 (fun r9 : (Int32 × mMem) => (some (.int r9.1), r9.2))) 1 0 0 0 [(0, .ref a0)] [] M (p11_undo a0 M) := by
  unfold p11_undo
  refine g_gd ?_
  refine g_aload_n B dX11_undo_0 0 rfl ?_
  refine g_getI (ci := 10) (T0 := TX11) (N := 18) B (by decide) rfl in_10 (k := 10) (by decide) rfl wd_392 (fun _ h => h) dX11_undo_1 (fun v_1 => ?_)
  refine g_if_le B 19 dX11_undo_4 (by decide) ?_ ?_
  · refine g_aload_n B dX11_undo_7 0 rfl ?_
    refine g_getI (ci := 10) (T0 := TX11) (N := 18) B (by decide) rfl in_10 (k := 10) (by decide) rfl wd_392 (fun _ h => h) dX11_undo_8 (fun v_2 => ?_)
    refine g_aload_n B dX11_undo_11 0 rfl ?_
    refine g_getR (ci := 10) (T0 := TX11) (N := 18) B (by decide) rfl in_10 (k := 9) (by decide) rfl wd_391 (fun _ h => h) dX11_undo_12 (fun v_3 => ?_)
    refine g_alen B dX11_undo_15 (fun v_4 => ?_)
    refine g_icmp_le B 21 dX11_undo_16 (by decide) ?_ ?_
    · refine g_sub (lv' := []) [] rfl ?_
      exact g11_undo_J19 B hS9 hr M
    · refine g_aload_n B dX11_undo_21 0 rfl ?_
      refine g_dup B dX11_undo_22 rfl ?_
      refine g_getI (ci := 10) (T0 := TX11) (N := 18) B (by decide) rfl in_10 (k := 10) (by decide) rfl wd_392 (fun _ h => h) dX11_undo_23 (fun v_5 => ?_)
      refine g_iconst (v := 1) B dX11_undo_26 (by decide) ?_
      refine g_isub B dX11_undo_27 ?_
      refine g_putI (ci := 10) (T0 := TX11) (N := 18) B (by decide) rfl in_10 tyX11 tyX11_ok nmX11 (k := 10) (by decide) wd_392 (fun _ h => h) rfl rfl (ty := .int) (by decide +kernel) rfl rfl dX11_undo_28 (fun M_6 => ?_)
      refine g_aload_n B dX11_undo_31 0 rfl ?_
      refine g_getR (ci := 10) (T0 := TX11) (N := 18) B (by decide) rfl in_10 (k := 3) (by decide) rfl wd_385 (fun _ h => h) dX11_undo_32 (fun v_7 => ?_)
      refine g_aload_n B dX11_undo_35 0 rfl ?_
      refine g_getR (ci := 10) (T0 := TX11) (N := 18) B (by decide) rfl in_10 (k := 9) (by decide) rfl wd_391 (fun _ h => h) dX11_undo_36 (fun v_8 => ?_)
      refine g_aload_n B dX11_undo_39 0 rfl ?_
      refine g_getI (ci := 10) (T0 := TX11) (N := 18) B (by decide) rfl in_10 (k := 10) (by decide) rfl wd_392 (fun _ h => h) dX11_undo_40 (fun v_9 => ?_)
      refine g_aaload23 B dX11_undo_43 (fun v_10 => ?_)
      refine g_callV_vw [.ref v_10] (ci := 2) (T0 := TX2) (N := 11) B hS9 mf2_take wd_462 (gw B wd_463) wd_693 (by decide) rfl (fun h => (gd_ne h).1) (c2_take X l v_7 v_10 M_6) (by decide) (by decide) (by decide) rfl (by decide) dX11_undo_44 rfl (fun q_11 => ?_)
      refine g_iconst (v := 1) B dX11_undo_47 (by decide) ?_
      exact g_ireturn B hr rfl (by decide) (by decide) rfl dX11_undo_48
  · refine g_sub (lv' := []) [] rfl ?_
    exact g11_undo_J19 B hS9 hr M
theorem c11_undo (X : gX) (l : Launch) (a0 : Nat) (M : mMem) : Con X l yX11_undo cX11_undo 1 (some .boolean) rm11_undo (fun r9 : (Int32 × mMem) => (some (.int r9.1), r9.2)) [.ref a0] M (p11_undo a0 M) := g_con (own := RX11) (by decide +kernel) rfl (Nat.le_of_ble_eq_true rfl) (fun p e s m args below meth c B hS9 hr hn => g11_undo B hS9 hr a0 M)
theorem mf11_image : gMF yX11_image cX11_image 1 (none) 0 := ⟨wd_697, wd_1, ⟨by decide, by decide⟩, by decide +kernel⟩
set_option maxRecDepth 20000 in
set_option maxHeartbeats 2000000 in
theorem g11_image {X : gX} {p : Program} {l : Launch} {e : Env} {s : State} {m : MethodId} {args : Array Value} {below : List Frame} {meth : Method} {c : Code} (B : gB X p (rm11_image) s m args meth c RX11 cX11_image 1 (rm11_image)) (hS9 : gS X s) (hr : meth.sig.returnType = none) (a0 : Nat) (M : mMem) : GG X p l e (rm11_image) s m args below meth c (gP X below args s 0 0 (fun M9 : mMem => (none, M9))) 1 0 0 0 [(0, .ref a0)] [] M (p11_image a0 M) := by
  unfold p11_image
  refine g_gd ?_
  refine g_aload_n B dX11_image_0 0 rfl ?_
  refine g_getR (ci := 10) (T0 := TX11) (N := 18) B (by decide) rfl in_10 (k := 11) (by decide) rfl wd_393 (fun _ h => h) dX11_image_1 (fun v_1 => ?_)
  refine g_aload_n B dX11_image_4 0 rfl ?_
  refine g_getR (ci := 10) (T0 := TX11) (N := 18) B (by decide) rfl in_10 (k := 3) (by decide) rfl wd_385 (fun _ h => h) dX11_image_5 (fun v_2 => ?_)
  refine g_callV_vw [.ref v_2] (ci := 2) (T0 := TX2) (N := 11) B hS9 mf2_take wd_462 (gw B wd_463) wd_693 (by decide) rfl (fun h => (gd_ne h).1) (c2_take X l v_1 v_2 M) (by decide) (by decide) (by decide) rfl (by decide) dX11_image_8 rfl (fun q_3 => ?_)
  refine g_aload_n B dX11_image_11 0 rfl ?_
  refine g_getR (ci := 10) (T0 := TX11) (N := 18) B (by decide) rfl in_10 (k := 12) (by decide) rfl wd_394 (fun _ h => h) dX11_image_12 (fun v_4 => ?_)
  refine g_aload_n B dX11_image_15 0 rfl ?_
  refine g_getR (ci := 10) (T0 := TX11) (N := 18) B (by decide) rfl in_10 (k := 5) (by decide) rfl wd_387 (fun _ h => h) dX11_image_16 (fun v_5 => ?_)
  refine g_callV_vw [.ref v_5] (ci := 4) (T0 := TX4) (N := 10) B hS9 mf4_take wd_699 (gw B wd_700) wd_698 (by decide) rfl (fun h => (gd_ne h).1) (c4_take X l v_4 v_5 q_3) (by decide) (by decide) (by decide) rfl (by decide) dX11_image_19 rfl (fun q_6 => ?_)
  refine g_aload_n B dX11_image_22 0 rfl ?_
  refine g_iconst (v := 1) B dX11_image_23 (by decide) ?_
  refine g_putI (ci := 10) (T0 := TX11) (N := 18) B (by decide) rfl in_10 tyX11 tyX11_ok nmX11 (k := 13) (by decide) wd_395 (fun _ h => h) rfl rfl (ty := .boolean) (by decide +kernel) rfl rfl dX11_image_24 (fun M_7 => ?_)
  exact g_vreturn B hr (by decide) (by decide) rfl dX11_image_27
theorem c11_image (X : gX) (l : Launch) (a0 : Nat) (M : mMem) : Con X l yX11_image cX11_image 1 (none) rm11_image (fun M9 : mMem => (none, M9)) [.ref a0] M (p11_image a0 M) := g_con (own := RX11) (by decide +kernel) rfl (Nat.le_of_ble_eq_true rfl) (fun p e s m args below meth c B hS9 hr hn => g11_image B hS9 hr a0 M)
theorem mf11_back : gMF yX11_back cX11_back 1 (some .boolean) 0 := ⟨wd_706, wd_1, ⟨by decide, by decide⟩, by decide +kernel⟩
set_option maxRecDepth 20000 in
set_option maxHeartbeats 2000000 in
theorem g11_back {X : gX} {p : Program} {l : Launch} {e : Env} {s : State} {m : MethodId} {args : Array Value} {below : List Frame} {meth : Method} {c : Code} (B : gB X p (rm11_back) s m args meth c RX11 cX11_back 1 (rm11_back)) (hS9 : gS X s) (hr : meth.sig.returnType = some .boolean) (a0 : Nat) (M : mMem) : GG X p l e (rm11_back) s m args below meth c (gP X below args s 0 0 (fun r9 : (Int32 × mMem) => (some (.int r9.1), r9.2))) 1 0 0 0 [(0, .ref a0)] [] M (p11_back a0 M) := by
  unfold p11_back
  refine g_gd ?_
  refine g_aload_n B dX11_back_0 0 rfl ?_
  refine g_getI (ci := 10) (T0 := TX11) (N := 18) B (by decide) rfl in_10 (k := 13) (by decide) rfl wd_395 (fun _ h => h) dX11_back_1 (fun v_1 => ?_)
  refine g_if_ne B 9 dX11_back_4 (by decide) ?_ ?_
  · refine g_iconst (v := 0) B dX11_back_7 (by decide) ?_
    exact g_ireturn B hr rfl (by decide) (by decide) rfl dX11_back_8
  · refine g_aload_n B dX11_back_9 0 rfl ?_
    refine g_getR (ci := 10) (T0 := TX11) (N := 18) B (by decide) rfl in_10 (k := 3) (by decide) rfl wd_385 (fun _ h => h) dX11_back_10 (fun v_2 => ?_)
    refine g_aload_n B dX11_back_13 0 rfl ?_
    refine g_getR (ci := 10) (T0 := TX11) (N := 18) B (by decide) rfl in_10 (k := 11) (by decide) rfl wd_393 (fun _ h => h) dX11_back_14 (fun v_3 => ?_)
    refine g_callV_vw [.ref v_3] (ci := 2) (T0 := TX2) (N := 11) B hS9 mf2_take wd_462 (gw B wd_463) wd_693 (by decide) rfl (fun h => (gd_ne h).1) (c2_take X l v_2 v_3 M) (by decide) (by decide) (by decide) rfl (by decide) dX11_back_17 rfl (fun q_4 => ?_)
    refine g_aload_n B dX11_back_20 0 rfl ?_
    refine g_getR (ci := 10) (T0 := TX11) (N := 18) B (by decide) rfl in_10 (k := 5) (by decide) rfl wd_387 (fun _ h => h) dX11_back_21 (fun v_5 => ?_)
    refine g_aload_n B dX11_back_24 0 rfl ?_
    refine g_getR (ci := 10) (T0 := TX11) (N := 18) B (by decide) rfl in_10 (k := 12) (by decide) rfl wd_394 (fun _ h => h) dX11_back_25 (fun v_6 => ?_)
    refine g_callV_vw [.ref v_6] (ci := 4) (T0 := TX4) (N := 10) B hS9 mf4_take wd_699 (gw B wd_700) wd_698 (by decide) rfl (fun h => (gd_ne h).1) (c4_take X l v_5 v_6 q_4) (by decide) (by decide) (by decide) rfl (by decide) dX11_back_28 rfl (fun q_7 => ?_)
    refine g_aload_n B dX11_back_31 0 rfl ?_
    refine g_iconst (v := 0) B dX11_back_32 (by decide) ?_
    refine g_putI (ci := 10) (T0 := TX11) (N := 18) B (by decide) rfl in_10 tyX11 tyX11_ok nmX11 (k := 10) (by decide) wd_392 (fun _ h => h) rfl rfl (ty := .int) (by decide +kernel) rfl rfl dX11_back_33 (fun M_8 => ?_)
    refine g_iconst (v := 1) B dX11_back_36 (by decide) ?_
    exact g_ireturn B hr rfl (by decide) (by decide) rfl dX11_back_37
theorem c11_back (X : gX) (l : Launch) (a0 : Nat) (M : mMem) : Con X l yX11_back cX11_back 1 (some .boolean) rm11_back (fun r9 : (Int32 × mMem) => (some (.int r9.1), r9.2)) [.ref a0] M (p11_back a0 M) := g_con (own := RX11) (by decide +kernel) rfl (Nat.le_of_ble_eq_true rfl) (fun p e s m args below meth c B hS9 hr hn => g11_back B hS9 hr a0 M)
theorem mf11_count : gMF yX11_count cX11_count 2 (some .int) 1 := ⟨wd_710, wd_1, ⟨by decide, by decide⟩, by decide +kernel⟩
set_option maxRecDepth 20000 in
set_option maxHeartbeats 2000000 in
theorem g11_count {X : gX} {p : Program} {l : Launch} {e : Env} {s : State} {m : MethodId} {args : Array Value} {below : List Frame} {meth : Method} {c : Code} (B : gB X p (rm11_count) s m args meth c RX11 cX11_count 2 (rm11_count)) (hS9 : gS X s) (hr : meth.sig.returnType = some .int) {M : mMem} (a0 : Nat) (x1 : Int32) : GG X p l e (rm11_count) s m args below meth c (gP X below args s 0 0 (fun r9 : Int32 => (some (.int r9), M))) 2 0 0 0 [(0, .ref a0), (1, .int x1)] [] M (p11_count a0 x1 M) := by
  unfold p11_count
  refine g_gd ?_
  refine g_iload_n B dX11_count_0 1 rfl ?_
  refine g_tableswitch B [0, 1, 2, 3, 4, 5, 6, 7, 8, 9, 10, 11, 12] [68, 76, 84, 92, 100, 108, 116, 124, 132, 140, 148, 156, 167] 172 dX11_count_1 (by decide) (by decide) ?_ ?_
  · refine g_iconst (v := (-1)) B dX11_count_172 (by decide) ?_
    exact g_ireturn B hr rfl (by decide) (by decide) rfl dX11_count_173
  · refine ⟨rfl, ?_, ?_, ?_, ?_, ?_, ?_, ?_, ?_, ?_, ?_, ?_, ?_, ?_, trivial⟩
    · refine g_aload_n B dX11_count_68 0 rfl ?_
      refine g_getR (ci := 10) (T0 := TX11) (N := 18) B (by decide) rfl in_10 (k := 3) (by decide) rfl wd_385 (fun _ h => h) dX11_count_69 (fun v_1 => ?_)
      refine g_getI (ci := 2) (T0 := TX2) (N := 11) B (by decide) rfl in_2 (k := 4) (by decide) rfl wd_145 (fun _ h => h) dX11_count_72 (fun v_2 => ?_)
      exact g_ireturn B hr rfl (by decide) (by decide) rfl dX11_count_75
    · refine g_aload_n B dX11_count_76 0 rfl ?_
      refine g_getR (ci := 10) (T0 := TX11) (N := 18) B (by decide) rfl in_10 (k := 3) (by decide) rfl wd_385 (fun _ h => h) dX11_count_77 (fun v_3 => ?_)
      refine g_getI (ci := 2) (T0 := TX2) (N := 11) B (by decide) rfl in_2 (k := 10) (by decide) rfl wd_167 (fun _ h => h) dX11_count_80 (fun v_4 => ?_)
      exact g_ireturn B hr rfl (by decide) (by decide) rfl dX11_count_83
    · refine g_aload_n B dX11_count_84 0 rfl ?_
      refine g_getR (ci := 10) (T0 := TX11) (N := 18) B (by decide) rfl in_10 (k := 5) (by decide) rfl wd_387 (fun _ h => h) dX11_count_85 (fun v_5 => ?_)
      refine g_getI (ci := 4) (T0 := TX4) (N := 10) B (by decide) rfl in_4 (k := 9) (by decide) rfl wd_208 (fun _ h => h) dX11_count_88 (fun v_6 => ?_)
      exact g_ireturn B hr rfl (by decide) (by decide) rfl dX11_count_91
    · refine g_aload_n B dX11_count_92 0 rfl ?_
      refine g_getR (ci := 10) (T0 := TX11) (N := 18) B (by decide) rfl in_10 (k := 3) (by decide) rfl wd_385 (fun _ h => h) dX11_count_93 (fun v_7 => ?_)
      refine g_getI (ci := 2) (T0 := TX2) (N := 11) B (by decide) rfl in_2 (k := 8) (by decide) rfl wd_162 (fun _ h => h) dX11_count_96 (fun v_8 => ?_)
      exact g_ireturn B hr rfl (by decide) (by decide) rfl dX11_count_99
    · refine g_aload_n B dX11_count_100 0 rfl ?_
      refine g_getR (ci := 10) (T0 := TX11) (N := 18) B (by decide) rfl in_10 (k := 3) (by decide) rfl wd_385 (fun _ h => h) dX11_count_101 (fun v_9 => ?_)
      refine g_getI (ci := 2) (T0 := TX2) (N := 11) B (by decide) rfl in_2 (k := 5) (by decide) rfl wd_149 (fun _ h => h) dX11_count_104 (fun v_10 => ?_)
      exact g_ireturn B hr rfl (by decide) (by decide) rfl dX11_count_107
    · refine g_aload_n B dX11_count_108 0 rfl ?_
      refine g_getR (ci := 10) (T0 := TX11) (N := 18) B (by decide) rfl in_10 (k := 3) (by decide) rfl wd_385 (fun _ h => h) dX11_count_109 (fun v_11 => ?_)
      refine g_getI (ci := 2) (T0 := TX2) (N := 11) B (by decide) rfl in_2 (k := 6) (by decide) rfl wd_153 (fun _ h => h) dX11_count_112 (fun v_12 => ?_)
      exact g_ireturn B hr rfl (by decide) (by decide) rfl dX11_count_115
    · refine g_aload_n B dX11_count_116 0 rfl ?_
      refine g_getR (ci := 10) (T0 := TX11) (N := 18) B (by decide) rfl in_10 (k := 3) (by decide) rfl wd_385 (fun _ h => h) dX11_count_117 (fun v_13 => ?_)
      refine g_getI (ci := 2) (T0 := TX2) (N := 11) B (by decide) rfl in_2 (k := 7) (by decide) rfl wd_158 (fun _ h => h) dX11_count_120 (fun v_14 => ?_)
      exact g_ireturn B hr rfl (by decide) (by decide) rfl dX11_count_123
    · refine g_aload_n B dX11_count_124 0 rfl ?_
      refine g_getR (ci := 10) (T0 := TX11) (N := 18) B (by decide) rfl in_10 (k := 3) (by decide) rfl wd_385 (fun _ h => h) dX11_count_125 (fun v_15 => ?_)
      refine g_callV_ip [] (ci := 2) (T0 := TX2) (N := 11) B hS9 mf2_agesTogether wd_660 (gw B wd_661) wd_659 (by decide) rfl (fun h => (gd_ne h).1) (c2_agesTogether X l v_15 M) (by decide) (by decide) (by decide) rfl (by decide) dX11_count_128 rfl (fun v_16 => ?_)
      exact g_ireturn B hr rfl (by decide) (by decide) rfl dX11_count_131
    · refine g_aload_n B dX11_count_132 0 rfl ?_
      refine g_getR (ci := 10) (T0 := TX11) (N := 18) B (by decide) rfl in_10 (k := 3) (by decide) rfl wd_385 (fun _ h => h) dX11_count_133 (fun v_17 => ?_)
      refine g_callV_ip [] (ci := 2) (T0 := TX2) (N := 11) B hS9 mf2_turnsTogether wd_712 (gw B wd_713) wd_711 (by decide) rfl (fun h => (gd_ne h).1) (c2_turnsTogether X l v_17 M) (by decide) (by decide) (by decide) rfl (by decide) dX11_count_136 rfl (fun v_18 => ?_)
      exact g_ireturn B hr rfl (by decide) (by decide) rfl dX11_count_139
    · refine g_aload_n B dX11_count_140 0 rfl ?_
      refine g_getR (ci := 10) (T0 := TX11) (N := 18) B (by decide) rfl in_10 (k := 3) (by decide) rfl wd_385 (fun _ h => h) dX11_count_141 (fun v_19 => ?_)
      refine g_callV_ip [] (ci := 2) (T0 := TX2) (N := 11) B hS9 mf2_boys wd_716 (gw B wd_717) wd_715 (by decide) rfl (fun h => (gd_ne h).1) (c2_boys X l v_19 M) (by decide) (by decide) (by decide) rfl (by decide) dX11_count_144 rfl (fun v_20 => ?_)
      exact g_ireturn B hr rfl (by decide) (by decide) rfl dX11_count_147
    · refine g_aload_n B dX11_count_148 0 rfl ?_
      refine g_getR (ci := 10) (T0 := TX11) (N := 18) B (by decide) rfl in_10 (k := 3) (by decide) rfl wd_385 (fun _ h => h) dX11_count_149 (fun v_21 => ?_)
      refine g_callV_ip [] (ci := 2) (T0 := TX2) (N := 11) B hS9 mf2_wedded wd_720 (gw B wd_721) wd_719 (by decide) rfl (fun h => (gd_ne h).1) (c2_wedded X l v_21 M) (by decide) (by decide) (by decide) rfl (by decide) dX11_count_152 rfl (fun v_22 => ?_)
      exact g_ireturn B hr rfl (by decide) (by decide) rfl dX11_count_155
    · refine g_aload_n B dX11_count_156 0 rfl ?_
      refine g_getR (ci := 10) (T0 := TX11) (N := 18) B (by decide) rfl in_10 (k := 3) (by decide) rfl wd_385 (fun _ h => h) dX11_count_157 (fun v_23 => ?_)
      refine g_getR (ci := 2) (T0 := TX2) (N := 11) B (by decide) rfl in_2 (k := 3) (by decide) rfl wd_138 (fun _ h => h) dX11_count_160 (fun v_24 => ?_)
      refine g_getI (ci := 6) (T0 := TX6) (N := 3) B (by decide) rfl in_6 (k := 2) (by decide) rfl wd_126 (fun _ h => h) dX11_count_163 (fun v_25 => ?_)
      exact g_ireturn B hr rfl (by decide) (by decide) rfl dX11_count_166
    · refine g_aload_n B dX11_count_167 0 rfl ?_
      refine g_getI (ci := 10) (T0 := TX11) (N := 18) B (by decide) rfl in_10 (k := 10) (by decide) rfl wd_392 (fun _ h => h) dX11_count_168 (fun v_26 => ?_)
      exact g_ireturn B hr rfl (by decide) (by decide) rfl dX11_count_171
theorem c11_count (X : gX) (l : Launch) (a0 : Nat) (x1 : Int32) (M : mMem) : Con X l yX11_count cX11_count 2 (some .int) rm11_count (fun r9 : Int32 => (some (.int r9), M)) [.ref a0, .int x1] M (p11_count a0 x1 M) := g_con (own := RX11) (by decide +kernel) rfl (Nat.le_of_ble_eq_true rfl) (fun p e s m args below meth c B hS9 hr hn => g11_count B hS9 hr a0 x1)
theorem mf12_thrown : gMF yX12_thrown cX12_thrown 1 (some .int) 0 := ⟨wd_1634, wd_13, ⟨by decide, by decide⟩, by decide +kernel⟩
set_option maxRecDepth 20000 in
set_option maxHeartbeats 2000000 in
theorem g12_thrown {X : gX} {p : Program} {l : Launch} {e : Env} {s : State} {m : MethodId} {args : Array Value} {below : List Frame} {meth : Method} {c : Code} (B : gB X p (rm12_thrown) s m args meth c RX12 cX12_thrown 1 (rm12_thrown)) (hS9 : gS X s) (hr : meth.sig.returnType = some .int) {M : mMem} (a0 : Nat) : GG X p l e (rm12_thrown) s m args below meth c (gP X below args s 0 0 (fun r9 : Int32 => (some (.int r9), M))) 1 0 0 0 [(0, .ref a0)] [] M (p12_thrown a0 M) := by
  unfold p12_thrown
  refine g_gd ?_
  refine g_aload_n B dX12_thrown_0 0 rfl ?_
  refine g_getI (ci := 11) (T0 := TX12) (N := 27) B (by decide) rfl in_11 (k := 0) (by decide) rfl wd_1641 (fun _ h => h) dX12_thrown_1 (fun v_1 => ?_)
  exact g_ireturn B hr rfl (by decide) (by decide) rfl dX12_thrown_4
theorem c12_thrown (X : gX) (l : Launch) (a0 : Nat) (M : mMem) : Con X l yX12_thrown cX12_thrown 1 (some .int) rm12_thrown (fun r9 : Int32 => (some (.int r9), M)) [.ref a0] M (p12_thrown a0 M) := g_con (own := RX12) (by decide +kernel) rfl (Nat.le_of_ble_eq_true rfl) (fun p e s m args below meth c B hS9 hr hn => g12_thrown B hS9 hr a0)
theorem mf12_throwsIf : gMF yX12_throwsIf cX12_throwsIf 3 (some .boolean) 2 := ⟨wd_1933, wd_13, ⟨by decide, by decide⟩, by decide +kernel⟩
set_option maxRecDepth 20000 in
set_option maxHeartbeats 2000000 in
theorem g12_throwsIf_J9 {X : gX} {p : Program} {l : Launch} {e : Env} {s : State} {m : MethodId} {args : Array Value} {below : List Frame} {meth : Method} {c : Code} (B : gB X p (rm12_throwsIf) s m args meth c RX12 cX12_throwsIf 3 (rm12_throwsIf)) (hS9 : gS X s) (hr : meth.sig.returnType = some .boolean) (x1 : Int32) (M : mMem) : GG X p l e (rm12_throwsIf) s m args below meth c (gP X below args s 0 0 (fun r9 : (Int32 × mMem) => (some (.int r9.1), r9.2))) 3 0 0 9 [(1, .int x1)] [] M (p12_throwsIf_J9 x1 M) := by
  unfold p12_throwsIf_J9
  refine g_iload_n B dX12_throwsIf_9 0 rfl ?_
  exact g_zreturn (f := fun z => (z, M)) B hr (by decide) (by decide) rfl dX12_throwsIf_10
set_option maxRecDepth 20000 in
set_option maxHeartbeats 2000000 in
theorem g12_throwsIf {X : gX} {p : Program} {l : Launch} {e : Env} {s : State} {m : MethodId} {args : Array Value} {below : List Frame} {meth : Method} {c : Code} (B : gB X p (rm12_throwsIf) s m args meth c RX12 cX12_throwsIf 3 (rm12_throwsIf)) (hS9 : gS X s) (hr : meth.sig.returnType = some .boolean) (a0 : Nat) (x1 : Int32) (x2 : Int32) (M : mMem) : GG X p l e (rm12_throwsIf) s m args below meth c (gP X below args s 0 0 (fun r9 : (Int32 × mMem) => (some (.int r9.1), r9.2))) 3 0 0 0 [(0, .ref a0), (1, .int x1), (2, .int x2)] [] M (p12_throwsIf a0 x1 x2 M) := by
  unfold p12_throwsIf
  refine g_gd ?_
  refine g_iload_n B dX12_throwsIf_0 1 rfl ?_
  refine g_if_eq B 9 dX12_throwsIf_1 (by decide) ?_ ?_
  · refine g_sub (lv' := [(1, .int x1)]) [1] rfl ?_
    exact g12_throwsIf_J9 B hS9 hr x1 M
  · refine g_aload_n B dX12_throwsIf_4 0 rfl ?_
    refine g_iload_n B dX12_throwsIf_5 2 rfl ?_
    refine g_putI (ci := 11) (T0 := TX12) (N := 27) B (by decide) rfl in_11 tyX12 tyX12_ok nmX12 (k := 0) (by decide) wd_1641 (fun _ h => h) rfl rfl (ty := .int) (by decide +kernel) rfl rfl dX12_throwsIf_6 (fun M_1 => ?_)
    refine g_sub (lv' := [(1, .int x1)]) [1] rfl ?_
    exact g12_throwsIf_J9 B hS9 hr x1 M_1
theorem c12_throwsIf (X : gX) (l : Launch) (a0 : Nat) (x1 : Int32) (x2 : Int32) (M : mMem) : Con X l yX12_throwsIf cX12_throwsIf 3 (some .boolean) rm12_throwsIf (fun r9 : (Int32 × mMem) => (some (.int r9.1), r9.2)) [.ref a0, .int x1, .int x2] M (p12_throwsIf a0 x1 x2 M) := g_con (own := RX12) (by decide +kernel) rfl (Nat.le_of_ble_eq_true rfl) (fun p e s m args below meth c B hS9 hr hn => g12_throwsIf B hS9 hr a0 x1 x2 M)
theorem mf12_in : gMF yX12_in cX12_in 3 (some .boolean) 3 := ⟨wd_1948, wd_13, ⟨by decide, by decide⟩, by decide +kernel⟩
set_option maxRecDepth 20000 in
set_option maxHeartbeats 2000000 in
theorem g12_in_J15 {X : gX} {p : Program} {l : Launch} {e : Env} {s : State} {m : MethodId} {args : Array Value} {below : List Frame} {meth : Method} {c : Code} (B : gB X p (rm12_in) s m args meth c RX12 cX12_in 3 (rm12_in)) (hS9 : gS X s) (hr : meth.sig.returnType = some .boolean) {M : mMem} (u0 : Int32) : GG X p l e (rm12_in) s m args below meth c (gP X below args s 0 0 (fun r9 : Int32 => (some (.int r9), M))) 3 0 0 15 [] [.int u0] M (p12_in_J15 M u0) := by
  unfold p12_in_J15
  exact g_zreturn (f := fun z => z) B hr (by decide) (by decide) rfl dX12_in_15
set_option maxRecDepth 20000 in
set_option maxHeartbeats 2000000 in
theorem g12_in_J14 {X : gX} {p : Program} {l : Launch} {e : Env} {s : State} {m : MethodId} {args : Array Value} {below : List Frame} {meth : Method} {c : Code} (B : gB X p (rm12_in) s m args meth c RX12 cX12_in 3 (rm12_in)) (hS9 : gS X s) (hr : meth.sig.returnType = some .boolean) {M : mMem} : GG X p l e (rm12_in) s m args below meth c (gP X below args s 0 0 (fun r9 : Int32 => (some (.int r9), M))) 3 0 0 14 [] [] M (p12_in_J14 M) := by
  unfold p12_in_J14
  refine g_iconst (v := 0) B dX12_in_14 (by decide) ?_
  refine g_sub (lv' := []) [] rfl ?_
  exact g12_in_J15 B hS9 hr 0
set_option maxRecDepth 20000 in
set_option maxHeartbeats 2000000 in
theorem g12_in {X : gX} {p : Program} {l : Launch} {e : Env} {s : State} {m : MethodId} {args : Array Value} {below : List Frame} {meth : Method} {c : Code} (B : gB X p (rm12_in) s m args meth c RX12 cX12_in 3 (rm12_in)) (hS9 : gS X s) (hr : meth.sig.returnType = some .boolean) {M : mMem} (x0 : Int32) (x1 : Int32) (x2 : Int32) : GG X p l e (rm12_in) s m args below meth c (gP X below args s 0 0 (fun r9 : Int32 => (some (.int r9), M))) 3 0 0 0 [(0, .int x0), (1, .int x1), (2, .int x2)] [] M (p12_in x0 x1 x2 M) := by
  unfold p12_in
  refine g_iload_n B dX12_in_0 0 rfl ?_
  refine g_iload_n B dX12_in_1 1 rfl ?_
  refine g_icmp_lt B 14 dX12_in_2 (by decide) ?_ ?_
  · refine g_sub (lv' := []) [] rfl ?_
    exact g12_in_J14 B hS9 hr
  · refine g_iload_n B dX12_in_5 0 rfl ?_
    refine g_iload_n B dX12_in_6 2 rfl ?_
    refine g_icmp_gt B 14 dX12_in_7 (by decide) ?_ ?_
    · refine g_sub (lv' := []) [] rfl ?_
      exact g12_in_J14 B hS9 hr
    · refine g_iconst (v := 1) B dX12_in_10 (by decide) ?_
      refine g_goto B 15 dX12_in_11 (by decide) ?_
      refine g_sub (lv' := []) [] rfl ?_
      exact g12_in_J15 B hS9 hr 1
theorem c12_in (X : gX) (l : Launch) (x0 : Int32) (x1 : Int32) (x2 : Int32) (M : mMem) : Con X l yX12_in cX12_in 3 (some .boolean) rm12_in (fun r9 : Int32 => (some (.int r9), M)) [.int x0, .int x1, .int x2] M (p12_in x0 x1 x2 M) := g_con (own := RX12) (by decide +kernel) rfl (Nat.le_of_ble_eq_true rfl) (fun p e s m args below meth c B hS9 hr hn => g12_in B hS9 hr x0 x1 x2)
theorem mf12_has : gMF yX12_has cX12_has 2 (some .boolean) 2 := ⟨wd_1959, wd_13, ⟨by decide, by decide⟩, by decide +kernel⟩
set_option maxRecDepth 20000 in
set_option maxHeartbeats 2000000 in
theorem g12_has_J14 {X : gX} {p : Program} {l : Launch} {e : Env} {s : State} {m : MethodId} {args : Array Value} {below : List Frame} {meth : Method} {c : Code} (B : gB X p (rm12_has) s m args meth c RX12 cX12_has 2 (rm12_has)) (hS9 : gS X s) (hr : meth.sig.returnType = some .boolean) {M : mMem} (u0 : Int32) : GG X p l e (rm12_has) s m args below meth c (gP X below args s 0 0 (fun r9 : Int32 => (some (.int r9), M))) 2 0 0 14 [] [.int u0] M (p12_has_J14 M u0) := by
  unfold p12_has_J14
  exact g_zreturn (f := fun z => z) B hr (by decide) (by decide) rfl dX12_has_14
set_option maxRecDepth 20000 in
set_option maxHeartbeats 2000000 in
theorem g12_has {X : gX} {p : Program} {l : Launch} {e : Env} {s : State} {m : MethodId} {args : Array Value} {below : List Frame} {meth : Method} {c : Code} (B : gB X p (rm12_has) s m args meth c RX12 cX12_has 2 (rm12_has)) (hS9 : gS X s) (hr : meth.sig.returnType = some .boolean) {M : mMem} (x0 : Int32) (x1 : Int32) : GG X p l e (rm12_has) s m args below meth c (gP X below args s 0 0 (fun r9 : Int32 => (some (.int r9), M))) 2 0 0 0 [(0, .int x0), (1, .int x1)] [] M (p12_has x0 x1 M) := by
  unfold p12_has
  refine g_iload_n B dX12_has_0 0 rfl ?_
  refine g_iload_n B dX12_has_1 1 rfl ?_
  refine g_ishr B dX12_has_2 ?_
  refine g_iconst (v := 1) B dX12_has_3 (by decide) ?_
  refine g_iand B dX12_has_4 ?_
  refine g_iconst (v := 1) B dX12_has_5 (by decide) ?_
  refine g_icmp_ne B 13 dX12_has_6 (by decide) ?_ ?_
  · refine g_iconst (v := 1) B dX12_has_9 (by decide) ?_
    refine g_goto B 14 dX12_has_10 (by decide) ?_
    refine g_sub (lv' := []) [] rfl ?_
    exact g12_has_J14 B hS9 hr 1
  · refine g_iconst (v := 0) B dX12_has_13 (by decide) ?_
    refine g_sub (lv' := []) [] rfl ?_
    exact g12_has_J14 B hS9 hr 0
theorem c12_has (X : gX) (l : Launch) (x0 : Int32) (x1 : Int32) (M : mMem) : Con X l yX12_has cX12_has 2 (some .boolean) rm12_has (fun r9 : Int32 => (some (.int r9), M)) [.int x0, .int x1] M (p12_has x0 x1 M) := g_con (own := RX12) (by decide +kernel) rfl (Nat.le_of_ble_eq_true rfl) (fun p e s m args below meth c B hS9 hr hn => g12_has B hS9 hr x0 x1)
theorem mf12_init : gMF yX12_init cX12_init 1 (none) 0 := ⟨wd_1639, wd_13, ⟨by decide, by decide⟩, by decide +kernel⟩
set_option maxRecDepth 20000 in
set_option maxHeartbeats 2000000 in
theorem g12_init {X : gX} {p : Program} {l : Launch} {e : Env} {s : State} {m : MethodId} {args : Array Value} {below : List Frame} {meth : Method} {c : Code} (B : gB X p (rm12_init) s m args meth c RX12 cX12_init 1 (rm12_init)) (hS9 : gS X s) (hr : meth.sig.returnType = none) (hin2 : meth.name = "<init>") (a0 : Nat) (M : mMem) : GG X p l e (rm12_init) s m args below meth c (gP X below args s 16 14041 (fun M9 : mMem => (none, M9))) 1 0 0 0 [(0, .ref a0)] [] M (p12_init a0 M) := by
  unfold p12_init
  refine g_gd ?_
  refine g_aload_n B dX12_init_0 0 rfl ?_
  refine g_objinit B wd_1640 wd_36 wd_37 (by decide) (by decide) dX12_init_1 ?_
  refine g_aload_n B dX12_init_4 0 rfl ?_
  refine g_sipush (v := 2143) B dX12_init_5 (by decide) ?_
  refine g_newarrayI (N := 2143) B wd_116 (by decide +kernel) (by decide +kernel) (by decide +kernel) (by decide) dX12_init_8 (fun n_1 => ?_)
  refine g_putRF (ci := 11) (T0 := TX12) (N := 27) B (by decide) rfl in_11 tyX12 tyX12_ok nmX12 (k := 1) (by decide) wd_1642 (fun _ h => h) rfl rfl hin2 rfl (ty := (.array .int)) (by decide +kernel) rfl rfl dX12_init_10 (fun M_2 => ?_)
  refine g_aload_n B dX12_init_13 0 rfl ?_
  refine g_sipush (v := 1294) B dX12_init_14 (by decide) ?_
  refine g_newarrayI (N := 1294) B wd_116 (by decide +kernel) (by decide +kernel) (by decide +kernel) (by decide) dX12_init_17 (fun n_3 => ?_)
  refine g_putRF (ci := 11) (T0 := TX12) (N := 27) B (by decide) rfl in_11 tyX12 tyX12_ok nmX12 (k := 2) (by decide) wd_1643 (fun _ h => h) rfl rfl hin2 rfl (ty := (.array .int)) (by decide +kernel) rfl rfl dX12_init_19 (fun M_4 => ?_)
  refine g_aload_n B dX12_init_22 0 rfl ?_
  refine g_sipush (v := 1294) B dX12_init_23 (by decide) ?_
  refine g_newarrayI (N := 1294) B wd_116 (by decide +kernel) (by decide +kernel) (by decide +kernel) (by decide) dX12_init_26 (fun n_5 => ?_)
  refine g_putRF (ci := 11) (T0 := TX12) (N := 27) B (by decide) rfl in_11 tyX12 tyX12_ok nmX12 (k := 3) (by decide) wd_1644 (fun _ h => h) rfl rfl hin2 rfl (ty := (.array .int)) (by decide +kernel) rfl rfl dX12_init_28 (fun M_6 => ?_)
  refine g_aload_n B dX12_init_31 0 rfl ?_
  refine g_sipush (v := 445) B dX12_init_32 (by decide) ?_
  refine g_newarrayI (N := 445) B wd_116 (by decide +kernel) (by decide +kernel) (by decide +kernel) (by decide) dX12_init_35 (fun n_7 => ?_)
  refine g_putRF (ci := 11) (T0 := TX12) (N := 27) B (by decide) rfl in_11 tyX12 tyX12_ok nmX12 (k := 4) (by decide) wd_1645 (fun _ h => h) rfl rfl hin2 rfl (ty := (.array .int)) (by decide +kernel) rfl rfl dX12_init_37 (fun M_8 => ?_)
  refine g_aload_n B dX12_init_40 0 rfl ?_
  refine g_sipush (v := 5340) B dX12_init_41 (by decide) ?_
  refine g_newarrayI (N := 5340) B wd_116 (by decide +kernel) (by decide +kernel) (by decide +kernel) (by decide) dX12_init_44 (fun n_9 => ?_)
  refine g_putRF (ci := 11) (T0 := TX12) (N := 27) B (by decide) rfl in_11 tyX12 tyX12_ok nmX12 (k := 5) (by decide) wd_1646 (fun _ h => h) rfl rfl hin2 rfl (ty := (.array .int)) (by decide +kernel) rfl rfl dX12_init_46 (fun M_10 => ?_)
  refine g_aload_n B dX12_init_49 0 rfl ?_
  refine g_sipush (v := 400) B dX12_init_50 (by decide) ?_
  refine g_newarrayB (N := 400) B wd_1043 (by decide +kernel) (by decide +kernel) (by decide +kernel) (by decide) dX12_init_53 (fun n_11 => ?_)
  refine g_putRF (ci := 11) (T0 := TX12) (N := 27) B (by decide) rfl in_11 tyX12 tyX12_ok nmX12 (k := 8) (by decide) wd_1649 (fun _ h => h) rfl rfl hin2 rfl (ty := (.array .byte)) (by decide +kernel) rfl rfl dX12_init_55 (fun M_12 => ?_)
  refine g_aload_n B dX12_init_58 0 rfl ?_
  refine g_iconst (v := (-1)) B dX12_init_59 (by decide) ?_
  refine g_putI (ci := 11) (T0 := TX12) (N := 27) B (by decide) rfl in_11 tyX12 tyX12_ok nmX12 (k := 14) (by decide) wd_1655 (fun _ h => h) rfl rfl (ty := .int) (by decide +kernel) rfl rfl dX12_init_60 (fun M_13 => ?_)
  refine g_aload_n B dX12_init_63 0 rfl ?_
  refine g_iconst (v := 5) B dX12_init_64 (by decide) ?_
  refine g_newarrayI (N := 5) B wd_116 (by decide +kernel) (by decide +kernel) (by decide +kernel) (by decide) dX12_init_65 (fun n_14 => ?_)
  refine g_putRF (ci := 11) (T0 := TX12) (N := 27) B (by decide) rfl in_11 tyX12 tyX12_ok nmX12 (k := 15) (by decide) wd_1656 (fun _ h => h) rfl rfl hin2 rfl (ty := (.array .int)) (by decide +kernel) rfl rfl dX12_init_67 (fun M_15 => ?_)
  refine g_aload_n B dX12_init_70 0 rfl ?_
  refine g_sipush (v := 400) B dX12_init_71 (by decide) ?_
  refine g_newarrayI (N := 400) B wd_116 (by decide +kernel) (by decide +kernel) (by decide +kernel) (by decide) dX12_init_74 (fun n_16 => ?_)
  refine g_putRF (ci := 11) (T0 := TX12) (N := 27) B (by decide) rfl in_11 tyX12 tyX12_ok nmX12 (k := 17) (by decide) wd_1658 (fun _ h => h) rfl rfl hin2 rfl (ty := (.array .int)) (by decide +kernel) rfl rfl dX12_init_76 (fun M_17 => ?_)
  refine g_aload_n B dX12_init_79 0 rfl ?_
  refine g_bipush (v := 99) B dX12_init_80 (by decide) ?_
  refine g_newarrayI (N := 99) B wd_116 (by decide +kernel) (by decide +kernel) (by decide +kernel) (by decide) dX12_init_82 (fun n_18 => ?_)
  refine g_putRF (ci := 11) (T0 := TX12) (N := 27) B (by decide) rfl in_11 tyX12 tyX12_ok nmX12 (k := 18) (by decide) wd_1659 (fun _ h => h) rfl rfl hin2 rfl (ty := (.array .int)) (by decide +kernel) rfl rfl dX12_init_84 (fun M_19 => ?_)
  refine g_aload_n B dX12_init_87 0 rfl ?_
  refine g_bipush (v := 99) B dX12_init_88 (by decide) ?_
  refine g_newarrayI (N := 99) B wd_116 (by decide +kernel) (by decide +kernel) (by decide +kernel) (by decide) dX12_init_90 (fun n_20 => ?_)
  refine g_putRF (ci := 11) (T0 := TX12) (N := 27) B (by decide) rfl in_11 tyX12 tyX12_ok nmX12 (k := 19) (by decide) wd_1660 (fun _ h => h) rfl rfl hin2 rfl (ty := (.array .int)) (by decide +kernel) rfl rfl dX12_init_92 (fun M_21 => ?_)
  refine g_aload_n B dX12_init_95 0 rfl ?_
  refine g_bipush (v := 99) B dX12_init_96 (by decide) ?_
  refine g_newarrayI (N := 99) B wd_116 (by decide +kernel) (by decide +kernel) (by decide +kernel) (by decide) dX12_init_98 (fun n_22 => ?_)
  refine g_putRF (ci := 11) (T0 := TX12) (N := 27) B (by decide) rfl in_11 tyX12 tyX12_ok nmX12 (k := 20) (by decide) wd_1661 (fun _ h => h) rfl rfl hin2 rfl (ty := (.array .int)) (by decide +kernel) rfl rfl dX12_init_100 (fun M_23 => ?_)
  refine g_aload_n B dX12_init_103 0 rfl ?_
  refine g_bipush (v := 99) B dX12_init_104 (by decide) ?_
  refine g_newarrayI (N := 99) B wd_116 (by decide +kernel) (by decide +kernel) (by decide +kernel) (by decide) dX12_init_106 (fun n_24 => ?_)
  refine g_putRF (ci := 11) (T0 := TX12) (N := 27) B (by decide) rfl in_11 tyX12 tyX12_ok nmX12 (k := 22) (by decide) wd_1663 (fun _ h => h) rfl rfl hin2 rfl (ty := (.array .int)) (by decide +kernel) rfl rfl dX12_init_108 (fun M_25 => ?_)
  refine g_aload_n B dX12_init_111 0 rfl ?_
  refine g_sipush (v := 2304) B dX12_init_112 (by decide) ?_
  refine g_newarrayI (N := 2304) B wd_116 (by decide +kernel) (by decide +kernel) (by decide +kernel) (by decide) dX12_init_115 (fun n_26 => ?_)
  refine g_putRF (ci := 11) (T0 := TX12) (N := 27) B (by decide) rfl in_11 tyX12 tyX12_ok nmX12 (k := 23) (by decide) wd_1664 (fun _ h => h) rfl rfl hin2 rfl (ty := (.array .int)) (by decide +kernel) rfl rfl dX12_init_117 (fun M_27 => ?_)
  refine g_aload_n B dX12_init_120 0 rfl ?_
  refine g_bipush (v := 8) B dX12_init_121 (by decide) ?_
  refine g_newarrayI (N := 8) B wd_116 (by decide +kernel) (by decide +kernel) (by decide +kernel) (by decide) dX12_init_123 (fun n_28 => ?_)
  refine g_putRF (ci := 11) (T0 := TX12) (N := 27) B (by decide) rfl in_11 tyX12 tyX12_ok nmX12 (k := 24) (by decide) wd_1665 (fun _ h => h) rfl rfl hin2 rfl (ty := (.array .int)) (by decide +kernel) rfl rfl dX12_init_125 (fun M_29 => ?_)
  refine g_aload_n B dX12_init_128 0 rfl ?_
  refine g_bipush (v := 8) B dX12_init_129 (by decide) ?_
  refine g_newarrayI (N := 8) B wd_116 (by decide +kernel) (by decide +kernel) (by decide +kernel) (by decide) dX12_init_131 (fun n_30 => ?_)
  refine g_putRF (ci := 11) (T0 := TX12) (N := 27) B (by decide) rfl in_11 tyX12 tyX12_ok nmX12 (k := 25) (by decide) wd_1666 (fun _ h => h) rfl rfl hin2 rfl (ty := (.array .int)) (by decide +kernel) rfl rfl dX12_init_133 (fun M_31 => ?_)
  refine g_aload_n B dX12_init_136 0 rfl ?_
  refine g_iconst (v := 4) B dX12_init_137 (by decide) ?_
  refine g_newarrayL (N := 4) B wd_1723 (by decide +kernel) (by decide +kernel) (by decide +kernel) (by decide) dX12_init_138 (fun n_32 => ?_)
  refine g_putRF (ci := 11) (T0 := TX12) (N := 27) B (by decide) rfl in_11 tyX12 tyX12_ok nmX12 (k := 26) (by decide) wd_1667 (fun _ h => h) rfl rfl hin2 rfl (ty := (.array .long)) (by decide +kernel) rfl rfl dX12_init_140 (fun M_33 => ?_)
  refine g_aload_n B dX12_init_143 0 rfl ?_
  refine g_getR (ci := 11) (T0 := TX12) (N := 27) B (by decide) rfl in_11 (k := 1) (by decide) rfl wd_1642 (fun _ h => h) dX12_init_144 (fun v_34 => ?_)
  refine g_iconst (v := 4) B dX12_init_147 (by decide) ?_
  refine g_bipush (v := 90) B dX12_init_148 (by decide) ?_
  refine g_iastore B dX12_init_150 (fun M_35 => ?_)
  refine g_aload_n B dX12_init_151 0 rfl ?_
  refine g_getR (ci := 11) (T0 := TX12) (N := 27) B (by decide) rfl in_11 (k := 1) (by decide) rfl wd_1642 (fun _ h => h) dX12_init_152 (fun v_36 => ?_)
  refine g_iconst (v := 5) B dX12_init_155 (by decide) ?_
  refine g_iconst (v := 5) B dX12_init_156 (by decide) ?_
  refine g_iastore B dX12_init_157 (fun M_37 => ?_)
  refine g_aload_n B dX12_init_158 0 rfl ?_
  refine g_getR (ci := 11) (T0 := TX12) (N := 27) B (by decide) rfl in_11 (k := 1) (by decide) rfl wd_1642 (fun _ h => h) dX12_init_159 (fun v_38 => ?_)
  refine g_bipush (v := 6) B dX12_init_162 (by decide) ?_
  refine g_iconst (v := 1) B dX12_init_164 (by decide) ?_
  refine g_iastore B dX12_init_165 (fun M_39 => ?_)
  refine g_aload_n B dX12_init_166 0 rfl ?_
  refine g_getR (ci := 11) (T0 := TX12) (N := 27) B (by decide) rfl in_11 (k := 1) (by decide) rfl wd_1642 (fun _ h => h) dX12_init_167 (fun v_40 => ?_)
  refine g_bipush (v := 8) B dX12_init_170 (by decide) ?_
  refine g_iconst (v := 1) B dX12_init_172 (by decide) ?_
  refine g_iastore B dX12_init_173 (fun M_41 => ?_)
  exact g_vreturn B hr (by decide) (by decide) rfl dX12_init_174
theorem c12_init (X : gX) (l : Launch) (a0 : Nat) (M : mMem) : Con X l yX12_init cX12_init 1 (none) rm12_init (fun M9 : mMem => (none, M9)) [.ref a0] M (p12_init a0 M) := g_con (own := RX12) (by decide +kernel) rfl (Nat.le_of_ble_eq_true rfl) (fun p e s m args below meth c B hS9 hr hn => g12_init B hS9 hr hn a0 M)
theorem mf12_image : gMF yX12_image cX12_image 2 (none) 0 := ⟨wd_1727, wd_13, ⟨by decide, by decide⟩, by decide +kernel⟩
set_option maxRecDepth 20000 in
set_option maxHeartbeats 2000000 in
theorem g12_image_L7 {X : gX} {p : Program} {l : Launch} {e : Env} {s : State} {m : MethodId} {args : Array Value} {below : List Frame} {meth : Method} {c : Code} (B : gB X p (rm12_image) s m args meth c RX12 cX12_image 2 (rm12_image)) (hS9 : gS X s) (hr : meth.sig.returnType = none) : ∀ (n : Nat) (a0 : Nat) (x1 : Int32) (M : mMem), GG X p l e (rm12_image) s m args below meth c (gP X below args s 0 0 (fun M9 : mMem => (none, M9))) 2 0 0 7 [(0, .ref a0), (1, .int x1)] [] M (p12_image_L7 n a0 x1 M) := by
  intro n
  induction n with
  | zero => intro a0 x1 M; exact g_none
  | succ n ih =>
    intro a0 x1 M
    rw [p12_image_L7]
    refine g_iload_n B dX12_image_7 1 rfl ?_
    refine g_sipush (v := 1294) B dX12_image_8 (by decide) ?_
    refine g_icmp_ge B 32 dX12_image_11 (by decide) ?_ ?_
    · refine g_aload_n B dX12_image_14 0 rfl ?_
      refine g_getR (ci := 11) (T0 := TX12) (N := 27) B (by decide) rfl in_11 (k := 2) (by decide) rfl wd_1643 (fun _ h => h) dX12_image_15 (fun v_2 => ?_)
      refine g_iload_n B dX12_image_18 1 rfl ?_
      refine g_aload_n B dX12_image_19 0 rfl ?_
      refine g_getR (ci := 11) (T0 := TX12) (N := 27) B (by decide) rfl in_11 (k := 1) (by decide) rfl wd_1642 (fun _ h => h) dX12_image_20 (fun v_3 => ?_)
      refine g_iload_n B dX12_image_23 1 rfl ?_
      refine g_iaload B dX12_image_24 (fun v_4 => ?_)
      refine g_iastore B dX12_image_25 (fun M_5 => ?_)
      refine g_iinc (v := (x1 + 1)) (lv' := [(1, .int (x1 + 1)), (0, .ref a0)]) B dX12_image_26 1 rfl rfl (by decide) [0, 1] rfl ?_
      refine g_goto B 7 dX12_image_29 (by decide) ?_
      refine g_sub (lv' := [(0, .ref a0), (1, .int (x1 + 1))]) [1, 0] rfl ?_
      exact ih a0 (x1 + 1) M_5
    · refine g_aload_n B dX12_image_32 0 rfl ?_
      refine g_iconst (v := 1) B dX12_image_33 (by decide) ?_
      refine g_putI (ci := 11) (T0 := TX12) (N := 27) B (by decide) rfl in_11 tyX12 tyX12_ok nmX12 (k := 6) (by decide) wd_1647 (fun _ h => h) rfl rfl (ty := .boolean) (by decide +kernel) rfl rfl dX12_image_34 (fun M_1 => ?_)
      exact g_vreturn B hr (by decide) (by decide) rfl dX12_image_37
set_option maxRecDepth 20000 in
set_option maxHeartbeats 2000000 in
theorem g12_image {X : gX} {p : Program} {l : Launch} {e : Env} {s : State} {m : MethodId} {args : Array Value} {below : List Frame} {meth : Method} {c : Code} (B : gB X p (rm12_image) s m args meth c RX12 cX12_image 2 (rm12_image)) (hS9 : gS X s) (hr : meth.sig.returnType = none) (a0 : Nat) (M : mMem) : GG X p l e (rm12_image) s m args below meth c (gP X below args s 0 0 (fun M9 : mMem => (none, M9))) 2 0 0 0 [(0, .ref a0)] [] M (p12_image a0 M) := by
  unfold p12_image
  refine g_gd ?_
  refine g_aload_n B dX12_image_0 0 rfl ?_
  refine g_iconst (v := 0) B dX12_image_1 (by decide) ?_
  refine g_putI (ci := 11) (T0 := TX12) (N := 27) B (by decide) rfl in_11 tyX12 tyX12_ok nmX12 (k := 0) (by decide) wd_1641 (fun _ h => h) rfl rfl (ty := .int) (by decide +kernel) rfl rfl dX12_image_2 (fun M_1 => ?_)
  refine g_iconst (v := 0) B dX12_image_5 (by decide) ?_
  refine g_istore_n (lv' := [(1, .int 0), (0, .ref a0)]) B dX12_image_6 (by decide) [0, 1] rfl ?_
  refine g_sub (lv' := [(0, .ref a0), (1, .int 0)]) [1, 0] rfl ?_
  exact (g12_image_L7 B hS9 hr) gF a0 0 M_1
theorem c12_image (X : gX) (l : Launch) (a0 : Nat) (M : mMem) : Con X l yX12_image cX12_image 2 (none) rm12_image (fun M9 : mMem => (none, M9)) [.ref a0] M (p12_image a0 M) := g_con (own := RX12) (by decide +kernel) rfl (Nat.le_of_ble_eq_true rfl) (fun p e s m args below meth c B hS9 hr hn => g12_image B hS9 hr a0 M)
theorem mf12_back : gMF yX12_back cX12_back 2 (some .boolean) 0 := ⟨wd_1731, wd_13, ⟨by decide, by decide⟩, by decide +kernel⟩
set_option maxRecDepth 20000 in
set_option maxHeartbeats 2000000 in
theorem g12_back_L16 {X : gX} {p : Program} {l : Launch} {e : Env} {s : State} {m : MethodId} {args : Array Value} {below : List Frame} {meth : Method} {c : Code} (B : gB X p (rm12_back) s m args meth c RX12 cX12_back 2 (rm12_back)) (hS9 : gS X s) (hr : meth.sig.returnType = some .boolean) : ∀ (n : Nat) (a0 : Nat) (x1 : Int32) (M : mMem), GG X p l e (rm12_back) s m args below meth c (gP X below args s 0 0 (fun r9 : (Int32 × mMem) => (some (.int r9.1), r9.2))) 2 0 0 16 [(0, .ref a0), (1, .int x1)] [] M (p12_back_L16 n a0 x1 M) := by
  intro n
  induction n with
  | zero => intro a0 x1 M; exact g_none
  | succ n ih =>
    intro a0 x1 M
    rw [p12_back_L16]
    refine g_iload_n B dX12_back_16 1 rfl ?_
    refine g_sipush (v := 1294) B dX12_back_17 (by decide) ?_
    refine g_icmp_ge B 41 dX12_back_20 (by decide) ?_ ?_
    · refine g_aload_n B dX12_back_23 0 rfl ?_
      refine g_getR (ci := 11) (T0 := TX12) (N := 27) B (by decide) rfl in_11 (k := 1) (by decide) rfl wd_1642 (fun _ h => h) dX12_back_24 (fun v_2 => ?_)
      refine g_iload_n B dX12_back_27 1 rfl ?_
      refine g_aload_n B dX12_back_28 0 rfl ?_
      refine g_getR (ci := 11) (T0 := TX12) (N := 27) B (by decide) rfl in_11 (k := 2) (by decide) rfl wd_1643 (fun _ h => h) dX12_back_29 (fun v_3 => ?_)
      refine g_iload_n B dX12_back_32 1 rfl ?_
      refine g_iaload B dX12_back_33 (fun v_4 => ?_)
      refine g_iastore B dX12_back_34 (fun M_5 => ?_)
      refine g_iinc (v := (x1 + 1)) (lv' := [(1, .int (x1 + 1)), (0, .ref a0)]) B dX12_back_35 1 rfl rfl (by decide) [0, 1] rfl ?_
      refine g_goto B 16 dX12_back_38 (by decide) ?_
      refine g_sub (lv' := [(0, .ref a0), (1, .int (x1 + 1))]) [1, 0] rfl ?_
      exact ih a0 (x1 + 1) M_5
    · refine g_aload_n B dX12_back_41 0 rfl ?_
      refine g_iconst (v := 0) B dX12_back_42 (by decide) ?_
      refine g_putI (ci := 11) (T0 := TX12) (N := 27) B (by decide) rfl in_11 tyX12 tyX12_ok nmX12 (k := 7) (by decide) wd_1648 (fun _ h => h) rfl rfl (ty := .int) (by decide +kernel) rfl rfl dX12_back_43 (fun M_1 => ?_)
      refine g_iconst (v := 1) B dX12_back_46 (by decide) ?_
      exact g_ireturn B hr rfl (by decide) (by decide) rfl dX12_back_47
set_option maxRecDepth 20000 in
set_option maxHeartbeats 2000000 in
theorem g12_back {X : gX} {p : Program} {l : Launch} {e : Env} {s : State} {m : MethodId} {args : Array Value} {below : List Frame} {meth : Method} {c : Code} (B : gB X p (rm12_back) s m args meth c RX12 cX12_back 2 (rm12_back)) (hS9 : gS X s) (hr : meth.sig.returnType = some .boolean) (a0 : Nat) (M : mMem) : GG X p l e (rm12_back) s m args below meth c (gP X below args s 0 0 (fun r9 : (Int32 × mMem) => (some (.int r9.1), r9.2))) 2 0 0 0 [(0, .ref a0)] [] M (p12_back a0 M) := by
  unfold p12_back
  refine g_gd ?_
  refine g_aload_n B dX12_back_0 0 rfl ?_
  refine g_iconst (v := 0) B dX12_back_1 (by decide) ?_
  refine g_putI (ci := 11) (T0 := TX12) (N := 27) B (by decide) rfl in_11 tyX12 tyX12_ok nmX12 (k := 0) (by decide) wd_1641 (fun _ h => h) rfl rfl (ty := .int) (by decide +kernel) rfl rfl dX12_back_2 (fun M_1 => ?_)
  refine g_aload_n B dX12_back_5 0 rfl ?_
  refine g_getI (ci := 11) (T0 := TX12) (N := 27) B (by decide) rfl in_11 (k := 6) (by decide) rfl wd_1647 (fun _ h => h) dX12_back_6 (fun v_2 => ?_)
  refine g_if_ne B 14 dX12_back_9 (by decide) ?_ ?_
  · refine g_iconst (v := 0) B dX12_back_12 (by decide) ?_
    exact g_ireturn B hr rfl (by decide) (by decide) rfl dX12_back_13
  · refine g_iconst (v := 0) B dX12_back_14 (by decide) ?_
    refine g_istore_n (lv' := [(1, .int 0), (0, .ref a0)]) B dX12_back_15 (by decide) [0, 1] rfl ?_
    refine g_sub (lv' := [(0, .ref a0), (1, .int 0)]) [1, 0] rfl ?_
    exact (g12_back_L16 B hS9 hr) gF a0 0 M_1
theorem c12_back (X : gX) (l : Launch) (a0 : Nat) (M : mMem) : Con X l yX12_back cX12_back 2 (some .boolean) rm12_back (fun r9 : (Int32 × mMem) => (some (.int r9.1), r9.2)) [.ref a0] M (p12_back a0 M) := g_con (own := RX12) (by decide +kernel) rfl (Nat.le_of_ble_eq_true rfl) (fun p e s m args below meth c B hS9 hr hn => g12_back B hS9 hr a0 M)
theorem mf12_remembers : gMF yX12_remembers cX12_remembers 2 (none) 0 := ⟨wd_2035, wd_13, ⟨by decide, by decide⟩, by decide +kernel⟩
set_option maxRecDepth 20000 in
set_option maxHeartbeats 2000000 in
theorem g12_remembers_L55 {X : gX} {p : Program} {l : Launch} {e : Env} {s : State} {m : MethodId} {args : Array Value} {below : List Frame} {meth : Method} {c : Code} (B : gB X p (rm12_remembers) s m args meth c RX12 cX12_remembers 2 (rm12_remembers)) (hS9 : gS X s) (hr : meth.sig.returnType = none) : ∀ (n : Nat) (a0 : Nat) (x1 : Int32) (M : mMem), GG X p l e (rm12_remembers) s m args below meth c (gP X below args s 0 0 (fun M9 : mMem => (none, M9))) 2 0 0 55 [(0, .ref a0), (1, .int x1)] [] M (p12_remembers_L55 n a0 x1 M) := by
  intro n
  induction n with
  | zero => intro a0 x1 M; exact g_none
  | succ n ih =>
    intro a0 x1 M
    rw [p12_remembers_L55]
    refine g_iload_n B dX12_remembers_55 1 rfl ?_
    refine g_sipush (v := 445) B dX12_remembers_56 (by decide) ?_
    refine g_icmp_ge B 91 dX12_remembers_59 (by decide) ?_ ?_
    · refine g_aload_n B dX12_remembers_62 0 rfl ?_
      refine g_getR (ci := 11) (T0 := TX12) (N := 27) B (by decide) rfl in_11 (k := 5) (by decide) rfl wd_1646 (fun _ h => h) dX12_remembers_63 (fun v_1 => ?_)
      refine g_sipush (v := 445) B dX12_remembers_66 (by decide) ?_
      refine g_aload_n B dX12_remembers_69 0 rfl ?_
      refine g_getI (ci := 11) (T0 := TX12) (N := 27) B (by decide) rfl in_11 (k := 7) (by decide) rfl wd_1648 (fun _ h => h) dX12_remembers_70 (fun v_2 => ?_)
      refine g_iconst (v := 1) B dX12_remembers_73 (by decide) ?_
      refine g_isub B dX12_remembers_74 ?_
      refine g_imul B dX12_remembers_75 ?_
      refine g_iload_n B dX12_remembers_76 1 rfl ?_
      refine g_iadd B dX12_remembers_77 ?_
      refine g_aload_n B dX12_remembers_78 0 rfl ?_
      refine g_getR (ci := 11) (T0 := TX12) (N := 27) B (by decide) rfl in_11 (k := 1) (by decide) rfl wd_1642 (fun _ h => h) dX12_remembers_79 (fun v_3 => ?_)
      refine g_iload_n B dX12_remembers_82 1 rfl ?_
      refine g_iaload B dX12_remembers_83 (fun v_4 => ?_)
      refine g_iastore B dX12_remembers_84 (fun M_5 => ?_)
      refine g_iinc (v := (x1 + 1)) (lv' := [(1, .int (x1 + 1)), (0, .ref a0)]) B dX12_remembers_85 1 rfl rfl (by decide) [0, 1] rfl ?_
      refine g_goto B 55 dX12_remembers_88 (by decide) ?_
      refine g_sub (lv' := [(0, .ref a0), (1, .int (x1 + 1))]) [1, 0] rfl ?_
      exact ih a0 (x1 + 1) M_5
    · exact g_vreturn B hr (by decide) (by decide) rfl dX12_remembers_91
set_option maxRecDepth 20000 in
set_option maxHeartbeats 2000000 in
theorem g12_remembers_J53 {X : gX} {p : Program} {l : Launch} {e : Env} {s : State} {m : MethodId} {args : Array Value} {below : List Frame} {meth : Method} {c : Code} (B : gB X p (rm12_remembers) s m args meth c RX12 cX12_remembers 2 (rm12_remembers)) (hS9 : gS X s) (hr : meth.sig.returnType = none) (a0 : Nat) (M : mMem) : GG X p l e (rm12_remembers) s m args below meth c (gP X below args s 0 0 (fun M9 : mMem => (none, M9))) 2 0 0 53 [(0, .ref a0)] [] M (p12_remembers_J53 a0 M) := by
  unfold p12_remembers_J53
  refine g_iconst (v := 0) B dX12_remembers_53 (by decide) ?_
  refine g_istore_n (lv' := [(1, .int 0), (0, .ref a0)]) B dX12_remembers_54 (by decide) [0, 1] rfl ?_
  refine g_sub (lv' := [(0, .ref a0), (1, .int 0)]) [1, 0] rfl ?_
  exact (g12_remembers_L55 B hS9 hr) gF a0 0 M
set_option maxRecDepth 20000 in
set_option maxHeartbeats 2000000 in
theorem g12_remembers_L11 {X : gX} {p : Program} {l : Launch} {e : Env} {s : State} {m : MethodId} {args : Array Value} {below : List Frame} {meth : Method} {c : Code} (B : gB X p (rm12_remembers) s m args meth c RX12 cX12_remembers 2 (rm12_remembers)) (hS9 : gS X s) (hr : meth.sig.returnType = none) (k40 : Nat → mMem → Option mMem) (hk40 : ∀ (a0 : Nat) (M : mMem), GG X p l e (rm12_remembers) s m args below meth c (gP X below args s 0 0 (fun M9 : mMem => (none, M9))) 2 0 0 40 [(0, .ref a0)] [] M (k40 a0 M)) : ∀ (n : Nat) (a0 : Nat) (x1 : Int32) (M : mMem), GG X p l e (rm12_remembers) s m args below meth c (gP X below args s 0 0 (fun M9 : mMem => (none, M9))) 2 0 0 11 [(0, .ref a0), (1, .int x1)] [] M (p12_remembers_L11 k40 n a0 x1 M) := by
  intro n
  induction n with
  | zero => intro a0 x1 M; exact g_none
  | succ n ih =>
    intro a0 x1 M
    rw [p12_remembers_L11]
    refine g_iload_n B dX12_remembers_11 1 rfl ?_
    refine g_sipush (v := 4895) B dX12_remembers_12 (by decide) ?_
    refine g_icmp_ge B 40 dX12_remembers_15 (by decide) ?_ ?_
    · refine g_aload_n B dX12_remembers_18 0 rfl ?_
      refine g_getR (ci := 11) (T0 := TX12) (N := 27) B (by decide) rfl in_11 (k := 5) (by decide) rfl wd_1646 (fun _ h => h) dX12_remembers_19 (fun v_1 => ?_)
      refine g_iload_n B dX12_remembers_22 1 rfl ?_
      refine g_aload_n B dX12_remembers_23 0 rfl ?_
      refine g_getR (ci := 11) (T0 := TX12) (N := 27) B (by decide) rfl in_11 (k := 5) (by decide) rfl wd_1646 (fun _ h => h) dX12_remembers_24 (fun v_2 => ?_)
      refine g_iload_n B dX12_remembers_27 1 rfl ?_
      refine g_sipush (v := 445) B dX12_remembers_28 (by decide) ?_
      refine g_iadd B dX12_remembers_31 ?_
      refine g_iaload B dX12_remembers_32 (fun v_3 => ?_)
      refine g_iastore B dX12_remembers_33 (fun M_4 => ?_)
      refine g_iinc (v := (x1 + 1)) (lv' := [(1, .int (x1 + 1)), (0, .ref a0)]) B dX12_remembers_34 1 rfl rfl (by decide) [0, 1] rfl ?_
      refine g_goto B 11 dX12_remembers_37 (by decide) ?_
      refine g_sub (lv' := [(0, .ref a0), (1, .int (x1 + 1))]) [1, 0] rfl ?_
      exact ih a0 (x1 + 1) M_4
    · refine g_sub (lv' := [(0, .ref a0)]) [0] rfl ?_
      exact hk40 a0 M
set_option maxRecDepth 20000 in
set_option maxHeartbeats 2000000 in
theorem g12_remembers_J40 {X : gX} {p : Program} {l : Launch} {e : Env} {s : State} {m : MethodId} {args : Array Value} {below : List Frame} {meth : Method} {c : Code} (B : gB X p (rm12_remembers) s m args meth c RX12 cX12_remembers 2 (rm12_remembers)) (hS9 : gS X s) (hr : meth.sig.returnType = none) (a0 : Nat) (M : mMem) : GG X p l e (rm12_remembers) s m args below meth c (gP X below args s 0 0 (fun M9 : mMem => (none, M9))) 2 0 0 40 [(0, .ref a0)] [] M (p12_remembers_J40 a0 M) := by
  unfold p12_remembers_J40
  refine g_goto B 53 dX12_remembers_40 (by decide) ?_
  refine g_sub (lv' := [(0, .ref a0)]) [0] rfl ?_
  exact g12_remembers_J53 B hS9 hr a0 M
set_option maxRecDepth 20000 in
set_option maxHeartbeats 2000000 in
theorem g12_remembers {X : gX} {p : Program} {l : Launch} {e : Env} {s : State} {m : MethodId} {args : Array Value} {below : List Frame} {meth : Method} {c : Code} (B : gB X p (rm12_remembers) s m args meth c RX12 cX12_remembers 2 (rm12_remembers)) (hS9 : gS X s) (hr : meth.sig.returnType = none) (a0 : Nat) (M : mMem) : GG X p l e (rm12_remembers) s m args below meth c (gP X below args s 0 0 (fun M9 : mMem => (none, M9))) 2 0 0 0 [(0, .ref a0)] [] M (p12_remembers a0 M) := by
  unfold p12_remembers
  refine g_gd ?_
  refine g_aload_n B dX12_remembers_0 0 rfl ?_
  refine g_getI (ci := 11) (T0 := TX12) (N := 27) B (by decide) rfl in_11 (k := 7) (by decide) rfl wd_1648 (fun _ h => h) dX12_remembers_1 (fun v_1 => ?_)
  refine g_bipush (v := 12) B dX12_remembers_4 (by decide) ?_
  refine g_icmp_ne B 43 dX12_remembers_6 (by decide) ?_ ?_
  · refine g_iconst (v := 0) B dX12_remembers_9 (by decide) ?_
    refine g_istore_n (lv' := [(1, .int 0), (0, .ref a0)]) B dX12_remembers_10 (by decide) [0, 1] rfl ?_
    refine g_sub (lv' := [(0, .ref a0), (1, .int 0)]) [1, 0] rfl ?_
    exact (g12_remembers_L11 B hS9 hr p12_remembers_J40 (fun e0 e1 => g12_remembers_J40 B hS9 hr e0 e1)) gF a0 0 M
  · refine g_aload_n B dX12_remembers_43 0 rfl ?_
    refine g_dup B dX12_remembers_44 rfl ?_
    refine g_getI (ci := 11) (T0 := TX12) (N := 27) B (by decide) rfl in_11 (k := 7) (by decide) rfl wd_1648 (fun _ h => h) dX12_remembers_45 (fun v_2 => ?_)
    refine g_iconst (v := 1) B dX12_remembers_48 (by decide) ?_
    refine g_iadd B dX12_remembers_49 ?_
    refine g_putI (ci := 11) (T0 := TX12) (N := 27) B (by decide) rfl in_11 tyX12 tyX12_ok nmX12 (k := 7) (by decide) wd_1648 (fun _ h => h) rfl rfl (ty := .int) (by decide +kernel) rfl rfl dX12_remembers_50 (fun M_3 => ?_)
    refine g_sub (lv' := [(0, .ref a0)]) [0] rfl ?_
    exact g12_remembers_J53 B hS9 hr a0 M_3
theorem c12_remembers (X : gX) (l : Launch) (a0 : Nat) (M : mMem) : Con X l yX12_remembers cX12_remembers 2 (none) rm12_remembers (fun M9 : mMem => (none, M9)) [.ref a0] M (p12_remembers a0 M) := g_con (own := RX12) (by decide +kernel) rfl (Nat.le_of_ble_eq_true rfl) (fun p e s m args below meth c B hS9 hr hn => g12_remembers B hS9 hr a0 M)
theorem mf12_undo : gMF yX12_undo cX12_undo 2 (some .boolean) 0 := ⟨wd_1735, wd_13, ⟨by decide, by decide⟩, by decide +kernel⟩
set_option maxRecDepth 20000 in
set_option maxHeartbeats 2000000 in
theorem g12_undo_L26 {X : gX} {p : Program} {l : Launch} {e : Env} {s : State} {m : MethodId} {args : Array Value} {below : List Frame} {meth : Method} {c : Code} (B : gB X p (rm12_undo) s m args meth c RX12 cX12_undo 2 (rm12_undo)) (hS9 : gS X s) (hr : meth.sig.returnType = some .boolean) : ∀ (n : Nat) (a0 : Nat) (x1 : Int32) (M : mMem), GG X p l e (rm12_undo) s m args below meth c (gP X below args s 0 0 (fun r9 : (Int32 × mMem) => (some (.int r9.1), r9.2))) 2 0 0 26 [(0, .ref a0), (1, .int x1)] [] M (p12_undo_L26 n a0 x1 M) := by
  intro n
  induction n with
  | zero => intro a0 x1 M; exact g_none
  | succ n ih =>
    intro a0 x1 M
    rw [p12_undo_L26]
    refine g_iload_n B dX12_undo_26 1 rfl ?_
    refine g_sipush (v := 445) B dX12_undo_27 (by decide) ?_
    refine g_icmp_ge B 60 dX12_undo_30 (by decide) ?_ ?_
    · refine g_aload_n B dX12_undo_33 0 rfl ?_
      refine g_getR (ci := 11) (T0 := TX12) (N := 27) B (by decide) rfl in_11 (k := 1) (by decide) rfl wd_1642 (fun _ h => h) dX12_undo_34 (fun v_1 => ?_)
      refine g_iload_n B dX12_undo_37 1 rfl ?_
      refine g_aload_n B dX12_undo_38 0 rfl ?_
      refine g_getR (ci := 11) (T0 := TX12) (N := 27) B (by decide) rfl in_11 (k := 5) (by decide) rfl wd_1646 (fun _ h => h) dX12_undo_39 (fun v_2 => ?_)
      refine g_sipush (v := 445) B dX12_undo_42 (by decide) ?_
      refine g_aload_n B dX12_undo_45 0 rfl ?_
      refine g_getI (ci := 11) (T0 := TX12) (N := 27) B (by decide) rfl in_11 (k := 7) (by decide) rfl wd_1648 (fun _ h => h) dX12_undo_46 (fun v_3 => ?_)
      refine g_imul B dX12_undo_49 ?_
      refine g_iload_n B dX12_undo_50 1 rfl ?_
      refine g_iadd B dX12_undo_51 ?_
      refine g_iaload B dX12_undo_52 (fun v_4 => ?_)
      refine g_iastore B dX12_undo_53 (fun M_5 => ?_)
      refine g_iinc (v := (x1 + 1)) (lv' := [(1, .int (x1 + 1)), (0, .ref a0)]) B dX12_undo_54 1 rfl rfl (by decide) [0, 1] rfl ?_
      refine g_goto B 26 dX12_undo_57 (by decide) ?_
      refine g_sub (lv' := [(0, .ref a0), (1, .int (x1 + 1))]) [1, 0] rfl ?_
      exact ih a0 (x1 + 1) M_5
    · refine g_iconst (v := 1) B dX12_undo_60 (by decide) ?_
      exact g_ireturn B hr rfl (by decide) (by decide) rfl dX12_undo_61
set_option maxRecDepth 20000 in
set_option maxHeartbeats 2000000 in
theorem g12_undo {X : gX} {p : Program} {l : Launch} {e : Env} {s : State} {m : MethodId} {args : Array Value} {below : List Frame} {meth : Method} {c : Code} (B : gB X p (rm12_undo) s m args meth c RX12 cX12_undo 2 (rm12_undo)) (hS9 : gS X s) (hr : meth.sig.returnType = some .boolean) (a0 : Nat) (M : mMem) : GG X p l e (rm12_undo) s m args below meth c (gP X below args s 0 0 (fun r9 : (Int32 × mMem) => (some (.int r9.1), r9.2))) 2 0 0 0 [(0, .ref a0)] [] M (p12_undo a0 M) := by
  unfold p12_undo
  refine g_gd ?_
  refine g_aload_n B dX12_undo_0 0 rfl ?_
  refine g_iconst (v := 0) B dX12_undo_1 (by decide) ?_
  refine g_putI (ci := 11) (T0 := TX12) (N := 27) B (by decide) rfl in_11 tyX12 tyX12_ok nmX12 (k := 0) (by decide) wd_1641 (fun _ h => h) rfl rfl (ty := .int) (by decide +kernel) rfl rfl dX12_undo_2 (fun M_1 => ?_)
  refine g_aload_n B dX12_undo_5 0 rfl ?_
  refine g_getI (ci := 11) (T0 := TX12) (N := 27) B (by decide) rfl in_11 (k := 7) (by decide) rfl wd_1648 (fun _ h => h) dX12_undo_6 (fun v_2 => ?_)
  refine g_if_ne B 14 dX12_undo_9 (by decide) ?_ ?_
  · refine g_iconst (v := 0) B dX12_undo_12 (by decide) ?_
    exact g_ireturn B hr rfl (by decide) (by decide) rfl dX12_undo_13
  · refine g_aload_n B dX12_undo_14 0 rfl ?_
    refine g_dup B dX12_undo_15 rfl ?_
    refine g_getI (ci := 11) (T0 := TX12) (N := 27) B (by decide) rfl in_11 (k := 7) (by decide) rfl wd_1648 (fun _ h => h) dX12_undo_16 (fun v_3 => ?_)
    refine g_iconst (v := 1) B dX12_undo_19 (by decide) ?_
    refine g_isub B dX12_undo_20 ?_
    refine g_putI (ci := 11) (T0 := TX12) (N := 27) B (by decide) rfl in_11 tyX12 tyX12_ok nmX12 (k := 7) (by decide) wd_1648 (fun _ h => h) rfl rfl (ty := .int) (by decide +kernel) rfl rfl dX12_undo_21 (fun M_4 => ?_)
    refine g_iconst (v := 0) B dX12_undo_24 (by decide) ?_
    refine g_istore_n (lv' := [(1, .int 0), (0, .ref a0)]) B dX12_undo_25 (by decide) [0, 1] rfl ?_
    refine g_sub (lv' := [(0, .ref a0), (1, .int 0)]) [1, 0] rfl ?_
    exact (g12_undo_L26 B hS9 hr) gF a0 0 M_4
theorem c12_undo (X : gX) (l : Launch) (a0 : Nat) (M : mMem) : Con X l yX12_undo cX12_undo 2 (some .boolean) rm12_undo (fun r9 : (Int32 × mMem) => (some (.int r9.1), r9.2)) [.ref a0] M (p12_undo a0 M) := g_con (own := RX12) (by decide +kernel) rfl (Nat.le_of_ble_eq_true rfl) (fun p e s m args below meth c B hS9 hr hn => g12_undo B hS9 hr a0 M)
theorem mf12_people : gMF yX12_people cX12_people 1 (some .int) 0 := ⟨wd_1794, wd_13, ⟨by decide, by decide⟩, by decide +kernel⟩
set_option maxRecDepth 20000 in
set_option maxHeartbeats 2000000 in
theorem g12_people {X : gX} {p : Program} {l : Launch} {e : Env} {s : State} {m : MethodId} {args : Array Value} {below : List Frame} {meth : Method} {c : Code} (B : gB X p (rm12_people) s m args meth c RX12 cX12_people 1 (rm12_people)) (hS9 : gS X s) (hr : meth.sig.returnType = some .int) {M : mMem} (a0 : Nat) : GG X p l e (rm12_people) s m args below meth c (gP X below args s 0 0 (fun r9 : Int32 => (some (.int r9), M))) 1 0 0 0 [(0, .ref a0)] [] M (p12_people a0 M) := by
  unfold p12_people
  refine g_gd ?_
  refine g_aload_n B dX12_people_0 0 rfl ?_
  refine g_getR (ci := 11) (T0 := TX12) (N := 27) B (by decide) rfl in_11 (k := 1) (by decide) rfl wd_1642 (fun _ h => h) dX12_people_1 (fun v_1 => ?_)
  refine g_iconst (v := 0) B dX12_people_4 (by decide) ?_
  refine g_iaload B dX12_people_5 (fun v_2 => ?_)
  exact g_ireturn B hr rfl (by decide) (by decide) rfl dX12_people_6
theorem c12_people (X : gX) (l : Launch) (a0 : Nat) (M : mMem) : Con X l yX12_people cX12_people 1 (some .int) rm12_people (fun r9 : Int32 => (some (.int r9), M)) [.ref a0] M (p12_people a0 M) := g_con (own := RX12) (by decide +kernel) rfl (Nat.le_of_ble_eq_true rfl) (fun p e s m args below meth c B hS9 hr hn => g12_people B hS9 hr a0)
theorem mf12_at : gMF yX12_at cX12_at 2 (some .int) 2 := ⟨wd_1825, wd_13, ⟨by decide, by decide⟩, by decide +kernel⟩
set_option maxRecDepth 20000 in
set_option maxHeartbeats 2000000 in
theorem g12_at {X : gX} {p : Program} {l : Launch} {e : Env} {s : State} {m : MethodId} {args : Array Value} {below : List Frame} {meth : Method} {c : Code} (B : gB X p (rm12_at) s m args meth c RX12 cX12_at 2 (rm12_at)) (hS9 : gS X s) (hr : meth.sig.returnType = some .int) {M : mMem} (x0 : Int32) (x1 : Int32) : GG X p l e (rm12_at) s m args below meth c (gP X below args s 0 0 (fun r9 : Int32 => (some (.int r9), M))) 2 0 0 0 [(0, .int x0), (1, .int x1)] [] M (p12_at x0 x1 M) := by
  unfold p12_at
  refine g_bipush (v := 9) B dX12_at_0 (by decide) ?_
  refine g_bipush (v := 17) B dX12_at_2 (by decide) ?_
  refine g_iload_n B dX12_at_4 0 rfl ?_
  refine g_imul B dX12_at_5 ?_
  refine g_iadd B dX12_at_6 ?_
  refine g_iload_n B dX12_at_7 1 rfl ?_
  refine g_iadd B dX12_at_8 ?_
  exact g_ireturn B hr rfl (by decide) (by decide) rfl dX12_at_9
theorem c12_at (X : gX) (l : Launch) (x0 : Int32) (x1 : Int32) (M : mMem) : Con X l yX12_at cX12_at 2 (some .int) rm12_at (fun r9 : Int32 => (some (.int r9), M)) [.int x0, .int x1] M (p12_at x0 x1 M) := g_con (own := RX12) (by decide +kernel) rfl (Nat.le_of_ble_eq_true rfl) (fun p e s m args below meth c B hS9 hr hn => g12_at B hS9 hr x0 x1)
theorem mf12_of : gMF yX12_of cX12_of 3 (some .int) 2 := ⟨wd_1847, wd_13, ⟨by decide, by decide⟩, by decide +kernel⟩
set_option maxRecDepth 20000 in
set_option maxHeartbeats 2000000 in
theorem g12_of {X : gX} {p : Program} {l : Launch} {e : Env} {s : State} {m : MethodId} {args : Array Value} {below : List Frame} {meth : Method} {c : Code} (B : gB X p (rm12_of) s m args meth c RX12 cX12_of 3 (rm12_of)) (hS9 : gS X s) (hr : meth.sig.returnType = some .int) {M : mMem} (a0 : Nat) (x1 : Int32) (x2 : Int32) : GG X p l e (rm12_of) s m args below meth c (gP X below args s 0 0 (fun r9 : Int32 => (some (.int r9), M))) 3 0 0 0 [(0, .ref a0), (1, .int x1), (2, .int x2)] [] M (p12_of a0 x1 x2 M) := by
  unfold p12_of
  refine g_gd ?_
  refine g_aload_n B dX12_of_0 0 rfl ?_
  refine g_getR (ci := 11) (T0 := TX12) (N := 27) B (by decide) rfl in_11 (k := 1) (by decide) rfl wd_1642 (fun _ h => h) dX12_of_1 (fun v_1 => ?_)
  refine g_iload_n B dX12_of_4 1 rfl ?_
  refine g_iload_n B dX12_of_5 2 rfl ?_
  refine g_callS_ip [.int x1, .int x2] B hS9 mf12_at wd_1824 wd_1823 (c12_at X l x1 x2 M) (by decide) (by decide) (by decide) rfl (Nat.le_of_ble_eq_true rfl) dX12_of_6 rfl (fun v_2 => ?_)
  refine g_iaload B dX12_of_9 (fun v_3 => ?_)
  exact g_ireturn B hr rfl (by decide) (by decide) rfl dX12_of_10
theorem c12_of (X : gX) (l : Launch) (a0 : Nat) (x1 : Int32) (x2 : Int32) (M : mMem) : Con X l yX12_of cX12_of 3 (some .int) rm12_of (fun r9 : Int32 => (some (.int r9), M)) [.ref a0, .int x1, .int x2] M (p12_of a0 x1 x2 M) := g_con (own := RX12) (by decide +kernel) rfl (Nat.le_of_ble_eq_true rfl) (fun p e s m args below meth c B hS9 hr hn => g12_of B hS9 hr a0 x1 x2)
theorem mf12_nobody : gMF yX12_nobody cX12_nobody 2 (some .boolean) 1 := ⟨wd_1945, wd_13, ⟨by decide, by decide⟩, by decide +kernel⟩
set_option maxRecDepth 20000 in
set_option maxHeartbeats 2000000 in
theorem g12_nobody_J19 {X : gX} {p : Program} {l : Launch} {e : Env} {s : State} {m : MethodId} {args : Array Value} {below : List Frame} {meth : Method} {c : Code} (B : gB X p (rm12_nobody) s m args meth c RX12 cX12_nobody 2 (rm12_nobody)) (hS9 : gS X s) (hr : meth.sig.returnType = some .boolean) {M : mMem} (u0 : Int32) : GG X p l e (rm12_nobody) s m args below meth c (gP X below args s 0 0 (fun r9 : Int32 => (some (.int r9), M))) 2 0 0 19 [] [.int u0] M (p12_nobody_J19 M u0) := by
  unfold p12_nobody_J19
  exact g_zreturn (f := fun z => z) B hr (by decide) (by decide) rfl dX12_nobody_19
set_option maxRecDepth 20000 in
set_option maxHeartbeats 2000000 in
theorem g12_nobody {X : gX} {p : Program} {l : Launch} {e : Env} {s : State} {m : MethodId} {args : Array Value} {below : List Frame} {meth : Method} {c : Code} (B : gB X p (rm12_nobody) s m args meth c RX12 cX12_nobody 2 (rm12_nobody)) (hS9 : gS X s) (hr : meth.sig.returnType = some .boolean) {M : mMem} (a0 : Nat) (x1 : Int32) : GG X p l e (rm12_nobody) s m args below meth c (gP X below args s 0 0 (fun r9 : Int32 => (some (.int r9), M))) 2 0 0 0 [(0, .ref a0), (1, .int x1)] [] M (p12_nobody a0 x1 M) := by
  unfold p12_nobody
  refine g_gd ?_
  refine g_iload_n B dX12_nobody_0 1 rfl ?_
  refine g_iconst (v := 0) B dX12_nobody_1 (by decide) ?_
  refine g_aload_n B dX12_nobody_2 0 rfl ?_
  refine g_callV_ip [] (ci := 11) (T0 := TX12) (N := 27) B hS9 mf12_people wd_1793 (gw B wp_51) wd_1791 (by decide) rfl (fun h => (gd_ne h).1) (c12_people X l a0 M) (by decide) (by decide) (by decide) rfl (Nat.le_of_ble_eq_true rfl) dX12_nobody_3 rfl (fun v_1 => ?_)
  refine g_iconst (v := 1) B dX12_nobody_6 (by decide) ?_
  refine g_isub B dX12_nobody_7 ?_
  refine g_callS_ip [.int x1, .int 0, .int (v_1 - 1)] B hS9 mf12_in wd_1947 wd_1946 (c12_in X l x1 0 (v_1 - 1) M) (by decide) (by decide) (by decide) rfl (by decide) dX12_nobody_8 rfl (fun v_2 => ?_)
  refine g_if_ne B 18 dX12_nobody_11 (by decide) ?_ ?_
  · refine g_iconst (v := 1) B dX12_nobody_14 (by decide) ?_
    refine g_goto B 19 dX12_nobody_15 (by decide) ?_
    refine g_sub (lv' := []) [] rfl ?_
    exact g12_nobody_J19 B hS9 hr 1
  · refine g_iconst (v := 0) B dX12_nobody_18 (by decide) ?_
    refine g_sub (lv' := []) [] rfl ?_
    exact g12_nobody_J19 B hS9 hr 0
theorem c12_nobody (X : gX) (l : Launch) (a0 : Nat) (x1 : Int32) (M : mMem) : Con X l yX12_nobody cX12_nobody 2 (some .boolean) rm12_nobody (fun r9 : Int32 => (some (.int r9), M)) [.ref a0, .int x1] M (p12_nobody a0 x1 M) := g_con (own := RX12) (by decide +kernel) rfl (Nat.le_of_ble_eq_true rfl) (fun p e s m args below meth c B hS9 hr hn => g12_nobody B hS9 hr a0 x1)
theorem mf12_governs : gMF yX12_governs cX12_governs 3 (some .boolean) 2 := ⟨wd_1956, wd_13, ⟨by decide, by decide⟩, by decide +kernel⟩
set_option maxRecDepth 20000 in
set_option maxHeartbeats 2000000 in
theorem g12_governs {X : gX} {p : Program} {l : Launch} {e : Env} {s : State} {m : MethodId} {args : Array Value} {below : List Frame} {meth : Method} {c : Code} (B : gB X p (rm12_governs) s m args meth c RX12 cX12_governs 3 (rm12_governs)) (hS9 : gS X s) (hr : meth.sig.returnType = some .boolean) {M : mMem} (a0 : Nat) (x1 : Int32) (x2 : Int32) : GG X p l e (rm12_governs) s m args below meth c (gP X below args s 0 0 (fun r9 : Int32 => (some (.int r9), M))) 3 0 0 0 [(0, .ref a0), (1, .int x1), (2, .int x2)] [] M (p12_governs a0 x1 x2 M) := by
  unfold p12_governs
  refine g_gd ?_
  refine g_aload_n B dX12_governs_0 0 rfl ?_
  refine g_iload_n B dX12_governs_1 2 rfl ?_
  refine g_bipush (v := 8) B dX12_governs_2 (by decide) ?_
  refine g_callV_ip [.int x2, .int 8] (ci := 11) (T0 := TX12) (N := 27) B hS9 mf12_of wd_1846 (gw B wp_61) wd_1844 (by decide) rfl (fun h => (gd_ne h).1) (c12_of X l a0 x2 8 M) (by decide) (by decide) (by decide) rfl (by decide) dX12_governs_4 rfl (fun v_1 => ?_)
  refine g_iload_n B dX12_governs_7 1 rfl ?_
  refine g_callS_ip [.int v_1, .int x1] B hS9 mf12_has wd_1958 wd_1957 (c12_has X l v_1 x1 M) (by decide) (by decide) (by decide) rfl (by decide) dX12_governs_8 rfl (fun v_2 => ?_)
  exact g_zreturn (f := fun z => z) B hr (by decide) (by decide) rfl dX12_governs_11
theorem c12_governs (X : gX) (l : Launch) (a0 : Nat) (x1 : Int32) (x2 : Int32) (M : mMem) : Con X l yX12_governs cX12_governs 3 (some .boolean) rm12_governs (fun r9 : Int32 => (some (.int r9), M)) [.ref a0, .int x1, .int x2] M (p12_governs a0 x1 x2 M) := g_con (own := RX12) (by decide +kernel) rfl (Nat.le_of_ble_eq_true rfl) (fun p e s m args below meth c B hS9 hr hn => g12_governs B hS9 hr a0 x1 x2)
theorem mf12_isParent : gMF yX12_isParent cX12_isParent 3 (some .boolean) 2 := ⟨wd_1859, wd_13, ⟨by decide, by decide⟩, by decide +kernel⟩
set_option maxRecDepth 20000 in
set_option maxHeartbeats 2000000 in
theorem g12_isParent_J15 {X : gX} {p : Program} {l : Launch} {e : Env} {s : State} {m : MethodId} {args : Array Value} {below : List Frame} {meth : Method} {c : Code} (B : gB X p (rm12_isParent) s m args meth c RX12 cX12_isParent 3 (rm12_isParent)) (hS9 : gS X s) (hr : meth.sig.returnType = some .boolean) {M : mMem} (u0 : Int32) : GG X p l e (rm12_isParent) s m args below meth c (gP X below args s 0 0 (fun r9 : Int32 => (some (.int r9), M))) 3 0 0 15 [] [.int u0] M (p12_isParent_J15 M u0) := by
  unfold p12_isParent_J15
  exact g_zreturn (f := fun z => z) B hr (by decide) (by decide) rfl dX12_isParent_15
set_option maxRecDepth 20000 in
set_option maxHeartbeats 2000000 in
theorem g12_isParent {X : gX} {p : Program} {l : Launch} {e : Env} {s : State} {m : MethodId} {args : Array Value} {below : List Frame} {meth : Method} {c : Code} (B : gB X p (rm12_isParent) s m args meth c RX12 cX12_isParent 3 (rm12_isParent)) (hS9 : gS X s) (hr : meth.sig.returnType = some .boolean) {M : mMem} (a0 : Nat) (x1 : Int32) (x2 : Int32) : GG X p l e (rm12_isParent) s m args below meth c (gP X below args s 0 0 (fun r9 : Int32 => (some (.int r9), M))) 3 0 0 0 [(0, .ref a0), (1, .int x1), (2, .int x2)] [] M (p12_isParent a0 x1 x2 M) := by
  unfold p12_isParent
  refine g_gd ?_
  refine g_aload_n B dX12_isParent_0 0 rfl ?_
  refine g_iload_n B dX12_isParent_1 2 rfl ?_
  refine g_iconst (v := 3) B dX12_isParent_2 (by decide) ?_
  refine g_callV_ip [.int x2, .int 3] (ci := 11) (T0 := TX12) (N := 27) B hS9 mf12_of wd_1846 (gw B wp_61) wd_1844 (by decide) rfl (fun h => (gd_ne h).1) (c12_of X l a0 x2 3 M) (by decide) (by decide) (by decide) rfl (by decide) dX12_isParent_3 rfl (fun v_1 => ?_)
  refine g_iload_n B dX12_isParent_6 1 rfl ?_
  refine g_icmp_ne B 14 dX12_isParent_7 (by decide) ?_ ?_
  · refine g_iconst (v := 1) B dX12_isParent_10 (by decide) ?_
    refine g_goto B 15 dX12_isParent_11 (by decide) ?_
    refine g_sub (lv' := []) [] rfl ?_
    exact g12_isParent_J15 B hS9 hr 1
  · refine g_iconst (v := 0) B dX12_isParent_14 (by decide) ?_
    refine g_sub (lv' := []) [] rfl ?_
    exact g12_isParent_J15 B hS9 hr 0
theorem c12_isParent (X : gX) (l : Launch) (a0 : Nat) (x1 : Int32) (x2 : Int32) (M : mMem) : Con X l yX12_isParent cX12_isParent 3 (some .boolean) rm12_isParent (fun r9 : Int32 => (some (.int r9), M)) [.ref a0, .int x1, .int x2] M (p12_isParent a0 x1 x2 M) := g_con (own := RX12) (by decide +kernel) rfl (Nat.le_of_ble_eq_true rfl) (fun p e s m args below meth c B hS9 hr hn => g12_isParent B hS9 hr a0 x1 x2)
theorem mf12_areClose : gMF yX12_areClose cX12_areClose 3 (some .boolean) 2 := ⟨wd_1855, wd_13, ⟨by decide, by decide⟩, by decide +kernel⟩
set_option maxRecDepth 20000 in
set_option maxHeartbeats 2000000 in
theorem g12_areClose_J23 {X : gX} {p : Program} {l : Launch} {e : Env} {s : State} {m : MethodId} {args : Array Value} {below : List Frame} {meth : Method} {c : Code} (B : gB X p (rm12_areClose) s m args meth c RX12 cX12_areClose 3 (rm12_areClose)) (hS9 : gS X s) (hr : meth.sig.returnType = some .boolean) {M : mMem} (u0 : Int32) : GG X p l e (rm12_areClose) s m args below meth c (gP X below args s 0 0 (fun r9 : Int32 => (some (.int r9), M))) 3 0 0 23 [] [.int u0] M (p12_areClose_J23 M u0) := by
  unfold p12_areClose_J23
  exact g_zreturn (f := fun z => z) B hr (by decide) (by decide) rfl dX12_areClose_23
set_option maxRecDepth 20000 in
set_option maxHeartbeats 2000000 in
theorem g12_areClose_J18 {X : gX} {p : Program} {l : Launch} {e : Env} {s : State} {m : MethodId} {args : Array Value} {below : List Frame} {meth : Method} {c : Code} (B : gB X p (rm12_areClose) s m args meth c RX12 cX12_areClose 3 (rm12_areClose)) (hS9 : gS X s) (hr : meth.sig.returnType = some .boolean) {M : mMem} : GG X p l e (rm12_areClose) s m args below meth c (gP X below args s 0 0 (fun r9 : Int32 => (some (.int r9), M))) 3 0 0 18 [] [] M (p12_areClose_J18 M) := by
  unfold p12_areClose_J18
  refine g_iconst (v := 1) B dX12_areClose_18 (by decide) ?_
  refine g_goto B 23 dX12_areClose_19 (by decide) ?_
  refine g_sub (lv' := []) [] rfl ?_
  exact g12_areClose_J23 B hS9 hr 1
set_option maxRecDepth 20000 in
set_option maxHeartbeats 2000000 in
theorem g12_areClose {X : gX} {p : Program} {l : Launch} {e : Env} {s : State} {m : MethodId} {args : Array Value} {below : List Frame} {meth : Method} {c : Code} (B : gB X p (rm12_areClose) s m args meth c RX12 cX12_areClose 3 (rm12_areClose)) (hS9 : gS X s) (hr : meth.sig.returnType = some .boolean) {M : mMem} (a0 : Nat) (x1 : Int32) (x2 : Int32) : GG X p l e (rm12_areClose) s m args below meth c (gP X below args s 0 0 (fun r9 : Int32 => (some (.int r9), M))) 3 0 0 0 [(0, .ref a0), (1, .int x1), (2, .int x2)] [] M (p12_areClose a0 x1 x2 M) := by
  unfold p12_areClose
  refine g_gd ?_
  refine g_aload_n B dX12_areClose_0 0 rfl ?_
  refine g_iload_n B dX12_areClose_1 1 rfl ?_
  refine g_iload_n B dX12_areClose_2 2 rfl ?_
  refine g_callV_ip [.int x1, .int x2] (ci := 11) (T0 := TX12) (N := 27) B hS9 mf12_isParent wd_1858 (gw B wp_64) wd_1856 (by decide) rfl (fun h => (gd_ne h).1) (c12_isParent X l a0 x1 x2 M) (by decide) (by decide) (by decide) rfl (by decide) dX12_areClose_3 rfl (fun v_1 => ?_)
  refine g_if_ne B 18 dX12_areClose_6 (by decide) ?_ ?_
  · refine g_aload_n B dX12_areClose_9 0 rfl ?_
    refine g_iload_n B dX12_areClose_10 2 rfl ?_
    refine g_iload_n B dX12_areClose_11 1 rfl ?_
    refine g_callV_ip [.int x2, .int x1] (ci := 11) (T0 := TX12) (N := 27) B hS9 mf12_isParent wd_1858 (gw B wp_64) wd_1856 (by decide) rfl (fun h => (gd_ne h).1) (c12_isParent X l a0 x2 x1 M) (by decide) (by decide) (by decide) rfl (by decide) dX12_areClose_12 rfl (fun v_2 => ?_)
    refine g_if_eq B 22 dX12_areClose_15 (by decide) ?_ ?_
    · refine g_iconst (v := 0) B dX12_areClose_22 (by decide) ?_
      refine g_sub (lv' := []) [] rfl ?_
      exact g12_areClose_J23 B hS9 hr 0
    · refine g_sub (lv' := []) [] rfl ?_
      exact g12_areClose_J18 B hS9 hr
  · refine g_sub (lv' := []) [] rfl ?_
    exact g12_areClose_J18 B hS9 hr
theorem c12_areClose (X : gX) (l : Launch) (a0 : Nat) (x1 : Int32) (x2 : Int32) (M : mMem) : Con X l yX12_areClose cX12_areClose 3 (some .boolean) rm12_areClose (fun r9 : Int32 => (some (.int r9), M)) [.ref a0, .int x1, .int x2] M (p12_areClose a0 x1 x2 M) := g_con (own := RX12) (by decide +kernel) rfl (Nat.le_of_ble_eq_true rfl) (fun p e s m args below meth c B hS9 hr hn => g12_areClose B hS9 hr a0 x1 x2)
theorem mf12_isBoy : gMF yX12_isBoy cX12_isBoy 2 (some .boolean) 1 := ⟨wd_2051, wd_13, ⟨by decide, by decide⟩, by decide +kernel⟩
set_option maxRecDepth 20000 in
set_option maxHeartbeats 2000000 in
theorem g12_isBoy_J14 {X : gX} {p : Program} {l : Launch} {e : Env} {s : State} {m : MethodId} {args : Array Value} {below : List Frame} {meth : Method} {c : Code} (B : gB X p (rm12_isBoy) s m args meth c RX12 cX12_isBoy 2 (rm12_isBoy)) (hS9 : gS X s) (hr : meth.sig.returnType = some .boolean) {M : mMem} (u0 : Int32) : GG X p l e (rm12_isBoy) s m args below meth c (gP X below args s 0 0 (fun r9 : Int32 => (some (.int r9), M))) 2 0 0 14 [] [.int u0] M (p12_isBoy_J14 M u0) := by
  unfold p12_isBoy_J14
  exact g_zreturn (f := fun z => z) B hr (by decide) (by decide) rfl dX12_isBoy_14
set_option maxRecDepth 20000 in
set_option maxHeartbeats 2000000 in
theorem g12_isBoy {X : gX} {p : Program} {l : Launch} {e : Env} {s : State} {m : MethodId} {args : Array Value} {below : List Frame} {meth : Method} {c : Code} (B : gB X p (rm12_isBoy) s m args meth c RX12 cX12_isBoy 2 (rm12_isBoy)) (hS9 : gS X s) (hr : meth.sig.returnType = some .boolean) {M : mMem} (a0 : Nat) (x1 : Int32) : GG X p l e (rm12_isBoy) s m args below meth c (gP X below args s 0 0 (fun r9 : Int32 => (some (.int r9), M))) 2 0 0 0 [(0, .ref a0), (1, .int x1)] [] M (p12_isBoy a0 x1 M) := by
  unfold p12_isBoy
  refine g_gd ?_
  refine g_aload_n B dX12_isBoy_0 0 rfl ?_
  refine g_iload_n B dX12_isBoy_1 1 rfl ?_
  refine g_iconst (v := 2) B dX12_isBoy_2 (by decide) ?_
  refine g_callV_ip [.int x1, .int 2] (ci := 11) (T0 := TX12) (N := 27) B hS9 mf12_of wd_1846 (gw B wp_61) wd_1844 (by decide) rfl (fun h => (gd_ne h).1) (c12_of X l a0 x1 2 M) (by decide) (by decide) (by decide) rfl (by decide) dX12_isBoy_3 rfl (fun v_1 => ?_)
  refine g_if_ne B 13 dX12_isBoy_6 (by decide) ?_ ?_
  · refine g_iconst (v := 1) B dX12_isBoy_9 (by decide) ?_
    refine g_goto B 14 dX12_isBoy_10 (by decide) ?_
    refine g_sub (lv' := []) [] rfl ?_
    exact g12_isBoy_J14 B hS9 hr 1
  · refine g_iconst (v := 0) B dX12_isBoy_13 (by decide) ?_
    refine g_sub (lv' := []) [] rfl ?_
    exact g12_isBoy_J14 B hS9 hr 0
theorem c12_isBoy (X : gX) (l : Launch) (a0 : Nat) (x1 : Int32) (M : mMem) : Con X l yX12_isBoy cX12_isBoy 2 (some .boolean) rm12_isBoy (fun r9 : Int32 => (some (.int r9), M)) [.ref a0, .int x1] M (p12_isBoy a0 x1 M) := g_con (own := RX12) (by decide +kernel) rfl (Nat.le_of_ble_eq_true rfl) (fun p e s m args below meth c B hS9 hr hn => g12_isBoy B hS9 hr a0 x1)
theorem mf12_isSingle : gMF yX12_isSingle cX12_isSingle 2 (some .boolean) 1 := ⟨wd_1851, wd_13, ⟨by decide, by decide⟩, by decide +kernel⟩
set_option maxRecDepth 20000 in
set_option maxHeartbeats 2000000 in
theorem g12_isSingle_J15 {X : gX} {p : Program} {l : Launch} {e : Env} {s : State} {m : MethodId} {args : Array Value} {below : List Frame} {meth : Method} {c : Code} (B : gB X p (rm12_isSingle) s m args meth c RX12 cX12_isSingle 2 (rm12_isSingle)) (hS9 : gS X s) (hr : meth.sig.returnType = some .boolean) {M : mMem} (u0 : Int32) : GG X p l e (rm12_isSingle) s m args below meth c (gP X below args s 0 0 (fun r9 : Int32 => (some (.int r9), M))) 2 0 0 15 [] [.int u0] M (p12_isSingle_J15 M u0) := by
  unfold p12_isSingle_J15
  exact g_zreturn (f := fun z => z) B hr (by decide) (by decide) rfl dX12_isSingle_15
set_option maxRecDepth 20000 in
set_option maxHeartbeats 2000000 in
theorem g12_isSingle {X : gX} {p : Program} {l : Launch} {e : Env} {s : State} {m : MethodId} {args : Array Value} {below : List Frame} {meth : Method} {c : Code} (B : gB X p (rm12_isSingle) s m args meth c RX12 cX12_isSingle 2 (rm12_isSingle)) (hS9 : gS X s) (hr : meth.sig.returnType = some .boolean) {M : mMem} (a0 : Nat) (x1 : Int32) : GG X p l e (rm12_isSingle) s m args below meth c (gP X below args s 0 0 (fun r9 : Int32 => (some (.int r9), M))) 2 0 0 0 [(0, .ref a0), (1, .int x1)] [] M (p12_isSingle a0 x1 M) := by
  unfold p12_isSingle
  refine g_gd ?_
  refine g_aload_n B dX12_isSingle_0 0 rfl ?_
  refine g_iload_n B dX12_isSingle_1 1 rfl ?_
  refine g_iconst (v := 4) B dX12_isSingle_2 (by decide) ?_
  refine g_callV_ip [.int x1, .int 4] (ci := 11) (T0 := TX12) (N := 27) B hS9 mf12_of wd_1846 (gw B wp_61) wd_1844 (by decide) rfl (fun h => (gd_ne h).1) (c12_of X l a0 x1 4 M) (by decide) (by decide) (by decide) rfl (by decide) dX12_isSingle_3 rfl (fun v_1 => ?_)
  refine g_iconst (v := (-1)) B dX12_isSingle_6 (by decide) ?_
  refine g_icmp_ne B 14 dX12_isSingle_7 (by decide) ?_ ?_
  · refine g_iconst (v := 1) B dX12_isSingle_10 (by decide) ?_
    refine g_goto B 15 dX12_isSingle_11 (by decide) ?_
    refine g_sub (lv' := []) [] rfl ?_
    exact g12_isSingle_J15 B hS9 hr 1
  · refine g_iconst (v := 0) B dX12_isSingle_14 (by decide) ?_
    refine g_sub (lv' := []) [] rfl ?_
    exact g12_isSingle_J15 B hS9 hr 0
theorem c12_isSingle (X : gX) (l : Launch) (a0 : Nat) (x1 : Int32) (M : mMem) : Con X l yX12_isSingle cX12_isSingle 2 (some .boolean) rm12_isSingle (fun r9 : Int32 => (some (.int r9), M)) [.ref a0, .int x1] M (p12_isSingle a0 x1 M) := g_con (own := RX12) (by decide +kernel) rfl (Nat.le_of_ble_eq_true rfl) (fun p e s m args below meth c B hS9 hr hn => g12_isSingle B hS9 hr a0 x1)
theorem mf12_drawn : gMF yX12_drawn cX12_drawn 2 (some .int) 1 := ⟨wd_2091, wd_13, ⟨by decide, by decide⟩, by decide +kernel⟩
set_option maxRecDepth 20000 in
set_option maxHeartbeats 2000000 in
theorem g12_drawn {X : gX} {p : Program} {l : Launch} {e : Env} {s : State} {m : MethodId} {args : Array Value} {below : List Frame} {meth : Method} {c : Code} (B : gB X p (rm12_drawn) s m args meth c RX12 cX12_drawn 2 (rm12_drawn)) (hS9 : gS X s) (hr : meth.sig.returnType = some .int) (a0 : Nat) (x1 : Int32) (M : mMem) : GG X p l e (rm12_drawn) s m args below meth c (gP X below args s 0 0 (fun r9 : (Int32 × mMem) => (some (.int r9.1), r9.2))) 2 0 0 0 [(0, .ref a0), (1, .int x1)] [] M (p12_drawn a0 x1 M) := by
  unfold p12_drawn
  refine g_gd ?_
  refine g_aload_n B dX12_drawn_0 0 rfl ?_
  refine g_getR (ci := 11) (T0 := TX12) (N := 27) B (by decide) rfl in_11 (k := 1) (by decide) rfl wd_1642 (fun _ h => h) dX12_drawn_1 (fun v_1 => ?_)
  refine g_bipush (v := 8) B dX12_drawn_4 (by decide) ?_
  refine g_ldc B dX12_drawn_6 wd_2092 ?_
  refine g_aload_n B dX12_drawn_8 0 rfl ?_
  refine g_getR (ci := 11) (T0 := TX12) (N := 27) B (by decide) rfl in_11 (k := 1) (by decide) rfl wd_1642 (fun _ h => h) dX12_drawn_9 (fun v_2 => ?_)
  refine g_bipush (v := 8) B dX12_drawn_12 (by decide) ?_
  refine g_iaload B dX12_drawn_14 (fun v_3 => ?_)
  refine g_imul B dX12_drawn_15 ?_
  refine g_sipush (v := 12345) B dX12_drawn_16 (by decide) ?_
  refine g_iadd B dX12_drawn_19 ?_
  refine g_iastore B dX12_drawn_20 (fun M_4 => ?_)
  refine g_aload_n B dX12_drawn_21 0 rfl ?_
  refine g_getR (ci := 11) (T0 := TX12) (N := 27) B (by decide) rfl in_11 (k := 1) (by decide) rfl wd_1642 (fun _ h => h) dX12_drawn_22 (fun v_5 => ?_)
  refine g_bipush (v := 8) B dX12_drawn_25 (by decide) ?_
  refine g_iaload B dX12_drawn_27 (fun v_6 => ?_)
  refine g_bipush (v := 16) B dX12_drawn_28 (by decide) ?_
  refine g_ishr B dX12_drawn_30 ?_
  refine g_sipush (v := 32767) B dX12_drawn_31 (by decide) ?_
  refine g_iand B dX12_drawn_34 ?_
  refine g_iload_n B dX12_drawn_35 1 rfl ?_
  refine g_irem B dX12_drawn_36 (fun v_7 => ?_)
  exact g_ireturn B hr rfl (by decide) (by decide) rfl dX12_drawn_37
theorem c12_drawn (X : gX) (l : Launch) (a0 : Nat) (x1 : Int32) (M : mMem) : Con X l yX12_drawn cX12_drawn 2 (some .int) rm12_drawn (fun r9 : (Int32 × mMem) => (some (.int r9.1), r9.2)) [.ref a0, .int x1] M (p12_drawn a0 x1 M) := g_con (own := RX12) (by decide +kernel) rfl (Nat.le_of_ble_eq_true rfl) (fun p e s m args below meth c B hS9 hr hn => g12_drawn B hS9 hr a0 x1 M)
theorem mf12_feed : gMF yX12_feed cX12_feed 7 (some .int) 5 := ⟨wd_1739, wd_13, ⟨by decide, by decide⟩, by decide +kernel⟩
set_option maxRecDepth 20000 in
set_option maxHeartbeats 2000000 in
theorem g12_feed_L60 {X : gX} {p : Program} {l : Launch} {e : Env} {s : State} {m : MethodId} {args : Array Value} {below : List Frame} {meth : Method} {c : Code} (B : gB X p (rm12_feed) s m args meth c RX12 cX12_feed 7 (rm12_feed)) (hS9 : gS X s) (hr : meth.sig.returnType = some .int) : ∀ (n : Nat) (a0 : Nat) (x6 : Int32) (M : mMem), GG X p l e (rm12_feed) s m args below meth c (gP X below args s 0 0 (fun r9 : (Int32 × mMem) => (some (.int r9.1), r9.2))) 7 0 0 60 [(0, .ref a0), (6, .int x6)] [] M (p12_feed_L60 n a0 x6 M) := by
  intro n
  induction n with
  | zero => intro a0 x6 M; exact g_none
  | succ n ih =>
    intro a0 x6 M
    rw [p12_feed_L60]
    refine g_iload B dX12_feed_60 1 rfl ?_
    refine g_bipush (v := 20) B dX12_feed_62 (by decide) ?_
    refine g_icmp_ge B 106 dX12_feed_64 (by decide) ?_ ?_
    · refine g_aload_n B dX12_feed_67 0 rfl ?_
      refine g_getR (ci := 11) (T0 := TX12) (N := 27) B (by decide) rfl in_11 (k := 8) (by decide) rfl wd_1649 (fun _ h => h) dX12_feed_68 (fun v_4 => ?_)
      refine g_aload_n B dX12_feed_71 0 rfl ?_
      refine g_getI (ci := 11) (T0 := TX12) (N := 27) B (by decide) rfl in_11 (k := 9) (by decide) rfl wd_1650 (fun _ h => h) dX12_feed_72 (fun v_5 => ?_)
      refine g_iload B dX12_feed_75 1 rfl ?_
      refine g_iadd B dX12_feed_77 ?_
      refine g_aload_n B dX12_feed_78 0 rfl ?_
      refine g_getR (ci := 11) (T0 := TX12) (N := 27) B (by decide) rfl in_11 (k := 15) (by decide) rfl wd_1656 (fun _ h => h) dX12_feed_79 (fun v_6 => ?_)
      refine g_iload B dX12_feed_82 1 rfl ?_
      refine g_iconst (v := 4) B dX12_feed_84 (by decide) ?_
      refine g_idiv B dX12_feed_85 (fun v_7 => ?_)
      refine g_iaload B dX12_feed_86 (fun v_8 => ?_)
      refine g_bipush (v := 24) B dX12_feed_87 (by decide) ?_
      refine g_bipush (v := 8) B dX12_feed_89 (by decide) ?_
      refine g_iload B dX12_feed_91 1 rfl ?_
      refine g_iconst (v := 4) B dX12_feed_93 (by decide) ?_
      refine g_irem B dX12_feed_94 (fun v_9 => ?_)
      refine g_imul B dX12_feed_95 ?_
      refine g_isub B dX12_feed_96 ?_
      refine g_ishr B dX12_feed_97 ?_
      refine g_i2b B dX12_feed_98 ?_
      refine g_bastore B dX12_feed_99 (fun M_10 => ?_)
      refine g_iinc (v := (x6 + 1)) (lv' := [(6, .int (x6 + 1)), (0, .ref a0)]) B dX12_feed_100 1 rfl rfl (by decide) [0, 1] rfl ?_
      refine g_goto B 60 dX12_feed_103 (by decide) ?_
      refine g_sub (lv' := [(0, .ref a0), (6, .int (x6 + 1))]) [1, 0] rfl ?_
      exact ih a0 (x6 + 1) M_10
    · refine g_aload_n B dX12_feed_106 0 rfl ?_
      refine g_dup B dX12_feed_107 rfl ?_
      refine g_getI (ci := 11) (T0 := TX12) (N := 27) B (by decide) rfl in_11 (k := 9) (by decide) rfl wd_1650 (fun _ h => h) dX12_feed_108 (fun v_1 => ?_)
      refine g_bipush (v := 20) B dX12_feed_111 (by decide) ?_
      refine g_iadd B dX12_feed_113 ?_
      refine g_putI (ci := 11) (T0 := TX12) (N := 27) B (by decide) rfl in_11 tyX12 tyX12_ok nmX12 (k := 9) (by decide) wd_1650 (fun _ h => h) rfl rfl (ty := .int) (by decide +kernel) rfl rfl dX12_feed_114 (fun M_2 => ?_)
      refine g_aload_n B dX12_feed_117 0 rfl ?_
      refine g_getI (ci := 11) (T0 := TX12) (N := 27) B (by decide) rfl in_11 (k := 9) (by decide) rfl wd_1650 (fun _ h => h) dX12_feed_118 (fun v_3 => ?_)
      exact g_ireturn B hr rfl (by decide) (by decide) rfl dX12_feed_121
set_option maxRecDepth 20000 in
set_option maxHeartbeats 2000000 in
theorem g12_feed {X : gX} {p : Program} {l : Launch} {e : Env} {s : State} {m : MethodId} {args : Array Value} {below : List Frame} {meth : Method} {c : Code} (B : gB X p (rm12_feed) s m args meth c RX12 cX12_feed 7 (rm12_feed)) (hS9 : gS X s) (hr : meth.sig.returnType = some .int) (a0 : Nat) (x1 : Int32) (x2 : Int32) (x3 : Int32) (x4 : Int32) (x5 : Int32) (M : mMem) : GG X p l e (rm12_feed) s m args below meth c (gP X below args s 0 0 (fun r9 : (Int32 × mMem) => (some (.int r9.1), r9.2))) 7 0 0 0 [(0, .ref a0), (1, .int x1), (2, .int x2), (3, .int x3), (4, .int x4), (5, .int x5)] [] M (p12_feed a0 x1 x2 x3 x4 x5 M) := by
  unfold p12_feed
  refine g_gd ?_
  refine g_aload_n B dX12_feed_0 0 rfl ?_
  refine g_iconst (v := 0) B dX12_feed_1 (by decide) ?_
  refine g_putI (ci := 11) (T0 := TX12) (N := 27) B (by decide) rfl in_11 tyX12 tyX12_ok nmX12 (k := 0) (by decide) wd_1641 (fun _ h => h) rfl rfl (ty := .int) (by decide +kernel) rfl rfl dX12_feed_2 (fun M_1 => ?_)
  refine g_aload_n B dX12_feed_5 0 rfl ?_
  refine g_getI (ci := 11) (T0 := TX12) (N := 27) B (by decide) rfl in_11 (k := 9) (by decide) rfl wd_1650 (fun _ h => h) dX12_feed_6 (fun v_2 => ?_)
  refine g_bipush (v := 20) B dX12_feed_9 (by decide) ?_
  refine g_iadd B dX12_feed_11 ?_
  refine g_sipush (v := 400) B dX12_feed_12 (by decide) ?_
  refine g_icmp_le B 20 dX12_feed_15 (by decide) ?_ ?_
  · refine g_iconst (v := (-1)) B dX12_feed_18 (by decide) ?_
    exact g_ireturn B hr rfl (by decide) (by decide) rfl dX12_feed_19
  · refine g_aload_n B dX12_feed_20 0 rfl ?_
    refine g_getR (ci := 11) (T0 := TX12) (N := 27) B (by decide) rfl in_11 (k := 15) (by decide) rfl wd_1656 (fun _ h => h) dX12_feed_21 (fun v_3 => ?_)
    refine g_iconst (v := 0) B dX12_feed_24 (by decide) ?_
    refine g_iload_n B dX12_feed_25 1 rfl ?_
    refine g_iastore B dX12_feed_26 (fun M_4 => ?_)
    refine g_aload_n B dX12_feed_27 0 rfl ?_
    refine g_getR (ci := 11) (T0 := TX12) (N := 27) B (by decide) rfl in_11 (k := 15) (by decide) rfl wd_1656 (fun _ h => h) dX12_feed_28 (fun v_5 => ?_)
    refine g_iconst (v := 1) B dX12_feed_31 (by decide) ?_
    refine g_iload_n B dX12_feed_32 2 rfl ?_
    refine g_iastore B dX12_feed_33 (fun M_6 => ?_)
    refine g_aload_n B dX12_feed_34 0 rfl ?_
    refine g_getR (ci := 11) (T0 := TX12) (N := 27) B (by decide) rfl in_11 (k := 15) (by decide) rfl wd_1656 (fun _ h => h) dX12_feed_35 (fun v_7 => ?_)
    refine g_iconst (v := 2) B dX12_feed_38 (by decide) ?_
    refine g_iload_n B dX12_feed_39 3 rfl ?_
    refine g_iastore B dX12_feed_40 (fun M_8 => ?_)
    refine g_aload_n B dX12_feed_41 0 rfl ?_
    refine g_getR (ci := 11) (T0 := TX12) (N := 27) B (by decide) rfl in_11 (k := 15) (by decide) rfl wd_1656 (fun _ h => h) dX12_feed_42 (fun v_9 => ?_)
    refine g_iconst (v := 3) B dX12_feed_45 (by decide) ?_
    refine g_iload B dX12_feed_46 4 rfl ?_
    refine g_iastore B dX12_feed_48 (fun M_10 => ?_)
    refine g_aload_n B dX12_feed_49 0 rfl ?_
    refine g_getR (ci := 11) (T0 := TX12) (N := 27) B (by decide) rfl in_11 (k := 15) (by decide) rfl wd_1656 (fun _ h => h) dX12_feed_50 (fun v_11 => ?_)
    refine g_iconst (v := 4) B dX12_feed_53 (by decide) ?_
    refine g_iload B dX12_feed_54 5 rfl ?_
    refine g_iastore B dX12_feed_56 (fun M_12 => ?_)
    refine g_iconst (v := 0) B dX12_feed_57 (by decide) ?_
    refine g_istore (lv' := [(6, .int 0), (0, .ref a0), (1, .int x1), (2, .int x2), (3, .int x3), (4, .int x4), (5, .int x5)]) B dX12_feed_58 (by decide) [0, 1, 2, 3, 4, 5, 6] rfl ?_
    refine g_sub (lv' := [(0, .ref a0), (6, .int 0)]) [1, 0] rfl ?_
    exact (g12_feed_L60 B hS9 hr) gF a0 0 M_12
theorem c12_feed (X : gX) (l : Launch) (a0 : Nat) (x1 : Int32) (x2 : Int32) (x3 : Int32) (x4 : Int32) (x5 : Int32) (M : mMem) : Con X l yX12_feed cX12_feed 7 (some .int) rm12_feed (fun r9 : (Int32 × mMem) => (some (.int r9.1), r9.2)) [.ref a0, .int x1, .int x2, .int x3, .int x4, .int x5] M (p12_feed a0 x1 x2 x3 x4 x5 M) := g_con (own := RX12) (by decide +kernel) rfl (Nat.le_of_ble_eq_true rfl) (fun p e s m args below meth c B hS9 hr hn => g12_feed B hS9 hr a0 x1 x2 x3 x4 x5 M)
theorem mf12_end : gMF yX12_end cX12_end 2 (some .boolean) 1 := ⟨wd_1743, wd_13, ⟨by decide, by decide⟩, by decide +kernel⟩
set_option maxRecDepth 20000 in
set_option maxHeartbeats 2000000 in
theorem g12_end_J17 {X : gX} {p : Program} {l : Launch} {e : Env} {s : State} {m : MethodId} {args : Array Value} {below : List Frame} {meth : Method} {c : Code} (B : gB X p (rm12_end) s m args meth c RX12 cX12_end 2 (rm12_end)) (hS9 : gS X s) (hr : meth.sig.returnType = some .boolean) (M : mMem) : GG X p l e (rm12_end) s m args below meth c (gP X below args s 0 0 (fun r9 : (Int32 × mMem) => (some (.int r9.1), r9.2))) 2 0 0 17 [] [] M (p12_end_J17 M) := by
  unfold p12_end_J17
  refine g_iconst (v := 0) B dX12_end_17 (by decide) ?_
  exact g_ireturn B hr rfl (by decide) (by decide) rfl dX12_end_18
set_option maxRecDepth 20000 in
set_option maxHeartbeats 2000000 in
theorem g12_end {X : gX} {p : Program} {l : Launch} {e : Env} {s : State} {m : MethodId} {args : Array Value} {below : List Frame} {meth : Method} {c : Code} (B : gB X p (rm12_end) s m args meth c RX12 cX12_end 2 (rm12_end)) (hS9 : gS X s) (hr : meth.sig.returnType = some .boolean) (a0 : Nat) (x1 : Int32) (M : mMem) : GG X p l e (rm12_end) s m args below meth c (gP X below args s 0 0 (fun r9 : (Int32 × mMem) => (some (.int r9.1), r9.2))) 2 0 0 0 [(0, .ref a0), (1, .int x1)] [] M (p12_end a0 x1 M) := by
  unfold p12_end
  refine g_gd ?_
  refine g_aload_n B dX12_end_0 0 rfl ?_
  refine g_iconst (v := 0) B dX12_end_1 (by decide) ?_
  refine g_putI (ci := 11) (T0 := TX12) (N := 27) B (by decide) rfl in_11 tyX12 tyX12_ok nmX12 (k := 0) (by decide) wd_1641 (fun _ h => h) rfl rfl (ty := .int) (by decide +kernel) rfl rfl dX12_end_2 (fun M_1 => ?_)
  refine g_iload_n B dX12_end_5 1 rfl ?_
  refine g_if_lt B 17 dX12_end_6 (by decide) ?_ ?_
  · refine g_sub (lv' := []) [] rfl ?_
    exact g12_end_J17 B hS9 hr M_1
  · refine g_iload_n B dX12_end_9 1 rfl ?_
    refine g_aload_n B dX12_end_10 0 rfl ?_
    refine g_getI (ci := 11) (T0 := TX12) (N := 27) B (by decide) rfl in_11 (k := 9) (by decide) rfl wd_1650 (fun _ h => h) dX12_end_11 (fun v_2 => ?_)
    refine g_icmp_le B 19 dX12_end_14 (by decide) ?_ ?_
    · refine g_sub (lv' := []) [] rfl ?_
      exact g12_end_J17 B hS9 hr M_1
    · refine g_aload_n B dX12_end_19 0 rfl ?_
      refine g_iload_n B dX12_end_20 1 rfl ?_
      refine g_putI (ci := 11) (T0 := TX12) (N := 27) B (by decide) rfl in_11 tyX12 tyX12_ok nmX12 (k := 9) (by decide) wd_1650 (fun _ h => h) rfl rfl (ty := .int) (by decide +kernel) rfl rfl dX12_end_21 (fun M_3 => ?_)
      refine g_iconst (v := 1) B dX12_end_24 (by decide) ?_
      exact g_ireturn B hr rfl (by decide) (by decide) rfl dX12_end_25
theorem c12_end (X : gX) (l : Launch) (a0 : Nat) (x1 : Int32) (M : mMem) : Con X l yX12_end cX12_end 2 (some .boolean) rm12_end (fun r9 : (Int32 × mMem) => (some (.int r9.1), r9.2)) [.ref a0, .int x1] M (p12_end a0 x1 M) := g_con (own := RX12) (by decide +kernel) rfl (Nat.le_of_ble_eq_true rfl) (fun p e s m args below meth c B hS9 hr hn => g12_end B hS9 hr a0 x1 M)
theorem mf12_isAt : gMF yX12_isAt cX12_isAt 3 (some .boolean) 2 := ⟨wd_1767, wd_13, ⟨by decide, by decide⟩, by decide +kernel⟩
set_option maxRecDepth 20000 in
set_option maxHeartbeats 2000000 in
theorem g12_isAt_J42 {X : gX} {p : Program} {l : Launch} {e : Env} {s : State} {m : MethodId} {args : Array Value} {below : List Frame} {meth : Method} {c : Code} (B : gB X p (rm12_isAt) s m args meth c RX12 cX12_isAt 3 (rm12_isAt)) (hS9 : gS X s) (hr : meth.sig.returnType = some .boolean) {M : mMem} (u0 : Int32) : GG X p l e (rm12_isAt) s m args below meth c (gP X below args s 0 0 (fun r9 : Int32 => (some (.int r9), M))) 3 0 0 42 [] [.int u0] M (p12_isAt_J42 M u0) := by
  unfold p12_isAt_J42
  exact g_zreturn (f := fun z => z) B hr (by decide) (by decide) rfl dX12_isAt_42
set_option maxRecDepth 20000 in
set_option maxHeartbeats 2000000 in
theorem g12_isAt_J41 {X : gX} {p : Program} {l : Launch} {e : Env} {s : State} {m : MethodId} {args : Array Value} {below : List Frame} {meth : Method} {c : Code} (B : gB X p (rm12_isAt) s m args meth c RX12 cX12_isAt 3 (rm12_isAt)) (hS9 : gS X s) (hr : meth.sig.returnType = some .boolean) {M : mMem} : GG X p l e (rm12_isAt) s m args below meth c (gP X below args s 0 0 (fun r9 : Int32 => (some (.int r9), M))) 3 0 0 41 [] [] M (p12_isAt_J41 M) := by
  unfold p12_isAt_J41
  refine g_iconst (v := 0) B dX12_isAt_41 (by decide) ?_
  refine g_sub (lv' := []) [] rfl ?_
  exact g12_isAt_J42 B hS9 hr 0
set_option maxRecDepth 20000 in
set_option maxHeartbeats 2000000 in
theorem g12_isAt {X : gX} {p : Program} {l : Launch} {e : Env} {s : State} {m : MethodId} {args : Array Value} {below : List Frame} {meth : Method} {c : Code} (B : gB X p (rm12_isAt) s m args meth c RX12 cX12_isAt 3 (rm12_isAt)) (hS9 : gS X s) (hr : meth.sig.returnType = some .boolean) {M : mMem} (a0 : Nat) (x1 : Int32) (x2 : Int32) : GG X p l e (rm12_isAt) s m args below meth c (gP X below args s 0 0 (fun r9 : Int32 => (some (.int r9), M))) 3 0 0 0 [(0, .ref a0), (1, .int x1), (2, .int x2)] [] M (p12_isAt a0 x1 x2 M) := by
  unfold p12_isAt
  refine g_gd ?_
  refine g_aload_n B dX12_isAt_0 0 rfl ?_
  refine g_getI (ci := 11) (T0 := TX12) (N := 27) B (by decide) rfl in_11 (k := 10) (by decide) rfl wd_1651 (fun _ h => h) dX12_isAt_1 (fun v_1 => ?_)
  refine g_aload_n B dX12_isAt_4 0 rfl ?_
  refine g_getI (ci := 11) (T0 := TX12) (N := 27) B (by decide) rfl in_11 (k := 11) (by decide) rfl wd_1652 (fun _ h => h) dX12_isAt_5 (fun v_2 => ?_)
  refine g_icmp_ge B 41 dX12_isAt_8 (by decide) ?_ ?_
  · refine g_aload_n B dX12_isAt_11 0 rfl ?_
    refine g_getR (ci := 11) (T0 := TX12) (N := 27) B (by decide) rfl in_11 (k := 8) (by decide) rfl wd_1649 (fun _ h => h) dX12_isAt_12 (fun v_3 => ?_)
    refine g_aload_n B dX12_isAt_15 0 rfl ?_
    refine g_getI (ci := 11) (T0 := TX12) (N := 27) B (by decide) rfl in_11 (k := 10) (by decide) rfl wd_1651 (fun _ h => h) dX12_isAt_16 (fun v_4 => ?_)
    refine g_baload B dX12_isAt_19 (fun v_5 => ?_)
    refine g_iload_n B dX12_isAt_20 1 rfl ?_
    refine g_icmp_lt B 41 dX12_isAt_21 (by decide) ?_ ?_
    · refine g_sub (lv' := []) [] rfl ?_
      exact g12_isAt_J41 B hS9 hr
    · refine g_aload_n B dX12_isAt_24 0 rfl ?_
      refine g_getR (ci := 11) (T0 := TX12) (N := 27) B (by decide) rfl in_11 (k := 8) (by decide) rfl wd_1649 (fun _ h => h) dX12_isAt_25 (fun v_6 => ?_)
      refine g_aload_n B dX12_isAt_28 0 rfl ?_
      refine g_getI (ci := 11) (T0 := TX12) (N := 27) B (by decide) rfl in_11 (k := 10) (by decide) rfl wd_1651 (fun _ h => h) dX12_isAt_29 (fun v_7 => ?_)
      refine g_baload B dX12_isAt_32 (fun v_8 => ?_)
      refine g_iload_n B dX12_isAt_33 2 rfl ?_
      refine g_icmp_gt B 41 dX12_isAt_34 (by decide) ?_ ?_
      · refine g_sub (lv' := []) [] rfl ?_
        exact g12_isAt_J41 B hS9 hr
      · refine g_iconst (v := 1) B dX12_isAt_37 (by decide) ?_
        refine g_goto B 42 dX12_isAt_38 (by decide) ?_
        refine g_sub (lv' := []) [] rfl ?_
        exact g12_isAt_J42 B hS9 hr 1
  · refine g_sub (lv' := []) [] rfl ?_
    exact g12_isAt_J41 B hS9 hr
theorem c12_isAt (X : gX) (l : Launch) (a0 : Nat) (x1 : Int32) (x2 : Int32) (M : mMem) : Con X l yX12_isAt cX12_isAt 3 (some .boolean) rm12_isAt (fun r9 : Int32 => (some (.int r9), M)) [.ref a0, .int x1, .int x2] M (p12_isAt a0 x1 x2 M) := g_con (own := RX12) (by decide +kernel) rfl (Nat.le_of_ble_eq_true rfl) (fun p e s m args below meth c B hS9 hr hn => g12_isAt B hS9 hr a0 x1 x2)
theorem mf12_blanks : gMF yX12_blanks cX12_blanks 1 (none) 0 := ⟨wd_1763, wd_13, ⟨by decide, by decide⟩, by decide +kernel⟩
set_option maxRecDepth 20000 in
set_option maxHeartbeats 2000000 in
theorem g12_blanks_L0 {X : gX} {p : Program} {l : Launch} {e : Env} {s : State} {m : MethodId} {args : Array Value} {below : List Frame} {meth : Method} {c : Code} (B : gB X p (rm12_blanks) s m args meth c RX12 cX12_blanks 1 (rm12_blanks)) (hS9 : gS X s) (hr : meth.sig.returnType = none) : ∀ (n : Nat) (a0 : Nat) (M : mMem), GG X p l e (rm12_blanks) s m args below meth c (gP X below args s 0 0 (fun M9 : mMem => (none, M9))) 1 0 0 0 [(0, .ref a0)] [] M (p12_blanks_L0 n a0 M) := by
  intro n
  induction n with
  | zero => intro a0 M; exact g_none
  | succ n ih =>
    intro a0 M
    rw [p12_blanks_L0]
    refine g_aload_n B dX12_blanks_0 0 rfl ?_
    refine g_bipush (v := 32) B dX12_blanks_1 (by decide) ?_
    refine g_bipush (v := 32) B dX12_blanks_3 (by decide) ?_
    refine g_callV_ip [.int 32, .int 32] (ci := 11) (T0 := TX12) (N := 27) B hS9 mf12_isAt wd_1766 (gw B wp_45) wd_1764 (by decide) rfl (fun h => (gd_ne h).1) (c12_isAt X l a0 32 32 M) (by decide) (by decide) (by decide) rfl (by decide) dX12_blanks_5 rfl (fun v_1 => ?_)
    refine g_if_eq B 24 dX12_blanks_8 (by decide) ?_ ?_
    · refine g_aload_n B dX12_blanks_24 0 rfl ?_
      refine g_aload_n B dX12_blanks_25 0 rfl ?_
      refine g_getI (ci := 11) (T0 := TX12) (N := 27) B (by decide) rfl in_11 (k := 10) (by decide) rfl wd_1651 (fun _ h => h) dX12_blanks_26 (fun v_2 => ?_)
      refine g_putI (ci := 11) (T0 := TX12) (N := 27) B (by decide) rfl in_11 tyX12 tyX12_ok nmX12 (k := 12) (by decide) wd_1653 (fun _ h => h) rfl rfl (ty := .int) (by decide +kernel) rfl rfl dX12_blanks_29 (fun M_3 => ?_)
      exact g_vreturn B hr (by decide) (by decide) rfl dX12_blanks_32
    · refine g_aload_n B dX12_blanks_11 0 rfl ?_
      refine g_dup B dX12_blanks_12 rfl ?_
      refine g_getI (ci := 11) (T0 := TX12) (N := 27) B (by decide) rfl in_11 (k := 10) (by decide) rfl wd_1651 (fun _ h => h) dX12_blanks_13 (fun v_4 => ?_)
      refine g_iconst (v := 1) B dX12_blanks_16 (by decide) ?_
      refine g_iadd B dX12_blanks_17 ?_
      refine g_putI (ci := 11) (T0 := TX12) (N := 27) B (by decide) rfl in_11 tyX12 tyX12_ok nmX12 (k := 10) (by decide) wd_1651 (fun _ h => h) rfl rfl (ty := .int) (by decide +kernel) rfl rfl dX12_blanks_18 (fun M_5 => ?_)
      refine g_goto B 0 dX12_blanks_21 (by decide) ?_
      refine g_sub (lv' := [(0, .ref a0)]) [0] rfl ?_
      exact ih a0 M_5
set_option maxRecDepth 20000 in
set_option maxHeartbeats 2000000 in
theorem g12_blanks {X : gX} {p : Program} {l : Launch} {e : Env} {s : State} {m : MethodId} {args : Array Value} {below : List Frame} {meth : Method} {c : Code} (B : gB X p (rm12_blanks) s m args meth c RX12 cX12_blanks 1 (rm12_blanks)) (hS9 : gS X s) (hr : meth.sig.returnType = none) (a0 : Nat) (M : mMem) : GG X p l e (rm12_blanks) s m args below meth c (gP X below args s 0 0 (fun M9 : mMem => (none, M9))) 1 0 0 0 [(0, .ref a0)] [] M (p12_blanks a0 M) := by
  unfold p12_blanks
  refine g_gd ?_
  refine g_sub (lv' := [(0, .ref a0)]) [0] rfl ?_
  exact (g12_blanks_L0 B hS9 hr) gF a0 M
theorem c12_blanks (X : gX) (l : Launch) (a0 : Nat) (M : mMem) : Con X l yX12_blanks cX12_blanks 1 (none) rm12_blanks (fun M9 : mMem => (none, M9)) [.ref a0] M (p12_blanks a0 M) := g_con (own := RX12) (by decide +kernel) rfl (Nat.le_of_ble_eq_true rfl) (fun p e s m args below meth c B hS9 hr hn => g12_blanks B hS9 hr a0 M)
theorem mf12_letters : gMF yX12_letters cX12_letters 1 (none) 0 := ⟨wd_1775, wd_13, ⟨by decide, by decide⟩, by decide +kernel⟩
set_option maxRecDepth 20000 in
set_option maxHeartbeats 2000000 in
theorem g12_letters_L4 {X : gX} {p : Program} {l : Launch} {e : Env} {s : State} {m : MethodId} {args : Array Value} {below : List Frame} {meth : Method} {c : Code} (B : gB X p (rm12_letters) s m args meth c RX12 cX12_letters 1 (rm12_letters)) (hS9 : gS X s) (hr : meth.sig.returnType = none) : ∀ (n : Nat) (a0 : Nat) (M : mMem), GG X p l e (rm12_letters) s m args below meth c (gP X below args s 0 0 (fun M9 : mMem => (none, M9))) 1 0 0 4 [(0, .ref a0)] [] M (p12_letters_L4 n a0 M) := by
  intro n
  induction n with
  | zero => intro a0 M; exact g_none
  | succ n ih =>
    intro a0 M
    rw [p12_letters_L4]
    refine g_aload_n B dX12_letters_4 0 rfl ?_
    refine g_bipush (v := 97) B dX12_letters_5 (by decide) ?_
    refine g_bipush (v := 122) B dX12_letters_7 (by decide) ?_
    refine g_callV_ip [.int 97, .int 122] (ci := 11) (T0 := TX12) (N := 27) B hS9 mf12_isAt wd_1766 (gw B wp_45) wd_1764 (by decide) rfl (fun h => (gd_ne h).1) (c12_isAt X l a0 97 122 M) (by decide) (by decide) (by decide) rfl (by decide) dX12_letters_9 rfl (fun v_1 => ?_)
    refine g_if_eq B 28 dX12_letters_12 (by decide) ?_ ?_
    · exact g_vreturn B hr (by decide) (by decide) rfl dX12_letters_28
    · refine g_aload_n B dX12_letters_15 0 rfl ?_
      refine g_dup B dX12_letters_16 rfl ?_
      refine g_getI (ci := 11) (T0 := TX12) (N := 27) B (by decide) rfl in_11 (k := 10) (by decide) rfl wd_1651 (fun _ h => h) dX12_letters_17 (fun v_2 => ?_)
      refine g_iconst (v := 1) B dX12_letters_20 (by decide) ?_
      refine g_iadd B dX12_letters_21 ?_
      refine g_putI (ci := 11) (T0 := TX12) (N := 27) B (by decide) rfl in_11 tyX12 tyX12_ok nmX12 (k := 10) (by decide) wd_1651 (fun _ h => h) rfl rfl (ty := .int) (by decide +kernel) rfl rfl dX12_letters_22 (fun M_3 => ?_)
      refine g_goto B 4 dX12_letters_25 (by decide) ?_
      refine g_sub (lv' := [(0, .ref a0)]) [0] rfl ?_
      exact ih a0 M_3
set_option maxRecDepth 20000 in
set_option maxHeartbeats 2000000 in
theorem g12_letters {X : gX} {p : Program} {l : Launch} {e : Env} {s : State} {m : MethodId} {args : Array Value} {below : List Frame} {meth : Method} {c : Code} (B : gB X p (rm12_letters) s m args meth c RX12 cX12_letters 1 (rm12_letters)) (hS9 : gS X s) (hr : meth.sig.returnType = none) (a0 : Nat) (M : mMem) : GG X p l e (rm12_letters) s m args below meth c (gP X below args s 0 0 (fun M9 : mMem => (none, M9))) 1 0 0 0 [(0, .ref a0)] [] M (p12_letters a0 M) := by
  unfold p12_letters
  refine g_gd ?_
  refine g_aload_n B dX12_letters_0 0 rfl ?_
  refine g_callV_vw [] (ci := 11) (T0 := TX12) (N := 27) B hS9 mf12_blanks wd_1762 (gw B wp_44) wd_1760 (by decide) rfl (fun h => (gd_ne h).1) (c12_blanks X l a0 M) (by decide) (by decide) (by decide) rfl (by decide) dX12_letters_1 rfl (fun q_1 => ?_)
  refine g_sub (lv' := [(0, .ref a0)]) [0] rfl ?_
  exact (g12_letters_L4 B hS9 hr) gF a0 q_1
theorem c12_letters (X : gX) (l : Launch) (a0 : Nat) (M : mMem) : Con X l yX12_letters cX12_letters 1 (none) rm12_letters (fun M9 : mMem => (none, M9)) [.ref a0] M (p12_letters a0 M) := g_con (own := RX12) (by decide +kernel) rfl (Nat.le_of_ble_eq_true rfl) (fun p e s m args below meth c B hS9 hr hn => g12_letters B hS9 hr a0 M)
theorem mf12_isWord : gMF yX12_isWord cX12_isWord 4 (some .boolean) 1 := ⟨wd_1784, wd_13, ⟨by decide, by decide⟩, by decide +kernel⟩
set_option maxRecDepth 20000 in
set_option maxHeartbeats 2000000 in
theorem g12_isWord_J67 {X : gX} {p : Program} {l : Launch} {e : Env} {s : State} {m : MethodId} {args : Array Value} {below : List Frame} {meth : Method} {c : Code} (B : gB X p (rm12_isWord) s m args meth c RX12 cX12_isWord 4 (rm12_isWord)) (hS9 : gS X s) (hr : meth.sig.returnType = some .boolean) {M : mMem} (x2 : Int32) : GG X p l e (rm12_isWord) s m args below meth c (gP X below args s 0 0 (fun r9 : Int32 => (some (.int r9), M))) 4 0 0 67 [(2, .int x2)] [] M (p12_isWord_J67 M x2) := by
  unfold p12_isWord_J67
  refine g_iload_n B dX12_isWord_67 0 rfl ?_
  exact g_zreturn (f := fun z => z) B hr (by decide) (by decide) rfl dX12_isWord_68
set_option maxRecDepth 20000 in
set_option maxHeartbeats 2000000 in
theorem g12_isWord_J60 {X : gX} {p : Program} {l : Launch} {e : Env} {s : State} {m : MethodId} {args : Array Value} {below : List Frame} {meth : Method} {c : Code} (B : gB X p (rm12_isWord) s m args meth c RX12 cX12_isWord 4 (rm12_isWord)) (hS9 : gS X s) (hr : meth.sig.returnType = some .boolean) {M : mMem} (rec24 : Nat → Nat → Int32 → Int32 → Option Int32) (hrec24 : ∀ (a0 : Nat) (s1 : Nat) (x2 : Int32) (x3 : Int32), GG X p l e (rm12_isWord) s m args below meth c (gP X below args s 0 0 (fun r9 : Int32 => (some (.int r9), M))) 4 0 0 24 [(0, .ref a0), (1, .ref (X.2.2.2.1 s1)), (2, .int x2), (3, .int x3)] [] M (rec24 a0 s1 x2 x3)) (a0 : Nat) (s1 : Nat) (x3 : Int32) (u0 : Int32) : GG X p l e (rm12_isWord) s m args below meth c (gP X below args s 0 0 (fun r9 : Int32 => (some (.int r9), M))) 4 0 0 60 [(0, .ref a0), (1, .ref (X.2.2.2.1 s1)), (3, .int x3)] [.int u0] M (p12_isWord_J60 M rec24 a0 s1 x3 u0) := by
  unfold p12_isWord_J60
  refine g_istore_n (lv' := [(2, .int u0), (0, .ref a0), (1, .ref (X.2.2.2.1 s1)), (3, .int x3)]) B dX12_isWord_60 (by decide) [0, 1, 2, 3] rfl ?_
  refine g_iinc (v := (x3 + 1)) (lv' := [(3, .int (x3 + 1)), (2, .int u0), (0, .ref a0), (1, .ref (X.2.2.2.1 s1))]) B dX12_isWord_61 3 rfl rfl (by decide) [0, 1, 2, 3] rfl ?_
  refine g_goto B 24 dX12_isWord_64 (by decide) ?_
  refine g_sub (lv' := [(0, .ref a0), (1, .ref (X.2.2.2.1 s1)), (2, .int u0), (3, .int (x3 + 1))]) [2, 3, 1, 0] rfl ?_
  exact hrec24 a0 s1 u0 (x3 + 1)
set_option maxRecDepth 20000 in
set_option maxHeartbeats 2000000 in
theorem g12_isWord_L24 {X : gX} {p : Program} {l : Launch} {e : Env} {s : State} {m : MethodId} {args : Array Value} {below : List Frame} {meth : Method} {c : Code} (B : gB X p (rm12_isWord) s m args meth c RX12 cX12_isWord 4 (rm12_isWord)) (hS9 : gS X s) (hr : meth.sig.returnType = some .boolean) {M : mMem} : ∀ (n : Nat) (a0 : Nat) (s1 : Nat) (x2 : Int32) (x3 : Int32), GG X p l e (rm12_isWord) s m args below meth c (gP X below args s 0 0 (fun r9 : Int32 => (some (.int r9), M))) 4 0 0 24 [(0, .ref a0), (1, .ref (X.2.2.2.1 s1)), (2, .int x2), (3, .int x3)] [] M (p12_isWord_L24 M n a0 s1 x2 x3) := by
  intro n
  induction n with
  | zero => intro a0 s1 x2 x3; exact g_none
  | succ n ih =>
    intro a0 s1 x2 x3
    rw [p12_isWord_L24]
    refine g_iload_n B dX12_isWord_24 2 rfl ?_
    refine g_if_eq B 67 dX12_isWord_25 (by decide) ?_ ?_
    · refine g_sub (lv' := [(2, .int x2)]) [2] rfl ?_
      exact g12_isWord_J67 B hS9 hr x2
    · refine g_iload_n B dX12_isWord_28 3 rfl ?_
      refine g_aload_n B dX12_isWord_29 1 rfl ?_
      refine g_slen B hS9 wd_1785 (by decide) (by decide) (by decide) (Nat.le_of_ble_eq_true rfl) dX12_isWord_30 (fun v_1 => ?_)
      refine g_icmp_ge B 67 dX12_isWord_33 (by decide) ?_ ?_
      · refine g_aload_n B dX12_isWord_36 0 rfl ?_
        refine g_getR (ci := 11) (T0 := TX12) (N := 27) B (by decide) rfl in_11 (k := 8) (by decide) rfl wd_1649 (fun _ h => h) dX12_isWord_37 (fun v_2 => ?_)
        refine g_aload_n B dX12_isWord_40 0 rfl ?_
        refine g_getI (ci := 11) (T0 := TX12) (N := 27) B (by decide) rfl in_11 (k := 12) (by decide) rfl wd_1653 (fun _ h => h) dX12_isWord_41 (fun v_3 => ?_)
        refine g_iload_n B dX12_isWord_44 3 rfl ?_
        refine g_iadd B dX12_isWord_45 ?_
        refine g_baload B dX12_isWord_46 (fun v_4 => ?_)
        refine g_aload_n B dX12_isWord_47 1 rfl ?_
        refine g_iload_n B dX12_isWord_48 3 rfl ?_
        refine g_sat B hS9 wd_1786 (by decide) (by decide) (by decide) (Nat.le_of_ble_eq_true rfl) dX12_isWord_49 (fun v_5 => ?_)
        refine g_icmp_ne B 59 dX12_isWord_52 (by decide) ?_ ?_
        · refine g_iconst (v := 1) B dX12_isWord_55 (by decide) ?_
          refine g_goto B 60 dX12_isWord_56 (by decide) ?_
          refine g_sub (lv' := [(0, .ref a0), (1, .ref (X.2.2.2.1 s1)), (3, .int x3)]) [0, 1, 3] rfl ?_
          exact g12_isWord_J60 B hS9 hr (p12_isWord_L24 M n) ih a0 s1 x3 1
        · refine g_iconst (v := 0) B dX12_isWord_59 (by decide) ?_
          refine g_sub (lv' := [(0, .ref a0), (1, .ref (X.2.2.2.1 s1)), (3, .int x3)]) [0, 1, 3] rfl ?_
          exact g12_isWord_J60 B hS9 hr (p12_isWord_L24 M n) ih a0 s1 x3 0
      · refine g_sub (lv' := [(2, .int x2)]) [2] rfl ?_
        exact g12_isWord_J67 B hS9 hr x2
set_option maxRecDepth 20000 in
set_option maxHeartbeats 2000000 in
theorem g12_isWord_J21 {X : gX} {p : Program} {l : Launch} {e : Env} {s : State} {m : MethodId} {args : Array Value} {below : List Frame} {meth : Method} {c : Code} (B : gB X p (rm12_isWord) s m args meth c RX12 cX12_isWord 4 (rm12_isWord)) (hS9 : gS X s) (hr : meth.sig.returnType = some .boolean) {M : mMem} (a0 : Nat) (s1 : Nat) (u0 : Int32) : GG X p l e (rm12_isWord) s m args below meth c (gP X below args s 0 0 (fun r9 : Int32 => (some (.int r9), M))) 4 0 0 21 [(0, .ref a0), (1, .ref (X.2.2.2.1 s1))] [.int u0] M (p12_isWord_J21 M a0 s1 u0) := by
  unfold p12_isWord_J21
  refine g_istore_n (lv' := [(2, .int u0), (0, .ref a0), (1, .ref (X.2.2.2.1 s1))]) B dX12_isWord_21 (by decide) [0, 1, 2] rfl ?_
  refine g_iconst (v := 0) B dX12_isWord_22 (by decide) ?_
  refine g_istore_n (lv' := [(3, .int 0), (2, .int u0), (0, .ref a0), (1, .ref (X.2.2.2.1 s1))]) B dX12_isWord_23 (by decide) [0, 1, 2, 3] rfl ?_
  refine g_sub (lv' := [(0, .ref a0), (1, .ref (X.2.2.2.1 s1)), (2, .int u0), (3, .int 0)]) [2, 3, 1, 0] rfl ?_
  exact (g12_isWord_L24 B hS9 hr) gF a0 s1 u0 0
set_option maxRecDepth 20000 in
set_option maxHeartbeats 2000000 in
theorem g12_isWord {X : gX} {p : Program} {l : Launch} {e : Env} {s : State} {m : MethodId} {args : Array Value} {below : List Frame} {meth : Method} {c : Code} (B : gB X p (rm12_isWord) s m args meth c RX12 cX12_isWord 4 (rm12_isWord)) (hS9 : gS X s) (hr : meth.sig.returnType = some .boolean) {M : mMem} (a0 : Nat) (s1 : Nat) : GG X p l e (rm12_isWord) s m args below meth c (gP X below args s 0 0 (fun r9 : Int32 => (some (.int r9), M))) 4 0 0 0 [(0, .ref a0), (1, .ref (X.2.2.2.1 s1))] [] M (p12_isWord a0 s1 M) := by
  unfold p12_isWord
  refine g_gd ?_
  refine g_aload_n B dX12_isWord_0 0 rfl ?_
  refine g_getI (ci := 11) (T0 := TX12) (N := 27) B (by decide) rfl in_11 (k := 10) (by decide) rfl wd_1651 (fun _ h => h) dX12_isWord_1 (fun v_1 => ?_)
  refine g_aload_n B dX12_isWord_4 0 rfl ?_
  refine g_getI (ci := 11) (T0 := TX12) (N := 27) B (by decide) rfl in_11 (k := 12) (by decide) rfl wd_1653 (fun _ h => h) dX12_isWord_5 (fun v_2 => ?_)
  refine g_isub B dX12_isWord_8 ?_
  refine g_aload_n B dX12_isWord_9 1 rfl ?_
  refine g_slen B hS9 wd_1785 (by decide) (by decide) (by decide) (Nat.le_of_ble_eq_true rfl) dX12_isWord_10 (fun v_3 => ?_)
  refine g_icmp_ne B 20 dX12_isWord_13 (by decide) ?_ ?_
  · refine g_iconst (v := 1) B dX12_isWord_16 (by decide) ?_
    refine g_goto B 21 dX12_isWord_17 (by decide) ?_
    refine g_sub (lv' := [(0, .ref a0), (1, .ref (X.2.2.2.1 s1))]) [0, 1] rfl ?_
    exact g12_isWord_J21 B hS9 hr a0 s1 1
  · refine g_iconst (v := 0) B dX12_isWord_20 (by decide) ?_
    refine g_sub (lv' := [(0, .ref a0), (1, .ref (X.2.2.2.1 s1))]) [0, 1] rfl ?_
    exact g12_isWord_J21 B hS9 hr a0 s1 0
theorem c12_isWord (X : gX) (l : Launch) (a0 : Nat) (s1 : Nat) (M : mMem) : Con X l yX12_isWord cX12_isWord 4 (some .boolean) rm12_isWord (fun r9 : Int32 => (some (.int r9), M)) [.ref a0, .ref (X.2.2.2.1 s1)] M (p12_isWord a0 s1 M) := g_con (own := RX12) (by decide +kernel) rfl (Nat.le_of_ble_eq_true rfl) (fun p e s m args below meth c B hS9 hr hn => g12_isWord B hS9 hr a0 s1)
theorem mf12_passes : gMF yX12_passes cX12_passes 2 (some .boolean) 1 := ⟨wd_1814, wd_13, ⟨by decide, by decide⟩, by decide +kernel⟩
set_option maxRecDepth 20000 in
set_option maxHeartbeats 2000000 in
theorem g12_passes {X : gX} {p : Program} {l : Launch} {e : Env} {s : State} {m : MethodId} {args : Array Value} {below : List Frame} {meth : Method} {c : Code} (B : gB X p (rm12_passes) s m args meth c RX12 cX12_passes 2 (rm12_passes)) (hS9 : gS X s) (hr : meth.sig.returnType = some .boolean) (a0 : Nat) (s1 : Nat) (M : mMem) : GG X p l e (rm12_passes) s m args below meth c (gP X below args s 0 0 (fun r9 : (Int32 × mMem) => (some (.int r9.1), r9.2))) 2 0 0 0 [(0, .ref a0), (1, .ref (X.2.2.2.1 s1))] [] M (p12_passes a0 s1 M) := by
  unfold p12_passes
  refine g_gd ?_
  refine g_aload_n B dX12_passes_0 0 rfl ?_
  refine g_callV_vw [] (ci := 11) (T0 := TX12) (N := 27) B hS9 mf12_letters wd_1774 (gw B wp_47) wd_1772 (by decide) rfl (fun h => (gd_ne h).1) (c12_letters X l a0 M) (by decide) (by decide) (by decide) rfl (by decide) dX12_passes_1 rfl (fun q_1 => ?_)
  refine g_aload_n B dX12_passes_4 0 rfl ?_
  refine g_aload_n B dX12_passes_5 1 rfl ?_
  refine g_callV_ip [.ref (X.2.2.2.1 s1)] (ci := 11) (T0 := TX12) (N := 27) B hS9 mf12_isWord wd_1783 (gw B wp_49) wd_1781 (by decide) rfl (fun h => (gd_ne h).1) (c12_isWord X l a0 s1 q_1) (by decide) (by decide) (by decide) rfl (by decide) dX12_passes_6 rfl (fun v_2 => ?_)
  refine g_if_eq B 14 dX12_passes_9 (by decide) ?_ ?_
  · refine g_aload_n B dX12_passes_14 0 rfl ?_
    refine g_aload_n B dX12_passes_15 0 rfl ?_
    refine g_getI (ci := 11) (T0 := TX12) (N := 27) B (by decide) rfl in_11 (k := 12) (by decide) rfl wd_1653 (fun _ h => h) dX12_passes_16 (fun v_3 => ?_)
    refine g_putI (ci := 11) (T0 := TX12) (N := 27) B (by decide) rfl in_11 tyX12 tyX12_ok nmX12 (k := 10) (by decide) wd_1651 (fun _ h => h) rfl rfl (ty := .int) (by decide +kernel) rfl rfl dX12_passes_19 (fun M_4 => ?_)
    refine g_iconst (v := 0) B dX12_passes_22 (by decide) ?_
    exact g_ireturn B hr rfl (by decide) (by decide) rfl dX12_passes_23
  · refine g_iconst (v := 1) B dX12_passes_12 (by decide) ?_
    exact g_ireturn B hr rfl (by decide) (by decide) rfl dX12_passes_13
theorem c12_passes (X : gX) (l : Launch) (a0 : Nat) (s1 : Nat) (M : mMem) : Con X l yX12_passes cX12_passes 2 (some .boolean) rm12_passes (fun r9 : (Int32 × mMem) => (some (.int r9.1), r9.2)) [.ref a0, .ref (X.2.2.2.1 s1)] M (p12_passes a0 s1 M) := g_con (own := RX12) (by decide +kernel) rfl (Nat.le_of_ble_eq_true rfl) (fun p e s m args below meth c B hS9 hr hn => g12_passes B hS9 hr a0 s1 M)
theorem mf12_sign : gMF yX12_sign cX12_sign 2 (some .boolean) 1 := ⟨wd_1900, wd_13, ⟨by decide, by decide⟩, by decide +kernel⟩
set_option maxRecDepth 20000 in
set_option maxHeartbeats 2000000 in
theorem g12_sign {X : gX} {p : Program} {l : Launch} {e : Env} {s : State} {m : MethodId} {args : Array Value} {below : List Frame} {meth : Method} {c : Code} (B : gB X p (rm12_sign) s m args meth c RX12 cX12_sign 2 (rm12_sign)) (hS9 : gS X s) (hr : meth.sig.returnType = some .boolean) (a0 : Nat) (x1 : Int32) (M : mMem) : GG X p l e (rm12_sign) s m args below meth c (gP X below args s 0 0 (fun r9 : (Int32 × mMem) => (some (.int r9.1), r9.2))) 2 0 0 0 [(0, .ref a0), (1, .int x1)] [] M (p12_sign a0 x1 M) := by
  unfold p12_sign
  refine g_gd ?_
  refine g_aload_n B dX12_sign_0 0 rfl ?_
  refine g_callV_vw [] (ci := 11) (T0 := TX12) (N := 27) B hS9 mf12_blanks wd_1762 (gw B wp_44) wd_1760 (by decide) rfl (fun h => (gd_ne h).1) (c12_blanks X l a0 M) (by decide) (by decide) (by decide) rfl (by decide) dX12_sign_1 rfl (fun q_1 => ?_)
  refine g_aload_n B dX12_sign_4 0 rfl ?_
  refine g_iload_n B dX12_sign_5 1 rfl ?_
  refine g_iload_n B dX12_sign_6 1 rfl ?_
  refine g_callV_ip [.int x1, .int x1] (ci := 11) (T0 := TX12) (N := 27) B hS9 mf12_isAt wd_1766 (gw B wp_45) wd_1764 (by decide) rfl (fun h => (gd_ne h).1) (c12_isAt X l a0 x1 x1 q_1) (by decide) (by decide) (by decide) rfl (by decide) dX12_sign_7 rfl (fun v_2 => ?_)
  refine g_if_ne B 15 dX12_sign_10 (by decide) ?_ ?_
  · refine g_iconst (v := 0) B dX12_sign_13 (by decide) ?_
    exact g_ireturn B hr rfl (by decide) (by decide) rfl dX12_sign_14
  · refine g_aload_n B dX12_sign_15 0 rfl ?_
    refine g_dup B dX12_sign_16 rfl ?_
    refine g_getI (ci := 11) (T0 := TX12) (N := 27) B (by decide) rfl in_11 (k := 10) (by decide) rfl wd_1651 (fun _ h => h) dX12_sign_17 (fun v_3 => ?_)
    refine g_iconst (v := 1) B dX12_sign_20 (by decide) ?_
    refine g_iadd B dX12_sign_21 ?_
    refine g_putI (ci := 11) (T0 := TX12) (N := 27) B (by decide) rfl in_11 tyX12 tyX12_ok nmX12 (k := 10) (by decide) wd_1651 (fun _ h => h) rfl rfl (ty := .int) (by decide +kernel) rfl rfl dX12_sign_22 (fun M_4 => ?_)
    refine g_iconst (v := 1) B dX12_sign_25 (by decide) ?_
    exact g_ireturn B hr rfl (by decide) (by decide) rfl dX12_sign_26
theorem c12_sign (X : gX) (l : Launch) (a0 : Nat) (x1 : Int32) (M : mMem) : Con X l yX12_sign cX12_sign 2 (some .boolean) rm12_sign (fun r9 : (Int32 × mMem) => (some (.int r9.1), r9.2)) [.ref a0, .int x1] M (p12_sign a0 x1 M) := g_con (own := RX12) (by decide +kernel) rfl (Nat.le_of_ble_eq_true rfl) (fun p e s m args below meth c B hS9 hr hn => g12_sign B hS9 hr a0 x1 M)
theorem mf12_number : gMF yX12_number cX12_number 4 (some .int) 2 := ⟨wd_1805, wd_13, ⟨by decide, by decide⟩, by decide +kernel⟩
set_option maxRecDepth 20000 in
set_option maxHeartbeats 2000000 in
theorem g12_number_J51 {X : gX} {p : Program} {l : Launch} {e : Env} {s : State} {m : MethodId} {args : Array Value} {below : List Frame} {meth : Method} {c : Code} (B : gB X p (rm12_number) s m args meth c RX12 cX12_number 4 (rm12_number)) (hS9 : gS X s) (hr : meth.sig.returnType = some .int) (rec6 : Nat → Int32 → Int32 → Int32 → mMem → Option (Int32 × mMem)) (hrec6 : ∀ (a0 : Nat) (x1 : Int32) (x2 : Int32) (x3 : Int32) (M : mMem), GG X p l e (rm12_number) s m args below meth c (gP X below args s 0 0 (fun r9 : (Int32 × mMem) => (some (.int r9.1), r9.2))) 4 0 0 6 [(0, .ref a0), (1, .int x1), (2, .int x2), (3, .int x3)] [] M (rec6 a0 x1 x2 x3 M)) (a0 : Nat) (x1 : Int32) (x2 : Int32) (u0 : Int32) (M : mMem) : GG X p l e (rm12_number) s m args below meth c (gP X below args s 0 0 (fun r9 : (Int32 × mMem) => (some (.int r9.1), r9.2))) 4 0 0 51 [(0, .ref a0), (1, .int x1), (2, .int x2)] [.int u0] M (p12_number_J51 rec6 a0 x1 x2 u0 M) := by
  unfold p12_number_J51
  refine g_istore_n (lv' := [(3, .int u0), (0, .ref a0), (1, .int x1), (2, .int x2)]) B dX12_number_51 (by decide) [0, 1, 2, 3] rfl ?_
  refine g_aload_n B dX12_number_52 1 rfl ?_
  refine g_dup B dX12_number_53 rfl ?_
  refine g_getI (ci := 11) (T0 := TX12) (N := 27) B (by decide) rfl in_11 (k := 10) (by decide) rfl wd_1651 (fun _ h => h) dX12_number_54 (fun v_1 => ?_)
  refine g_iconst (v := 1) B dX12_number_57 (by decide) ?_
  refine g_iadd B dX12_number_58 ?_
  refine g_putI (ci := 11) (T0 := TX12) (N := 27) B (by decide) rfl in_11 tyX12 tyX12_ok nmX12 (k := 10) (by decide) wd_1651 (fun _ h => h) rfl rfl (ty := .int) (by decide +kernel) rfl rfl dX12_number_59 (fun M_2 => ?_)
  refine g_goto B 6 dX12_number_62 (by decide) ?_
  refine g_sub (lv' := [(0, .ref a0), (1, .int x1), (2, .int x2), (3, .int u0)]) [1, 2, 3, 0] rfl ?_
  exact hrec6 a0 x1 x2 u0 M_2
set_option maxRecDepth 20000 in
set_option maxHeartbeats 2000000 in
theorem g12_number_L6 {X : gX} {p : Program} {l : Launch} {e : Env} {s : State} {m : MethodId} {args : Array Value} {below : List Frame} {meth : Method} {c : Code} (B : gB X p (rm12_number) s m args meth c RX12 cX12_number 4 (rm12_number)) (hS9 : gS X s) (hr : meth.sig.returnType = some .int) (k65 : Nat → Int32 → Int32 → Int32 → mMem → Option (Int32 × mMem)) (hk65 : ∀ (a0 : Nat) (x1 : Int32) (x2 : Int32) (x3 : Int32) (M : mMem), GG X p l e (rm12_number) s m args below meth c (gP X below args s 0 0 (fun r9 : (Int32 × mMem) => (some (.int r9.1), r9.2))) 4 0 0 65 [(0, .ref a0), (1, .int x1), (2, .int x2), (3, .int x3)] [] M (k65 a0 x1 x2 x3 M)) : ∀ (n : Nat) (a0 : Nat) (x1 : Int32) (x2 : Int32) (x3 : Int32) (M : mMem), GG X p l e (rm12_number) s m args below meth c (gP X below args s 0 0 (fun r9 : (Int32 × mMem) => (some (.int r9.1), r9.2))) 4 0 0 6 [(0, .ref a0), (1, .int x1), (2, .int x2), (3, .int x3)] [] M (p12_number_L6 k65 n a0 x1 x2 x3 M) := by
  intro n
  induction n with
  | zero => intro a0 x1 x2 x3 M; exact g_none
  | succ n ih =>
    intro a0 x1 x2 x3 M
    rw [p12_number_L6]
    refine g_aload_n B dX12_number_6 0 rfl ?_
    refine g_bipush (v := 48) B dX12_number_7 (by decide) ?_
    refine g_bipush (v := 57) B dX12_number_9 (by decide) ?_
    refine g_callV_ip [.int 48, .int 57] (ci := 11) (T0 := TX12) (N := 27) B hS9 mf12_isAt wd_1766 (gw B wp_45) wd_1764 (by decide) rfl (fun h => (gd_ne h).1) (c12_isAt X l a0 48 57 M) (by decide) (by decide) (by decide) rfl (by decide) dX12_number_11 rfl (fun v_1 => ?_)
    refine g_if_eq B 65 dX12_number_14 (by decide) ?_ ?_
    · refine g_sub (lv' := [(0, .ref a0), (1, .int x1), (2, .int x2), (3, .int x3)]) [0, 1, 2, 3] rfl ?_
      exact hk65 a0 x1 x2 x3 M
    · refine g_aload_n B dX12_number_17 0 rfl ?_
      refine g_getI (ci := 11) (T0 := TX12) (N := 27) B (by decide) rfl in_11 (k := 10) (by decide) rfl wd_1651 (fun _ h => h) dX12_number_18 (fun v_2 => ?_)
      refine g_aload_n B dX12_number_21 0 rfl ?_
      refine g_getI (ci := 11) (T0 := TX12) (N := 27) B (by decide) rfl in_11 (k := 12) (by decide) rfl wd_1653 (fun _ h => h) dX12_number_22 (fun v_3 => ?_)
      refine g_isub B dX12_number_25 ?_
      refine g_iconst (v := 3) B dX12_number_26 (by decide) ?_
      refine g_icmp_ge B 50 dX12_number_27 (by decide) ?_ ?_
      · refine g_bipush (v := 10) B dX12_number_30 (by decide) ?_
        refine g_iload_n B dX12_number_32 3 rfl ?_
        refine g_imul B dX12_number_33 ?_
        refine g_aload_n B dX12_number_34 0 rfl ?_
        refine g_getR (ci := 11) (T0 := TX12) (N := 27) B (by decide) rfl in_11 (k := 8) (by decide) rfl wd_1649 (fun _ h => h) dX12_number_35 (fun v_4 => ?_)
        refine g_aload_n B dX12_number_38 0 rfl ?_
        refine g_getI (ci := 11) (T0 := TX12) (N := 27) B (by decide) rfl in_11 (k := 10) (by decide) rfl wd_1651 (fun _ h => h) dX12_number_39 (fun v_5 => ?_)
        refine g_baload B dX12_number_42 (fun v_6 => ?_)
        refine g_iadd B dX12_number_43 ?_
        refine g_bipush (v := 48) B dX12_number_44 (by decide) ?_
        refine g_isub B dX12_number_46 ?_
        refine g_goto B 51 dX12_number_47 (by decide) ?_
        refine g_sub (lv' := [(0, .ref a0), (1, .int x1), (2, .int x2)]) [0, 1, 2] rfl ?_
        exact g12_number_J51 B hS9 hr (p12_number_L6 k65 n) ih a0 x1 x2 ((((10 : Int32) * x3) + v_6) - 48) M
      · refine g_iload_n B dX12_number_50 3 rfl ?_
        refine g_sub (lv' := [(0, .ref a0), (1, .int x1), (2, .int x2)]) [0, 1, 2] rfl ?_
        exact g12_number_J51 B hS9 hr (p12_number_L6 k65 n) ih a0 x1 x2 x3 M
set_option maxRecDepth 20000 in
set_option maxHeartbeats 2000000 in
theorem g12_number_J104 {X : gX} {p : Program} {l : Launch} {e : Env} {s : State} {m : MethodId} {args : Array Value} {below : List Frame} {meth : Method} {c : Code} (B : gB X p (rm12_number) s m args meth c RX12 cX12_number 4 (rm12_number)) (hS9 : gS X s) (hr : meth.sig.returnType = some .int) (u0 : Int32) (M : mMem) : GG X p l e (rm12_number) s m args below meth c (gP X below args s 0 0 (fun r9 : (Int32 × mMem) => (some (.int r9.1), r9.2))) 4 0 0 104 [] [.int u0] M (p12_number_J104 u0 M) := by
  unfold p12_number_J104
  exact g_ireturn B hr rfl (by decide) (by decide) rfl dX12_number_104
set_option maxRecDepth 20000 in
set_option maxHeartbeats 2000000 in
theorem g12_number_J99 {X : gX} {p : Program} {l : Launch} {e : Env} {s : State} {m : MethodId} {args : Array Value} {below : List Frame} {meth : Method} {c : Code} (B : gB X p (rm12_number) s m args meth c RX12 cX12_number 4 (rm12_number)) (hS9 : gS X s) (hr : meth.sig.returnType = some .int) (M : mMem) : GG X p l e (rm12_number) s m args below meth c (gP X below args s 0 0 (fun r9 : (Int32 × mMem) => (some (.int r9.1), r9.2))) 4 0 0 99 [] [] M (p12_number_J99 M) := by
  unfold p12_number_J99
  refine g_iconst (v := (-1)) B dX12_number_99 (by decide) ?_
  refine g_goto B 104 dX12_number_100 (by decide) ?_
  refine g_sub (lv' := []) [] rfl ?_
  exact g12_number_J104 B hS9 hr (-1) M
set_option maxRecDepth 20000 in
set_option maxHeartbeats 2000000 in
theorem g12_number_J65 {X : gX} {p : Program} {l : Launch} {e : Env} {s : State} {m : MethodId} {args : Array Value} {below : List Frame} {meth : Method} {c : Code} (B : gB X p (rm12_number) s m args meth c RX12 cX12_number 4 (rm12_number)) (hS9 : gS X s) (hr : meth.sig.returnType = some .int) (a0 : Nat) (x1 : Int32) (x2 : Int32) (x3 : Int32) (M : mMem) : GG X p l e (rm12_number) s m args below meth c (gP X below args s 0 0 (fun r9 : (Int32 × mMem) => (some (.int r9.1), r9.2))) 4 0 0 65 [(0, .ref a0), (1, .int x1), (2, .int x2), (3, .int x3)] [] M (p12_number_J65 a0 x1 x2 x3 M) := by
  unfold p12_number_J65
  refine g_aload_n B dX12_number_65 0 rfl ?_
  refine g_getI (ci := 11) (T0 := TX12) (N := 27) B (by decide) rfl in_11 (k := 10) (by decide) rfl wd_1651 (fun _ h => h) dX12_number_66 (fun v_1 => ?_)
  refine g_aload_n B dX12_number_69 0 rfl ?_
  refine g_getI (ci := 11) (T0 := TX12) (N := 27) B (by decide) rfl in_11 (k := 12) (by decide) rfl wd_1653 (fun _ h => h) dX12_number_70 (fun v_2 => ?_)
  refine g_icmp_eq B 99 dX12_number_73 (by decide) ?_ ?_
  · refine g_sub (lv' := []) [] rfl ?_
    exact g12_number_J99 B hS9 hr M
  · refine g_aload_n B dX12_number_76 0 rfl ?_
    refine g_getI (ci := 11) (T0 := TX12) (N := 27) B (by decide) rfl in_11 (k := 10) (by decide) rfl wd_1651 (fun _ h => h) dX12_number_77 (fun v_3 => ?_)
    refine g_aload_n B dX12_number_80 0 rfl ?_
    refine g_getI (ci := 11) (T0 := TX12) (N := 27) B (by decide) rfl in_11 (k := 12) (by decide) rfl wd_1653 (fun _ h => h) dX12_number_81 (fun v_4 => ?_)
    refine g_isub B dX12_number_84 ?_
    refine g_iconst (v := 3) B dX12_number_85 (by decide) ?_
    refine g_icmp_gt B 99 dX12_number_86 (by decide) ?_ ?_
    · refine g_sub (lv' := []) [] rfl ?_
      exact g12_number_J99 B hS9 hr M
    · refine g_iload_n B dX12_number_89 3 rfl ?_
      refine g_iload_n B dX12_number_90 1 rfl ?_
      refine g_icmp_lt B 99 dX12_number_91 (by decide) ?_ ?_
      · refine g_sub (lv' := []) [] rfl ?_
        exact g12_number_J99 B hS9 hr M
      · refine g_iload_n B dX12_number_94 3 rfl ?_
        refine g_iload_n B dX12_number_95 2 rfl ?_
        refine g_icmp_le B 103 dX12_number_96 (by decide) ?_ ?_
        · refine g_sub (lv' := []) [] rfl ?_
          exact g12_number_J99 B hS9 hr M
        · refine g_iload_n B dX12_number_103 3 rfl ?_
          refine g_sub (lv' := []) [] rfl ?_
          exact g12_number_J104 B hS9 hr x3 M
set_option maxRecDepth 20000 in
set_option maxHeartbeats 2000000 in
theorem g12_number {X : gX} {p : Program} {l : Launch} {e : Env} {s : State} {m : MethodId} {args : Array Value} {below : List Frame} {meth : Method} {c : Code} (B : gB X p (rm12_number) s m args meth c RX12 cX12_number 4 (rm12_number)) (hS9 : gS X s) (hr : meth.sig.returnType = some .int) (a0 : Nat) (x1 : Int32) (x2 : Int32) (M : mMem) : GG X p l e (rm12_number) s m args below meth c (gP X below args s 0 0 (fun r9 : (Int32 × mMem) => (some (.int r9.1), r9.2))) 4 0 0 0 [(0, .ref a0), (1, .int x1), (2, .int x2)] [] M (p12_number a0 x1 x2 M) := by
  unfold p12_number
  refine g_gd ?_
  refine g_aload_n B dX12_number_0 0 rfl ?_
  refine g_callV_vw [] (ci := 11) (T0 := TX12) (N := 27) B hS9 mf12_blanks wd_1762 (gw B wp_44) wd_1760 (by decide) rfl (fun h => (gd_ne h).1) (c12_blanks X l a0 M) (by decide) (by decide) (by decide) rfl (by decide) dX12_number_1 rfl (fun q_1 => ?_)
  refine g_iconst (v := 0) B dX12_number_4 (by decide) ?_
  refine g_istore_n (lv' := [(3, .int 0), (0, .ref a0), (1, .int x1), (2, .int x2)]) B dX12_number_5 (by decide) [0, 1, 2, 3] rfl ?_
  refine g_sub (lv' := [(0, .ref a0), (1, .int x1), (2, .int x2), (3, .int 0)]) [1, 2, 3, 0] rfl ?_
  exact (g12_number_L6 B hS9 hr p12_number_J65 (fun e0 e1 e2 e3 e4 => g12_number_J65 B hS9 hr e0 e1 e2 e3 e4)) gF a0 x1 x2 0 q_1
theorem c12_number (X : gX) (l : Launch) (a0 : Nat) (x1 : Int32) (x2 : Int32) (M : mMem) : Con X l yX12_number cX12_number 4 (some .int) rm12_number (fun r9 : (Int32 × mMem) => (some (.int r9.1), r9.2)) [.ref a0, .int x1, .int x2] M (p12_number a0 x1 x2 M) := g_con (own := RX12) (by decide +kernel) rfl (Nat.le_of_ble_eq_true rfl) (fun p e s m args below meth c B hS9 hr hn => g12_number B hS9 hr a0 x1 x2 M)
theorem mf12_after : gMF yX12_after cX12_after 4 (some .int) 3 := ⟨wd_1801, wd_13, ⟨by decide, by decide⟩, by decide +kernel⟩
set_option maxRecDepth 20000 in
set_option maxHeartbeats 2000000 in
theorem g12_after_J22 {X : gX} {p : Program} {l : Launch} {e : Env} {s : State} {m : MethodId} {args : Array Value} {below : List Frame} {meth : Method} {c : Code} (B : gB X p (rm12_after) s m args meth c RX12 cX12_after 4 (rm12_after)) (hS9 : gS X s) (hr : meth.sig.returnType = some .int) (u0 : Int32) (M : mMem) : GG X p l e (rm12_after) s m args below meth c (gP X below args s 0 0 (fun r9 : (Int32 × mMem) => (some (.int r9.1), r9.2))) 4 0 0 22 [] [.int u0] M (p12_after_J22 u0 M) := by
  unfold p12_after_J22
  exact g_ireturn B hr rfl (by decide) (by decide) rfl dX12_after_22
set_option maxRecDepth 20000 in
set_option maxHeartbeats 2000000 in
theorem g12_after {X : gX} {p : Program} {l : Launch} {e : Env} {s : State} {m : MethodId} {args : Array Value} {below : List Frame} {meth : Method} {c : Code} (B : gB X p (rm12_after) s m args meth c RX12 cX12_after 4 (rm12_after)) (hS9 : gS X s) (hr : meth.sig.returnType = some .int) (a0 : Nat) (s1 : Nat) (x2 : Int32) (x3 : Int32) (M : mMem) : GG X p l e (rm12_after) s m args below meth c (gP X below args s 0 0 (fun r9 : (Int32 × mMem) => (some (.int r9.1), r9.2))) 4 0 0 0 [(0, .ref a0), (1, .ref (X.2.2.2.1 s1)), (2, .int x2), (3, .int x3)] [] M (p12_after a0 s1 x2 x3 M) := by
  unfold p12_after
  refine g_gd ?_
  refine g_aload_n B dX12_after_0 0 rfl ?_
  refine g_callV_vw [] (ci := 11) (T0 := TX12) (N := 27) B hS9 mf12_letters wd_1774 (gw B wp_47) wd_1772 (by decide) rfl (fun h => (gd_ne h).1) (c12_letters X l a0 M) (by decide) (by decide) (by decide) rfl (by decide) dX12_after_1 rfl (fun q_1 => ?_)
  refine g_aload_n B dX12_after_4 0 rfl ?_
  refine g_aload_n B dX12_after_5 1 rfl ?_
  refine g_callV_ip [.ref (X.2.2.2.1 s1)] (ci := 11) (T0 := TX12) (N := 27) B hS9 mf12_isWord wd_1783 (gw B wp_49) wd_1781 (by decide) rfl (fun h => (gd_ne h).1) (c12_isWord X l a0 s1 q_1) (by decide) (by decide) (by decide) rfl (by decide) dX12_after_6 rfl (fun v_2 => ?_)
  refine g_if_eq B 21 dX12_after_9 (by decide) ?_ ?_
  · refine g_iconst (v := (-1)) B dX12_after_21 (by decide) ?_
    refine g_sub (lv' := []) [] rfl ?_
    exact g12_after_J22 B hS9 hr (-1) q_1
  · refine g_aload_n B dX12_after_12 0 rfl ?_
    refine g_iload_n B dX12_after_13 2 rfl ?_
    refine g_iload_n B dX12_after_14 3 rfl ?_
    refine g_callV_iw [.int x2, .int x3] (ci := 11) (T0 := TX12) (N := 27) B hS9 mf12_number wd_1804 (gw B wp_53) wd_1802 (by decide) rfl (fun h => (gd_ne h).1) (c12_number X l a0 x2 x3 q_1) (by decide) (by decide) (by decide) rfl (by decide) dX12_after_15 rfl (fun q_3 => ?_)
    refine g_goto B 22 dX12_after_18 (by decide) ?_
    refine g_sub (lv' := []) [] rfl ?_
    exact g12_after_J22 B hS9 hr q_3.1 q_3.2
theorem c12_after (X : gX) (l : Launch) (a0 : Nat) (s1 : Nat) (x2 : Int32) (x3 : Int32) (M : mMem) : Con X l yX12_after cX12_after 4 (some .int) rm12_after (fun r9 : (Int32 × mMem) => (some (.int r9.1), r9.2)) [.ref a0, .ref (X.2.2.2.1 s1), .int x2, .int x3] M (p12_after a0 s1 x2 x3 M) := g_con (own := RX12) (by decide +kernel) rfl (Nat.le_of_ble_eq_true rfl) (fun p e s m args below meth c B hS9 hr hn => g12_after B hS9 hr a0 s1 x2 x3 M)
theorem mf12_fault : gMF yX12_fault cX12_fault 1 (some .int) 0 := ⟨wd_1747, wd_13, ⟨by decide, by decide⟩, by decide +kernel⟩
set_option maxRecDepth 20000 in
set_option maxHeartbeats 2000000 in
theorem g12_fault {X : gX} {p : Program} {l : Launch} {e : Env} {s : State} {m : MethodId} {args : Array Value} {below : List Frame} {meth : Method} {c : Code} (B : gB X p (rm12_fault) s m args meth c RX12 cX12_fault 1 (rm12_fault)) (hS9 : gS X s) (hr : meth.sig.returnType = some .int) (a0 : Nat) (M : mMem) : GG X p l e (rm12_fault) s m args below meth c (gP X below args s 0 0 (fun r9 : (Int32 × mMem) => (some (.int r9.1), r9.2))) 1 0 0 0 [(0, .ref a0)] [] M (p12_fault a0 M) := by
  unfold p12_fault
  refine g_gd ?_
  refine g_aload_n B dX12_fault_0 0 rfl ?_
  refine g_iconst (v := 0) B dX12_fault_1 (by decide) ?_
  refine g_putI (ci := 11) (T0 := TX12) (N := 27) B (by decide) rfl in_11 tyX12 tyX12_ok nmX12 (k := 0) (by decide) wd_1641 (fun _ h => h) rfl rfl (ty := .int) (by decide +kernel) rfl rfl dX12_fault_2 (fun M_1 => ?_)
  refine g_aload_n B dX12_fault_5 0 rfl ?_
  refine g_getI (ci := 11) (T0 := TX12) (N := 27) B (by decide) rfl in_11 (k := 14) (by decide) rfl wd_1655 (fun _ h => h) dX12_fault_6 (fun v_2 => ?_)
  exact g_ireturn B hr rfl (by decide) (by decide) rfl dX12_fault_9
theorem c12_fault (X : gX) (l : Launch) (a0 : Nat) (M : mMem) : Con X l yX12_fault cX12_fault 1 (some .int) rm12_fault (fun r9 : (Int32 × mMem) => (some (.int r9.1), r9.2)) [.ref a0] M (p12_fault a0 M) := g_con (own := RX12) (by decide +kernel) rfl (Nat.le_of_ble_eq_true rfl) (fun p e s m args below meth c B hS9 hr hn => g12_fault B hS9 hr a0 M)
theorem mf12_uses : gMF yX12_uses cX12_uses 1 (none) 0 := ⟨wd_1759, wd_13, ⟨by decide, by decide⟩, by decide +kernel⟩
set_option maxRecDepth 20000 in
set_option maxHeartbeats 2000000 in
theorem g12_uses {X : gX} {p : Program} {l : Launch} {e : Env} {s : State} {m : MethodId} {args : Array Value} {below : List Frame} {meth : Method} {c : Code} (B : gB X p (rm12_uses) s m args meth c RX12 cX12_uses 1 (rm12_uses)) (hS9 : gS X s) (hr : meth.sig.returnType = none) (a0 : Nat) (M : mMem) : GG X p l e (rm12_uses) s m args below meth c (gP X below args s 0 0 (fun M9 : mMem => (none, M9))) 1 0 0 0 [(0, .ref a0)] [] M (p12_uses a0 M) := by
  unfold p12_uses
  refine g_gd ?_
  refine g_aload_n B dX12_uses_0 0 rfl ?_
  refine g_iconst (v := 0) B dX12_uses_1 (by decide) ?_
  refine g_putI (ci := 11) (T0 := TX12) (N := 27) B (by decide) rfl in_11 tyX12 tyX12_ok nmX12 (k := 0) (by decide) wd_1641 (fun _ h => h) rfl rfl (ty := .int) (by decide +kernel) rfl rfl dX12_uses_2 (fun M_1 => ?_)
  refine g_aload_n B dX12_uses_5 0 rfl ?_
  refine g_aload_n B dX12_uses_6 0 rfl ?_
  refine g_getI (ci := 11) (T0 := TX12) (N := 27) B (by decide) rfl in_11 (k := 9) (by decide) rfl wd_1650 (fun _ h => h) dX12_uses_7 (fun v_2 => ?_)
  refine g_putI (ci := 11) (T0 := TX12) (N := 27) B (by decide) rfl in_11 tyX12 tyX12_ok nmX12 (k := 11) (by decide) wd_1652 (fun _ h => h) rfl rfl (ty := .int) (by decide +kernel) rfl rfl dX12_uses_10 (fun M_3 => ?_)
  refine g_aload_n B dX12_uses_13 0 rfl ?_
  refine g_iconst (v := 0) B dX12_uses_14 (by decide) ?_
  refine g_putI (ci := 11) (T0 := TX12) (N := 27) B (by decide) rfl in_11 tyX12 tyX12_ok nmX12 (k := 9) (by decide) wd_1650 (fun _ h => h) rfl rfl (ty := .int) (by decide +kernel) rfl rfl dX12_uses_15 (fun M_4 => ?_)
  refine g_aload_n B dX12_uses_18 0 rfl ?_
  refine g_iconst (v := 0) B dX12_uses_19 (by decide) ?_
  refine g_putI (ci := 11) (T0 := TX12) (N := 27) B (by decide) rfl in_11 tyX12 tyX12_ok nmX12 (k := 10) (by decide) wd_1651 (fun _ h => h) rfl rfl (ty := .int) (by decide +kernel) rfl rfl dX12_uses_20 (fun M_5 => ?_)
  exact g_vreturn B hr (by decide) (by decide) rfl dX12_uses_23
theorem c12_uses (X : gX) (l : Launch) (a0 : Nat) (M : mMem) : Con X l yX12_uses cX12_uses 1 (none) rm12_uses (fun M9 : mMem => (none, M9)) [.ref a0] M (p12_uses a0 M) := g_con (own := RX12) (by decide +kernel) rfl (Nat.le_of_ble_eq_true rfl) (fun p e s m args below meth c B hS9 hr hn => g12_uses B hS9 hr a0 M)
