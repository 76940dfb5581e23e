theorem mf12_toAge : gMF yX12_toAge cX12_toAge 4 (some .int) 3 := ⟨wd_2144, wd_13, ⟨by decide, by decide⟩, by decide +kernel⟩
set_option maxRecDepth 20000 in
set_option maxHeartbeats 2000000 in
theorem g12_toAge_J40 {X : gX} {p : Program} {l : Launch} {e : Env} {s : State} {m : MethodId} {args : Array Value} {below : List Frame} {meth : Method} {c : Code} (B : gB X p (rm12_toAge) s m args meth c RX12 cX12_toAge 4 (rm12_toAge)) (hS9 : gS X s) (hr : meth.sig.returnType = some .int) (u0 : Int32) (M : mMem) : GG X p l e (rm12_toAge) s m args below meth c (gP X below args s 0 0 (fun r9 : (Int32 × mMem) => (some (.int r9.1), r9.2))) 4 0 0 40 [] [.int u0] M (p12_toAge_J40 u0 M) := by
  unfold p12_toAge_J40
  exact g_ireturn B hr rfl (by decide) (by decide) rfl dX12_toAge_40
set_option maxRecDepth 20000 in
set_option maxHeartbeats 2000000 in
theorem g12_toAge {X : gX} {p : Program} {l : Launch} {e : Env} {s : State} {m : MethodId} {args : Array Value} {below : List Frame} {meth : Method} {c : Code} (B : gB X p (rm12_toAge) s m args meth c RX12 cX12_toAge 4 (rm12_toAge)) (hS9 : gS X s) (hr : meth.sig.returnType = some .int) (a0 : Nat) (x1 : Int32) (x2 : Int32) (x3 : Int32) (M : mMem) : GG X p l e (rm12_toAge) s m args below meth c (gP X below args s 0 0 (fun r9 : (Int32 × mMem) => (some (.int r9.1), r9.2))) 4 0 0 0 [(0, .ref a0), (1, .int x1), (2, .int x2), (3, .int x3)] [] M (p12_toAge a0 x1 x2 x3 M) := by
  unfold p12_toAge
  refine g_gd ?_
  refine g_aload_n B dX12_toAge_0 0 rfl ?_
  refine g_iload_n B dX12_toAge_1 1 rfl ?_
  refine g_ldc B dX12_toAge_2 wd_1815 ?_
  refine g_callV_vw [.int x1, .int 1000000] (ci := 11) (T0 := TX12) (N := 27) B hS9 mf12_looksRound wd_2147 (gw B wp_107) wd_2145 (by decide) rfl (fun h => (gd_ne h).1) (c12_looksRound X l a0 x1 1000000 M) (by decide) (by decide) (by decide) rfl (by decide) dX12_toAge_4 rfl (fun q_1 => ?_)
  refine g_iload_n B dX12_toAge_7 3 rfl ?_
  refine g_if_eq B 34 dX12_toAge_8 (by decide) ?_ ?_
  · refine g_aload_n B dX12_toAge_34 0 rfl ?_
    refine g_getR (ci := 11) (T0 := TX12) (N := 27) B (by decide) rfl in_11 (k := 18) (by decide) rfl wd_1659 (fun _ h => h) dX12_toAge_35 (fun v_2 => ?_)
    refine g_iload_n B dX12_toAge_38 2 rfl ?_
    refine g_iaload B dX12_toAge_39 (fun v_3 => ?_)
    refine g_sub (lv' := []) [] rfl ?_
    exact g12_toAge_J40 B hS9 hr v_3 q_1
  · refine g_aload_n B dX12_toAge_11 0 rfl ?_
    refine g_getR (ci := 11) (T0 := TX12) (N := 27) B (by decide) rfl in_11 (k := 18) (by decide) rfl wd_1659 (fun _ h => h) dX12_toAge_12 (fun v_4 => ?_)
    refine g_iload_n B dX12_toAge_15 2 rfl ?_
    refine g_iaload B dX12_toAge_16 (fun v_5 => ?_)
    refine g_iconst (v := (-1)) B dX12_toAge_17 (by decide) ?_
    refine g_icmp_ne B 25 dX12_toAge_18 (by decide) ?_ ?_
    · refine g_iconst (v := (-1)) B dX12_toAge_21 (by decide) ?_
      refine g_goto B 40 dX12_toAge_22 (by decide) ?_
      refine g_sub (lv' := []) [] rfl ?_
      exact g12_toAge_J40 B hS9 hr (-1) q_1
    · refine g_aload_n B dX12_toAge_25 0 rfl ?_
      refine g_getR (ci := 11) (T0 := TX12) (N := 27) B (by decide) rfl in_11 (k := 19) (by decide) rfl wd_1660 (fun _ h => h) dX12_toAge_26 (fun v_6 => ?_)
      refine g_iload_n B dX12_toAge_29 2 rfl ?_
      refine g_iaload B dX12_toAge_30 (fun v_7 => ?_)
      refine g_goto B 40 dX12_toAge_31 (by decide) ?_
      refine g_sub (lv' := []) [] rfl ?_
      exact g12_toAge_J40 B hS9 hr v_7 q_1
theorem c12_toAge (X : gX) (l : Launch) (a0 : Nat) (x1 : Int32) (x2 : Int32) (x3 : Int32) (M : mMem) : Con X l yX12_toAge cX12_toAge 4 (some .int) rm12_toAge (fun r9 : (Int32 × mMem) => (some (.int r9.1), r9.2)) [.ref a0, .int x1, .int x2, .int x3] M (p12_toAge a0 x1 x2 x3 M) := g_con (own := RX12) (by decide +kernel) rfl (Nat.le_of_ble_eq_true rfl) (fun p e s m args below meth c B hS9 hr hn => g12_toAge B hS9 hr a0 x1 x2 x3 M)
theorem mf12_fewest : gMF yX12_fewest cX12_fewest 3 (some .int) 2 := ⟨wd_2136, wd_13, ⟨by decide, by decide⟩, by decide +kernel⟩
set_option maxRecDepth 20000 in
set_option maxHeartbeats 2000000 in
theorem g12_fewest_J42 {X : gX} {p : Program} {l : Launch} {e : Env} {s : State} {m : MethodId} {args : Array Value} {below : List Frame} {meth : Method} {c : Code} (B : gB X p (rm12_fewest) s m args meth c RX12 cX12_fewest 3 (rm12_fewest)) (hS9 : gS X s) (hr : meth.sig.returnType = some .int) (u0 : Int32) (M : mMem) : GG X p l e (rm12_fewest) s m args below meth c (gP X below args s 0 0 (fun r9 : (Int32 × mMem) => (some (.int r9.1), r9.2))) 3 0 0 42 [] [.int u0] M (p12_fewest_J42 u0 M) := by
  unfold p12_fewest_J42
  exact g_ireturn B hr rfl (by decide) (by decide) rfl dX12_fewest_42
set_option maxRecDepth 20000 in
set_option maxHeartbeats 2000000 in
theorem g12_fewest_J31 {X : gX} {p : Program} {l : Launch} {e : Env} {s : State} {m : MethodId} {args : Array Value} {below : List Frame} {meth : Method} {c : Code} (B : gB X p (rm12_fewest) s m args meth c RX12 cX12_fewest 3 (rm12_fewest)) (hS9 : gS X s) (hr : meth.sig.returnType = some .int) (M : mMem) : GG X p l e (rm12_fewest) s m args below meth c (gP X below args s 0 0 (fun r9 : (Int32 × mMem) => (some (.int r9.1), r9.2))) 3 0 0 31 [] [] M (p12_fewest_J31 M) := by
  unfold p12_fewest_J31
  refine g_iconst (v := 0) B dX12_fewest_31 (by decide) ?_
  refine g_goto B 42 dX12_fewest_32 (by decide) ?_
  refine g_sub (lv' := []) [] rfl ?_
  exact g12_fewest_J42 B hS9 hr 0 M
set_option maxRecDepth 20000 in
set_option maxHeartbeats 2000000 in
theorem g12_fewest {X : gX} {p : Program} {l : Launch} {e : Env} {s : State} {m : MethodId} {args : Array Value} {below : List Frame} {meth : Method} {c : Code} (B : gB X p (rm12_fewest) s m args meth c RX12 cX12_fewest 3 (rm12_fewest)) (hS9 : gS X s) (hr : meth.sig.returnType = some .int) (a0 : Nat) (x1 : Int32) (x2 : Int32) (M : mMem) : GG X p l e (rm12_fewest) s m args below meth c (gP X below args s 0 0 (fun r9 : (Int32 × mMem) => (some (.int r9.1), r9.2))) 3 0 0 0 [(0, .ref a0), (1, .int x1), (2, .int x2)] [] M (p12_fewest a0 x1 x2 M) := by
  unfold p12_fewest
  refine g_gd ?_
  refine g_aload_n B dX12_fewest_0 0 rfl ?_
  refine g_iconst (v := 0) B dX12_fewest_1 (by decide) ?_
  refine g_putI (ci := 11) (T0 := TX12) (N := 27) B (by decide) rfl in_11 tyX12 tyX12_ok nmX12 (k := 0) (by decide) wd_1641 (fun _ h => h) rfl rfl (ty := .int) (by decide +kernel) rfl rfl dX12_fewest_2 (fun M_1 => ?_)
  refine g_aload_n B dX12_fewest_5 0 rfl ?_
  refine g_aload_n B dX12_fewest_6 0 rfl ?_
  refine g_iload_n B dX12_fewest_7 1 rfl ?_
  refine g_callV_ip [.int x1] (ci := 11) (T0 := TX12) (N := 27) B hS9 mf12_nobody wd_1944 (gw B wp_79) wd_1942 (by decide) rfl (fun h => (gd_ne h).1) (c12_nobody X l a0 x1 M_1) (by decide) (by decide) (by decide) rfl (Nat.le_of_ble_eq_true rfl) dX12_fewest_8 rfl (fun v_2 => ?_)
  refine g_iconst (v := 1) B dX12_fewest_11 (by decide) ?_
  refine g_callV_iw [.int v_2, .int 1] (ci := 11) (T0 := TX12) (N := 27) B hS9 mf12_throwsIf wd_1932 (gw B wp_78) wd_1930 (by decide) rfl (fun h => (gd_ne h).1) (c12_throwsIf X l a0 v_2 1 M_1) (by decide) (by decide) (by decide) rfl (by decide) dX12_fewest_12 rfl (fun q_3 => ?_)
  refine g_if_ne B 31 dX12_fewest_15 (by decide) ?_ ?_
  · refine g_aload_n B dX12_fewest_18 0 rfl ?_
    refine g_aload_n B dX12_fewest_19 0 rfl ?_
    refine g_iload_n B dX12_fewest_20 2 rfl ?_
    refine g_callV_ip [.int x2] (ci := 11) (T0 := TX12) (N := 27) B hS9 mf12_noAge wd_2139 (gw B wp_105) wd_2137 (by decide) rfl (fun h => (gd_ne h).1) (c12_noAge X l a0 x2 q_3.2) (by decide) (by decide) (by decide) rfl (Nat.le_of_ble_eq_true rfl) dX12_fewest_21 rfl (fun v_4 => ?_)
    refine g_iconst (v := 2) B dX12_fewest_24 (by decide) ?_
    refine g_callV_iw [.int v_4, .int 2] (ci := 11) (T0 := TX12) (N := 27) B hS9 mf12_throwsIf wd_1932 (gw B wp_78) wd_1930 (by decide) rfl (fun h => (gd_ne h).1) (c12_throwsIf X l a0 v_4 2 q_3.2) (by decide) (by decide) (by decide) rfl (by decide) dX12_fewest_25 rfl (fun q_5 => ?_)
    refine g_if_eq B 35 dX12_fewest_28 (by decide) ?_ ?_
    · refine g_aload_n B dX12_fewest_35 0 rfl ?_
      refine g_iload_n B dX12_fewest_36 1 rfl ?_
      refine g_iload_n B dX12_fewest_37 2 rfl ?_
      refine g_iconst (v := 0) B dX12_fewest_38 (by decide) ?_
      refine g_callV_iw [.int x1, .int x2, .int 0] (ci := 11) (T0 := TX12) (N := 27) B hS9 mf12_toAge wd_2143 (gw B wp_106) wd_2141 (by decide) rfl (fun h => (gd_ne h).1) (c12_toAge X l a0 x1 x2 0 q_5.2) (by decide) (by decide) (by decide) rfl (by decide) dX12_fewest_39 rfl (fun q_6 => ?_)
      refine g_sub (lv' := []) [] rfl ?_
      exact g12_fewest_J42 B hS9 hr q_6.1 q_6.2
    · refine g_sub (lv' := []) [] rfl ?_
      exact g12_fewest_J31 B hS9 hr q_5.2
  · refine g_sub (lv' := []) [] rfl ?_
    exact g12_fewest_J31 B hS9 hr q_3.2
theorem c12_fewest (X : gX) (l : Launch) (a0 : Nat) (x1 : Int32) (x2 : Int32) (M : mMem) : Con X l yX12_fewest cX12_fewest 3 (some .int) rm12_fewest (fun r9 : (Int32 × mMem) => (some (.int r9.1), r9.2)) [.ref a0, .int x1, .int x2] M (p12_fewest a0 x1 x2 M) := g_con (own := RX12) (by decide +kernel) rfl (Nat.le_of_ble_eq_true rfl) (fun p e s m args below meth c B hS9 hr hn => g12_fewest B hS9 hr a0 x1 x2 M)
theorem mf12_first : gMF yX12_first cX12_first 3 (some .int) 2 := ⟨wd_2160, wd_13, ⟨by decide, by decide⟩, by decide +kernel⟩
set_option maxRecDepth 20000 in
set_option maxHeartbeats 2000000 in
theorem g12_first_J42 {X : gX} {p : Program} {l : Launch} {e : Env} {s : State} {m : MethodId} {args : Array Value} {below : List Frame} {meth : Method} {c : Code} (B : gB X p (rm12_first) s m args meth c RX12 cX12_first 3 (rm12_first)) (hS9 : gS X s) (hr : meth.sig.returnType = some .int) (u0 : Int32) (M : mMem) : GG X p l e (rm12_first) s m args below meth c (gP X below args s 0 0 (fun r9 : (Int32 × mMem) => (some (.int r9.1), r9.2))) 3 0 0 42 [] [.int u0] M (p12_first_J42 u0 M) := by
  unfold p12_first_J42
  exact g_ireturn B hr rfl (by decide) (by decide) rfl dX12_first_42
set_option maxRecDepth 20000 in
set_option maxHeartbeats 2000000 in
theorem g12_first_J31 {X : gX} {p : Program} {l : Launch} {e : Env} {s : State} {m : MethodId} {args : Array Value} {below : List Frame} {meth : Method} {c : Code} (B : gB X p (rm12_first) s m args meth c RX12 cX12_first 3 (rm12_first)) (hS9 : gS X s) (hr : meth.sig.returnType = some .int) (M : mMem) : GG X p l e (rm12_first) s m args below meth c (gP X below args s 0 0 (fun r9 : (Int32 × mMem) => (some (.int r9.1), r9.2))) 3 0 0 31 [] [] M (p12_first_J31 M) := by
  unfold p12_first_J31
  refine g_iconst (v := 0) B dX12_first_31 (by decide) ?_
  refine g_goto B 42 dX12_first_32 (by decide) ?_
  refine g_sub (lv' := []) [] rfl ?_
  exact g12_first_J42 B hS9 hr 0 M
set_option maxRecDepth 20000 in
set_option maxHeartbeats 2000000 in
theorem g12_first {X : gX} {p : Program} {l : Launch} {e : Env} {s : State} {m : MethodId} {args : Array Value} {below : List Frame} {meth : Method} {c : Code} (B : gB X p (rm12_first) s m args meth c RX12 cX12_first 3 (rm12_first)) (hS9 : gS X s) (hr : meth.sig.returnType = some .int) (a0 : Nat) (x1 : Int32) (x2 : Int32) (M : mMem) : GG X p l e (rm12_first) s m args below meth c (gP X below args s 0 0 (fun r9 : (Int32 × mMem) => (some (.int r9.1), r9.2))) 3 0 0 0 [(0, .ref a0), (1, .int x1), (2, .int x2)] [] M (p12_first a0 x1 x2 M) := by
  unfold p12_first
  refine g_gd ?_
  refine g_aload_n B dX12_first_0 0 rfl ?_
  refine g_iconst (v := 0) B dX12_first_1 (by decide) ?_
  refine g_putI (ci := 11) (T0 := TX12) (N := 27) B (by decide) rfl in_11 tyX12 tyX12_ok nmX12 (k := 0) (by decide) wd_1641 (fun _ h => h) rfl rfl (ty := .int) (by decide +kernel) rfl rfl dX12_first_2 (fun M_1 => ?_)
  refine g_aload_n B dX12_first_5 0 rfl ?_
  refine g_aload_n B dX12_first_6 0 rfl ?_
  refine g_iload_n B dX12_first_7 1 rfl ?_
  refine g_callV_ip [.int x1] (ci := 11) (T0 := TX12) (N := 27) B hS9 mf12_nobody wd_1944 (gw B wp_79) wd_1942 (by decide) rfl (fun h => (gd_ne h).1) (c12_nobody X l a0 x1 M_1) (by decide) (by decide) (by decide) rfl (Nat.le_of_ble_eq_true rfl) dX12_first_8 rfl (fun v_2 => ?_)
  refine g_iconst (v := 1) B dX12_first_11 (by decide) ?_
  refine g_callV_iw [.int v_2, .int 1] (ci := 11) (T0 := TX12) (N := 27) B hS9 mf12_throwsIf wd_1932 (gw B wp_78) wd_1930 (by decide) rfl (fun h => (gd_ne h).1) (c12_throwsIf X l a0 v_2 1 M_1) (by decide) (by decide) (by decide) rfl (by decide) dX12_first_12 rfl (fun q_3 => ?_)
  refine g_if_ne B 31 dX12_first_15 (by decide) ?_ ?_
  · refine g_aload_n B dX12_first_18 0 rfl ?_
    refine g_aload_n B dX12_first_19 0 rfl ?_
    refine g_iload_n B dX12_first_20 2 rfl ?_
    refine g_callV_ip [.int x2] (ci := 11) (T0 := TX12) (N := 27) B hS9 mf12_noAge wd_2139 (gw B wp_105) wd_2137 (by decide) rfl (fun h => (gd_ne h).1) (c12_noAge X l a0 x2 q_3.2) (by decide) (by decide) (by decide) rfl (Nat.le_of_ble_eq_true rfl) dX12_first_21 rfl (fun v_4 => ?_)
    refine g_iconst (v := 2) B dX12_first_24 (by decide) ?_
    refine g_callV_iw [.int v_4, .int 2] (ci := 11) (T0 := TX12) (N := 27) B hS9 mf12_throwsIf wd_1932 (gw B wp_78) wd_1930 (by decide) rfl (fun h => (gd_ne h).1) (c12_throwsIf X l a0 v_4 2 q_3.2) (by decide) (by decide) (by decide) rfl (by decide) dX12_first_25 rfl (fun q_5 => ?_)
    refine g_if_eq B 35 dX12_first_28 (by decide) ?_ ?_
    · refine g_aload_n B dX12_first_35 0 rfl ?_
      refine g_iload_n B dX12_first_36 1 rfl ?_
      refine g_iload_n B dX12_first_37 2 rfl ?_
      refine g_iconst (v := 1) B dX12_first_38 (by decide) ?_
      refine g_callV_iw [.int x1, .int x2, .int 1] (ci := 11) (T0 := TX12) (N := 27) B hS9 mf12_toAge wd_2143 (gw B wp_106) wd_2141 (by decide) rfl (fun h => (gd_ne h).1) (c12_toAge X l a0 x1 x2 1 q_5.2) (by decide) (by decide) (by decide) rfl (by decide) dX12_first_39 rfl (fun q_6 => ?_)
      refine g_sub (lv' := []) [] rfl ?_
      exact g12_first_J42 B hS9 hr q_6.1 q_6.2
    · refine g_sub (lv' := []) [] rfl ?_
      exact g12_first_J31 B hS9 hr q_5.2
  · refine g_sub (lv' := []) [] rfl ?_
    exact g12_first_J31 B hS9 hr q_3.2
theorem c12_first (X : gX) (l : Launch) (a0 : Nat) (x1 : Int32) (x2 : Int32) (M : mMem) : Con X l yX12_first cX12_first 3 (some .int) rm12_first (fun r9 : (Int32 × mMem) => (some (.int r9.1), r9.2)) [.ref a0, .int x1, .int x2] M (p12_first a0 x1 x2 M) := g_con (own := RX12) (by decide +kernel) rfl (Nat.le_of_ble_eq_true rfl) (fun p e s m args below meth c B hS9 hr hn => g12_first B hS9 hr a0 x1 x2 M)
theorem mf12_can : gMF yX12_can cX12_can 3 (some .int) 2 := ⟨wd_2164, wd_13, ⟨by decide, by decide⟩, by decide +kernel⟩
set_option maxRecDepth 20000 in
set_option maxHeartbeats 2000000 in
theorem g12_can_J41 {X : gX} {p : Program} {l : Launch} {e : Env} {s : State} {m : MethodId} {args : Array Value} {below : List Frame} {meth : Method} {c : Code} (B : gB X p (rm12_can) s m args meth c RX12 cX12_can 3 (rm12_can)) (hS9 : gS X s) (hr : meth.sig.returnType = some .int) (M : mMem) : GG X p l e (rm12_can) s m args below meth c (gP X below args s 0 0 (fun r9 : (Int32 × mMem) => (some (.int r9.1), r9.2))) 3 0 0 41 [] [] M (p12_can_J41 M) := by
  unfold p12_can_J41
  refine g_iconst (v := 0) B dX12_can_41 (by decide) ?_
  exact g_ireturn B hr rfl (by decide) (by decide) rfl dX12_can_42
set_option maxRecDepth 20000 in
set_option maxHeartbeats 2000000 in
theorem g12_can_J34 {X : gX} {p : Program} {l : Launch} {e : Env} {s : State} {m : MethodId} {args : Array Value} {below : List Frame} {meth : Method} {c : Code} (B : gB X p (rm12_can) s m args meth c RX12 cX12_can 3 (rm12_can)) (hS9 : gS X s) (hr : meth.sig.returnType = some .int) (a0 : Nat) (x1 : Int32) (x2 : Int32) (b0 : Nat) (u1 : Int32) (M : mMem) : GG X p l e (rm12_can) s m args below meth c (gP X below args s 0 0 (fun r9 : (Int32 × mMem) => (some (.int r9.1), r9.2))) 3 0 0 34 [(0, .ref a0), (1, .int x1), (2, .int x2)] [.int u1, .ref b0] M (p12_can_J34 a0 x1 x2 b0 u1 M) := by
  unfold p12_can_J34
  refine g_iconst (v := 2) B dX12_can_34 (by decide) ?_
  refine g_callV_iw [.int u1, .int 2] (ci := 11) (T0 := TX12) (N := 27) B hS9 mf12_throwsIf wd_1932 (gw B wp_78) wd_1930 (by decide) rfl (fun h => (gd_ne h).1) (c12_throwsIf X l b0 u1 2 M) (by decide) (by decide) (by decide) rfl (by decide) dX12_can_35 rfl (fun q_1 => ?_)
  refine g_if_eq B 43 dX12_can_38 (by decide) ?_ ?_
  · refine g_aload_n B dX12_can_43 0 rfl ?_
    refine g_iload_n B dX12_can_44 1 rfl ?_
    refine g_iload_n B dX12_can_45 2 rfl ?_
    refine g_callV_vw [.int x1, .int x2] (ci := 11) (T0 := TX12) (N := 27) B hS9 mf12_looksRound wd_2147 (gw B wp_107) wd_2145 (by decide) rfl (fun h => (gd_ne h).1) (c12_looksRound X l a0 x1 x2 q_1.2) (by decide) (by decide) (by decide) rfl (by decide) dX12_can_46 rfl (fun q_2 => ?_)
    refine g_aload_n B dX12_can_49 0 rfl ?_
    refine g_getI (ci := 11) (T0 := TX12) (N := 27) B (by decide) rfl in_11 (k := 21) (by decide) rfl wd_1662 (fun _ h => h) dX12_can_50 (fun v_3 => ?_)
    exact g_ireturn B hr rfl (by decide) (by decide) rfl dX12_can_53
  · refine g_sub (lv' := []) [] rfl ?_
    exact g12_can_J41 B hS9 hr q_1.2
set_option maxRecDepth 20000 in
set_option maxHeartbeats 2000000 in
theorem g12_can {X : gX} {p : Program} {l : Launch} {e : Env} {s : State} {m : MethodId} {args : Array Value} {below : List Frame} {meth : Method} {c : Code} (B : gB X p (rm12_can) s m args meth c RX12 cX12_can 3 (rm12_can)) (hS9 : gS X s) (hr : meth.sig.returnType = some .int) (a0 : Nat) (x1 : Int32) (x2 : Int32) (M : mMem) : GG X p l e (rm12_can) s m args below meth c (gP X below args s 0 0 (fun r9 : (Int32 × mMem) => (some (.int r9.1), r9.2))) 3 0 0 0 [(0, .ref a0), (1, .int x1), (2, .int x2)] [] M (p12_can a0 x1 x2 M) := by
  unfold p12_can
  refine g_gd ?_
  refine g_aload_n B dX12_can_0 0 rfl ?_
  refine g_iconst (v := 0) B dX12_can_1 (by decide) ?_
  refine g_putI (ci := 11) (T0 := TX12) (N := 27) B (by decide) rfl in_11 tyX12 tyX12_ok nmX12 (k := 0) (by decide) wd_1641 (fun _ h => h) rfl rfl (ty := .int) (by decide +kernel) rfl rfl dX12_can_2 (fun M_1 => ?_)
  refine g_aload_n B dX12_can_5 0 rfl ?_
  refine g_aload_n B dX12_can_6 0 rfl ?_
  refine g_iload_n B dX12_can_7 1 rfl ?_
  refine g_callV_ip [.int x1] (ci := 11) (T0 := TX12) (N := 27) B hS9 mf12_nobody wd_1944 (gw B wp_79) wd_1942 (by decide) rfl (fun h => (gd_ne h).1) (c12_nobody X l a0 x1 M_1) (by decide) (by decide) (by decide) rfl (Nat.le_of_ble_eq_true rfl) dX12_can_8 rfl (fun v_2 => ?_)
  refine g_iconst (v := 1) B dX12_can_11 (by decide) ?_
  refine g_callV_iw [.int v_2, .int 1] (ci := 11) (T0 := TX12) (N := 27) B hS9 mf12_throwsIf wd_1932 (gw B wp_78) wd_1930 (by decide) rfl (fun h => (gd_ne h).1) (c12_throwsIf X l a0 v_2 1 M_1) (by decide) (by decide) (by decide) rfl (by decide) dX12_can_12 rfl (fun q_3 => ?_)
  refine g_if_ne B 41 dX12_can_15 (by decide) ?_ ?_
  · refine g_aload_n B dX12_can_18 0 rfl ?_
    refine g_iload_n B dX12_can_19 2 rfl ?_
    refine g_iconst (v := 0) B dX12_can_20 (by decide) ?_
    refine g_bipush (v := 20) B dX12_can_21 (by decide) ?_
    refine g_callS_ip [.int x2, .int 0, .int 20] B hS9 mf12_in wd_1947 wd_1946 (c12_in X l x2 0 20 q_3.2) (by decide) (by decide) (by decide) rfl (Nat.le_of_ble_eq_true rfl) dX12_can_23 rfl (fun v_4 => ?_)
    refine g_if_ne B 33 dX12_can_26 (by decide) ?_ ?_
    · refine g_iconst (v := 1) B dX12_can_29 (by decide) ?_
      refine g_goto B 34 dX12_can_30 (by decide) ?_
      refine g_sub (lv' := [(0, .ref a0), (1, .int x1), (2, .int x2)]) [0, 1, 2] rfl ?_
      exact g12_can_J34 B hS9 hr a0 x1 x2 a0 1 q_3.2
    · refine g_iconst (v := 0) B dX12_can_33 (by decide) ?_
      refine g_sub (lv' := [(0, .ref a0), (1, .int x1), (2, .int x2)]) [0, 1, 2] rfl ?_
      exact g12_can_J34 B hS9 hr a0 x1 x2 a0 0 q_3.2
  · refine g_sub (lv' := []) [] rfl ?_
    exact g12_can_J41 B hS9 hr q_3.2
theorem c12_can (X : gX) (l : Launch) (a0 : Nat) (x1 : Int32) (x2 : Int32) (M : mMem) : Con X l yX12_can cX12_can 3 (some .int) rm12_can (fun r9 : (Int32 × mMem) => (some (.int r9.1), r9.2)) [.ref a0, .int x1, .int x2] M (p12_can a0 x1 x2 M) := g_con (own := RX12) (by decide +kernel) rfl (Nat.le_of_ble_eq_true rfl) (fun p e s m args below meth c B hS9 hr hn => g12_can B hS9 hr a0 x1 x2 M)
theorem mf12_heaviest : gMF yX12_heaviest cX12_heaviest 5 (some .int) 2 := ⟨wd_2172, wd_13, ⟨by decide, by decide⟩, by decide +kernel⟩
set_option maxRecDepth 20000 in
set_option maxHeartbeats 2000000 in
theorem g12_heaviest_J50 {X : gX} {p : Program} {l : Launch} {e : Env} {s : State} {m : MethodId} {args : Array Value} {below : List Frame} {meth : Method} {c : Code} (B : gB X p (rm12_heaviest) s m args meth c RX12 cX12_heaviest 5 (rm12_heaviest)) (hS9 : gS X s) (hr : meth.sig.returnType = some .int) (rec5 : Nat → Int32 → Int32 → Int32 → Int32 → mMem → Option (Int32 × mMem)) (hrec5 : ∀ (a0 : Nat) (x1 : Int32) (x2 : Int32) (x3 : Int32) (x4 : Int32) (M : mMem), GG X p l e (rm12_heaviest) s m args below meth c (gP X below args s 0 0 (fun r9 : (Int32 × mMem) => (some (.int r9.1), r9.2))) 5 0 0 5 [(0, .ref a0), (1, .int x1), (2, .int x2), (3, .int x3), (4, .int x4)] [] M (rec5 a0 x1 x2 x3 x4 M)) (a0 : Nat) (x1 : Int32) (x2 : Int32) (x3 : Int32) (x4 : Int32) (M : mMem) : GG X p l e (rm12_heaviest) s m args below meth c (gP X below args s 0 0 (fun r9 : (Int32 × mMem) => (some (.int r9.1), r9.2))) 5 0 0 50 [(0, .ref a0), (1, .int x1), (2, .int x2), (3, .int x3), (4, .int x4)] [] M (p12_heaviest_J50 rec5 a0 x1 x2 x3 x4 M) := by
  unfold p12_heaviest_J50
  refine g_iinc (v := (x4 + 1)) (lv' := [(4, .int (x4 + 1)), (0, .ref a0), (1, .int x1), (2, .int x2), (3, .int x3)]) B dX12_heaviest_50 4 rfl rfl (by decide) [0, 1, 2, 3, 4] rfl ?_
  refine g_goto B 5 dX12_heaviest_53 (by decide) ?_
  refine g_sub (lv' := [(0, .ref a0), (1, .int x1), (2, .int x2), (3, .int x3), (4, .int (x4 + 1))]) [1, 2, 3, 4, 0] rfl ?_
  exact hrec5 a0 x1 x2 x3 (x4 + 1) M
set_option maxRecDepth 20000 in
set_option maxHeartbeats 2000000 in
theorem g12_heaviest_J47 {X : gX} {p : Program} {l : Launch} {e : Env} {s : State} {m : MethodId} {args : Array Value} {below : List Frame} {meth : Method} {c : Code} (B : gB X p (rm12_heaviest) s m args meth c RX12 cX12_heaviest 5 (rm12_heaviest)) (hS9 : gS X s) (hr : meth.sig.returnType = some .int) (rec5 : Nat → Int32 → Int32 → Int32 → Int32 → mMem → Option (Int32 × mMem)) (hrec5 : ∀ (a0 : Nat) (x1 : Int32) (x2 : Int32) (x3 : Int32) (x4 : Int32) (M : mMem), GG X p l e (rm12_heaviest) s m args below meth c (gP X below args s 0 0 (fun r9 : (Int32 × mMem) => (some (.int r9.1), r9.2))) 5 0 0 5 [(0, .ref a0), (1, .int x1), (2, .int x2), (3, .int x3), (4, .int x4)] [] M (rec5 a0 x1 x2 x3 x4 M)) (a0 : Nat) (x1 : Int32) (x2 : Int32) (x4 : Int32) (M : mMem) : GG X p l e (rm12_heaviest) s m args below meth c (gP X below args s 0 0 (fun r9 : (Int32 × mMem) => (some (.int r9.1), r9.2))) 5 0 0 47 [(0, .ref a0), (1, .int x1), (2, .int x2), (4, .int x4)] [] M (p12_heaviest_J47 rec5 a0 x1 x2 x4 M) := by
  unfold p12_heaviest_J47
  refine g_iload B dX12_heaviest_47 3 rfl ?_
  refine g_istore_n (lv' := [(3, .int x4), (0, .ref a0), (1, .int x1), (2, .int x2), (4, .int x4)]) B dX12_heaviest_49 (by decide) [0, 1, 2, 3, 4] rfl ?_
  refine g_sub (lv' := [(0, .ref a0), (1, .int x1), (2, .int x2), (3, .int x4), (4, .int x4)]) [1, 2, 3, 0, 4] rfl ?_
  exact g12_heaviest_J50 B hS9 hr rec5 hrec5 a0 x1 x2 x4 x4 M
set_option maxRecDepth 20000 in
set_option maxHeartbeats 2000000 in
theorem g12_heaviest_L5 {X : gX} {p : Program} {l : Launch} {e : Env} {s : State} {m : MethodId} {args : Array Value} {below : List Frame} {meth : Method} {c : Code} (B : gB X p (rm12_heaviest) s m args meth c RX12 cX12_heaviest 5 (rm12_heaviest)) (hS9 : gS X s) (hr : meth.sig.returnType = some .int) : ∀ (n : Nat) (a0 : Nat) (x1 : Int32) (x2 : Int32) (x3 : Int32) (x4 : Int32) (M : mMem), GG X p l e (rm12_heaviest) s m args below meth c (gP X below args s 0 0 (fun r9 : (Int32 × mMem) => (some (.int r9.1), r9.2))) 5 0 0 5 [(0, .ref a0), (1, .int x1), (2, .int x2), (3, .int x3), (4, .int x4)] [] M (p12_heaviest_L5 n a0 x1 x2 x3 x4 M) := by
  intro n
  induction n with
  | zero => intro a0 x1 x2 x3 x4 M; exact g_none
  | succ n ih =>
    intro a0 x1 x2 x3 x4 M
    rw [p12_heaviest_L5]
    refine g_iload B dX12_heaviest_5 4 rfl ?_
    refine g_aload_n B dX12_heaviest_7 0 rfl ?_
    refine g_callV_ip [] (ci := 11) (T0 := TX12) (N := 27) B hS9 mf12_people wd_1793 (gw B wp_51) wd_1791 (by decide) rfl (fun h => (gd_ne h).1) (c12_people X l a0 M) (by decide) (by decide) (by decide) rfl (Nat.le_of_ble_eq_true rfl) dX12_heaviest_8 rfl (fun v_1 => ?_)
    refine g_icmp_ge B 56 dX12_heaviest_11 (by decide) ?_ ?_
    · refine g_aload_n B dX12_heaviest_14 0 rfl ?_
      refine g_iload B dX12_heaviest_15 4 rfl ?_
      refine g_iload_n B dX12_heaviest_17 1 rfl ?_
      refine g_callV_ip [.int x4, .int x1] (ci := 11) (T0 := TX12) (N := 27) B hS9 mf12_governs wd_1955 (gw B wp_81) wd_1953 (by decide) rfl (fun h => (gd_ne h).1) (c12_governs X l a0 x4 x1 M) (by decide) (by decide) (by decide) rfl (by decide) dX12_heaviest_18 rfl (fun v_2 => ?_)
      refine g_if_eq B 50 dX12_heaviest_21 (by decide) ?_ ?_
      · refine g_sub (lv' := [(0, .ref a0), (1, .int x1), (2, .int x2), (3, .int x3), (4, .int x4)]) [0, 1, 2, 3, 4] rfl ?_
        exact g12_heaviest_J50 B hS9 hr (p12_heaviest_L5 n) ih a0 x1 x2 x3 x4 M
      · refine g_iload_n B dX12_heaviest_24 3 rfl ?_
        refine g_iconst (v := (-1)) B dX12_heaviest_25 (by decide) ?_
        refine g_icmp_eq B 47 dX12_heaviest_26 (by decide) ?_ ?_
        · refine g_sub (lv' := [(0, .ref a0), (1, .int x1), (2, .int x2), (4, .int x4)]) [0, 1, 2, 4] rfl ?_
          exact g12_heaviest_J47 B hS9 hr (p12_heaviest_L5 n) ih a0 x1 x2 x4 M
        · refine g_aload_n B dX12_heaviest_29 0 rfl ?_
          refine g_iload B dX12_heaviest_30 4 rfl ?_
          refine g_iload_n B dX12_heaviest_32 1 rfl ?_
          refine g_iload_n B dX12_heaviest_33 2 rfl ?_
          refine g_callV_iw [.int x4, .int x1, .int x2] (ci := 11) (T0 := TX12) (N := 27) B hS9 mf12_weighsOf wd_1982 (gw B wp_85) wd_1980 (by decide) rfl (fun h => (gd_ne h).1) (c12_weighsOf X l a0 x4 x1 x2 M) (by decide) (by decide) (by decide) rfl (by decide) dX12_heaviest_34 rfl (fun q_3 => ?_)
          refine g_aload_n B dX12_heaviest_37 0 rfl ?_
          refine g_iload_n B dX12_heaviest_38 3 rfl ?_
          refine g_iload_n B dX12_heaviest_39 1 rfl ?_
          refine g_iload_n B dX12_heaviest_40 2 rfl ?_
          refine g_callV_iw [.int x3, .int x1, .int x2] (ci := 11) (T0 := TX12) (N := 27) B hS9 mf12_weighsOf wd_1982 (gw B wp_85) wd_1980 (by decide) rfl (fun h => (gd_ne h).1) (c12_weighsOf X l a0 x3 x1 x2 q_3.2) (by decide) (by decide) (by decide) rfl (Nat.le_of_ble_eq_true rfl) dX12_heaviest_41 rfl (fun q_4 => ?_)
          refine g_icmp_le B 50 dX12_heaviest_44 (by decide) ?_ ?_
          · refine g_sub (lv' := [(0, .ref a0), (1, .int x1), (2, .int x2), (4, .int x4)]) [0, 1, 2, 4] rfl ?_
            exact g12_heaviest_J47 B hS9 hr (p12_heaviest_L5 n) ih a0 x1 x2 x4 q_4.2
          · refine g_sub (lv' := [(0, .ref a0), (1, .int x1), (2, .int x2), (3, .int x3), (4, .int x4)]) [0, 1, 2, 3, 4] rfl ?_
            exact g12_heaviest_J50 B hS9 hr (p12_heaviest_L5 n) ih a0 x1 x2 x3 x4 q_4.2
    · refine g_iload_n B dX12_heaviest_56 3 rfl ?_
      exact g_ireturn B hr rfl (by decide) (by decide) rfl dX12_heaviest_57
set_option maxRecDepth 20000 in
set_option maxHeartbeats 2000000 in
theorem g12_heaviest {X : gX} {p : Program} {l : Launch} {e : Env} {s : State} {m : MethodId} {args : Array Value} {below : List Frame} {meth : Method} {c : Code} (B : gB X p (rm12_heaviest) s m args meth c RX12 cX12_heaviest 5 (rm12_heaviest)) (hS9 : gS X s) (hr : meth.sig.returnType = some .int) (a0 : Nat) (x1 : Int32) (x2 : Int32) (M : mMem) : GG X p l e (rm12_heaviest) s m args below meth c (gP X below args s 0 0 (fun r9 : (Int32 × mMem) => (some (.int r9.1), r9.2))) 5 0 0 0 [(0, .ref a0), (1, .int x1), (2, .int x2)] [] M (p12_heaviest a0 x1 x2 M) := by
  unfold p12_heaviest
  refine g_gd ?_
  refine g_iconst (v := (-1)) B dX12_heaviest_0 (by decide) ?_
  refine g_istore_n (lv' := [(3, .int (-1)), (0, .ref a0), (1, .int x1), (2, .int x2)]) B dX12_heaviest_1 (by decide) [0, 1, 2, 3] rfl ?_
  refine g_iconst (v := 0) B dX12_heaviest_2 (by decide) ?_
  refine g_istore (lv' := [(4, .int 0), (3, .int (-1)), (0, .ref a0), (1, .int x1), (2, .int x2)]) B dX12_heaviest_3 (by decide) [0, 1, 2, 3, 4] rfl ?_
  refine g_sub (lv' := [(0, .ref a0), (1, .int x1), (2, .int x2), (3, .int (-1)), (4, .int 0)]) [2, 3, 4, 1, 0] rfl ?_
  exact (g12_heaviest_L5 B hS9 hr) gF a0 x1 x2 (-1) 0 M
theorem c12_heaviest (X : gX) (l : Launch) (a0 : Nat) (x1 : Int32) (x2 : Int32) (M : mMem) : Con X l yX12_heaviest cX12_heaviest 5 (some .int) rm12_heaviest (fun r9 : (Int32 × mMem) => (some (.int r9.1), r9.2)) [.ref a0, .int x1, .int x2] M (p12_heaviest a0 x1 x2 M) := g_con (own := RX12) (by decide +kernel) rfl (Nat.le_of_ble_eq_true rfl) (fun p e s m args below meth c B hS9 hr hn => g12_heaviest B hS9 hr a0 x1 x2 M)
theorem mf12_harsh : gMF yX12_harsh cX12_harsh 2 (some .int) 1 := ⟨wd_2168, wd_13, ⟨by decide, by decide⟩, by decide +kernel⟩
set_option maxRecDepth 20000 in
set_option maxHeartbeats 2000000 in
theorem g12_harsh_J28 {X : gX} {p : Program} {l : Launch} {e : Env} {s : State} {m : MethodId} {args : Array Value} {below : List Frame} {meth : Method} {c : Code} (B : gB X p (rm12_harsh) s m args meth c RX12 cX12_harsh 2 (rm12_harsh)) (hS9 : gS X s) (hr : meth.sig.returnType = some .int) (u0 : Int32) (M : mMem) : GG X p l e (rm12_harsh) s m args below meth c (gP X below args s 0 0 (fun r9 : (Int32 × mMem) => (some (.int r9.1), r9.2))) 2 0 0 28 [] [.int u0] M (p12_harsh_J28 u0 M) := by
  unfold p12_harsh_J28
  exact g_ireturn B hr rfl (by decide) (by decide) rfl dX12_harsh_28
set_option maxRecDepth 20000 in
set_option maxHeartbeats 2000000 in
theorem g12_harsh {X : gX} {p : Program} {l : Launch} {e : Env} {s : State} {m : MethodId} {args : Array Value} {below : List Frame} {meth : Method} {c : Code} (B : gB X p (rm12_harsh) s m args meth c RX12 cX12_harsh 2 (rm12_harsh)) (hS9 : gS X s) (hr : meth.sig.returnType = some .int) (a0 : Nat) (x1 : Int32) (M : mMem) : GG X p l e (rm12_harsh) s m args below meth c (gP X below args s 0 0 (fun r9 : (Int32 × mMem) => (some (.int r9.1), r9.2))) 2 0 0 0 [(0, .ref a0), (1, .int x1)] [] M (p12_harsh a0 x1 M) := by
  unfold p12_harsh
  refine g_gd ?_
  refine g_aload_n B dX12_harsh_0 0 rfl ?_
  refine g_iconst (v := 0) B dX12_harsh_1 (by decide) ?_
  refine g_putI (ci := 11) (T0 := TX12) (N := 27) B (by decide) rfl in_11 tyX12 tyX12_ok nmX12 (k := 0) (by decide) wd_1641 (fun _ h => h) rfl rfl (ty := .int) (by decide +kernel) rfl rfl dX12_harsh_2 (fun M_1 => ?_)
  refine g_aload_n B dX12_harsh_5 0 rfl ?_
  refine g_aload_n B dX12_harsh_6 0 rfl ?_
  refine g_iload_n B dX12_harsh_7 1 rfl ?_
  refine g_callV_ip [.int x1] (ci := 11) (T0 := TX12) (N := 27) B hS9 mf12_nobody wd_1944 (gw B wp_79) wd_1942 (by decide) rfl (fun h => (gd_ne h).1) (c12_nobody X l a0 x1 M_1) (by decide) (by decide) (by decide) rfl (Nat.le_of_ble_eq_true rfl) dX12_harsh_8 rfl (fun v_2 => ?_)
  refine g_iconst (v := 1) B dX12_harsh_11 (by decide) ?_
  refine g_callV_iw [.int v_2, .int 1] (ci := 11) (T0 := TX12) (N := 27) B hS9 mf12_throwsIf wd_1932 (gw B wp_78) wd_1930 (by decide) rfl (fun h => (gd_ne h).1) (c12_throwsIf X l a0 v_2 1 M_1) (by decide) (by decide) (by decide) rfl (by decide) dX12_harsh_12 rfl (fun q_3 => ?_)
  refine g_if_eq B 22 dX12_harsh_15 (by decide) ?_ ?_
  · refine g_aload_n B dX12_harsh_22 0 rfl ?_
    refine g_iload_n B dX12_harsh_23 1 rfl ?_
    refine g_iconst (v := 0) B dX12_harsh_24 (by decide) ?_
    refine g_callV_iw [.int x1, .int 0] (ci := 11) (T0 := TX12) (N := 27) B hS9 mf12_heaviest wd_2171 (gw B wp_110) wd_2169 (by decide) rfl (fun h => (gd_ne h).1) (c12_heaviest X l a0 x1 0 q_3.2) (by decide) (by decide) (by decide) rfl (by decide) dX12_harsh_25 rfl (fun q_4 => ?_)
    refine g_sub (lv' := []) [] rfl ?_
    exact g12_harsh_J28 B hS9 hr q_4.1 q_4.2
  · refine g_iconst (v := 0) B dX12_harsh_18 (by decide) ?_
    refine g_goto B 28 dX12_harsh_19 (by decide) ?_
    refine g_sub (lv' := []) [] rfl ?_
    exact g12_harsh_J28 B hS9 hr 0 q_3.2
theorem c12_harsh (X : gX) (l : Launch) (a0 : Nat) (x1 : Int32) (M : mMem) : Con X l yX12_harsh cX12_harsh 2 (some .int) rm12_harsh (fun r9 : (Int32 × mMem) => (some (.int r9.1), r9.2)) [.ref a0, .int x1] M (p12_harsh a0 x1 M) := g_con (own := RX12) (by decide +kernel) rfl (Nat.le_of_ble_eq_true rfl) (fun p e s m args below meth c B hS9 hr hn => g12_harsh B hS9 hr a0 x1 M)
theorem mf12_kind : gMF yX12_kind cX12_kind 2 (some .int) 1 := ⟨wd_2176, wd_13, ⟨by decide, by decide⟩, by decide +kernel⟩
set_option maxRecDepth 20000 in
set_option maxHeartbeats 2000000 in
theorem g12_kind_J28 {X : gX} {p : Program} {l : Launch} {e : Env} {s : State} {m : MethodId} {args : Array Value} {below : List Frame} {meth : Method} {c : Code} (B : gB X p (rm12_kind) s m args meth c RX12 cX12_kind 2 (rm12_kind)) (hS9 : gS X s) (hr : meth.sig.returnType = some .int) (u0 : Int32) (M : mMem) : GG X p l e (rm12_kind) s m args below meth c (gP X below args s 0 0 (fun r9 : (Int32 × mMem) => (some (.int r9.1), r9.2))) 2 0 0 28 [] [.int u0] M (p12_kind_J28 u0 M) := by
  unfold p12_kind_J28
  exact g_ireturn B hr rfl (by decide) (by decide) rfl dX12_kind_28
set_option maxRecDepth 20000 in
set_option maxHeartbeats 2000000 in
theorem g12_kind {X : gX} {p : Program} {l : Launch} {e : Env} {s : State} {m : MethodId} {args : Array Value} {below : List Frame} {meth : Method} {c : Code} (B : gB X p (rm12_kind) s m args meth c RX12 cX12_kind 2 (rm12_kind)) (hS9 : gS X s) (hr : meth.sig.returnType = some .int) (a0 : Nat) (x1 : Int32) (M : mMem) : GG X p l e (rm12_kind) s m args below meth c (gP X below args s 0 0 (fun r9 : (Int32 × mMem) => (some (.int r9.1), r9.2))) 2 0 0 0 [(0, .ref a0), (1, .int x1)] [] M (p12_kind a0 x1 M) := by
  unfold p12_kind
  refine g_gd ?_
  refine g_aload_n B dX12_kind_0 0 rfl ?_
  refine g_iconst (v := 0) B dX12_kind_1 (by decide) ?_
  refine g_putI (ci := 11) (T0 := TX12) (N := 27) B (by decide) rfl in_11 tyX12 tyX12_ok nmX12 (k := 0) (by decide) wd_1641 (fun _ h => h) rfl rfl (ty := .int) (by decide +kernel) rfl rfl dX12_kind_2 (fun M_1 => ?_)
  refine g_aload_n B dX12_kind_5 0 rfl ?_
  refine g_aload_n B dX12_kind_6 0 rfl ?_
  refine g_iload_n B dX12_kind_7 1 rfl ?_
  refine g_callV_ip [.int x1] (ci := 11) (T0 := TX12) (N := 27) B hS9 mf12_nobody wd_1944 (gw B wp_79) wd_1942 (by decide) rfl (fun h => (gd_ne h).1) (c12_nobody X l a0 x1 M_1) (by decide) (by decide) (by decide) rfl (Nat.le_of_ble_eq_true rfl) dX12_kind_8 rfl (fun v_2 => ?_)
  refine g_iconst (v := 1) B dX12_kind_11 (by decide) ?_
  refine g_callV_iw [.int v_2, .int 1] (ci := 11) (T0 := TX12) (N := 27) B hS9 mf12_throwsIf wd_1932 (gw B wp_78) wd_1930 (by decide) rfl (fun h => (gd_ne h).1) (c12_throwsIf X l a0 v_2 1 M_1) (by decide) (by decide) (by decide) rfl (by decide) dX12_kind_12 rfl (fun q_3 => ?_)
  refine g_if_eq B 22 dX12_kind_15 (by decide) ?_ ?_
  · refine g_aload_n B dX12_kind_22 0 rfl ?_
    refine g_iload_n B dX12_kind_23 1 rfl ?_
    refine g_iconst (v := 1) B dX12_kind_24 (by decide) ?_
    refine g_callV_iw [.int x1, .int 1] (ci := 11) (T0 := TX12) (N := 27) B hS9 mf12_heaviest wd_2171 (gw B wp_110) wd_2169 (by decide) rfl (fun h => (gd_ne h).1) (c12_heaviest X l a0 x1 1 q_3.2) (by decide) (by decide) (by decide) rfl (by decide) dX12_kind_25 rfl (fun q_4 => ?_)
    refine g_sub (lv' := []) [] rfl ?_
    exact g12_kind_J28 B hS9 hr q_4.1 q_4.2
  · refine g_iconst (v := 0) B dX12_kind_18 (by decide) ?_
    refine g_goto B 28 dX12_kind_19 (by decide) ?_
    refine g_sub (lv' := []) [] rfl ?_
    exact g12_kind_J28 B hS9 hr 0 q_3.2
theorem c12_kind (X : gX) (l : Launch) (a0 : Nat) (x1 : Int32) (M : mMem) : Con X l yX12_kind cX12_kind 2 (some .int) rm12_kind (fun r9 : (Int32 × mMem) => (some (.int r9.1), r9.2)) [.ref a0, .int x1] M (p12_kind a0 x1 M) := g_con (own := RX12) (by decide +kernel) rfl (Nat.le_of_ble_eq_true rfl) (fun p e s m args below meth c B hS9 hr hn => g12_kind B hS9 hr a0 x1 M)
theorem mf12_isTold : gMF yX12_isTold cX12_isTold 3 (some .boolean) 0 := ⟨wd_2184, wd_13, ⟨by decide, by decide⟩, by decide +kernel⟩
set_option maxRecDepth 20000 in
set_option maxHeartbeats 2000000 in
theorem g12_isTold_J63 {X : gX} {p : Program} {l : Launch} {e : Env} {s : State} {m : MethodId} {args : Array Value} {below : List Frame} {meth : Method} {c : Code} (B : gB X p (rm12_isTold) s m args meth c RX12 cX12_isTold 3 (rm12_isTold)) (hS9 : gS X s) (hr : meth.sig.returnType = some .boolean) {M : mMem} (x1 : Int32) : GG X p l e (rm12_isTold) s m args below meth c (gP X below args s 0 0 (fun r9 : Int32 => (some (.int r9), M))) 3 0 0 63 [(1, .int x1)] [] M (p12_isTold_J63 M x1) := by
  unfold p12_isTold_J63
  refine g_iload_n B dX12_isTold_63 0 rfl ?_
  exact g_zreturn (f := fun z => z) B hr (by decide) (by decide) rfl dX12_isTold_64
set_option maxRecDepth 20000 in
set_option maxHeartbeats 2000000 in
theorem g12_isTold_J56 {X : gX} {p : Program} {l : Launch} {e : Env} {s : State} {m : MethodId} {args : Array Value} {below : List Frame} {meth : Method} {c : Code} (B : gB X p (rm12_isTold) s m args meth c RX12 cX12_isTold 3 (rm12_isTold)) (hS9 : gS X s) (hr : meth.sig.returnType = some .boolean) {M : mMem} (rec26 : Nat → Int32 → Int32 → Option Int32) (hrec26 : ∀ (a0 : Nat) (x1 : Int32) (x2 : Int32), GG X p l e (rm12_isTold) s m args below meth c (gP X below args s 0 0 (fun r9 : Int32 => (some (.int r9), M))) 3 0 0 26 [(0, .ref a0), (1, .int x1), (2, .int x2)] [] M (rec26 a0 x1 x2)) (a0 : Nat) (x2 : Int32) (u0 : Int32) : GG X p l e (rm12_isTold) s m args below meth c (gP X below args s 0 0 (fun r9 : Int32 => (some (.int r9), M))) 3 0 0 56 [(0, .ref a0), (2, .int x2)] [.int u0] M (p12_isTold_J56 M rec26 a0 x2 u0) := by
  unfold p12_isTold_J56
  refine g_istore_n (lv' := [(1, .int u0), (0, .ref a0), (2, .int x2)]) B dX12_isTold_56 (by decide) [0, 1, 2] rfl ?_
  refine g_iinc (v := (x2 + 1)) (lv' := [(2, .int (x2 + 1)), (1, .int u0), (0, .ref a0)]) B dX12_isTold_57 2 rfl rfl (by decide) [0, 1, 2] rfl ?_
  refine g_goto B 26 dX12_isTold_60 (by decide) ?_
  refine g_sub (lv' := [(0, .ref a0), (1, .int u0), (2, .int (x2 + 1))]) [2, 1, 0] rfl ?_
  exact hrec26 a0 u0 (x2 + 1)
set_option maxRecDepth 20000 in
set_option maxHeartbeats 2000000 in
theorem g12_isTold_L26 {X : gX} {p : Program} {l : Launch} {e : Env} {s : State} {m : MethodId} {args : Array Value} {below : List Frame} {meth : Method} {c : Code} (B : gB X p (rm12_isTold) s m args meth c RX12 cX12_isTold 3 (rm12_isTold)) (hS9 : gS X s) (hr : meth.sig.returnType = some .boolean) {M : mMem} : ∀ (n : Nat) (a0 : Nat) (x1 : Int32) (x2 : Int32), GG X p l e (rm12_isTold) s m args below meth c (gP X below args s 0 0 (fun r9 : Int32 => (some (.int r9), M))) 3 0 0 26 [(0, .ref a0), (1, .int x1), (2, .int x2)] [] M (p12_isTold_L26 M n a0 x1 x2) := by
  intro n
  induction n with
  | zero => intro a0 x1 x2; exact g_none
  | succ n ih =>
    intro a0 x1 x2
    rw [p12_isTold_L26]
    refine g_iload_n B dX12_isTold_26 2 rfl ?_
    refine g_aload_n B dX12_isTold_27 0 rfl ?_
    refine g_getI (ci := 11) (T0 := TX12) (N := 27) B (by decide) rfl in_11 (k := 11) (by decide) rfl wd_1652 (fun _ h => h) dX12_isTold_28 (fun v_1 => ?_)
    refine g_icmp_ge B 63 dX12_isTold_31 (by decide) ?_ ?_
    · refine g_iload_n B dX12_isTold_34 1 rfl ?_
      refine g_if_eq B 63 dX12_isTold_35 (by decide) ?_ ?_
      · refine g_sub (lv' := [(1, .int x1)]) [1] rfl ?_
        exact g12_isTold_J63 B hS9 hr x1
      · refine g_aload_n B dX12_isTold_38 0 rfl ?_
        refine g_aload_n B dX12_isTold_39 0 rfl ?_
        refine g_getR (ci := 11) (T0 := TX12) (N := 27) B (by decide) rfl in_11 (k := 8) (by decide) rfl wd_1649 (fun _ h => h) dX12_isTold_40 (fun v_2 => ?_)
        refine g_iload_n B dX12_isTold_43 2 rfl ?_
        refine g_baload B dX12_isTold_44 (fun v_3 => ?_)
        refine g_callV_ip [.int v_3] (ci := 11) (T0 := TX12) (N := 27) B hS9 mf12_noAge wd_2139 (gw B wp_105) wd_2137 (by decide) rfl (fun h => (gd_ne h).1) (c12_noAge X l a0 v_3 M) (by decide) (by decide) (by decide) rfl (by decide) dX12_isTold_45 rfl (fun v_4 => ?_)
        refine g_if_ne B 55 dX12_isTold_48 (by decide) ?_ ?_
        · refine g_iconst (v := 1) B dX12_isTold_51 (by decide) ?_
          refine g_goto B 56 dX12_isTold_52 (by decide) ?_
          refine g_sub (lv' := [(0, .ref a0), (2, .int x2)]) [0, 2] rfl ?_
          exact g12_isTold_J56 B hS9 hr (p12_isTold_L26 M n) ih a0 x2 1
        · refine g_iconst (v := 0) B dX12_isTold_55 (by decide) ?_
          refine g_sub (lv' := [(0, .ref a0), (2, .int x2)]) [0, 2] rfl ?_
          exact g12_isTold_J56 B hS9 hr (p12_isTold_L26 M n) ih a0 x2 0
    · refine g_sub (lv' := [(1, .int x1)]) [1] rfl ?_
      exact g12_isTold_J63 B hS9 hr x1
set_option maxRecDepth 20000 in
set_option maxHeartbeats 2000000 in
theorem g12_isTold_J23 {X : gX} {p : Program} {l : Launch} {e : Env} {s : State} {m : MethodId} {args : Array Value} {below : List Frame} {meth : Method} {c : Code} (B : gB X p (rm12_isTold) s m args meth c RX12 cX12_isTold 3 (rm12_isTold)) (hS9 : gS X s) (hr : meth.sig.returnType = some .boolean) {M : mMem} (a0 : Nat) (u0 : Int32) : GG X p l e (rm12_isTold) s m args below meth c (gP X below args s 0 0 (fun r9 : Int32 => (some (.int r9), M))) 3 0 0 23 [(0, .ref a0)] [.int u0] M (p12_isTold_J23 M a0 u0) := by
  unfold p12_isTold_J23
  refine g_istore_n (lv' := [(1, .int u0), (0, .ref a0)]) B dX12_isTold_23 (by decide) [0, 1] rfl ?_
  refine g_iconst (v := 0) B dX12_isTold_24 (by decide) ?_
  refine g_istore_n (lv' := [(2, .int 0), (1, .int u0), (0, .ref a0)]) B dX12_isTold_25 (by decide) [0, 1, 2] rfl ?_
  refine g_sub (lv' := [(0, .ref a0), (1, .int u0), (2, .int 0)]) [2, 1, 0] rfl ?_
  exact (g12_isTold_L26 B hS9 hr) gF a0 u0 0
set_option maxRecDepth 20000 in
set_option maxHeartbeats 2000000 in
theorem g12_isTold_J22 {X : gX} {p : Program} {l : Launch} {e : Env} {s : State} {m : MethodId} {args : Array Value} {below : List Frame} {meth : Method} {c : Code} (B : gB X p (rm12_isTold) s m args meth c RX12 cX12_isTold 3 (rm12_isTold)) (hS9 : gS X s) (hr : meth.sig.returnType = some .boolean) {M : mMem} (a0 : Nat) : GG X p l e (rm12_isTold) s m args below meth c (gP X below args s 0 0 (fun r9 : Int32 => (some (.int r9), M))) 3 0 0 22 [(0, .ref a0)] [] M (p12_isTold_J22 M a0) := by
  unfold p12_isTold_J22
  refine g_iconst (v := 0) B dX12_isTold_22 (by decide) ?_
  refine g_sub (lv' := [(0, .ref a0)]) [0] rfl ?_
  exact g12_isTold_J23 B hS9 hr a0 0
set_option maxRecDepth 20000 in
set_option maxHeartbeats 2000000 in
theorem g12_isTold {X : gX} {p : Program} {l : Launch} {e : Env} {s : State} {m : MethodId} {args : Array Value} {below : List Frame} {meth : Method} {c : Code} (B : gB X p (rm12_isTold) s m args meth c RX12 cX12_isTold 3 (rm12_isTold)) (hS9 : gS X s) (hr : meth.sig.returnType = some .boolean) {M : mMem} (a0 : Nat) : GG X p l e (rm12_isTold) s m args below meth c (gP X below args s 0 0 (fun r9 : Int32 => (some (.int r9), M))) 3 0 0 0 [(0, .ref a0)] [] M (p12_isTold a0 M) := by
  unfold p12_isTold
  refine g_gd ?_
  refine g_aload_n B dX12_isTold_0 0 rfl ?_
  refine g_getI (ci := 11) (T0 := TX12) (N := 27) B (by decide) rfl in_11 (k := 11) (by decide) rfl wd_1652 (fun _ h => h) dX12_isTold_1 (fun v_1 => ?_)
  refine g_iconst (v := 2) B dX12_isTold_4 (by decide) ?_
  refine g_irem B dX12_isTold_5 (fun v_2 => ?_)
  refine g_if_ne B 22 dX12_isTold_6 (by decide) ?_ ?_
  · refine g_aload_n B dX12_isTold_9 0 rfl ?_
    refine g_getI (ci := 11) (T0 := TX12) (N := 27) B (by decide) rfl in_11 (k := 11) (by decide) rfl wd_1652 (fun _ h => h) dX12_isTold_10 (fun v_3 => ?_)
    refine g_bipush (v := 40) B dX12_isTold_13 (by decide) ?_
    refine g_icmp_gt B 22 dX12_isTold_15 (by decide) ?_ ?_
    · refine g_sub (lv' := [(0, .ref a0)]) [0] rfl ?_
      exact g12_isTold_J22 B hS9 hr a0
    · refine g_iconst (v := 1) B dX12_isTold_18 (by decide) ?_
      refine g_goto B 23 dX12_isTold_19 (by decide) ?_
      refine g_sub (lv' := [(0, .ref a0)]) [0] rfl ?_
      exact g12_isTold_J23 B hS9 hr a0 1
  · refine g_sub (lv' := [(0, .ref a0)]) [0] rfl ?_
    exact g12_isTold_J22 B hS9 hr a0
theorem c12_isTold (X : gX) (l : Launch) (a0 : Nat) (M : mMem) : Con X l yX12_isTold cX12_isTold 3 (some .boolean) rm12_isTold (fun r9 : Int32 => (some (.int r9), M)) [.ref a0] M (p12_isTold a0 M) := g_con (own := RX12) (by decide +kernel) rfl (Nat.le_of_ble_eq_true rfl) (fun p e s m args below meth c B hS9 hr hn => g12_isTold B hS9 hr a0)
theorem mf12_allThatFit : gMF yX12_allThatFit cX12_allThatFit 6 (some .int) 1 := ⟨wd_2188, wd_13, ⟨by decide, by decide⟩, by decide +kernel⟩
set_option maxRecDepth 20000 in
set_option maxHeartbeats 2000000 in
theorem g12_allThatFit_J71 {X : gX} {p : Program} {l : Launch} {e : Env} {s : State} {m : MethodId} {args : Array Value} {below : List Frame} {meth : Method} {c : Code} (B : gB X p (rm12_allThatFit) s m args meth c RX12 cX12_allThatFit 6 (rm12_allThatFit)) (hS9 : gS X s) (hr : meth.sig.returnType = some .int) (rec27 : Nat → Int32 → Int32 → Int32 → Int32 → Int32 → mMem → Option (Int32 × mMem)) (hrec27 : ∀ (a0 : Nat) (x1 : Int32) (x2 : Int32) (x3 : Int32) (x4 : Int32) (x5 : Int32) (M : mMem), GG X p l e (rm12_allThatFit) s m args below meth c (gP X below args s 0 0 (fun r9 : (Int32 × mMem) => (some (.int r9.1), r9.2))) 6 0 0 27 [(0, .ref a0), (1, .int x1), (2, .int x2), (3, .int x3), (4, .int x4), (5, .int x5)] [] M (rec27 a0 x1 x2 x3 x4 x5 M)) (a0 : Nat) (x1 : Int32) (x2 : Int32) (x3 : Int32) (x5 : Int32) (u0 : Int32) (M : mMem) : GG X p l e (rm12_allThatFit) s m args below meth c (gP X below args s 0 0 (fun r9 : (Int32 × mMem) => (some (.int r9.1), r9.2))) 6 0 0 71 [(0, .ref a0), (1, .int x1), (2, .int x2), (3, .int x3), (5, .int x5)] [.int u0] M (p12_allThatFit_J71 rec27 a0 x1 x2 x3 x5 u0 M) := by
  unfold p12_allThatFit_J71
  refine g_istore (lv' := [(4, .int u0), (0, .ref a0), (1, .int x1), (2, .int x2), (3, .int x3), (5, .int x5)]) B dX12_allThatFit_71 (by decide) [0, 1, 2, 3, 4, 5] rfl ?_
  refine g_iinc (v := (x5 + 2)) (lv' := [(5, .int (x5 + 2)), (4, .int u0), (0, .ref a0), (1, .int x1), (2, .int x2), (3, .int x3)]) B dX12_allThatFit_73 5 rfl rfl (by decide) [0, 1, 2, 3, 4, 5] rfl ?_
  refine g_goto B 27 dX12_allThatFit_76 (by decide) ?_
  refine g_sub (lv' := [(0, .ref a0), (1, .int x1), (2, .int x2), (3, .int x3), (4, .int u0), (5, .int (x5 + 2))]) [2, 3, 4, 5, 1, 0] rfl ?_
  exact hrec27 a0 x1 x2 x3 u0 (x5 + 2) M
set_option maxRecDepth 20000 in
set_option maxHeartbeats 2000000 in
theorem g12_allThatFit_L27 {X : gX} {p : Program} {l : Launch} {e : Env} {s : State} {m : MethodId} {args : Array Value} {below : List Frame} {meth : Method} {c : Code} (B : gB X p (rm12_allThatFit) s m args meth c RX12 cX12_allThatFit 6 (rm12_allThatFit)) (hS9 : gS X s) (hr : meth.sig.returnType = some .int) (k79 : Nat → Int32 → Int32 → Int32 → Int32 → mMem → Option (Int32 × mMem)) (hk79 : ∀ (a0 : Nat) (x1 : Int32) (x2 : Int32) (x3 : Int32) (x4 : Int32) (M : mMem), GG X p l e (rm12_allThatFit) s m args below meth c (gP X below args s 0 0 (fun r9 : (Int32 × mMem) => (some (.int r9.1), r9.2))) 6 0 0 79 [(0, .ref a0), (1, .int x1), (2, .int x2), (3, .int x3), (4, .int x4)] [] M (k79 a0 x1 x2 x3 x4 M)) : ∀ (n : Nat) (a0 : Nat) (x1 : Int32) (x2 : Int32) (x3 : Int32) (x4 : Int32) (x5 : Int32) (M : mMem), GG X p l e (rm12_allThatFit) s m args below meth c (gP X below args s 0 0 (fun r9 : (Int32 × mMem) => (some (.int r9.1), r9.2))) 6 0 0 27 [(0, .ref a0), (1, .int x1), (2, .int x2), (3, .int x3), (4, .int x4), (5, .int x5)] [] M (p12_allThatFit_L27 k79 n a0 x1 x2 x3 x4 x5 M) := by
  intro n
  induction n with
  | zero => intro a0 x1 x2 x3 x4 x5 M; exact g_none
  | succ n ih =>
    intro a0 x1 x2 x3 x4 x5 M
    rw [p12_allThatFit_L27]
    refine g_iload B dX12_allThatFit_27 5 rfl ?_
    refine g_aload_n B dX12_allThatFit_29 0 rfl ?_
    refine g_getI (ci := 11) (T0 := TX12) (N := 27) B (by decide) rfl in_11 (k := 11) (by decide) rfl wd_1652 (fun _ h => h) dX12_allThatFit_30 (fun v_1 => ?_)
    refine g_icmp_ge B 79 dX12_allThatFit_33 (by decide) ?_ ?_
    · refine g_iload B dX12_allThatFit_36 4 rfl ?_
      refine g_if_eq B 79 dX12_allThatFit_38 (by decide) ?_ ?_
      · refine g_sub (lv' := [(0, .ref a0), (1, .int x1), (2, .int x2), (3, .int x3), (4, .int x4)]) [0, 1, 2, 3, 4] rfl ?_
        exact hk79 a0 x1 x2 x3 x4 M
      · refine g_aload_n B dX12_allThatFit_41 0 rfl ?_
        refine g_iload_n B dX12_allThatFit_42 1 rfl ?_
        refine g_aload_n B dX12_allThatFit_43 0 rfl ?_
        refine g_getR (ci := 11) (T0 := TX12) (N := 27) B (by decide) rfl in_11 (k := 8) (by decide) rfl wd_1649 (fun _ h => h) dX12_allThatFit_44 (fun v_2 => ?_)
        refine g_iload B dX12_allThatFit_47 5 rfl ?_
        refine g_baload B dX12_allThatFit_49 (fun v_3 => ?_)
        refine g_iload_n B dX12_allThatFit_50 3 rfl ?_
        refine g_callV_iw [.int x1, .int v_3, .int x3] (ci := 11) (T0 := TX12) (N := 27) B hS9 mf12_fromAge wd_2155 (gw B wp_109) wd_2153 (by decide) rfl (fun h => (gd_ne h).1) (c12_fromAge X l a0 x1 v_3 x3 M) (by decide) (by decide) (by decide) rfl (by decide) dX12_allThatFit_51 rfl (fun q_4 => ?_)
        refine g_aload_n B dX12_allThatFit_54 0 rfl ?_
        refine g_getR (ci := 11) (T0 := TX12) (N := 27) B (by decide) rfl in_11 (k := 8) (by decide) rfl wd_1649 (fun _ h => h) dX12_allThatFit_55 (fun v_5 => ?_)
        refine g_iload B dX12_allThatFit_58 5 rfl ?_
        refine g_iconst (v := 1) B dX12_allThatFit_60 (by decide) ?_
        refine g_iadd B dX12_allThatFit_61 ?_
        refine g_baload B dX12_allThatFit_62 (fun v_6 => ?_)
        refine g_icmp_ne B 70 dX12_allThatFit_63 (by decide) ?_ ?_
        · refine g_iconst (v := 1) B dX12_allThatFit_66 (by decide) ?_
          refine g_goto B 71 dX12_allThatFit_67 (by decide) ?_
          refine g_sub (lv' := [(0, .ref a0), (1, .int x1), (2, .int x2), (3, .int x3), (5, .int x5)]) [0, 1, 2, 3, 5] rfl ?_
          exact g12_allThatFit_J71 B hS9 hr (p12_allThatFit_L27 k79 n) ih a0 x1 x2 x3 x5 1 q_4.2
        · refine g_iconst (v := 0) B dX12_allThatFit_70 (by decide) ?_
          refine g_sub (lv' := [(0, .ref a0), (1, .int x1), (2, .int x2), (3, .int x3), (5, .int x5)]) [0, 1, 2, 3, 5] rfl ?_
          exact g12_allThatFit_J71 B hS9 hr (p12_allThatFit_L27 k79 n) ih a0 x1 x2 x3 x5 0 q_4.2
    · refine g_sub (lv' := [(0, .ref a0), (1, .int x1), (2, .int x2), (3, .int x3), (4, .int x4)]) [0, 1, 2, 3, 4] rfl ?_
      exact hk79 a0 x1 x2 x3 x4 M
set_option maxRecDepth 20000 in
set_option maxHeartbeats 2000000 in
theorem g12_allThatFit_J92 {X : gX} {p : Program} {l : Launch} {e : Env} {s : State} {m : MethodId} {args : Array Value} {below : List Frame} {meth : Method} {c : Code} (B : gB X p (rm12_allThatFit) s m args meth c RX12 cX12_allThatFit 6 (rm12_allThatFit)) (hS9 : gS X s) (hr : meth.sig.returnType = some .int) (rec4 : Nat → Int32 → Int32 → Int32 → mMem → Option (Int32 × mMem)) (hrec4 : ∀ (a0 : Nat) (x1 : Int32) (x2 : Int32) (x3 : Int32) (M : mMem), GG X p l e (rm12_allThatFit) s m args below meth c (gP X below args s 0 0 (fun r9 : (Int32 × mMem) => (some (.int r9.1), r9.2))) 6 0 0 4 [(0, .ref a0), (1, .int x1), (2, .int x2), (3, .int x3)] [] M (rec4 a0 x1 x2 x3 M)) (a0 : Nat) (x1 : Int32) (x3 : Int32) (u0 : Int32) (u1 : Int32) (M : mMem) : GG X p l e (rm12_allThatFit) s m args below meth c (gP X below args s 0 0 (fun r9 : (Int32 × mMem) => (some (.int r9.1), r9.2))) 6 0 0 92 [(0, .ref a0), (1, .int x1), (3, .int x3)] [.int u1, .int u0] M (p12_allThatFit_J92 rec4 a0 x1 x3 u0 u1 M) := by
  unfold p12_allThatFit_J92
  refine g_ior B dX12_allThatFit_92 ?_
  refine g_istore_n (lv' := [(2, .int (u0 ||| u1)), (0, .ref a0), (1, .int x1), (3, .int x3)]) B dX12_allThatFit_93 (by decide) [0, 1, 2, 3] rfl ?_
  refine g_iinc (v := (x3 + 1)) (lv' := [(3, .int (x3 + 1)), (2, .int (u0 ||| u1)), (0, .ref a0), (1, .int x1)]) B dX12_allThatFit_94 3 rfl rfl (by decide) [0, 1, 2, 3] rfl ?_
  refine g_goto B 4 dX12_allThatFit_97 (by decide) ?_
  refine g_sub (lv' := [(0, .ref a0), (1, .int x1), (2, .int (u0 ||| u1)), (3, .int (x3 + 1))]) [2, 3, 1, 0] rfl ?_
  exact hrec4 a0 x1 (u0 ||| u1) (x3 + 1) M
set_option maxRecDepth 20000 in
set_option maxHeartbeats 2000000 in
theorem g12_allThatFit_J79 {X : gX} {p : Program} {l : Launch} {e : Env} {s : State} {m : MethodId} {args : Array Value} {below : List Frame} {meth : Method} {c : Code} (B : gB X p (rm12_allThatFit) s m args meth c RX12 cX12_allThatFit 6 (rm12_allThatFit)) (hS9 : gS X s) (hr : meth.sig.returnType = some .int) (rec4 : Nat → Int32 → Int32 → Int32 → mMem → Option (Int32 × mMem)) (hrec4 : ∀ (a0 : Nat) (x1 : Int32) (x2 : Int32) (x3 : Int32) (M : mMem), GG X p l e (rm12_allThatFit) s m args below meth c (gP X below args s 0 0 (fun r9 : (Int32 × mMem) => (some (.int r9.1), r9.2))) 6 0 0 4 [(0, .ref a0), (1, .int x1), (2, .int x2), (3, .int x3)] [] M (rec4 a0 x1 x2 x3 M)) (a0 : Nat) (x1 : Int32) (x2 : Int32) (x3 : Int32) (x4 : Int32) (M : mMem) : GG X p l e (rm12_allThatFit) s m args below meth c (gP X below args s 0 0 (fun r9 : (Int32 × mMem) => (some (.int r9.1), r9.2))) 6 0 0 79 [(0, .ref a0), (1, .int x1), (2, .int x2), (3, .int x3), (4, .int x4)] [] M (p12_allThatFit_J79 rec4 a0 x1 x2 x3 x4 M) := by
  unfold p12_allThatFit_J79
  refine g_iload_n B dX12_allThatFit_79 2 rfl ?_
  refine g_iload B dX12_allThatFit_80 4 rfl ?_
  refine g_if_eq B 91 dX12_allThatFit_82 (by decide) ?_ ?_
  · refine g_iconst (v := 0) B dX12_allThatFit_91 (by decide) ?_
    refine g_sub (lv' := [(0, .ref a0), (1, .int x1), (3, .int x3)]) [0, 1, 3] rfl ?_
    exact g12_allThatFit_J92 B hS9 hr rec4 hrec4 a0 x1 x3 x2 0 M
  · refine g_iconst (v := 1) B dX12_allThatFit_85 (by decide) ?_
    refine g_iload_n B dX12_allThatFit_86 3 rfl ?_
    refine g_ishl B dX12_allThatFit_87 ?_
    refine g_goto B 92 dX12_allThatFit_88 (by decide) ?_
    refine g_sub (lv' := [(0, .ref a0), (1, .int x1), (3, .int x3)]) [0, 1, 3] rfl ?_
    exact g12_allThatFit_J92 B hS9 hr rec4 hrec4 a0 x1 x3 x2 ((1 : Int32) <<< (x3 &&& 31)) M
set_option maxRecDepth 20000 in
set_option maxHeartbeats 2000000 in
theorem g12_allThatFit_L4 {X : gX} {p : Program} {l : Launch} {e : Env} {s : State} {m : MethodId} {args : Array Value} {below : List Frame} {meth : Method} {c : Code} (B : gB X p (rm12_allThatFit) s m args meth c RX12 cX12_allThatFit 6 (rm12_allThatFit)) (hS9 : gS X s) (hr : meth.sig.returnType = some .int) : ∀ (n : Nat) (a0 : Nat) (x1 : Int32) (x2 : Int32) (x3 : Int32) (M : mMem), GG X p l e (rm12_allThatFit) s m args below meth c (gP X below args s 0 0 (fun r9 : (Int32 × mMem) => (some (.int r9.1), r9.2))) 6 0 0 4 [(0, .ref a0), (1, .int x1), (2, .int x2), (3, .int x3)] [] M (p12_allThatFit_L4 n a0 x1 x2 x3 M) := by
  intro n
  induction n with
  | zero => intro a0 x1 x2 x3 M; exact g_none
  | succ n ih =>
    intro a0 x1 x2 x3 M
    rw [p12_allThatFit_L4]
    refine g_iload_n B dX12_allThatFit_4 3 rfl ?_
    refine g_iconst (v := 2) B dX12_allThatFit_5 (by decide) ?_
    refine g_aload_n B dX12_allThatFit_6 0 rfl ?_
    refine g_callV_ip [] (ci := 11) (T0 := TX12) (N := 27) B hS9 mf12_people wd_1793 (gw B wp_51) wd_1791 (by decide) rfl (fun h => (gd_ne h).1) (c12_people X l a0 M) (by decide) (by decide) (by decide) rfl (Nat.le_of_ble_eq_true rfl) dX12_allThatFit_7 rfl (fun v_1 => ?_)
    refine g_imul B dX12_allThatFit_10 ?_
    refine g_icmp_ge B 100 dX12_allThatFit_11 (by decide) ?_ ?_
    · refine g_aload_n B dX12_allThatFit_14 0 rfl ?_
      refine g_iload_n B dX12_allThatFit_15 3 rfl ?_
      refine g_iconst (v := 2) B dX12_allThatFit_16 (by decide) ?_
      refine g_idiv B dX12_allThatFit_17 (fun v_2 => ?_)
      refine g_iload_n B dX12_allThatFit_18 1 rfl ?_
      refine g_callV_ip [.int v_2, .int x1] (ci := 11) (T0 := TX12) (N := 27) B hS9 mf12_governs wd_1955 (gw B wp_81) wd_1953 (by decide) rfl (fun h => (gd_ne h).1) (c12_governs X l a0 v_2 x1 M) (by decide) (by decide) (by decide) rfl (by decide) dX12_allThatFit_19 rfl (fun v_3 => ?_)
      refine g_istore (lv' := [(4, .int v_3), (0, .ref a0), (1, .int x1), (2, .int x2), (3, .int x3)]) B dX12_allThatFit_22 (by decide) [0, 1, 2, 3, 4] rfl ?_
      refine g_iconst (v := 0) B dX12_allThatFit_24 (by decide) ?_
      refine g_istore (lv' := [(5, .int 0), (4, .int v_3), (0, .ref a0), (1, .int x1), (2, .int x2), (3, .int x3)]) B dX12_allThatFit_25 (by decide) [0, 1, 2, 3, 4, 5] rfl ?_
      refine g_sub (lv' := [(0, .ref a0), (1, .int x1), (2, .int x2), (3, .int x3), (4, .int v_3), (5, .int 0)]) [2, 3, 4, 5, 1, 0] rfl ?_
      exact (g12_allThatFit_L27 B hS9 hr (p12_allThatFit_J79 (p12_allThatFit_L4 n)) (fun e0 e1 e2 e3 e4 e5 => g12_allThatFit_J79 B hS9 hr (p12_allThatFit_L4 n) ih e0 e1 e2 e3 e4 e5)) gF a0 x1 x2 x3 v_3 0 M
    · refine g_iload_n B dX12_allThatFit_100 2 rfl ?_
      exact g_ireturn B hr rfl (by decide) (by decide) rfl dX12_allThatFit_101
set_option maxRecDepth 20000 in
set_option maxHeartbeats 2000000 in
theorem g12_allThatFit {X : gX} {p : Program} {l : Launch} {e : Env} {s : State} {m : MethodId} {args : Array Value} {below : List Frame} {meth : Method} {c : Code} (B : gB X p (rm12_allThatFit) s m args meth c RX12 cX12_allThatFit 6 (rm12_allThatFit)) (hS9 : gS X s) (hr : meth.sig.returnType = some .int) (a0 : Nat) (x1 : Int32) (M : mMem) : GG X p l e (rm12_allThatFit) s m args below meth c (gP X below args s 0 0 (fun r9 : (Int32 × mMem) => (some (.int r9.1), r9.2))) 6 0 0 0 [(0, .ref a0), (1, .int x1)] [] M (p12_allThatFit a0 x1 M) := by
  unfold p12_allThatFit
  refine g_gd ?_
  refine g_iconst (v := 0) B dX12_allThatFit_0 (by decide) ?_
  refine g_istore_n (lv' := [(2, .int 0), (0, .ref a0), (1, .int x1)]) B dX12_allThatFit_1 (by decide) [0, 1, 2] rfl ?_
  refine g_iconst (v := 0) B dX12_allThatFit_2 (by decide) ?_
  refine g_istore_n (lv' := [(3, .int 0), (2, .int 0), (0, .ref a0), (1, .int x1)]) B dX12_allThatFit_3 (by decide) [0, 1, 2, 3] rfl ?_
  refine g_sub (lv' := [(0, .ref a0), (1, .int x1), (2, .int 0), (3, .int 0)]) [2, 3, 1, 0] rfl ?_
  exact (g12_allThatFit_L4 B hS9 hr) gF a0 x1 0 0 M
theorem c12_allThatFit (X : gX) (l : Launch) (a0 : Nat) (x1 : Int32) (M : mMem) : Con X l yX12_allThatFit cX12_allThatFit 6 (some .int) rm12_allThatFit (fun r9 : (Int32 × mMem) => (some (.int r9.1), r9.2)) [.ref a0, .int x1] M (p12_allThatFit a0 x1 M) := g_con (own := RX12) (by decide +kernel) rfl (Nat.le_of_ble_eq_true rfl) (fun p e s m args below meth c B hS9 hr hn => g12_allThatFit B hS9 hr a0 x1 M)
theorem mf12_said : gMF yX12_said cX12_said 2 (some .int) 1 := ⟨wd_2180, wd_13, ⟨by decide, by decide⟩, by decide +kernel⟩
set_option maxRecDepth 20000 in
set_option maxHeartbeats 2000000 in
theorem g12_said_J46 {X : gX} {p : Program} {l : Launch} {e : Env} {s : State} {m : MethodId} {args : Array Value} {below : List Frame} {meth : Method} {c : Code} (B : gB X p (rm12_said) s m args meth c RX12 cX12_said 2 (rm12_said)) (hS9 : gS X s) (hr : meth.sig.returnType = some .int) (u0 : Int32) (M : mMem) : GG X p l e (rm12_said) s m args below meth c (gP X below args s 0 0 (fun r9 : (Int32 × mMem) => (some (.int r9.1), r9.2))) 2 0 0 46 [] [.int u0] M (p12_said_J46 u0 M) := by
  unfold p12_said_J46
  exact g_ireturn B hr rfl (by decide) (by decide) rfl dX12_said_46
set_option maxRecDepth 20000 in
set_option maxHeartbeats 2000000 in
theorem g12_said_J37 {X : gX} {p : Program} {l : Launch} {e : Env} {s : State} {m : MethodId} {args : Array Value} {below : List Frame} {meth : Method} {c : Code} (B : gB X p (rm12_said) s m args meth c RX12 cX12_said 2 (rm12_said)) (hS9 : gS X s) (hr : meth.sig.returnType = some .int) (M : mMem) : GG X p l e (rm12_said) s m args below meth c (gP X below args s 0 0 (fun r9 : (Int32 × mMem) => (some (.int r9.1), r9.2))) 2 0 0 37 [] [] M (p12_said_J37 M) := by
  unfold p12_said_J37
  refine g_iconst (v := 0) B dX12_said_37 (by decide) ?_
  refine g_goto B 46 dX12_said_38 (by decide) ?_
  refine g_sub (lv' := []) [] rfl ?_
  exact g12_said_J46 B hS9 hr 0 M
set_option maxRecDepth 20000 in
set_option maxHeartbeats 2000000 in
theorem g12_said_J30 {X : gX} {p : Program} {l : Launch} {e : Env} {s : State} {m : MethodId} {args : Array Value} {below : List Frame} {meth : Method} {c : Code} (B : gB X p (rm12_said) s m args meth c RX12 cX12_said 2 (rm12_said)) (hS9 : gS X s) (hr : meth.sig.returnType = some .int) (a0 : Nat) (x1 : Int32) (b0 : Nat) (u1 : Int32) (M : mMem) : GG X p l e (rm12_said) s m args below meth c (gP X below args s 0 0 (fun r9 : (Int32 × mMem) => (some (.int r9.1), r9.2))) 2 0 0 30 [(0, .ref a0), (1, .int x1)] [.int u1, .ref b0] M (p12_said_J30 a0 x1 b0 u1 M) := by
  unfold p12_said_J30
  refine g_iconst (v := 2) B dX12_said_30 (by decide) ?_
  refine g_callV_iw [.int u1, .int 2] (ci := 11) (T0 := TX12) (N := 27) B hS9 mf12_throwsIf wd_1932 (gw B wp_78) wd_1930 (by decide) rfl (fun h => (gd_ne h).1) (c12_throwsIf X l b0 u1 2 M) (by decide) (by decide) (by decide) rfl (by decide) dX12_said_31 rfl (fun q_1 => ?_)
  refine g_if_eq B 41 dX12_said_34 (by decide) ?_ ?_
  · refine g_aload_n B dX12_said_41 0 rfl ?_
    refine g_iload_n B dX12_said_42 1 rfl ?_
    refine g_callV_iw [.int x1] (ci := 11) (T0 := TX12) (N := 27) B hS9 mf12_allThatFit wd_2187 (gw B wp_112) wd_2185 (by decide) rfl (fun h => (gd_ne h).1) (c12_allThatFit X l a0 x1 q_1.2) (by decide) (by decide) (by decide) rfl (by decide) dX12_said_43 rfl (fun q_2 => ?_)
    refine g_sub (lv' := []) [] rfl ?_
    exact g12_said_J46 B hS9 hr q_2.1 q_2.2
  · refine g_sub (lv' := []) [] rfl ?_
    exact g12_said_J37 B hS9 hr q_1.2
set_option maxRecDepth 20000 in
set_option maxHeartbeats 2000000 in
theorem g12_said {X : gX} {p : Program} {l : Launch} {e : Env} {s : State} {m : MethodId} {args : Array Value} {below : List Frame} {meth : Method} {c : Code} (B : gB X p (rm12_said) s m args meth c RX12 cX12_said 2 (rm12_said)) (hS9 : gS X s) (hr : meth.sig.returnType = some .int) (a0 : Nat) (x1 : Int32) (M : mMem) : GG X p l e (rm12_said) s m args below meth c (gP X below args s 0 0 (fun r9 : (Int32 × mMem) => (some (.int r9.1), r9.2))) 2 0 0 0 [(0, .ref a0), (1, .int x1)] [] M (p12_said a0 x1 M) := by
  unfold p12_said
  refine g_gd ?_
  refine g_aload_n B dX12_said_0 0 rfl ?_
  refine g_callV_vw [] (ci := 11) (T0 := TX12) (N := 27) B hS9 mf12_uses wd_1758 (gw B wp_43) wd_1756 (by decide) rfl (fun h => (gd_ne h).1) (c12_uses X l a0 M) (by decide) (by decide) (by decide) rfl (by decide) dX12_said_1 rfl (fun q_1 => ?_)
  refine g_aload_n B dX12_said_4 0 rfl ?_
  refine g_aload_n B dX12_said_5 0 rfl ?_
  refine g_iload_n B dX12_said_6 1 rfl ?_
  refine g_callV_ip [.int x1] (ci := 11) (T0 := TX12) (N := 27) B hS9 mf12_nobody wd_1944 (gw B wp_79) wd_1942 (by decide) rfl (fun h => (gd_ne h).1) (c12_nobody X l a0 x1 q_1) (by decide) (by decide) (by decide) rfl (Nat.le_of_ble_eq_true rfl) dX12_said_7 rfl (fun v_2 => ?_)
  refine g_iconst (v := 1) B dX12_said_10 (by decide) ?_
  refine g_callV_iw [.int v_2, .int 1] (ci := 11) (T0 := TX12) (N := 27) B hS9 mf12_throwsIf wd_1932 (gw B wp_78) wd_1930 (by decide) rfl (fun h => (gd_ne h).1) (c12_throwsIf X l a0 v_2 1 q_1) (by decide) (by decide) (by decide) rfl (by decide) dX12_said_11 rfl (fun q_3 => ?_)
  refine g_if_ne B 37 dX12_said_14 (by decide) ?_ ?_
  · refine g_aload_n B dX12_said_17 0 rfl ?_
    refine g_aload_n B dX12_said_18 0 rfl ?_
    refine g_callV_ip [] (ci := 11) (T0 := TX12) (N := 27) B hS9 mf12_isTold wd_2183 (gw B wp_111) wd_2181 (by decide) rfl (fun h => (gd_ne h).1) (c12_isTold X l a0 q_3.2) (by decide) (by decide) (by decide) rfl (Nat.le_of_ble_eq_true rfl) dX12_said_19 rfl (fun v_4 => ?_)
    refine g_if_ne B 29 dX12_said_22 (by decide) ?_ ?_
    · refine g_iconst (v := 1) B dX12_said_25 (by decide) ?_
      refine g_goto B 30 dX12_said_26 (by decide) ?_
      refine g_sub (lv' := [(0, .ref a0), (1, .int x1)]) [0, 1] rfl ?_
      exact g12_said_J30 B hS9 hr a0 x1 a0 1 q_3.2
    · refine g_iconst (v := 0) B dX12_said_29 (by decide) ?_
      refine g_sub (lv' := [(0, .ref a0), (1, .int x1)]) [0, 1] rfl ?_
      exact g12_said_J30 B hS9 hr a0 x1 a0 0 q_3.2
  · refine g_sub (lv' := []) [] rfl ?_
    exact g12_said_J37 B hS9 hr q_3.2
theorem c12_said (X : gX) (l : Launch) (a0 : Nat) (x1 : Int32) (M : mMem) : Con X l yX12_said cX12_said 2 (some .int) rm12_said (fun r9 : (Int32 × mMem) => (some (.int r9.1), r9.2)) [.ref a0, .int x1] M (p12_said a0 x1 M) := g_con (own := RX12) (by decide +kernel) rfl (Nat.le_of_ble_eq_true rfl) (fun p e s m args below meth c B hS9 hr hn => g12_said B hS9 hr a0 x1 M)
theorem mf12_partBy : gMF yX12_partBy cX12_partBy 7 (some .int) 3 := ⟨wd_2196, wd_13, ⟨by decide, by decide⟩, by decide +kernel⟩
set_option maxRecDepth 20000 in
set_option maxHeartbeats 2000000 in
theorem g12_partBy_L6 {X : gX} {p : Program} {l : Launch} {e : Env} {s : State} {m : MethodId} {args : Array Value} {below : List Frame} {meth : Method} {c : Code} (B : gB X p (rm12_partBy) s m args meth c RX12 cX12_partBy 7 (rm12_partBy)) (hS9 : gS X s) (hr : meth.sig.returnType = some .int) (k27 : Nat → Int32 → Int32 → Int32 → Int32 → mMem → Option (Int32 × mMem)) (hk27 : ∀ (a0 : Nat) (x1 : Int32) (x2 : Int32) (x3 : Int32) (x4 : Int32) (M : mMem), GG X p l e (rm12_partBy) s m args below meth c (gP X below args s 0 0 (fun r9 : (Int32 × mMem) => (some (.int r9.1), r9.2))) 7 0 0 27 [(0, .ref a0), (1, .int x1), (2, .int x2), (3, .int x3), (4, .int x4)] [] M (k27 a0 x1 x2 x3 x4 M)) : ∀ (n : Nat) (a0 : Nat) (x1 : Int32) (x2 : Int32) (x3 : Int32) (x4 : Int32) (x5 : Int32) (M : mMem), GG X p l e (rm12_partBy) s m args below meth c (gP X below args s 0 0 (fun r9 : (Int32 × mMem) => (some (.int r9.1), r9.2))) 7 0 0 6 [(0, .ref a0), (1, .int x1), (2, .int x2), (3, .int x3), (4, .int x4), (5, .int x5)] [] M (p12_partBy_L6 k27 n a0 x1 x2 x3 x4 x5 M) := by
  intro n
  induction n with
  | zero => intro a0 x1 x2 x3 x4 x5 M; exact g_none
  | succ n ih =>
    intro a0 x1 x2 x3 x4 x5 M
    rw [p12_partBy_L6]
    refine g_iload B dX12_partBy_6 5 rfl ?_
    refine g_bipush (v := 99) B dX12_partBy_8 (by decide) ?_
    refine g_icmp_ge B 27 dX12_partBy_10 (by decide) ?_ ?_
    · refine g_aload_n B dX12_partBy_13 0 rfl ?_
      refine g_getR (ci := 11) (T0 := TX12) (N := 27) B (by decide) rfl in_11 (k := 22) (by decide) rfl wd_1663 (fun _ h => h) dX12_partBy_14 (fun v_1 => ?_)
      refine g_iload B dX12_partBy_17 5 rfl ?_
      refine g_iconst (v := 0) B dX12_partBy_19 (by decide) ?_
      refine g_iastore B dX12_partBy_20 (fun M_2 => ?_)
      refine g_iinc (v := (x5 + 1)) (lv' := [(5, .int (x5 + 1)), (0, .ref a0), (1, .int x1), (2, .int x2), (3, .int x3), (4, .int x4)]) B dX12_partBy_21 5 rfl rfl (by decide) [0, 1, 2, 3, 4, 5] rfl ?_
      refine g_goto B 6 dX12_partBy_24 (by decide) ?_
      refine g_sub (lv' := [(0, .ref a0), (1, .int x1), (2, .int x2), (3, .int x3), (4, .int x4), (5, .int (x5 + 1))]) [1, 2, 3, 4, 5, 0] rfl ?_
      exact ih a0 x1 x2 x3 x4 (x5 + 1) M_2
    · refine g_sub (lv' := [(0, .ref a0), (1, .int x1), (2, .int x2), (3, .int x3), (4, .int x4)]) [0, 1, 2, 3, 4] rfl ?_
      exact hk27 a0 x1 x2 x3 x4 M
set_option maxRecDepth 20000 in
set_option maxHeartbeats 2000000 in
theorem g12_partBy_J88 {X : gX} {p : Program} {l : Launch} {e : Env} {s : State} {m : MethodId} {args : Array Value} {below : List Frame} {meth : Method} {c : Code} (B : gB X p (rm12_partBy) s m args meth c RX12 cX12_partBy 7 (rm12_partBy)) (hS9 : gS X s) (hr : meth.sig.returnType = some .int) (rec30 : Nat → Int32 → Int32 → Int32 → Int32 → Int32 → mMem → Option (Int32 × mMem)) (hrec30 : ∀ (a0 : Nat) (x1 : Int32) (x2 : Int32) (x3 : Int32) (x4 : Int32) (x5 : Int32) (M : mMem), GG X p l e (rm12_partBy) s m args below meth c (gP X below args s 0 0 (fun r9 : (Int32 × mMem) => (some (.int r9.1), r9.2))) 7 0 0 30 [(0, .ref a0), (1, .int x1), (2, .int x2), (3, .int x3), (4, .int x4), (5, .int x5)] [] M (rec30 a0 x1 x2 x3 x4 x5 M)) (a0 : Nat) (x1 : Int32) (x2 : Int32) (x3 : Int32) (x4 : Int32) (x5 : Int32) (M : mMem) : GG X p l e (rm12_partBy) s m args below meth c (gP X below args s 0 0 (fun r9 : (Int32 × mMem) => (some (.int r9.1), r9.2))) 7 0 0 88 [(0, .ref a0), (1, .int x1), (2, .int x2), (3, .int x3), (4, .int x4), (5, .int x5)] [] M (p12_partBy_J88 rec30 a0 x1 x2 x3 x4 x5 M) := by
  unfold p12_partBy_J88
  refine g_iinc (v := (x5 + 1)) (lv' := [(5, .int (x5 + 1)), (0, .ref a0), (1, .int x1), (2, .int x2), (3, .int x3), (4, .int x4)]) B dX12_partBy_88 5 rfl rfl (by decide) [0, 1, 2, 3, 4, 5] rfl ?_
  refine g_goto B 30 dX12_partBy_91 (by decide) ?_
  refine g_sub (lv' := [(0, .ref a0), (1, .int x1), (2, .int x2), (3, .int x3), (4, .int x4), (5, .int (x5 + 1))]) [1, 2, 3, 4, 5, 0] rfl ?_
  exact hrec30 a0 x1 x2 x3 x4 (x5 + 1) M
set_option maxRecDepth 20000 in
set_option maxHeartbeats 2000000 in
theorem g12_partBy_L30 {X : gX} {p : Program} {l : Launch} {e : Env} {s : State} {m : MethodId} {args : Array Value} {below : List Frame} {meth : Method} {c : Code} (B : gB X p (rm12_partBy) s m args meth c RX12 cX12_partBy 7 (rm12_partBy)) (hS9 : gS X s) (hr : meth.sig.returnType = some .int) : ∀ (n : Nat) (a0 : Nat) (x1 : Int32) (x2 : Int32) (x3 : Int32) (x4 : Int32) (x5 : Int32) (M : mMem), GG X p l e (rm12_partBy) s m args below meth c (gP X below args s 0 0 (fun r9 : (Int32 × mMem) => (some (.int r9.1), r9.2))) 7 0 0 30 [(0, .ref a0), (1, .int x1), (2, .int x2), (3, .int x3), (4, .int x4), (5, .int x5)] [] M (p12_partBy_L30 n a0 x1 x2 x3 x4 x5 M) := by
  intro n
  induction n with
  | zero => intro a0 x1 x2 x3 x4 x5 M; exact g_none
  | succ n ih =>
    intro a0 x1 x2 x3 x4 x5 M
    rw [p12_partBy_L30]
    refine g_iload B dX12_partBy_30 5 rfl ?_
    refine g_iconst (v := 2) B dX12_partBy_32 (by decide) ?_
    refine g_aload_n B dX12_partBy_33 0 rfl ?_
    refine g_callV_ip [] (ci := 11) (T0 := TX12) (N := 27) B hS9 mf12_people wd_1793 (gw B wp_51) wd_1791 (by decide) rfl (fun h => (gd_ne h).1) (c12_people X l a0 M) (by decide) (by decide) (by decide) rfl (Nat.le_of_ble_eq_true rfl) dX12_partBy_34 rfl (fun v_1 => ?_)
    refine g_imul B dX12_partBy_37 ?_
    refine g_icmp_ge B 94 dX12_partBy_38 (by decide) ?_ ?_
    · refine g_iload_n B dX12_partBy_41 3 rfl ?_
      refine g_iload B dX12_partBy_42 5 rfl ?_
      refine g_callS_ip [.int x3, .int x5] B hS9 mf12_has wd_1958 wd_1957 (c12_has X l x3 x5 M) (by decide) (by decide) (by decide) rfl (by decide) dX12_partBy_44 rfl (fun v_2 => ?_)
      refine g_if_ne B 53 dX12_partBy_47 (by decide) ?_ ?_
      · refine g_goto B 88 dX12_partBy_50 (by decide) ?_
        refine g_sub (lv' := [(0, .ref a0), (1, .int x1), (2, .int x2), (3, .int x3), (4, .int x4), (5, .int x5)]) [0, 1, 2, 3, 4, 5] rfl ?_
        exact g12_partBy_J88 B hS9 hr (p12_partBy_L30 n) ih a0 x1 x2 x3 x4 x5 M
      · refine g_aload_n B dX12_partBy_53 0 rfl ?_
        refine g_iload_n B dX12_partBy_54 1 rfl ?_
        refine g_iload_n B dX12_partBy_55 2 rfl ?_
        refine g_iload B dX12_partBy_56 5 rfl ?_
        refine g_callV_iw [.int x1, .int x2, .int x5] (ci := 11) (T0 := TX12) (N := 27) B hS9 mf12_fromAge wd_2155 (gw B wp_109) wd_2153 (by decide) rfl (fun h => (gd_ne h).1) (c12_fromAge X l a0 x1 x2 x5 M) (by decide) (by decide) (by decide) rfl (by decide) dX12_partBy_58 rfl (fun q_3 => ?_)
        refine g_istore (lv' := [(6, .int q_3.1), (0, .ref a0), (1, .int x1), (2, .int x2), (3, .int x3), (4, .int x4), (5, .int x5)]) B dX12_partBy_61 (by decide) [0, 1, 2, 3, 4, 5, 6] rfl ?_
        refine g_aload_n B dX12_partBy_63 1 rfl ?_
        refine g_getR (ci := 11) (T0 := TX12) (N := 27) B (by decide) rfl in_11 (k := 22) (by decide) rfl wd_1663 (fun _ h => h) dX12_partBy_64 (fun v_4 => ?_)
        refine g_iload B dX12_partBy_67 0 rfl ?_
        refine g_dup2_11 B dX12_partBy_69 rfl rfl ?_
        refine g_iaload B dX12_partBy_70 (fun v_5 => ?_)
        refine g_iconst (v := 1) B dX12_partBy_71 (by decide) ?_
        refine g_iadd B dX12_partBy_72 ?_
        refine g_iastore B dX12_partBy_73 (fun M_6 => ?_)
        refine g_iload B dX12_partBy_74 5 rfl ?_
        refine g_aload_n B dX12_partBy_76 1 rfl ?_
        refine g_getR (ci := 11) (T0 := TX12) (N := 27) B (by decide) rfl in_11 (k := 22) (by decide) rfl wd_1663 (fun _ h => h) dX12_partBy_77 (fun v_7 => ?_)
        refine g_iload B dX12_partBy_80 0 rfl ?_
        refine g_iaload B dX12_partBy_82 (fun v_8 => ?_)
        refine g_max B wd_1869 wd_516 wd_15 wd_517 (by decide) (Nat.le_of_ble_eq_true rfl) (by decide) dX12_partBy_83 ?_
        refine g_istore (lv' := [(4, .int (maxI x4 v_8)), (6, .int q_3.1), (0, .ref a0), (1, .int x1), (2, .int x2), (3, .int x3), (5, .int x5)]) B dX12_partBy_86 (by decide) [0, 1, 2, 3, 4, 5, 6] rfl ?_
        refine g_sub (lv' := [(0, .ref a0), (1, .int x1), (2, .int x2), (3, .int x3), (4, .int (maxI x4 v_8)), (5, .int x5)]) [2, 3, 4, 5, 0, 6] rfl ?_
        exact g12_partBy_J88 B hS9 hr (p12_partBy_L30 n) ih a0 x1 x2 x3 (maxI x4 v_8) x5 M_6
    · refine g_iload B dX12_partBy_94 4 rfl ?_
      exact g_ireturn B hr rfl (by decide) (by decide) rfl dX12_partBy_96
set_option maxRecDepth 20000 in
set_option maxHeartbeats 2000000 in
theorem g12_partBy_J27 {X : gX} {p : Program} {l : Launch} {e : Env} {s : State} {m : MethodId} {args : Array Value} {below : List Frame} {meth : Method} {c : Code} (B : gB X p (rm12_partBy) s m args meth c RX12 cX12_partBy 7 (rm12_partBy)) (hS9 : gS X s) (hr : meth.sig.returnType = some .int) (a0 : Nat) (x1 : Int32) (x2 : Int32) (x3 : Int32) (x4 : Int32) (M : mMem) : GG X p l e (rm12_partBy) s m args below meth c (gP X below args s 0 0 (fun r9 : (Int32 × mMem) => (some (.int r9.1), r9.2))) 7 0 0 27 [(0, .ref a0), (1, .int x1), (2, .int x2), (3, .int x3), (4, .int x4)] [] M (p12_partBy_J27 a0 x1 x2 x3 x4 M) := by
  unfold p12_partBy_J27
  refine g_iconst (v := 0) B dX12_partBy_27 (by decide) ?_
  refine g_istore (lv' := [(5, .int 0), (0, .ref a0), (1, .int x1), (2, .int x2), (3, .int x3), (4, .int x4)]) B dX12_partBy_28 (by decide) [0, 1, 2, 3, 4, 5] rfl ?_
  refine g_sub (lv' := [(0, .ref a0), (1, .int x1), (2, .int x2), (3, .int x3), (4, .int x4), (5, .int 0)]) [1, 2, 3, 4, 5, 0] rfl ?_
  exact (g12_partBy_L30 B hS9 hr) gF a0 x1 x2 x3 x4 0 M
set_option maxRecDepth 20000 in
set_option maxHeartbeats 2000000 in
theorem g12_partBy {X : gX} {p : Program} {l : Launch} {e : Env} {s : State} {m : MethodId} {args : Array Value} {below : List Frame} {meth : Method} {c : Code} (B : gB X p (rm12_partBy) s m args meth c RX12 cX12_partBy 7 (rm12_partBy)) (hS9 : gS X s) (hr : meth.sig.returnType = some .int) (a0 : Nat) (x1 : Int32) (x2 : Int32) (x3 : Int32) (M : mMem) : GG X p l e (rm12_partBy) s m args below meth c (gP X below args s 0 0 (fun r9 : (Int32 × mMem) => (some (.int r9.1), r9.2))) 7 0 0 0 [(0, .ref a0), (1, .int x1), (2, .int x2), (3, .int x3)] [] M (p12_partBy a0 x1 x2 x3 M) := by
  unfold p12_partBy
  refine g_gd ?_
  refine g_iconst (v := 0) B dX12_partBy_0 (by decide) ?_
  refine g_istore (lv' := [(4, .int 0), (0, .ref a0), (1, .int x1), (2, .int x2), (3, .int x3)]) B dX12_partBy_1 (by decide) [0, 1, 2, 3, 4] rfl ?_
  refine g_iconst (v := 0) B dX12_partBy_3 (by decide) ?_
  refine g_istore (lv' := [(5, .int 0), (4, .int 0), (0, .ref a0), (1, .int x1), (2, .int x2), (3, .int x3)]) B dX12_partBy_4 (by decide) [0, 1, 2, 3, 4, 5] rfl ?_
  refine g_sub (lv' := [(0, .ref a0), (1, .int x1), (2, .int x2), (3, .int x3), (4, .int 0), (5, .int 0)]) [2, 3, 4, 5, 1, 0] rfl ?_
  exact (g12_partBy_L6 B hS9 hr p12_partBy_J27 (fun e0 e1 e2 e3 e4 e5 => g12_partBy_J27 B hS9 hr e0 e1 e2 e3 e4 e5)) gF a0 x1 x2 x3 0 0 M
theorem c12_partBy (X : gX) (l : Launch) (a0 : Nat) (x1 : Int32) (x2 : Int32) (x3 : Int32) (M : mMem) : Con X l yX12_partBy cX12_partBy 7 (some .int) rm12_partBy (fun r9 : (Int32 × mMem) => (some (.int r9.1), r9.2)) [.ref a0, .int x1, .int x2, .int x3] M (p12_partBy a0 x1 x2 x3 M) := g_con (own := RX12) (by decide +kernel) rfl (Nat.le_of_ble_eq_true rfl) (fun p e s m args below meth c B hS9 hr hn => g12_partBy B hS9 hr a0 x1 x2 x3 M)
theorem mf12_ask : gMF yX12_ask cX12_ask 7 (some .int) 1 := ⟨wd_2192, wd_13, ⟨by decide, by decide⟩, by decide +kernel⟩
set_option maxRecDepth 20000 in
set_option maxHeartbeats 2000000 in
theorem g12_ask_J37 {X : gX} {p : Program} {l : Launch} {e : Env} {s : State} {m : MethodId} {args : Array Value} {below : List Frame} {meth : Method} {c : Code} (B : gB X p (rm12_ask) s m args meth c RX12 cX12_ask 7 (rm12_ask)) (hS9 : gS X s) (hr : meth.sig.returnType = some .int) (M : mMem) : GG X p l e (rm12_ask) s m args below meth c (gP X below args s 0 0 (fun r9 : (Int32 × mMem) => (some (.int r9.1), r9.2))) 7 0 0 37 [] [] M (p12_ask_J37 M) := by
  unfold p12_ask_J37
  refine g_iconst (v := 0) B dX12_ask_37 (by decide) ?_
  exact g_ireturn B hr rfl (by decide) (by decide) rfl dX12_ask_38
set_option maxRecDepth 20000 in
set_option maxHeartbeats 2000000 in
theorem g12_ask_J98 {X : gX} {p : Program} {l : Launch} {e : Env} {s : State} {m : MethodId} {args : Array Value} {below : List Frame} {meth : Method} {c : Code} (B : gB X p (rm12_ask) s m args meth c RX12 cX12_ask 7 (rm12_ask)) (hS9 : gS X s) (hr : meth.sig.returnType = some .int) (rec64 : Nat → Int32 → Int32 → Int32 → Int32 → Int32 → mMem → Option (Int32 × mMem)) (hrec64 : ∀ (a0 : Nat) (x1 : Int32) (x2 : Int32) (x3 : Int32) (x4 : Int32) (x5 : Int32) (M : mMem), GG X p l e (rm12_ask) s m args below meth c (gP X below args s 0 0 (fun r9 : (Int32 × mMem) => (some (.int r9.1), r9.2))) 7 0 0 64 [(0, .ref a0), (1, .int x1), (2, .int x2), (3, .int x3), (4, .int x4), (5, .int x5)] [] M (rec64 a0 x1 x2 x3 x4 x5 M)) (a0 : Nat) (x1 : Int32) (x2 : Int32) (x4 : Int32) (x5 : Int32) (x6 : Int32) (u0 : Int32) (M : mMem) : GG X p l e (rm12_ask) s m args below meth c (gP X below args s 0 0 (fun r9 : (Int32 × mMem) => (some (.int r9.1), r9.2))) 7 0 0 98 [(0, .ref a0), (1, .int x1), (2, .int x2), (4, .int x4), (5, .int x5), (6, .int x6)] [.int u0] M (p12_ask_J98 rec64 a0 x1 x2 x4 x5 x6 u0 M) := by
  unfold p12_ask_J98
  refine g_istore_n (lv' := [(3, .int u0), (0, .ref a0), (1, .int x1), (2, .int x2), (4, .int x4), (5, .int x5), (6, .int x6)]) B dX12_ask_98 (by decide) [0, 1, 2, 3, 4, 5, 6] rfl ?_
  refine g_iload B dX12_ask_99 4 rfl ?_
  refine g_iload B dX12_ask_101 6 rfl ?_
  refine g_min B wd_2007 wd_538 wd_15 wd_539 (by decide) (Nat.le_of_ble_eq_true rfl) (by decide) dX12_ask_103 ?_
  refine g_istore (lv' := [(4, .int (minI x4 x6)), (3, .int u0), (0, .ref a0), (1, .int x1), (2, .int x2), (5, .int x5), (6, .int x6)]) B dX12_ask_106 (by decide) [0, 1, 2, 3, 4, 5, 6] rfl ?_
  refine g_iinc (v := (x5 + 1)) (lv' := [(5, .int (x5 + 1)), (4, .int (minI x4 x6)), (3, .int u0), (0, .ref a0), (1, .int x1), (2, .int x2), (6, .int x6)]) B dX12_ask_108 5 rfl rfl (by decide) [0, 1, 2, 3, 4, 5, 6] rfl ?_
  refine g_goto B 64 dX12_ask_111 (by decide) ?_
  refine g_sub (lv' := [(0, .ref a0), (1, .int x1), (2, .int x2), (3, .int u0), (4, .int (minI x4 x6)), (5, .int (x5 + 1))]) [3, 4, 5, 2, 1, 0] rfl ?_
  exact hrec64 a0 x1 x2 u0 (minI x4 x6) (x5 + 1) M
set_option maxRecDepth 20000 in
set_option maxHeartbeats 2000000 in
theorem g12_ask_L64 {X : gX} {p : Program} {l : Launch} {e : Env} {s : State} {m : MethodId} {args : Array Value} {below : List Frame} {meth : Method} {c : Code} (B : gB X p (rm12_ask) s m args meth c RX12 cX12_ask 7 (rm12_ask)) (hS9 : gS X s) (hr : meth.sig.returnType = some .int) : ∀ (n : Nat) (a0 : Nat) (x1 : Int32) (x2 : Int32) (x3 : Int32) (x4 : Int32) (x5 : Int32) (M : mMem), GG X p l e (rm12_ask) s m args below meth c (gP X below args s 0 0 (fun r9 : (Int32 × mMem) => (some (.int r9.1), r9.2))) 7 0 0 64 [(0, .ref a0), (1, .int x1), (2, .int x2), (3, .int x3), (4, .int x4), (5, .int x5)] [] M (p12_ask_L64 n a0 x1 x2 x3 x4 x5 M) := by
  intro n
  induction n with
  | zero => intro a0 x1 x2 x3 x4 x5 M; exact g_none
  | succ n ih =>
    intro a0 x1 x2 x3 x4 x5 M
    rw [p12_ask_L64]
    refine g_iload B dX12_ask_64 5 rfl ?_
    refine g_aload_n B dX12_ask_66 0 rfl ?_
    refine g_getR (ci := 11) (T0 := TX12) (N := 27) B (by decide) rfl in_11 (k := 1) (by decide) rfl wd_1642 (fun _ h => h) dX12_ask_67 (fun v_1 => ?_)
    refine g_iconst (v := 4) B dX12_ask_70 (by decide) ?_
    refine g_iaload B dX12_ask_71 (fun v_2 => ?_)
    refine g_icmp_ge B 114 dX12_ask_72 (by decide) ?_ ?_
    · refine g_aload_n B dX12_ask_75 0 rfl ?_
      refine g_iload_n B dX12_ask_76 1 rfl ?_
      refine g_iload B dX12_ask_77 5 rfl ?_
      refine g_iload_n B dX12_ask_79 2 rfl ?_
      refine g_callV_iw [.int x1, .int x5, .int x2] (ci := 11) (T0 := TX12) (N := 27) B hS9 mf12_partBy wd_2195 (gw B wp_113) wd_2193 (by decide) rfl (fun h => (gd_ne h).1) (c12_partBy X l a0 x1 x5 x2 M) (by decide) (by decide) (by decide) rfl (by decide) dX12_ask_80 rfl (fun q_3 => ?_)
      refine g_istore (lv' := [(6, .int q_3.1), (0, .ref a0), (1, .int x1), (2, .int x2), (3, .int x3), (4, .int x4), (5, .int x5)]) B dX12_ask_83 (by decide) [0, 1, 2, 3, 4, 5, 6] rfl ?_
      refine g_iload B dX12_ask_85 0 rfl ?_
      refine g_iload B dX12_ask_87 5 rfl ?_
      refine g_icmp_ge B 97 dX12_ask_89 (by decide) ?_ ?_
      · refine g_iload B dX12_ask_92 6 rfl ?_
        refine g_goto B 98 dX12_ask_94 (by decide) ?_
        refine g_sub (lv' := [(0, .ref a0), (1, .int x1), (2, .int x2), (4, .int x4), (5, .int x5), (6, .int q_3.1)]) [1, 2, 3, 5, 6, 0] rfl ?_
        exact g12_ask_J98 B hS9 hr (p12_ask_L64 n) ih a0 x1 x2 x4 x5 q_3.1 x5 q_3.2
      · refine g_iload_n B dX12_ask_97 4 rfl ?_
        refine g_sub (lv' := [(0, .ref a0), (1, .int x1), (2, .int x2), (4, .int x4), (5, .int x5), (6, .int q_3.1)]) [1, 2, 3, 5, 6, 0] rfl ?_
        exact g12_ask_J98 B hS9 hr (p12_ask_L64 n) ih a0 x1 x2 x4 x5 q_3.1 x3 q_3.2
    · refine g_iload_n B dX12_ask_114 3 rfl ?_
      exact g_ireturn B hr rfl (by decide) (by decide) rfl dX12_ask_115
set_option maxRecDepth 20000 in
set_option maxHeartbeats 2000000 in
theorem g12_ask_J30 {X : gX} {p : Program} {l : Launch} {e : Env} {s : State} {m : MethodId} {args : Array Value} {below : List Frame} {meth : Method} {c : Code} (B : gB X p (rm12_ask) s m args meth c RX12 cX12_ask 7 (rm12_ask)) (hS9 : gS X s) (hr : meth.sig.returnType = some .int) (a0 : Nat) (x1 : Int32) (b0 : Nat) (u1 : Int32) (M : mMem) : GG X p l e (rm12_ask) s m args below meth c (gP X below args s 0 0 (fun r9 : (Int32 × mMem) => (some (.int r9.1), r9.2))) 7 0 0 30 [(0, .ref a0), (1, .int x1)] [.int u1, .ref b0] M (p12_ask_J30 a0 x1 b0 u1 M) := by
  unfold p12_ask_J30
  refine g_iconst (v := 2) B dX12_ask_30 (by decide) ?_
  refine g_callV_iw [.int u1, .int 2] (ci := 11) (T0 := TX12) (N := 27) B hS9 mf12_throwsIf wd_1932 (gw B wp_78) wd_1930 (by decide) rfl (fun h => (gd_ne h).1) (c12_throwsIf X l b0 u1 2 M) (by decide) (by decide) (by decide) rfl (by decide) dX12_ask_31 rfl (fun q_1 => ?_)
  refine g_if_eq B 39 dX12_ask_34 (by decide) ?_ ?_
  · refine g_aload_n B dX12_ask_39 0 rfl ?_
    refine g_iload_n B dX12_ask_40 1 rfl ?_
    refine g_callV_iw [.int x1] (ci := 11) (T0 := TX12) (N := 27) B hS9 mf12_allThatFit wd_2187 (gw B wp_112) wd_2185 (by decide) rfl (fun h => (gd_ne h).1) (c12_allThatFit X l a0 x1 q_1.2) (by decide) (by decide) (by decide) rfl (by decide) dX12_ask_41 rfl (fun q_2 => ?_)
    refine g_istore_n (lv' := [(2, .int q_2.1), (0, .ref a0), (1, .int x1)]) B dX12_ask_44 (by decide) [0, 1, 2] rfl ?_
    refine g_iload_n B dX12_ask_45 0 rfl ?_
    refine g_callS_ip [.int q_2.1] B hS9 mfJ6_bitCount wd_1272 wd_2093 (cJ6_bitCount X l q_2.1 q_2.2) (by decide) (by decide) (by decide) rfl (by decide) dX12_ask_46 rfl (fun v_3 => ?_)
    refine g_iconst (v := 2) B dX12_ask_49 (by decide) ?_
    refine g_icmp_ge B 55 dX12_ask_50 (by decide) ?_ ?_
    · refine g_iconst (v := (-1)) B dX12_ask_53 (by decide) ?_
      exact g_ireturn B hr rfl (by decide) (by decide) rfl dX12_ask_54
    · refine g_iconst (v := (-1)) B dX12_ask_55 (by decide) ?_
      refine g_istore_n (lv' := [(3, .int (-1)), (2, .int q_2.1), (0, .ref a0), (1, .int x1)]) B dX12_ask_56 (by decide) [0, 1, 2, 3] rfl ?_
      refine g_ldc B dX12_ask_57 wd_1815 ?_
      refine g_istore (lv' := [(4, .int 1000000), (3, .int (-1)), (2, .int q_2.1), (0, .ref a0), (1, .int x1)]) B dX12_ask_59 (by decide) [0, 1, 2, 3, 4] rfl ?_
      refine g_iconst (v := 0) B dX12_ask_61 (by decide) ?_
      refine g_istore (lv' := [(5, .int 0), (4, .int 1000000), (3, .int (-1)), (2, .int q_2.1), (0, .ref a0), (1, .int x1)]) B dX12_ask_62 (by decide) [0, 1, 2, 3, 4, 5] rfl ?_
      refine g_sub (lv' := [(0, .ref a0), (1, .int x1), (2, .int q_2.1), (3, .int (-1)), (4, .int 1000000), (5, .int 0)]) [4, 5, 3, 2, 1, 0] rfl ?_
      exact (g12_ask_L64 B hS9 hr) gF a0 x1 q_2.1 (-1) 1000000 0 q_2.2
  · refine g_sub (lv' := []) [] rfl ?_
    exact g12_ask_J37 B hS9 hr q_1.2
set_option maxRecDepth 20000 in
set_option maxHeartbeats 2000000 in
theorem g12_ask {X : gX} {p : Program} {l : Launch} {e : Env} {s : State} {m : MethodId} {args : Array Value} {below : List Frame} {meth : Method} {c : Code} (B : gB X p (rm12_ask) s m args meth c RX12 cX12_ask 7 (rm12_ask)) (hS9 : gS X s) (hr : meth.sig.returnType = some .int) (a0 : Nat) (x1 : Int32) (M : mMem) : GG X p l e (rm12_ask) s m args below meth c (gP X below args s 0 0 (fun r9 : (Int32 × mMem) => (some (.int r9.1), r9.2))) 7 0 0 0 [(0, .ref a0), (1, .int x1)] [] M (p12_ask a0 x1 M) := by
  unfold p12_ask
  refine g_gd ?_
  refine g_aload_n B dX12_ask_0 0 rfl ?_
  refine g_callV_vw [] (ci := 11) (T0 := TX12) (N := 27) B hS9 mf12_uses wd_1758 (gw B wp_43) wd_1756 (by decide) rfl (fun h => (gd_ne h).1) (c12_uses X l a0 M) (by decide) (by decide) (by decide) rfl (by decide) dX12_ask_1 rfl (fun q_1 => ?_)
  refine g_aload_n B dX12_ask_4 0 rfl ?_
  refine g_aload_n B dX12_ask_5 0 rfl ?_
  refine g_iload_n B dX12_ask_6 1 rfl ?_
  refine g_callV_ip [.int x1] (ci := 11) (T0 := TX12) (N := 27) B hS9 mf12_nobody wd_1944 (gw B wp_79) wd_1942 (by decide) rfl (fun h => (gd_ne h).1) (c12_nobody X l a0 x1 q_1) (by decide) (by decide) (by decide) rfl (Nat.le_of_ble_eq_true rfl) dX12_ask_7 rfl (fun v_2 => ?_)
  refine g_iconst (v := 1) B dX12_ask_10 (by decide) ?_
  refine g_callV_iw [.int v_2, .int 1] (ci := 11) (T0 := TX12) (N := 27) B hS9 mf12_throwsIf wd_1932 (gw B wp_78) wd_1930 (by decide) rfl (fun h => (gd_ne h).1) (c12_throwsIf X l a0 v_2 1 q_1) (by decide) (by decide) (by decide) rfl (by decide) dX12_ask_11 rfl (fun q_3 => ?_)
  refine g_if_ne B 37 dX12_ask_14 (by decide) ?_ ?_
  · refine g_aload_n B dX12_ask_17 0 rfl ?_
    refine g_aload_n B dX12_ask_18 0 rfl ?_
    refine g_callV_ip [] (ci := 11) (T0 := TX12) (N := 27) B hS9 mf12_isTold wd_2183 (gw B wp_111) wd_2181 (by decide) rfl (fun h => (gd_ne h).1) (c12_isTold X l a0 q_3.2) (by decide) (by decide) (by decide) rfl (Nat.le_of_ble_eq_true rfl) dX12_ask_19 rfl (fun v_4 => ?_)
    refine g_if_ne B 29 dX12_ask_22 (by decide) ?_ ?_
    · refine g_iconst (v := 1) B dX12_ask_25 (by decide) ?_
      refine g_goto B 30 dX12_ask_26 (by decide) ?_
      refine g_sub (lv' := [(0, .ref a0), (1, .int x1)]) [0, 1] rfl ?_
      exact g12_ask_J30 B hS9 hr a0 x1 a0 1 q_3.2
    · refine g_iconst (v := 0) B dX12_ask_29 (by decide) ?_
      refine g_sub (lv' := [(0, .ref a0), (1, .int x1)]) [0, 1] rfl ?_
      exact g12_ask_J30 B hS9 hr a0 x1 a0 0 q_3.2
  · refine g_sub (lv' := []) [] rfl ?_
    exact g12_ask_J37 B hS9 hr q_3.2
theorem c12_ask (X : gX) (l : Launch) (a0 : Nat) (x1 : Int32) (M : mMem) : Con X l yX12_ask cX12_ask 7 (some .int) rm12_ask (fun r9 : (Int32 × mMem) => (some (.int r9.1), r9.2)) [.ref a0, .int x1] M (p12_ask a0 x1 M) := g_con (own := RX12) (by decide +kernel) rfl (Nat.le_of_ble_eq_true rfl) (fun p e s m args below meth c B hS9 hr hn => g12_ask B hS9 hr a0 x1 M)
theorem mf12_canPair : gMF yX12_canPair cX12_canPair 3 (some .boolean) 2 := ⟨wd_2220, wd_13, ⟨by decide, by decide⟩, by decide +kernel⟩
set_option maxRecDepth 20000 in
set_option maxHeartbeats 2000000 in
theorem g12_canPair_J46 {X : gX} {p : Program} {l : Launch} {e : Env} {s : State} {m : MethodId} {args : Array Value} {below : List Frame} {meth : Method} {c : Code} (B : gB X p (rm12_canPair) s m args meth c RX12 cX12_canPair 3 (rm12_canPair)) (hS9 : gS X s) (hr : meth.sig.returnType = some .boolean) {M : mMem} (u0 : Int32) : GG X p l e (rm12_canPair) s m args below meth c (gP X below args s 0 0 (fun r9 : Int32 => (some (.int r9), M))) 3 0 0 46 [] [.int u0] M (p12_canPair_J46 M u0) := by
  unfold p12_canPair_J46
  exact g_zreturn (f := fun z => z) B hr (by decide) (by decide) rfl dX12_canPair_46
set_option maxRecDepth 20000 in
set_option maxHeartbeats 2000000 in
theorem g12_canPair_J45 {X : gX} {p : Program} {l : Launch} {e : Env} {s : State} {m : MethodId} {args : Array Value} {below : List Frame} {meth : Method} {c : Code} (B : gB X p (rm12_canPair) s m args meth c RX12 cX12_canPair 3 (rm12_canPair)) (hS9 : gS X s) (hr : meth.sig.returnType = some .boolean) {M : mMem} : GG X p l e (rm12_canPair) s m args below meth c (gP X below args s 0 0 (fun r9 : Int32 => (some (.int r9), M))) 3 0 0 45 [] [] M (p12_canPair_J45 M) := by
  unfold p12_canPair_J45
  refine g_iconst (v := 0) B dX12_canPair_45 (by decide) ?_
  refine g_sub (lv' := []) [] rfl ?_
  exact g12_canPair_J46 B hS9 hr 0
set_option maxRecDepth 20000 in
set_option maxHeartbeats 2000000 in
theorem g12_canPair {X : gX} {p : Program} {l : Launch} {e : Env} {s : State} {m : MethodId} {args : Array Value} {below : List Frame} {meth : Method} {c : Code} (B : gB X p (rm12_canPair) s m args meth c RX12 cX12_canPair 3 (rm12_canPair)) (hS9 : gS X s) (hr : meth.sig.returnType = some .boolean) {M : mMem} (a0 : Nat) (x1 : Int32) (x2 : Int32) : GG X p l e (rm12_canPair) s m args below meth c (gP X below args s 0 0 (fun r9 : Int32 => (some (.int r9), M))) 3 0 0 0 [(0, .ref a0), (1, .int x1), (2, .int x2)] [] M (p12_canPair a0 x1 x2 M) := by
  unfold p12_canPair
  refine g_gd ?_
  refine g_aload_n B dX12_canPair_0 0 rfl ?_
  refine g_iload_n B dX12_canPair_1 1 rfl ?_
  refine g_callV_ip [.int x1] (ci := 11) (T0 := TX12) (N := 27) B hS9 mf12_isBoy wd_2050 (gw B wp_97) wd_2048 (by decide) rfl (fun h => (gd_ne h).1) (c12_isBoy X l a0 x1 M) (by decide) (by decide) (by decide) rfl (by decide) dX12_canPair_2 rfl (fun v_1 => ?_)
  refine g_if_eq B 45 dX12_canPair_5 (by decide) ?_ ?_
  · refine g_sub (lv' := []) [] rfl ?_
    exact g12_canPair_J45 B hS9 hr
  · refine g_aload_n B dX12_canPair_8 0 rfl ?_
    refine g_iload_n B dX12_canPair_9 2 rfl ?_
    refine g_callV_ip [.int x2] (ci := 11) (T0 := TX12) (N := 27) B hS9 mf12_isBoy wd_2050 (gw B wp_97) wd_2048 (by decide) rfl (fun h => (gd_ne h).1) (c12_isBoy X l a0 x2 M) (by decide) (by decide) (by decide) rfl (by decide) dX12_canPair_10 rfl (fun v_2 => ?_)
    refine g_if_ne B 45 dX12_canPair_13 (by decide) ?_ ?_
    · refine g_aload_n B dX12_canPair_16 0 rfl ?_
      refine g_iload_n B dX12_canPair_17 1 rfl ?_
      refine g_callV_ip [.int x1] (ci := 11) (T0 := TX12) (N := 27) B hS9 mf12_isSingle wd_1850 (gw B wp_62) wd_1848 (by decide) rfl (fun h => (gd_ne h).1) (c12_isSingle X l a0 x1 M) (by decide) (by decide) (by decide) rfl (by decide) dX12_canPair_18 rfl (fun v_3 => ?_)
      refine g_if_eq B 45 dX12_canPair_21 (by decide) ?_ ?_
      · refine g_sub (lv' := []) [] rfl ?_
        exact g12_canPair_J45 B hS9 hr
      · refine g_aload_n B dX12_canPair_24 0 rfl ?_
        refine g_iload_n B dX12_canPair_25 2 rfl ?_
        refine g_callV_ip [.int x2] (ci := 11) (T0 := TX12) (N := 27) B hS9 mf12_isSingle wd_1850 (gw B wp_62) wd_1848 (by decide) rfl (fun h => (gd_ne h).1) (c12_isSingle X l a0 x2 M) (by decide) (by decide) (by decide) rfl (by decide) dX12_canPair_26 rfl (fun v_4 => ?_)
        refine g_if_eq B 45 dX12_canPair_29 (by decide) ?_ ?_
        · refine g_sub (lv' := []) [] rfl ?_
          exact g12_canPair_J45 B hS9 hr
        · refine g_aload_n B dX12_canPair_32 0 rfl ?_
          refine g_iload_n B dX12_canPair_33 1 rfl ?_
          refine g_iload_n B dX12_canPair_34 2 rfl ?_
          refine g_callV_ip [.int x1, .int x2] (ci := 11) (T0 := TX12) (N := 27) B hS9 mf12_areClose wd_1854 (gw B wp_63) wd_1852 (by decide) rfl (fun h => (gd_ne h).1) (c12_areClose X l a0 x1 x2 M) (by decide) (by decide) (by decide) rfl (by decide) dX12_canPair_35 rfl (fun v_5 => ?_)
          refine g_if_ne B 45 dX12_canPair_38 (by decide) ?_ ?_
          · refine g_iconst (v := 1) B dX12_canPair_41 (by decide) ?_
            refine g_goto B 46 dX12_canPair_42 (by decide) ?_
            refine g_sub (lv' := []) [] rfl ?_
            exact g12_canPair_J46 B hS9 hr 1
          · refine g_sub (lv' := []) [] rfl ?_
            exact g12_canPair_J45 B hS9 hr
    · refine g_sub (lv' := []) [] rfl ?_
      exact g12_canPair_J45 B hS9 hr
theorem c12_canPair (X : gX) (l : Launch) (a0 : Nat) (x1 : Int32) (x2 : Int32) (M : mMem) : Con X l yX12_canPair cX12_canPair 3 (some .boolean) rm12_canPair (fun r9 : Int32 => (some (.int r9), M)) [.ref a0, .int x1, .int x2] M (p12_canPair a0 x1 x2 M) := g_con (own := RX12) (by decide +kernel) rfl (Nat.le_of_ble_eq_true rfl) (fun p e s m args below meth c B hS9 hr hn => g12_canPair B hS9 hr a0 x1 x2)
theorem mf12_worthAt : gMF yX12_worthAt cX12_worthAt 2 (some .int) 2 := ⟨wd_2211, wd_13, ⟨by decide, by decide⟩, by decide +kernel⟩
set_option maxRecDepth 20000 in
set_option maxHeartbeats 2000000 in
theorem g12_worthAt {X : gX} {p : Program} {l : Launch} {e : Env} {s : State} {m : MethodId} {args : Array Value} {below : List Frame} {meth : Method} {c : Code} (B : gB X p (rm12_worthAt) s m args meth c RX12 cX12_worthAt 2 (rm12_worthAt)) (hS9 : gS X s) (hr : meth.sig.returnType = some .int) {M : mMem} (x0 : Int32) (x1 : Int32) : GG X p l e (rm12_worthAt) s m args below meth c (gP X below args s 0 0 (fun r9 : Int32 => (some (.int r9), M))) 2 0 0 0 [(0, .int x0), (1, .int x1)] [] M (p12_worthAt x0 x1 M) := by
  unfold p12_worthAt
  refine g_iload_n B dX12_worthAt_0 0 rfl ?_
  refine g_bipush (v := 8) B dX12_worthAt_1 (by decide) ?_
  refine g_ishl B dX12_worthAt_3 ?_
  refine g_iload_n B dX12_worthAt_4 1 rfl ?_
  refine g_iadd B dX12_worthAt_5 ?_
  exact g_ireturn B hr rfl (by decide) (by decide) rfl dX12_worthAt_6
theorem c12_worthAt (X : gX) (l : Launch) (x0 : Int32) (x1 : Int32) (M : mMem) : Con X l yX12_worthAt cX12_worthAt 2 (some .int) rm12_worthAt (fun r9 : Int32 => (some (.int r9), M)) [.int x0, .int x1] M (p12_worthAt x0 x1 M) := g_con (own := RX12) (by decide +kernel) rfl (Nat.le_of_ble_eq_true rfl) (fun p e s m args below meth c B hS9 hr hn => g12_worthAt B hS9 hr x0 x1)
theorem mf12_worthBy : gMF yX12_worthBy cX12_worthBy 4 (some .int) 3 := ⟨wd_2216, wd_13, ⟨by decide, by decide⟩, by decide +kernel⟩
set_option maxRecDepth 20000 in
set_option maxHeartbeats 2000000 in
theorem g12_worthBy_J38 {X : gX} {p : Program} {l : Launch} {e : Env} {s : State} {m : MethodId} {args : Array Value} {below : List Frame} {meth : Method} {c : Code} (B : gB X p (rm12_worthBy) s m args meth c RX12 cX12_worthBy 4 (rm12_worthBy)) (hS9 : gS X s) (hr : meth.sig.returnType = some .int) {M : mMem} : GG X p l e (rm12_worthBy) s m args below meth c (gP X below args s 0 0 (fun r9 : Int32 => (some (.int r9), M))) 4 0 0 38 [] [] M (p12_worthBy_J38 M) := by
  unfold p12_worthBy_J38
  refine g_ldc_w B dX12_worthBy_38 wd_2212 ?_
  exact g_ireturn B hr rfl (by decide) (by decide) rfl dX12_worthBy_41
set_option maxRecDepth 20000 in
set_option maxHeartbeats 2000000 in
theorem g12_worthBy {X : gX} {p : Program} {l : Launch} {e : Env} {s : State} {m : MethodId} {args : Array Value} {below : List Frame} {meth : Method} {c : Code} (B : gB X p (rm12_worthBy) s m args meth c RX12 cX12_worthBy 4 (rm12_worthBy)) (hS9 : gS X s) (hr : meth.sig.returnType = some .int) {M : mMem} (a0 : Nat) (x1 : Int32) (x2 : Int32) (x3 : Int32) : GG X p l e (rm12_worthBy) s m args below meth c (gP X below args s 0 0 (fun r9 : Int32 => (some (.int r9), M))) 4 0 0 0 [(0, .ref a0), (1, .int x1), (2, .int x2), (3, .int x3)] [] M (p12_worthBy a0 x1 x2 x3 M) := by
  unfold p12_worthBy
  refine g_gd ?_
  refine g_iload_n B dX12_worthBy_0 3 rfl ?_
  refine g_aload_n B dX12_worthBy_1 0 rfl ?_
  refine g_callV_ip [] (ci := 11) (T0 := TX12) (N := 27) B hS9 mf12_people wd_1793 (gw B wp_51) wd_1791 (by decide) rfl (fun h => (gd_ne h).1) (c12_people X l a0 M) (by decide) (by decide) (by decide) rfl (Nat.le_of_ble_eq_true rfl) dX12_worthBy_2 rfl (fun v_1 => ?_)
  refine g_icmp_ne B 21 dX12_worthBy_5 (by decide) ?_ ?_
  · refine g_aload_n B dX12_worthBy_8 0 rfl ?_
    refine g_getR (ci := 11) (T0 := TX12) (N := 27) B (by decide) rfl in_11 (k := 23) (by decide) rfl wd_1664 (fun _ h => h) dX12_worthBy_9 (fun v_8 => ?_)
    refine g_iload_n B dX12_worthBy_12 1 rfl ?_
    refine g_iconst (v := 1) B dX12_worthBy_13 (by decide) ?_
    refine g_iadd B dX12_worthBy_14 ?_
    refine g_iload_n B dX12_worthBy_15 2 rfl ?_
    refine g_callS_ip [.int (x1 + 1), .int x2] B hS9 mf12_worthAt wd_2210 wd_2209 (c12_worthAt X l (x1 + 1) x2 M) (by decide) (by decide) (by decide) rfl (Nat.le_of_ble_eq_true rfl) dX12_worthBy_16 rfl (fun v_9 => ?_)
    refine g_iaload B dX12_worthBy_19 (fun v_10 => ?_)
    exact g_ireturn B hr rfl (by decide) (by decide) rfl dX12_worthBy_20
  · refine g_iload_n B dX12_worthBy_21 2 rfl ?_
    refine g_iload_n B dX12_worthBy_22 3 rfl ?_
    refine g_callS_ip [.int x2, .int x3] B hS9 mf12_has wd_1958 wd_1957 (c12_has X l x2 x3 M) (by decide) (by decide) (by decide) rfl (by decide) dX12_worthBy_23 rfl (fun v_2 => ?_)
    refine g_if_ne B 38 dX12_worthBy_26 (by decide) ?_ ?_
    · refine g_aload_n B dX12_worthBy_29 0 rfl ?_
      refine g_iload_n B dX12_worthBy_30 1 rfl ?_
      refine g_iload_n B dX12_worthBy_31 3 rfl ?_
      refine g_callV_ip [.int x1, .int x3] (ci := 11) (T0 := TX12) (N := 27) B hS9 mf12_canPair wd_2219 (gw B wp_117) wd_2217 (by decide) rfl (fun h => (gd_ne h).1) (c12_canPair X l a0 x1 x3 M) (by decide) (by decide) (by decide) rfl (by decide) dX12_worthBy_32 rfl (fun v_3 => ?_)
      refine g_if_ne B 42 dX12_worthBy_35 (by decide) ?_ ?_
      · refine g_sub (lv' := []) [] rfl ?_
        exact g12_worthBy_J38 B hS9 hr
      · refine g_sipush (v := 1000) B dX12_worthBy_42 (by decide) ?_
        refine g_aload_n B dX12_worthBy_45 0 rfl ?_
        refine g_iload_n B dX12_worthBy_46 1 rfl ?_
        refine g_iload_n B dX12_worthBy_47 3 rfl ?_
        refine g_callV_ip [.int x1, .int x3] (ci := 11) (T0 := TX12) (N := 27) B hS9 mf12_gapOf wd_2002 (gw B wp_89) wd_2000 (by decide) rfl (fun h => (gd_ne h).1) (c12_gapOf X l a0 x1 x3 M) (by decide) (by decide) (by decide) rfl (Nat.le_of_ble_eq_true rfl) dX12_worthBy_48 rfl (fun v_4 => ?_)
        refine g_isub B dX12_worthBy_51 ?_
        refine g_aload_n B dX12_worthBy_52 0 rfl ?_
        refine g_getR (ci := 11) (T0 := TX12) (N := 27) B (by decide) rfl in_11 (k := 23) (by decide) rfl wd_1664 (fun _ h => h) dX12_worthBy_53 (fun v_5 => ?_)
        refine g_iload_n B dX12_worthBy_56 1 rfl ?_
        refine g_iconst (v := 1) B dX12_worthBy_57 (by decide) ?_
        refine g_iadd B dX12_worthBy_58 ?_
        refine g_iload_n B dX12_worthBy_59 2 rfl ?_
        refine g_iconst (v := 1) B dX12_worthBy_60 (by decide) ?_
        refine g_iload_n B dX12_worthBy_61 3 rfl ?_
        refine g_ishl B dX12_worthBy_62 ?_
        refine g_ior B dX12_worthBy_63 ?_
        refine g_callS_ip [.int (x1 + 1), .int (x2 ||| ((1 : Int32) <<< (x3 &&& 31)))] B hS9 mf12_worthAt wd_2210 wd_2209 (c12_worthAt X l (x1 + 1) (x2 ||| ((1 : Int32) <<< (x3 &&& 31))) M) (by decide) (by decide) (by decide) rfl (Nat.le_of_ble_eq_true rfl) dX12_worthBy_64 rfl (fun v_6 => ?_)
        refine g_iaload B dX12_worthBy_67 (fun v_7 => ?_)
        refine g_iadd B dX12_worthBy_68 ?_
        exact g_ireturn B hr rfl (by decide) (by decide) rfl dX12_worthBy_69
    · refine g_sub (lv' := []) [] rfl ?_
      exact g12_worthBy_J38 B hS9 hr
theorem c12_worthBy (X : gX) (l : Launch) (a0 : Nat) (x1 : Int32) (x2 : Int32) (x3 : Int32) (M : mMem) : Con X l yX12_worthBy cX12_worthBy 4 (some .int) rm12_worthBy (fun r9 : Int32 => (some (.int r9), M)) [.ref a0, .int x1, .int x2, .int x3] M (p12_worthBy a0 x1 x2 x3 M) := g_con (own := RX12) (by decide +kernel) rfl (Nat.le_of_ble_eq_true rfl) (fun p e s m args below meth c B hS9 hr hn => g12_worthBy B hS9 hr a0 x1 x2 x3)
theorem mf12_laysWorth : gMF yX12_laysWorth cX12_laysWorth 5 (none) 0 := ⟨wd_2208, wd_13, ⟨by decide, by decide⟩, by decide +kernel⟩
set_option maxRecDepth 20000 in
set_option maxHeartbeats 2000000 in
theorem g12_laysWorth_L2 {X : gX} {p : Program} {l : Launch} {e : Env} {s : State} {m : MethodId} {args : Array Value} {below : List Frame} {meth : Method} {c : Code} (B : gB X p (rm12_laysWorth) s m args meth c RX12 cX12_laysWorth 5 (rm12_laysWorth)) (hS9 : gS X s) (hr : meth.sig.returnType = none) (k29 : Nat → mMem → Option mMem) (hk29 : ∀ (a0 : Nat) (M : mMem), GG X p l e (rm12_laysWorth) s m args below meth c (gP X below args s 0 0 (fun M9 : mMem => (none, M9))) 5 0 0 29 [(0, .ref a0)] [] M (k29 a0 M)) : ∀ (n : Nat) (a0 : Nat) (x1 : Int32) (M : mMem), GG X p l e (rm12_laysWorth) s m args below meth c (gP X below args s 0 0 (fun M9 : mMem => (none, M9))) 5 0 0 2 [(0, .ref a0), (1, .int x1)] [] M (p12_laysWorth_L2 k29 n a0 x1 M) := by
  intro n
  induction n with
  | zero => intro a0 x1 M; exact g_none
  | succ n ih =>
    intro a0 x1 M
    rw [p12_laysWorth_L2]
    refine g_iload_n B dX12_laysWorth_2 1 rfl ?_
    refine g_sipush (v := 256) B dX12_laysWorth_3 (by decide) ?_
    refine g_icmp_ge B 29 dX12_laysWorth_6 (by decide) ?_ ?_
    · refine g_aload_n B dX12_laysWorth_9 0 rfl ?_
      refine g_getR (ci := 11) (T0 := TX12) (N := 27) B (by decide) rfl in_11 (k := 23) (by decide) rfl wd_1664 (fun _ h => h) dX12_laysWorth_10 (fun v_1 => ?_)
      refine g_aload_n B dX12_laysWorth_13 0 rfl ?_
      refine g_callV_ip [] (ci := 11) (T0 := TX12) (N := 27) B hS9 mf12_people wd_1793 (gw B wp_51) wd_1791 (by decide) rfl (fun h => (gd_ne h).1) (c12_people X l a0 M) (by decide) (by decide) (by decide) rfl (Nat.le_of_ble_eq_true rfl) dX12_laysWorth_14 rfl (fun v_2 => ?_)
      refine g_iload_n B dX12_laysWorth_17 1 rfl ?_
      refine g_callS_ip [.int v_2, .int x1] B hS9 mf12_worthAt wd_2210 wd_2209 (c12_worthAt X l v_2 x1 M) (by decide) (by decide) (by decide) rfl (Nat.le_of_ble_eq_true rfl) dX12_laysWorth_18 rfl (fun v_3 => ?_)
      refine g_iconst (v := 0) B dX12_laysWorth_21 (by decide) ?_
      refine g_iastore B dX12_laysWorth_22 (fun M_4 => ?_)
      refine g_iinc (v := (x1 + 1)) (lv' := [(1, .int (x1 + 1)), (0, .ref a0)]) B dX12_laysWorth_23 1 rfl rfl (by decide) [0, 1] rfl ?_
      refine g_goto B 2 dX12_laysWorth_26 (by decide) ?_
      refine g_sub (lv' := [(0, .ref a0), (1, .int (x1 + 1))]) [1, 0] rfl ?_
      exact ih a0 (x1 + 1) M_4
    · refine g_sub (lv' := [(0, .ref a0)]) [0] rfl ?_
      exact hk29 a0 M
set_option maxRecDepth 20000 in
set_option maxHeartbeats 2000000 in
theorem g12_laysWorth_L56 {X : gX} {p : Program} {l : Launch} {e : Env} {s : State} {m : MethodId} {args : Array Value} {below : List Frame} {meth : Method} {c : Code} (B : gB X p (rm12_laysWorth) s m args meth c RX12 cX12_laysWorth 5 (rm12_laysWorth)) (hS9 : gS X s) (hr : meth.sig.returnType = none) (k84 : Nat → Int32 → Int32 → Int32 → mMem → Option mMem) (hk84 : ∀ (a0 : Nat) (x1 : Int32) (x2 : Int32) (x3 : Int32) (M : mMem), GG X p l e (rm12_laysWorth) s m args below meth c (gP X below args s 0 0 (fun M9 : mMem => (none, M9))) 5 0 0 84 [(0, .ref a0), (1, .int x1), (2, .int x2), (3, .int x3)] [] M (k84 a0 x1 x2 x3 M)) : ∀ (n : Nat) (a0 : Nat) (x1 : Int32) (x2 : Int32) (x3 : Int32) (x4 : Int32) (M : mMem), GG X p l e (rm12_laysWorth) s m args below meth c (gP X below args s 0 0 (fun M9 : mMem => (none, M9))) 5 0 0 56 [(0, .ref a0), (1, .int x1), (2, .int x2), (3, .int x3), (4, .int x4)] [] M (p12_laysWorth_L56 k84 n a0 x1 x2 x3 x4 M) := by
  intro n
  induction n with
  | zero => intro a0 x1 x2 x3 x4 M; exact g_none
  | succ n ih =>
    intro a0 x1 x2 x3 x4 M
    rw [p12_laysWorth_L56]
    refine g_iload B dX12_laysWorth_56 4 rfl ?_
    refine g_aload_n B dX12_laysWorth_58 0 rfl ?_
    refine g_callV_ip [] (ci := 11) (T0 := TX12) (N := 27) B hS9 mf12_people wd_1793 (gw B wp_51) wd_1791 (by decide) rfl (fun h => (gd_ne h).1) (c12_people X l a0 M) (by decide) (by decide) (by decide) rfl (Nat.le_of_ble_eq_true rfl) dX12_laysWorth_59 rfl (fun v_1 => ?_)
    refine g_icmp_gt B 84 dX12_laysWorth_62 (by decide) ?_ ?_
    · refine g_sub (lv' := [(0, .ref a0), (1, .int x1), (2, .int x2), (3, .int x3)]) [0, 1, 2, 3] rfl ?_
      exact hk84 a0 x1 x2 x3 M
    · refine g_iload_n B dX12_laysWorth_65 3 rfl ?_
      refine g_aload_n B dX12_laysWorth_66 0 rfl ?_
      refine g_iload_n B dX12_laysWorth_67 1 rfl ?_
      refine g_iload_n B dX12_laysWorth_68 2 rfl ?_
      refine g_iload B dX12_laysWorth_69 4 rfl ?_
      refine g_callV_ip [.int x1, .int x2, .int x4] (ci := 11) (T0 := TX12) (N := 27) B hS9 mf12_worthBy wd_2215 (gw B wp_116) wd_2213 (by decide) rfl (fun h => (gd_ne h).1) (c12_worthBy X l a0 x1 x2 x4 M) (by decide) (by decide) (by decide) rfl (Nat.le_of_ble_eq_true rfl) dX12_laysWorth_71 rfl (fun v_2 => ?_)
      refine g_max B wd_1869 wd_516 wd_15 wd_517 (by decide) (Nat.le_of_ble_eq_true rfl) (by decide) dX12_laysWorth_74 ?_
      refine g_istore_n (lv' := [(3, .int (maxI x3 v_2)), (0, .ref a0), (1, .int x1), (2, .int x2), (4, .int x4)]) B dX12_laysWorth_77 (by decide) [0, 1, 2, 3, 4] rfl ?_
      refine g_iinc (v := (x4 + 1)) (lv' := [(4, .int (x4 + 1)), (3, .int (maxI x3 v_2)), (0, .ref a0), (1, .int x1), (2, .int x2)]) B dX12_laysWorth_78 4 rfl rfl (by decide) [0, 1, 2, 3, 4] rfl ?_
      refine g_goto B 56 dX12_laysWorth_81 (by decide) ?_
      refine g_sub (lv' := [(0, .ref a0), (1, .int x1), (2, .int x2), (3, .int (maxI x3 v_2)), (4, .int (x4 + 1))]) [2, 3, 4, 1, 0] rfl ?_
      exact ih a0 x1 x2 (maxI x3 v_2) (x4 + 1) M
set_option maxRecDepth 20000 in
set_option maxHeartbeats 2000000 in
theorem g12_laysWorth_J84 {X : gX} {p : Program} {l : Launch} {e : Env} {s : State} {m : MethodId} {args : Array Value} {below : List Frame} {meth : Method} {c : Code} (B : gB X p (rm12_laysWorth) s m args meth c RX12 cX12_laysWorth 5 (rm12_laysWorth)) (hS9 : gS X s) (hr : meth.sig.returnType = none) (rec42 : Nat → Int32 → Int32 → mMem → Option mMem) (hrec42 : ∀ (a0 : Nat) (x1 : Int32) (x2 : Int32) (M : mMem), GG X p l e (rm12_laysWorth) s m args below meth c (gP X below args s 0 0 (fun M9 : mMem => (none, M9))) 5 0 0 42 [(0, .ref a0), (1, .int x1), (2, .int x2)] [] M (rec42 a0 x1 x2 M)) (a0 : Nat) (x1 : Int32) (x2 : Int32) (x3 : Int32) (M : mMem) : GG X p l e (rm12_laysWorth) s m args below meth c (gP X below args s 0 0 (fun M9 : mMem => (none, M9))) 5 0 0 84 [(0, .ref a0), (1, .int x1), (2, .int x2), (3, .int x3)] [] M (p12_laysWorth_J84 rec42 a0 x1 x2 x3 M) := by
  unfold p12_laysWorth_J84
  refine g_aload_n B dX12_laysWorth_84 0 rfl ?_
  refine g_getR (ci := 11) (T0 := TX12) (N := 27) B (by decide) rfl in_11 (k := 23) (by decide) rfl wd_1664 (fun _ h => h) dX12_laysWorth_85 (fun v_1 => ?_)
  refine g_iload_n B dX12_laysWorth_88 1 rfl ?_
  refine g_iload_n B dX12_laysWorth_89 2 rfl ?_
  refine g_callS_ip [.int x1, .int x2] B hS9 mf12_worthAt wd_2210 wd_2209 (c12_worthAt X l x1 x2 M) (by decide) (by decide) (by decide) rfl (Nat.le_of_ble_eq_true rfl) dX12_laysWorth_90 rfl (fun v_2 => ?_)
  refine g_iload_n B dX12_laysWorth_93 3 rfl ?_
  refine g_iastore B dX12_laysWorth_94 (fun M_3 => ?_)
  refine g_iinc (v := (x2 + 1)) (lv' := [(2, .int (x2 + 1)), (0, .ref a0), (1, .int x1), (3, .int x3)]) B dX12_laysWorth_95 2 rfl rfl (by decide) [0, 1, 2, 3] rfl ?_
  refine g_goto B 42 dX12_laysWorth_98 (by decide) ?_
  refine g_sub (lv' := [(0, .ref a0), (1, .int x1), (2, .int (x2 + 1))]) [1, 2, 0] rfl ?_
  exact hrec42 a0 x1 (x2 + 1) M_3
set_option maxRecDepth 20000 in
set_option maxHeartbeats 2000000 in
theorem g12_laysWorth_L42 {X : gX} {p : Program} {l : Launch} {e : Env} {s : State} {m : MethodId} {args : Array Value} {below : List Frame} {meth : Method} {c : Code} (B : gB X p (rm12_laysWorth) s m args meth c RX12 cX12_laysWorth 5 (rm12_laysWorth)) (hS9 : gS X s) (hr : meth.sig.returnType = none) (k101 : Nat → Int32 → mMem → Option mMem) (hk101 : ∀ (a0 : Nat) (x1 : Int32) (M : mMem), GG X p l e (rm12_laysWorth) s m args below meth c (gP X below args s 0 0 (fun M9 : mMem => (none, M9))) 5 0 0 101 [(0, .ref a0), (1, .int x1)] [] M (k101 a0 x1 M)) : ∀ (n : Nat) (a0 : Nat) (x1 : Int32) (x2 : Int32) (M : mMem), GG X p l e (rm12_laysWorth) s m args below meth c (gP X below args s 0 0 (fun M9 : mMem => (none, M9))) 5 0 0 42 [(0, .ref a0), (1, .int x1), (2, .int x2)] [] M (p12_laysWorth_L42 k101 n a0 x1 x2 M) := by
  intro n
  induction n with
  | zero => intro a0 x1 x2 M; exact g_none
  | succ n ih =>
    intro a0 x1 x2 M
    rw [p12_laysWorth_L42]
    refine g_iload_n B dX12_laysWorth_42 2 rfl ?_
    refine g_sipush (v := 256) B dX12_laysWorth_43 (by decide) ?_
    refine g_icmp_ge B 101 dX12_laysWorth_46 (by decide) ?_ ?_
    · refine g_ldc_w B dX12_laysWorth_49 wd_2212 ?_
      refine g_istore_n (lv' := [(3, .int (-1000000)), (0, .ref a0), (1, .int x1), (2, .int x2)]) B dX12_laysWorth_52 (by decide) [0, 1, 2, 3] rfl ?_
      refine g_iconst (v := 0) B dX12_laysWorth_53 (by decide) ?_
      refine g_istore (lv' := [(4, .int 0), (3, .int (-1000000)), (0, .ref a0), (1, .int x1), (2, .int x2)]) B dX12_laysWorth_54 (by decide) [0, 1, 2, 3, 4] rfl ?_
      refine g_sub (lv' := [(0, .ref a0), (1, .int x1), (2, .int x2), (3, .int (-1000000)), (4, .int 0)]) [2, 3, 4, 1, 0] rfl ?_
      exact (g12_laysWorth_L56 B hS9 hr (p12_laysWorth_J84 (p12_laysWorth_L42 k101 n)) (fun e0 e1 e2 e3 e4 => g12_laysWorth_J84 B hS9 hr (p12_laysWorth_L42 k101 n) ih e0 e1 e2 e3 e4)) gF a0 x1 x2 (-1000000) 0 M
    · refine g_sub (lv' := [(0, .ref a0), (1, .int x1)]) [0, 1] rfl ?_
      exact hk101 a0 x1 M
set_option maxRecDepth 20000 in
set_option maxHeartbeats 2000000 in
theorem g12_laysWorth_J101 {X : gX} {p : Program} {l : Launch} {e : Env} {s : State} {m : MethodId} {args : Array Value} {below : List Frame} {meth : Method} {c : Code} (B : gB X p (rm12_laysWorth) s m args meth c RX12 cX12_laysWorth 5 (rm12_laysWorth)) (hS9 : gS X s) (hr : meth.sig.returnType = none) (rec36 : Nat → Int32 → mMem → Option mMem) (hrec36 : ∀ (a0 : Nat) (x1 : Int32) (M : mMem), GG X p l e (rm12_laysWorth) s m args below meth c (gP X below args s 0 0 (fun M9 : mMem => (none, M9))) 5 0 0 36 [(0, .ref a0), (1, .int x1)] [] M (rec36 a0 x1 M)) (a0 : Nat) (x1 : Int32) (M : mMem) : GG X p l e (rm12_laysWorth) s m args below meth c (gP X below args s 0 0 (fun M9 : mMem => (none, M9))) 5 0 0 101 [(0, .ref a0), (1, .int x1)] [] M (p12_laysWorth_J101 rec36 a0 x1 M) := by
  unfold p12_laysWorth_J101
  refine g_iinc (v := (x1 + (-1))) (lv' := [(1, .int (x1 + (-1))), (0, .ref a0)]) B dX12_laysWorth_101 1 rfl rfl (by decide) [0, 1] rfl ?_
  refine g_goto B 36 dX12_laysWorth_104 (by decide) ?_
  refine g_sub (lv' := [(0, .ref a0), (1, .int (x1 + (-1)))]) [1, 0] rfl ?_
  exact hrec36 a0 (x1 + (-1)) M
set_option maxRecDepth 20000 in
set_option maxHeartbeats 2000000 in
theorem g12_laysWorth_L36 {X : gX} {p : Program} {l : Launch} {e : Env} {s : State} {m : MethodId} {args : Array Value} {below : List Frame} {meth : Method} {c : Code} (B : gB X p (rm12_laysWorth) s m args meth c RX12 cX12_laysWorth 5 (rm12_laysWorth)) (hS9 : gS X s) (hr : meth.sig.returnType = none) : ∀ (n : Nat) (a0 : Nat) (x1 : Int32) (M : mMem), GG X p l e (rm12_laysWorth) s m args below meth c (gP X below args s 0 0 (fun M9 : mMem => (none, M9))) 5 0 0 36 [(0, .ref a0), (1, .int x1)] [] M (p12_laysWorth_L36 n a0 x1 M) := by
  intro n
  induction n with
  | zero => intro a0 x1 M; exact g_none
  | succ n ih =>
    intro a0 x1 M
    rw [p12_laysWorth_L36]
    refine g_iload_n B dX12_laysWorth_36 1 rfl ?_
    refine g_if_lt B 107 dX12_laysWorth_37 (by decide) ?_ ?_
    · exact g_vreturn B hr (by decide) (by decide) rfl dX12_laysWorth_107
    · refine g_iconst (v := 0) B dX12_laysWorth_40 (by decide) ?_
      refine g_istore_n (lv' := [(2, .int 0), (0, .ref a0), (1, .int x1)]) B dX12_laysWorth_41 (by decide) [0, 1, 2] rfl ?_
      refine g_sub (lv' := [(0, .ref a0), (1, .int x1), (2, .int 0)]) [1, 2, 0] rfl ?_
      exact (g12_laysWorth_L42 B hS9 hr (p12_laysWorth_J101 (p12_laysWorth_L36 n)) (fun e0 e1 e2 => g12_laysWorth_J101 B hS9 hr (p12_laysWorth_L36 n) ih e0 e1 e2)) gF a0 x1 0 M
set_option maxRecDepth 20000 in
set_option maxHeartbeats 2000000 in
theorem g12_laysWorth_J29 {X : gX} {p : Program} {l : Launch} {e : Env} {s : State} {m : MethodId} {args : Array Value} {below : List Frame} {meth : Method} {c : Code} (B : gB X p (rm12_laysWorth) s m args meth c RX12 cX12_laysWorth 5 (rm12_laysWorth)) (hS9 : gS X s) (hr : meth.sig.returnType = none) (a0 : Nat) (M : mMem) : GG X p l e (rm12_laysWorth) s m args below meth c (gP X below args s 0 0 (fun M9 : mMem => (none, M9))) 5 0 0 29 [(0, .ref a0)] [] M (p12_laysWorth_J29 a0 M) := by
  unfold p12_laysWorth_J29
  refine g_aload_n B dX12_laysWorth_29 0 rfl ?_
  refine g_callV_ip [] (ci := 11) (T0 := TX12) (N := 27) B hS9 mf12_people wd_1793 (gw B wp_51) wd_1791 (by decide) rfl (fun h => (gd_ne h).1) (c12_people X l a0 M) (by decide) (by decide) (by decide) rfl (by decide) dX12_laysWorth_30 rfl (fun v_1 => ?_)
  refine g_iconst (v := 1) B dX12_laysWorth_33 (by decide) ?_
  refine g_isub B dX12_laysWorth_34 ?_
  refine g_istore_n (lv' := [(1, .int (v_1 - 1)), (0, .ref a0)]) B dX12_laysWorth_35 (by decide) [0, 1] rfl ?_
  refine g_sub (lv' := [(0, .ref a0), (1, .int (v_1 - 1))]) [1, 0] rfl ?_
  exact (g12_laysWorth_L36 B hS9 hr) gF a0 (v_1 - 1) M
set_option maxRecDepth 20000 in
set_option maxHeartbeats 2000000 in
theorem g12_laysWorth {X : gX} {p : Program} {l : Launch} {e : Env} {s : State} {m : MethodId} {args : Array Value} {below : List Frame} {meth : Method} {c : Code} (B : gB X p (rm12_laysWorth) s m args meth c RX12 cX12_laysWorth 5 (rm12_laysWorth)) (hS9 : gS X s) (hr : meth.sig.returnType = none) (a0 : Nat) (M : mMem) : GG X p l e (rm12_laysWorth) s m args below meth c (gP X below args s 0 0 (fun M9 : mMem => (none, M9))) 5 0 0 0 [(0, .ref a0)] [] M (p12_laysWorth a0 M) := by
  unfold p12_laysWorth
  refine g_gd ?_
  refine g_iconst (v := 0) B dX12_laysWorth_0 (by decide) ?_
  refine g_istore_n (lv' := [(1, .int 0), (0, .ref a0)]) B dX12_laysWorth_1 (by decide) [0, 1] rfl ?_
  refine g_sub (lv' := [(0, .ref a0), (1, .int 0)]) [1, 0] rfl ?_
  exact (g12_laysWorth_L2 B hS9 hr p12_laysWorth_J29 (fun e0 e1 => g12_laysWorth_J29 B hS9 hr e0 e1)) gF a0 0 M
theorem c12_laysWorth (X : gX) (l : Launch) (a0 : Nat) (M : mMem) : Con X l yX12_laysWorth cX12_laysWorth 5 (none) rm12_laysWorth (fun M9 : mMem => (none, M9)) [.ref a0] M (p12_laysWorth a0 M) := g_con (own := RX12) (by decide +kernel) rfl (Nat.le_of_ble_eq_true rfl) (fun p e s m args below meth c B hS9 hr hn => g12_laysWorth B hS9 hr a0 M)
theorem mf12_noMates : gMF yX12_noMates cX12_noMates 2 (none) 0 := ⟨wd_2224, wd_13, ⟨by decide, by decide⟩, by decide +kernel⟩
set_option maxRecDepth 20000 in
set_option maxHeartbeats 2000000 in
theorem g12_noMates_L2 {X : gX} {p : Program} {l : Launch} {e : Env} {s : State} {m : MethodId} {args : Array Value} {below : List Frame} {meth : Method} {c : Code} (B : gB X p (rm12_noMates) s m args meth c RX12 cX12_noMates 2 (rm12_noMates)) (hS9 : gS X s) (hr : meth.sig.returnType = none) : ∀ (n : Nat) (a0 : Nat) (x1 : Int32) (M : mMem), GG X p l e (rm12_noMates) s m args below meth c (gP X below args s 0 0 (fun M9 : mMem => (none, M9))) 2 0 0 2 [(0, .ref a0), (1, .int x1)] [] M (p12_noMates_L2 n a0 x1 M) := by
  intro n
  induction n with
  | zero => intro a0 x1 M; exact g_none
  | succ n ih =>
    intro a0 x1 M
    rw [p12_noMates_L2]
    refine g_iload_n B dX12_noMates_2 1 rfl ?_
    refine g_bipush (v := 8) B dX12_noMates_3 (by decide) ?_
    refine g_icmp_ge B 21 dX12_noMates_5 (by decide) ?_ ?_
    · refine g_aload_n B dX12_noMates_8 0 rfl ?_
      refine g_getR (ci := 11) (T0 := TX12) (N := 27) B (by decide) rfl in_11 (k := 24) (by decide) rfl wd_1665 (fun _ h => h) dX12_noMates_9 (fun v_1 => ?_)
      refine g_iload_n B dX12_noMates_12 1 rfl ?_
      refine g_iconst (v := (-1)) B dX12_noMates_13 (by decide) ?_
      refine g_iastore B dX12_noMates_14 (fun M_2 => ?_)
      refine g_iinc (v := (x1 + 1)) (lv' := [(1, .int (x1 + 1)), (0, .ref a0)]) B dX12_noMates_15 1 rfl rfl (by decide) [0, 1] rfl ?_
      refine g_goto B 2 dX12_noMates_18 (by decide) ?_
      refine g_sub (lv' := [(0, .ref a0), (1, .int (x1 + 1))]) [1, 0] rfl ?_
      exact ih a0 (x1 + 1) M_2
    · exact g_vreturn B hr (by decide) (by decide) rfl dX12_noMates_21
set_option maxRecDepth 20000 in
set_option maxHeartbeats 2000000 in
theorem g12_noMates {X : gX} {p : Program} {l : Launch} {e : Env} {s : State} {m : MethodId} {args : Array Value} {below : List Frame} {meth : Method} {c : Code} (B : gB X p (rm12_noMates) s m args meth c RX12 cX12_noMates 2 (rm12_noMates)) (hS9 : gS X s) (hr : meth.sig.returnType = none) (a0 : Nat) (M : mMem) : GG X p l e (rm12_noMates) s m args below meth c (gP X below args s 0 0 (fun M9 : mMem => (none, M9))) 2 0 0 0 [(0, .ref a0)] [] M (p12_noMates a0 M) := by
  unfold p12_noMates
  refine g_gd ?_
  refine g_iconst (v := 0) B dX12_noMates_0 (by decide) ?_
  refine g_istore_n (lv' := [(1, .int 0), (0, .ref a0)]) B dX12_noMates_1 (by decide) [0, 1] rfl ?_
  refine g_sub (lv' := [(0, .ref a0), (1, .int 0)]) [1, 0] rfl ?_
  exact (g12_noMates_L2 B hS9 hr) gF a0 0 M
theorem c12_noMates (X : gX) (l : Launch) (a0 : Nat) (M : mMem) : Con X l yX12_noMates cX12_noMates 2 (none) rm12_noMates (fun M9 : mMem => (none, M9)) [.ref a0] M (p12_noMates a0 M) := g_con (own := RX12) (by decide +kernel) rfl (Nat.le_of_ble_eq_true rfl) (fun p e s m args below meth c B hS9 hr hn => g12_noMates B hS9 hr a0 M)
theorem mf12_matches : gMF yX12_matches cX12_matches 4 (none) 0 := ⟨wd_2204, wd_13, ⟨by decide, by decide⟩, by decide +kernel⟩
set_option maxRecDepth 20000 in
set_option maxHeartbeats 2000000 in
theorem g12_matches_L22 {X : gX} {p : Program} {l : Launch} {e : Env} {s : State} {m : MethodId} {args : Array Value} {below : List Frame} {meth : Method} {c : Code} (B : gB X p (rm12_matches) s m args meth c RX12 cX12_matches 4 (rm12_matches)) (hS9 : gS X s) (hr : meth.sig.returnType = none) (k48 : Nat → Int32 → Int32 → Int32 → mMem → Option mMem) (hk48 : ∀ (a0 : Nat) (x1 : Int32) (x2 : Int32) (x3 : Int32) (M : mMem), GG X p l e (rm12_matches) s m args below meth c (gP X below args s 0 0 (fun M9 : mMem => (none, M9))) 4 0 0 48 [(0, .ref a0), (1, .int x1), (2, .int x2), (3, .int x3)] [] M (k48 a0 x1 x2 x3 M)) : ∀ (n : Nat) (a0 : Nat) (x1 : Int32) (x2 : Int32) (x3 : Int32) (M : mMem), GG X p l e (rm12_matches) s m args below meth c (gP X below args s 0 0 (fun M9 : mMem => (none, M9))) 4 0 0 22 [(0, .ref a0), (1, .int x1), (2, .int x2), (3, .int x3)] [] M (p12_matches_L22 k48 n a0 x1 x2 x3 M) := by
  intro n
  induction n with
  | zero => intro a0 x1 x2 x3 M; exact g_none
  | succ n ih =>
    intro a0 x1 x2 x3 M
    rw [p12_matches_L22]
    refine g_aload_n B dX12_matches_22 0 rfl ?_
    refine g_iload_n B dX12_matches_23 2 rfl ?_
    refine g_iload_n B dX12_matches_24 1 rfl ?_
    refine g_iload_n B dX12_matches_25 3 rfl ?_
    refine g_callV_ip [.int x2, .int x1, .int x3] (ci := 11) (T0 := TX12) (N := 27) B hS9 mf12_worthBy wd_2215 (gw B wp_116) wd_2213 (by decide) rfl (fun h => (gd_ne h).1) (c12_worthBy X l a0 x2 x1 x3 M) (by decide) (by decide) (by decide) rfl (by decide) dX12_matches_26 rfl (fun v_1 => ?_)
    refine g_aload_n B dX12_matches_29 0 rfl ?_
    refine g_getR (ci := 11) (T0 := TX12) (N := 27) B (by decide) rfl in_11 (k := 23) (by decide) rfl wd_1664 (fun _ h => h) dX12_matches_30 (fun v_2 => ?_)
    refine g_iload_n B dX12_matches_33 2 rfl ?_
    refine g_iload_n B dX12_matches_34 1 rfl ?_
    refine g_callS_ip [.int x2, .int x1] B hS9 mf12_worthAt wd_2210 wd_2209 (c12_worthAt X l x2 x1 M) (by decide) (by decide) (by decide) rfl (Nat.le_of_ble_eq_true rfl) dX12_matches_35 rfl (fun v_3 => ?_)
    refine g_iaload B dX12_matches_38 (fun v_4 => ?_)
    refine g_icmp_eq B 48 dX12_matches_39 (by decide) ?_ ?_
    · refine g_sub (lv' := [(0, .ref a0), (1, .int x1), (2, .int x2), (3, .int x3)]) [0, 1, 2, 3] rfl ?_
      exact hk48 a0 x1 x2 x3 M
    · refine g_iinc (v := (x3 + 1)) (lv' := [(3, .int (x3 + 1)), (0, .ref a0), (1, .int x1), (2, .int x2)]) B dX12_matches_42 3 rfl rfl (by decide) [0, 1, 2, 3] rfl ?_
      refine g_goto B 22 dX12_matches_45 (by decide) ?_
      refine g_sub (lv' := [(0, .ref a0), (1, .int x1), (2, .int x2), (3, .int (x3 + 1))]) [1, 2, 3, 0] rfl ?_
      exact ih a0 x1 x2 (x3 + 1) M
set_option maxRecDepth 20000 in
set_option maxHeartbeats 2000000 in
theorem g12_matches_J79 {X : gX} {p : Program} {l : Launch} {e : Env} {s : State} {m : MethodId} {args : Array Value} {below : List Frame} {meth : Method} {c : Code} (B : gB X p (rm12_matches) s m args meth c RX12 cX12_matches 4 (rm12_matches)) (hS9 : gS X s) (hr : meth.sig.returnType = none) (rec12 : Nat → Int32 → Int32 → mMem → Option mMem) (hrec12 : ∀ (a0 : Nat) (x1 : Int32) (x2 : Int32) (M : mMem), GG X p l e (rm12_matches) s m args below meth c (gP X below args s 0 0 (fun M9 : mMem => (none, M9))) 4 0 0 12 [(0, .ref a0), (1, .int x1), (2, .int x2)] [] M (rec12 a0 x1 x2 M)) (a0 : Nat) (x1 : Int32) (x2 : Int32) (M : mMem) : GG X p l e (rm12_matches) s m args below meth c (gP X below args s 0 0 (fun M9 : mMem => (none, M9))) 4 0 0 79 [(0, .ref a0), (1, .int x1), (2, .int x2)] [] M (p12_matches_J79 rec12 a0 x1 x2 M) := by
  unfold p12_matches_J79
  refine g_iinc (v := (x2 + 1)) (lv' := [(2, .int (x2 + 1)), (0, .ref a0), (1, .int x1)]) B dX12_matches_79 2 rfl rfl (by decide) [0, 1, 2] rfl ?_
  refine g_goto B 12 dX12_matches_82 (by decide) ?_
  refine g_sub (lv' := [(0, .ref a0), (1, .int x1), (2, .int (x2 + 1))]) [1, 2, 0] rfl ?_
  exact hrec12 a0 x1 (x2 + 1) M
set_option maxRecDepth 20000 in
set_option maxHeartbeats 2000000 in
theorem g12_matches_J48 {X : gX} {p : Program} {l : Launch} {e : Env} {s : State} {m : MethodId} {args : Array Value} {below : List Frame} {meth : Method} {c : Code} (B : gB X p (rm12_matches) s m args meth c RX12 cX12_matches 4 (rm12_matches)) (hS9 : gS X s) (hr : meth.sig.returnType = none) (rec12 : Nat → Int32 → Int32 → mMem → Option mMem) (hrec12 : ∀ (a0 : Nat) (x1 : Int32) (x2 : Int32) (M : mMem), GG X p l e (rm12_matches) s m args below meth c (gP X below args s 0 0 (fun M9 : mMem => (none, M9))) 4 0 0 12 [(0, .ref a0), (1, .int x1), (2, .int x2)] [] M (rec12 a0 x1 x2 M)) (a0 : Nat) (x1 : Int32) (x2 : Int32) (x3 : Int32) (M : mMem) : GG X p l e (rm12_matches) s m args below meth c (gP X below args s 0 0 (fun M9 : mMem => (none, M9))) 4 0 0 48 [(0, .ref a0), (1, .int x1), (2, .int x2), (3, .int x3)] [] M (p12_matches_J48 rec12 a0 x1 x2 x3 M) := by
  unfold p12_matches_J48
  refine g_iload_n B dX12_matches_48 3 rfl ?_
  refine g_aload_n B dX12_matches_49 0 rfl ?_
  refine g_callV_ip [] (ci := 11) (T0 := TX12) (N := 27) B hS9 mf12_people wd_1793 (gw B wp_51) wd_1791 (by decide) rfl (fun h => (gd_ne h).1) (c12_people X l a0 M) (by decide) (by decide) (by decide) rfl (Nat.le_of_ble_eq_true rfl) dX12_matches_50 rfl (fun v_1 => ?_)
  refine g_icmp_ne B 59 dX12_matches_53 (by decide) ?_ ?_
  · refine g_goto B 79 dX12_matches_56 (by decide) ?_
    refine g_sub (lv' := [(0, .ref a0), (1, .int x1), (2, .int x2)]) [0, 1, 2] rfl ?_
    exact g12_matches_J79 B hS9 hr rec12 hrec12 a0 x1 x2 M
  · refine g_aload_n B dX12_matches_59 0 rfl ?_
    refine g_getR (ci := 11) (T0 := TX12) (N := 27) B (by decide) rfl in_11 (k := 24) (by decide) rfl wd_1665 (fun _ h => h) dX12_matches_60 (fun v_2 => ?_)
    refine g_iload_n B dX12_matches_63 2 rfl ?_
    refine g_iload_n B dX12_matches_64 3 rfl ?_
    refine g_iastore B dX12_matches_65 (fun M_3 => ?_)
    refine g_aload_n B dX12_matches_66 0 rfl ?_
    refine g_getR (ci := 11) (T0 := TX12) (N := 27) B (by decide) rfl in_11 (k := 24) (by decide) rfl wd_1665 (fun _ h => h) dX12_matches_67 (fun v_4 => ?_)
    refine g_iload_n B dX12_matches_70 3 rfl ?_
    refine g_iload_n B dX12_matches_71 2 rfl ?_
    refine g_iastore B dX12_matches_72 (fun M_5 => ?_)
    refine g_iload_n B dX12_matches_73 1 rfl ?_
    refine g_iconst (v := 1) B dX12_matches_74 (by decide) ?_
    refine g_iload_n B dX12_matches_75 3 rfl ?_
    refine g_ishl B dX12_matches_76 ?_
    refine g_ior B dX12_matches_77 ?_
    refine g_istore_n (lv' := [(1, .int (x1 ||| ((1 : Int32) <<< (x3 &&& 31)))), (0, .ref a0), (2, .int x2), (3, .int x3)]) B dX12_matches_78 (by decide) [0, 1, 2, 3] rfl ?_
    refine g_sub (lv' := [(0, .ref a0), (1, .int (x1 ||| ((1 : Int32) <<< (x3 &&& 31)))), (2, .int x2)]) [1, 0, 2] rfl ?_
    exact g12_matches_J79 B hS9 hr rec12 hrec12 a0 (x1 ||| ((1 : Int32) <<< (x3 &&& 31))) x2 M_5
set_option maxRecDepth 20000 in
set_option maxHeartbeats 2000000 in
theorem g12_matches_L12 {X : gX} {p : Program} {l : Launch} {e : Env} {s : State} {m : MethodId} {args : Array Value} {below : List Frame} {meth : Method} {c : Code} (B : gB X p (rm12_matches) s m args meth c RX12 cX12_matches 4 (rm12_matches)) (hS9 : gS X s) (hr : meth.sig.returnType = none) : ∀ (n : Nat) (a0 : Nat) (x1 : Int32) (x2 : Int32) (M : mMem), GG X p l e (rm12_matches) s m args below meth c (gP X below args s 0 0 (fun M9 : mMem => (none, M9))) 4 0 0 12 [(0, .ref a0), (1, .int x1), (2, .int x2)] [] M (p12_matches_L12 n a0 x1 x2 M) := by
  intro n
  induction n with
  | zero => intro a0 x1 x2 M; exact g_none
  | succ n ih =>
    intro a0 x1 x2 M
    rw [p12_matches_L12]
    refine g_iload_n B dX12_matches_12 2 rfl ?_
    refine g_aload_n B dX12_matches_13 0 rfl ?_
    refine g_callV_ip [] (ci := 11) (T0 := TX12) (N := 27) B hS9 mf12_people wd_1793 (gw B wp_51) wd_1791 (by decide) rfl (fun h => (gd_ne h).1) (c12_people X l a0 M) (by decide) (by decide) (by decide) rfl (Nat.le_of_ble_eq_true rfl) dX12_matches_14 rfl (fun v_1 => ?_)
    refine g_icmp_ge B 85 dX12_matches_17 (by decide) ?_ ?_
    · refine g_iconst (v := 0) B dX12_matches_20 (by decide) ?_
      refine g_istore_n (lv' := [(3, .int 0), (0, .ref a0), (1, .int x1), (2, .int x2)]) B dX12_matches_21 (by decide) [0, 1, 2, 3] rfl ?_
      refine g_sub (lv' := [(0, .ref a0), (1, .int x1), (2, .int x2), (3, .int 0)]) [1, 2, 3, 0] rfl ?_
      exact (g12_matches_L22 B hS9 hr (p12_matches_J48 (p12_matches_L12 n)) (fun e0 e1 e2 e3 e4 => g12_matches_J48 B hS9 hr (p12_matches_L12 n) ih e0 e1 e2 e3 e4)) gF a0 x1 x2 0 M
    · exact g_vreturn B hr (by decide) (by decide) rfl dX12_matches_85
set_option maxRecDepth 20000 in
set_option maxHeartbeats 2000000 in
theorem g12_matches {X : gX} {p : Program} {l : Launch} {e : Env} {s : State} {m : MethodId} {args : Array Value} {below : List Frame} {meth : Method} {c : Code} (B : gB X p (rm12_matches) s m args meth c RX12 cX12_matches 4 (rm12_matches)) (hS9 : gS X s) (hr : meth.sig.returnType = none) (a0 : Nat) (M : mMem) : GG X p l e (rm12_matches) s m args below meth c (gP X below args s 0 0 (fun M9 : mMem => (none, M9))) 4 0 0 0 [(0, .ref a0)] [] M (p12_matches a0 M) := by
  unfold p12_matches
  refine g_gd ?_
  refine g_aload_n B dX12_matches_0 0 rfl ?_
  refine g_callV_vw [] (ci := 11) (T0 := TX12) (N := 27) B hS9 mf12_laysWorth wd_2207 (gw B wp_115) wd_2205 (by decide) rfl (fun h => (gd_ne h).1) (c12_laysWorth X l a0 M) (by decide) (by decide) (by decide) rfl (by decide) dX12_matches_1 rfl (fun q_1 => ?_)
  refine g_aload_n B dX12_matches_4 0 rfl ?_
  refine g_callV_vw [] (ci := 11) (T0 := TX12) (N := 27) B hS9 mf12_noMates wd_2223 (gw B wp_118) wd_2221 (by decide) rfl (fun h => (gd_ne h).1) (c12_noMates X l a0 q_1) (by decide) (by decide) (by decide) rfl (by decide) dX12_matches_5 rfl (fun q_2 => ?_)
  refine g_iconst (v := 0) B dX12_matches_8 (by decide) ?_
  refine g_istore_n (lv' := [(1, .int 0), (0, .ref a0)]) B dX12_matches_9 (by decide) [0, 1] rfl ?_
  refine g_iconst (v := 0) B dX12_matches_10 (by decide) ?_
  refine g_istore_n (lv' := [(2, .int 0), (1, .int 0), (0, .ref a0)]) B dX12_matches_11 (by decide) [0, 1, 2] rfl ?_
  refine g_sub (lv' := [(0, .ref a0), (1, .int 0), (2, .int 0)]) [2, 1, 0] rfl ?_
  exact (g12_matches_L12 B hS9 hr) gF a0 0 0 q_2
theorem c12_matches (X : gX) (l : Launch) (a0 : Nat) (M : mMem) : Con X l yX12_matches cX12_matches 4 (none) rm12_matches (fun M9 : mMem => (none, M9)) [.ref a0] M (p12_matches a0 M) := g_con (own := RX12) (by decide +kernel) rfl (Nat.le_of_ble_eq_true rfl) (fun p e s m args below meth c B hS9 hr hn => g12_matches B hS9 hr a0 M)
theorem mf12_match : gMF yX12_match cX12_match 4 (some .int) 1 := ⟨wd_2200, wd_13, ⟨by decide, by decide⟩, by decide +kernel⟩
set_option maxRecDepth 20000 in
set_option maxHeartbeats 2000000 in
theorem g12_match_J61 {X : gX} {p : Program} {l : Launch} {e : Env} {s : State} {m : MethodId} {args : Array Value} {below : List Frame} {meth : Method} {c : Code} (B : gB X p (rm12_match) s m args meth c RX12 cX12_match 4 (rm12_match)) (hS9 : gS X s) (hr : meth.sig.returnType = some .int) (rec13 : Nat → Int32 → Int32 → Int32 → mMem → Option (Int32 × mMem)) (hrec13 : ∀ (a0 : Nat) (x1 : Int32) (x2 : Int32) (x3 : Int32) (M : mMem), GG X p l e (rm12_match) s m args below meth c (gP X below args s 0 0 (fun r9 : (Int32 × mMem) => (some (.int r9.1), r9.2))) 4 0 0 13 [(0, .ref a0), (1, .int x1), (2, .int x2), (3, .int x3)] [] M (rec13 a0 x1 x2 x3 M)) (a0 : Nat) (x1 : Int32) (x2 : Int32) (x3 : Int32) (M : mMem) : GG X p l e (rm12_match) s m args below meth c (gP X below args s 0 0 (fun r9 : (Int32 × mMem) => (some (.int r9.1), r9.2))) 4 0 0 61 [(0, .ref a0), (1, .int x1), (2, .int x2), (3, .int x3)] [] M (p12_match_J61 rec13 a0 x1 x2 x3 M) := by
  unfold p12_match_J61
  refine g_iinc (v := (x3 + 1)) (lv' := [(3, .int (x3 + 1)), (0, .ref a0), (1, .int x1), (2, .int x2)]) B dX12_match_61 3 rfl rfl (by decide) [0, 1, 2, 3] rfl ?_
  refine g_goto B 13 dX12_match_64 (by decide) ?_
  refine g_sub (lv' := [(0, .ref a0), (1, .int x1), (2, .int x2), (3, .int (x3 + 1))]) [1, 2, 3, 0] rfl ?_
  exact hrec13 a0 x1 x2 (x3 + 1) M
set_option maxRecDepth 20000 in
set_option maxHeartbeats 2000000 in
theorem g12_match_J59 {X : gX} {p : Program} {l : Launch} {e : Env} {s : State} {m : MethodId} {args : Array Value} {below : List Frame} {meth : Method} {c : Code} (B : gB X p (rm12_match) s m args meth c RX12 cX12_match 4 (rm12_match)) (hS9 : gS X s) (hr : meth.sig.returnType = some .int) (rec13 : Nat → Int32 → Int32 → Int32 → mMem → Option (Int32 × mMem)) (hrec13 : ∀ (a0 : Nat) (x1 : Int32) (x2 : Int32) (x3 : Int32) (M : mMem), GG X p l e (rm12_match) s m args below meth c (gP X below args s 0 0 (fun r9 : (Int32 × mMem) => (some (.int r9.1), r9.2))) 4 0 0 13 [(0, .ref a0), (1, .int x1), (2, .int x2), (3, .int x3)] [] M (rec13 a0 x1 x2 x3 M)) (a0 : Nat) (x1 : Int32) (x3 : Int32) (u0 : Int32) (u1 : Int32) (M : mMem) : GG X p l e (rm12_match) s m args below meth c (gP X below args s 0 0 (fun r9 : (Int32 × mMem) => (some (.int r9.1), r9.2))) 4 0 0 59 [(0, .ref a0), (1, .int x1), (3, .int x3)] [.int u1, .int u0] M (p12_match_J59 rec13 a0 x1 x3 u0 u1 M) := by
  unfold p12_match_J59
  refine g_iadd B dX12_match_59 ?_
  refine g_istore_n (lv' := [(2, .int (u0 + u1)), (0, .ref a0), (1, .int x1), (3, .int x3)]) B dX12_match_60 (by decide) [0, 1, 2, 3] rfl ?_
  refine g_sub (lv' := [(0, .ref a0), (1, .int x1), (2, .int (u0 + u1)), (3, .int x3)]) [1, 2, 0, 3] rfl ?_
  exact g12_match_J61 B hS9 hr rec13 hrec13 a0 x1 (u0 + u1) x3 M
set_option maxRecDepth 20000 in
set_option maxHeartbeats 2000000 in
theorem g12_match_L13 {X : gX} {p : Program} {l : Launch} {e : Env} {s : State} {m : MethodId} {args : Array Value} {below : List Frame} {meth : Method} {c : Code} (B : gB X p (rm12_match) s m args meth c RX12 cX12_match 4 (rm12_match)) (hS9 : gS X s) (hr : meth.sig.returnType = some .int) : ∀ (n : Nat) (a0 : Nat) (x1 : Int32) (x2 : Int32) (x3 : Int32) (M : mMem), GG X p l e (rm12_match) s m args below meth c (gP X below args s 0 0 (fun r9 : (Int32 × mMem) => (some (.int r9.1), r9.2))) 4 0 0 13 [(0, .ref a0), (1, .int x1), (2, .int x2), (3, .int x3)] [] M (p12_match_L13 n a0 x1 x2 x3 M) := by
  intro n
  induction n with
  | zero => intro a0 x1 x2 x3 M; exact g_none
  | succ n ih =>
    intro a0 x1 x2 x3 M
    rw [p12_match_L13]
    refine g_iload_n B dX12_match_13 3 rfl ?_
    refine g_aload_n B dX12_match_14 0 rfl ?_
    refine g_callV_ip [] (ci := 11) (T0 := TX12) (N := 27) B hS9 mf12_people wd_1793 (gw B wp_51) wd_1791 (by decide) rfl (fun h => (gd_ne h).1) (c12_people X l a0 M) (by decide) (by decide) (by decide) rfl (Nat.le_of_ble_eq_true rfl) dX12_match_15 rfl (fun v_1 => ?_)
    refine g_icmp_ge B 67 dX12_match_18 (by decide) ?_ ?_
    · refine g_aload_n B dX12_match_21 0 rfl ?_
      refine g_iload_n B dX12_match_22 3 rfl ?_
      refine g_callV_ip [.int x3] (ci := 11) (T0 := TX12) (N := 27) B hS9 mf12_isBoy wd_2050 (gw B wp_97) wd_2048 (by decide) rfl (fun h => (gd_ne h).1) (c12_isBoy X l a0 x3 M) (by decide) (by decide) (by decide) rfl (by decide) dX12_match_23 rfl (fun v_2 => ?_)
      refine g_if_eq B 61 dX12_match_26 (by decide) ?_ ?_
      · refine g_sub (lv' := [(0, .ref a0), (1, .int x1), (2, .int x2), (3, .int x3)]) [0, 1, 2, 3] rfl ?_
        exact g12_match_J61 B hS9 hr (p12_match_L13 n) ih a0 x1 x2 x3 M
      · refine g_aload_n B dX12_match_29 0 rfl ?_
        refine g_getR (ci := 11) (T0 := TX12) (N := 27) B (by decide) rfl in_11 (k := 24) (by decide) rfl wd_1665 (fun _ h => h) dX12_match_30 (fun v_3 => ?_)
        refine g_iload_n B dX12_match_33 3 rfl ?_
        refine g_iaload B dX12_match_34 (fun v_4 => ?_)
        refine g_iconst (v := (-1)) B dX12_match_35 (by decide) ?_
        refine g_icmp_eq B 61 dX12_match_36 (by decide) ?_ ?_
        · refine g_sub (lv' := [(0, .ref a0), (1, .int x1), (2, .int x2), (3, .int x3)]) [0, 1, 2, 3] rfl ?_
          exact g12_match_J61 B hS9 hr (p12_match_L13 n) ih a0 x1 x2 x3 M
        · refine g_iload_n B dX12_match_39 2 rfl ?_
          refine g_iload_n B dX12_match_40 1 rfl ?_
          refine g_if_eq B 58 dX12_match_41 (by decide) ?_ ?_
          · refine g_iconst (v := 1) B dX12_match_58 (by decide) ?_
            refine g_sub (lv' := [(0, .ref a0), (1, .int x1), (3, .int x3)]) [0, 1, 3] rfl ?_
            exact g12_match_J59 B hS9 hr (p12_match_L13 n) ih a0 x1 x3 x2 1 M
          · refine g_aload_n B dX12_match_44 0 rfl ?_
            refine g_iload_n B dX12_match_45 3 rfl ?_
            refine g_aload_n B dX12_match_46 0 rfl ?_
            refine g_getR (ci := 11) (T0 := TX12) (N := 27) B (by decide) rfl in_11 (k := 24) (by decide) rfl wd_1665 (fun _ h => h) dX12_match_47 (fun v_5 => ?_)
            refine g_iload_n B dX12_match_50 3 rfl ?_
            refine g_iaload B dX12_match_51 (fun v_6 => ?_)
            refine g_callV_ip [.int x3, .int v_6] (ci := 11) (T0 := TX12) (N := 27) B hS9 mf12_gapOf wd_2002 (gw B wp_89) wd_2000 (by decide) rfl (fun h => (gd_ne h).1) (c12_gapOf X l a0 x3 v_6 M) (by decide) (by decide) (by decide) rfl (Nat.le_of_ble_eq_true rfl) dX12_match_52 rfl (fun v_7 => ?_)
            refine g_goto B 59 dX12_match_55 (by decide) ?_
            refine g_sub (lv' := [(0, .ref a0), (1, .int x1), (3, .int x3)]) [0, 1, 3] rfl ?_
            exact g12_match_J59 B hS9 hr (p12_match_L13 n) ih a0 x1 x3 x2 v_7 M
    · refine g_iload_n B dX12_match_67 2 rfl ?_
      exact g_ireturn B hr rfl (by decide) (by decide) rfl dX12_match_68
set_option maxRecDepth 20000 in
set_option maxHeartbeats 2000000 in
theorem g12_match {X : gX} {p : Program} {l : Launch} {e : Env} {s : State} {m : MethodId} {args : Array Value} {below : List Frame} {meth : Method} {c : Code} (B : gB X p (rm12_match) s m args meth c RX12 cX12_match 4 (rm12_match)) (hS9 : gS X s) (hr : meth.sig.returnType = some .int) (a0 : Nat) (x1 : Int32) (M : mMem) : GG X p l e (rm12_match) s m args below meth c (gP X below args s 0 0 (fun r9 : (Int32 × mMem) => (some (.int r9.1), r9.2))) 4 0 0 0 [(0, .ref a0), (1, .int x1)] [] M (p12_match a0 x1 M) := by
  unfold p12_match
  refine g_gd ?_
  refine g_aload_n B dX12_match_0 0 rfl ?_
  refine g_iconst (v := 0) B dX12_match_1 (by decide) ?_
  refine g_putI (ci := 11) (T0 := TX12) (N := 27) B (by decide) rfl in_11 tyX12 tyX12_ok nmX12 (k := 0) (by decide) wd_1641 (fun _ h => h) rfl rfl (ty := .int) (by decide +kernel) rfl rfl dX12_match_2 (fun M_1 => ?_)
  refine g_aload_n B dX12_match_5 0 rfl ?_
  refine g_callV_vw [] (ci := 11) (T0 := TX12) (N := 27) B hS9 mf12_matches wd_2203 (gw B wp_114) wd_2201 (by decide) rfl (fun h => (gd_ne h).1) (c12_matches X l a0 M_1) (by decide) (by decide) (by decide) rfl (by decide) dX12_match_6 rfl (fun q_2 => ?_)
  refine g_iconst (v := 0) B dX12_match_9 (by decide) ?_
  refine g_istore_n (lv' := [(2, .int 0), (0, .ref a0), (1, .int x1)]) B dX12_match_10 (by decide) [0, 1, 2] rfl ?_
  refine g_iconst (v := 0) B dX12_match_11 (by decide) ?_
  refine g_istore_n (lv' := [(3, .int 0), (2, .int 0), (0, .ref a0), (1, .int x1)]) B dX12_match_12 (by decide) [0, 1, 2, 3] rfl ?_
  refine g_sub (lv' := [(0, .ref a0), (1, .int x1), (2, .int 0), (3, .int 0)]) [2, 3, 1, 0] rfl ?_
  exact (g12_match_L13 B hS9 hr) gF a0 x1 0 0 q_2
theorem c12_match (X : gX) (l : Launch) (a0 : Nat) (x1 : Int32) (M : mMem) : Con X l yX12_match cX12_match 4 (some .int) rm12_match (fun r9 : (Int32 × mMem) => (some (.int r9.1), r9.2)) [.ref a0, .int x1] M (p12_match a0 x1 M) := g_con (own := RX12) (by decide +kernel) rfl (Nat.le_of_ble_eq_true rfl) (fun p e s m args below meth c B hS9 hr hn => g12_match B hS9 hr a0 x1 M)
theorem mf12_mate : gMF yX12_mate cX12_mate 2 (some .int) 1 := ⟨wd_2228, wd_13, ⟨by decide, by decide⟩, by decide +kernel⟩
set_option maxRecDepth 20000 in
set_option maxHeartbeats 2000000 in
theorem g12_mate {X : gX} {p : Program} {l : Launch} {e : Env} {s : State} {m : MethodId} {args : Array Value} {below : List Frame} {meth : Method} {c : Code} (B : gB X p (rm12_mate) s m args meth c RX12 cX12_mate 2 (rm12_mate)) (hS9 : gS X s) (hr : meth.sig.returnType = some .int) (a0 : Nat) (x1 : Int32) (M : mMem) : GG X p l e (rm12_mate) s m args below meth c (gP X below args s 0 0 (fun r9 : (Int32 × mMem) => (some (.int r9.1), r9.2))) 2 0 0 0 [(0, .ref a0), (1, .int x1)] [] M (p12_mate a0 x1 M) := by
  unfold p12_mate
  refine g_gd ?_
  refine g_aload_n B dX12_mate_0 0 rfl ?_
  refine g_iconst (v := 0) B dX12_mate_1 (by decide) ?_
  refine g_putI (ci := 11) (T0 := TX12) (N := 27) B (by decide) rfl in_11 tyX12 tyX12_ok nmX12 (k := 0) (by decide) wd_1641 (fun _ h => h) rfl rfl (ty := .int) (by decide +kernel) rfl rfl dX12_mate_2 (fun M_1 => ?_)
  refine g_aload_n B dX12_mate_5 0 rfl ?_
  refine g_aload_n B dX12_mate_6 0 rfl ?_
  refine g_iload_n B dX12_mate_7 1 rfl ?_
  refine g_callV_ip [.int x1] (ci := 11) (T0 := TX12) (N := 27) B hS9 mf12_nobody wd_1944 (gw B wp_79) wd_1942 (by decide) rfl (fun h => (gd_ne h).1) (c12_nobody X l a0 x1 M_1) (by decide) (by decide) (by decide) rfl (Nat.le_of_ble_eq_true rfl) dX12_mate_8 rfl (fun v_2 => ?_)
  refine g_iconst (v := 1) B dX12_mate_11 (by decide) ?_
  refine g_callV_iw [.int v_2, .int 1] (ci := 11) (T0 := TX12) (N := 27) B hS9 mf12_throwsIf wd_1932 (gw B wp_78) wd_1930 (by decide) rfl (fun h => (gd_ne h).1) (c12_throwsIf X l a0 v_2 1 M_1) (by decide) (by decide) (by decide) rfl (by decide) dX12_mate_12 rfl (fun q_3 => ?_)
  refine g_if_eq B 20 dX12_mate_15 (by decide) ?_ ?_
  · refine g_aload_n B dX12_mate_20 0 rfl ?_
    refine g_callV_vw [] (ci := 11) (T0 := TX12) (N := 27) B hS9 mf12_matches wd_2203 (gw B wp_114) wd_2201 (by decide) rfl (fun h => (gd_ne h).1) (c12_matches X l a0 q_3.2) (by decide) (by decide) (by decide) rfl (by decide) dX12_mate_21 rfl (fun q_4 => ?_)
    refine g_aload_n B dX12_mate_24 0 rfl ?_
    refine g_getR (ci := 11) (T0 := TX12) (N := 27) B (by decide) rfl in_11 (k := 24) (by decide) rfl wd_1665 (fun _ h => h) dX12_mate_25 (fun v_5 => ?_)
    refine g_iload_n B dX12_mate_28 1 rfl ?_
    refine g_iaload B dX12_mate_29 (fun v_6 => ?_)
    exact g_ireturn B hr rfl (by decide) (by decide) rfl dX12_mate_30
  · refine g_iconst (v := 0) B dX12_mate_18 (by decide) ?_
    exact g_ireturn B hr rfl (by decide) (by decide) rfl dX12_mate_19
theorem c12_mate (X : gX) (l : Launch) (a0 : Nat) (x1 : Int32) (M : mMem) : Con X l yX12_mate cX12_mate 2 (some .int) rm12_mate (fun r9 : (Int32 × mMem) => (some (.int r9.1), r9.2)) [.ref a0, .int x1] M (p12_mate a0 x1 M) := g_con (own := RX12) (by decide +kernel) rfl (Nat.le_of_ble_eq_true rfl) (fun p e s m args below meth c B hS9 hr hn => g12_mate B hS9 hr a0 x1 M)
theorem mf12_nextOf : gMF yX12_nextOf cX12_nextOf 4 (some .int) 1 := ⟨wd_2240, wd_13, ⟨by decide, by decide⟩, by decide +kernel⟩
set_option maxRecDepth 20000 in
set_option maxHeartbeats 2000000 in
theorem g12_nextOf_J56 {X : gX} {p : Program} {l : Launch} {e : Env} {s : State} {m : MethodId} {args : Array Value} {below : List Frame} {meth : Method} {c : Code} (B : gB X p (rm12_nextOf) s m args meth c RX12 cX12_nextOf 4 (rm12_nextOf)) (hS9 : gS X s) (hr : meth.sig.returnType = some .int) {M : mMem} (rec4 : Nat → Int32 → Int32 → Int32 → Option Int32) (hrec4 : ∀ (a0 : Nat) (x1 : Int32) (x2 : Int32) (x3 : Int32), GG X p l e (rm12_nextOf) s m args below meth c (gP X below args s 0 0 (fun r9 : Int32 => (some (.int r9), M))) 4 0 0 4 [(0, .ref a0), (1, .int x1), (2, .int x2), (3, .int x3)] [] M (rec4 a0 x1 x2 x3)) (a0 : Nat) (x1 : Int32) (x2 : Int32) (x3 : Int32) : GG X p l e (rm12_nextOf) s m args below meth c (gP X below args s 0 0 (fun r9 : Int32 => (some (.int r9), M))) 4 0 0 56 [(0, .ref a0), (1, .int x1), (2, .int x2), (3, .int x3)] [] M (p12_nextOf_J56 M rec4 a0 x1 x2 x3) := by
  unfold p12_nextOf_J56
  refine g_iinc (v := (x3 + 1)) (lv' := [(3, .int (x3 + 1)), (0, .ref a0), (1, .int x1), (2, .int x2)]) B dX12_nextOf_56 3 rfl rfl (by decide) [0, 1, 2, 3] rfl ?_
  refine g_goto B 4 dX12_nextOf_59 (by decide) ?_
  refine g_sub (lv' := [(0, .ref a0), (1, .int x1), (2, .int x2), (3, .int (x3 + 1))]) [1, 2, 3, 0] rfl ?_
  exact hrec4 a0 x1 x2 (x3 + 1)
set_option maxRecDepth 20000 in
set_option maxHeartbeats 2000000 in
theorem g12_nextOf_J54 {X : gX} {p : Program} {l : Launch} {e : Env} {s : State} {m : MethodId} {args : Array Value} {below : List Frame} {meth : Method} {c : Code} (B : gB X p (rm12_nextOf) s m args meth c RX12 cX12_nextOf 4 (rm12_nextOf)) (hS9 : gS X s) (hr : meth.sig.returnType = some .int) {M : mMem} (rec4 : Nat → Int32 → Int32 → Int32 → Option Int32) (hrec4 : ∀ (a0 : Nat) (x1 : Int32) (x2 : Int32) (x3 : Int32), GG X p l e (rm12_nextOf) s m args below meth c (gP X below args s 0 0 (fun r9 : Int32 => (some (.int r9), M))) 4 0 0 4 [(0, .ref a0), (1, .int x1), (2, .int x2), (3, .int x3)] [] M (rec4 a0 x1 x2 x3)) (a0 : Nat) (x1 : Int32) (x3 : Int32) : GG X p l e (rm12_nextOf) s m args below meth c (gP X below args s 0 0 (fun r9 : Int32 => (some (.int r9), M))) 4 0 0 54 [(0, .ref a0), (1, .int x1), (3, .int x3)] [] M (p12_nextOf_J54 M rec4 a0 x1 x3) := by
  unfold p12_nextOf_J54
  refine g_iload_n B dX12_nextOf_54 2 rfl ?_
  refine g_istore_n (lv' := [(2, .int x3), (0, .ref a0), (1, .int x1), (3, .int x3)]) B dX12_nextOf_55 (by decide) [0, 1, 2, 3] rfl ?_
  refine g_sub (lv' := [(0, .ref a0), (1, .int x1), (2, .int x3), (3, .int x3)]) [1, 2, 0, 3] rfl ?_
  exact g12_nextOf_J56 B hS9 hr rec4 hrec4 a0 x1 x3 x3
set_option maxRecDepth 20000 in
set_option maxHeartbeats 2000000 in
theorem g12_nextOf_L4 {X : gX} {p : Program} {l : Launch} {e : Env} {s : State} {m : MethodId} {args : Array Value} {below : List Frame} {meth : Method} {c : Code} (B : gB X p (rm12_nextOf) s m args meth c RX12 cX12_nextOf 4 (rm12_nextOf)) (hS9 : gS X s) (hr : meth.sig.returnType = some .int) {M : mMem} : ∀ (n : Nat) (a0 : Nat) (x1 : Int32) (x2 : Int32) (x3 : Int32), GG X p l e (rm12_nextOf) s m args below meth c (gP X below args s 0 0 (fun r9 : Int32 => (some (.int r9), M))) 4 0 0 4 [(0, .ref a0), (1, .int x1), (2, .int x2), (3, .int x3)] [] M (p12_nextOf_L4 M n a0 x1 x2 x3) := by
  intro n
  induction n with
  | zero => intro a0 x1 x2 x3; exact g_none
  | succ n ih =>
    intro a0 x1 x2 x3
    rw [p12_nextOf_L4]
    refine g_iload_n B dX12_nextOf_4 3 rfl ?_
    refine g_aload_n B dX12_nextOf_5 0 rfl ?_
    refine g_callV_ip [] (ci := 11) (T0 := TX12) (N := 27) B hS9 mf12_people wd_1793 (gw B wp_51) wd_1791 (by decide) rfl (fun h => (gd_ne h).1) (c12_people X l a0 M) (by decide) (by decide) (by decide) rfl (Nat.le_of_ble_eq_true rfl) dX12_nextOf_6 rfl (fun v_1 => ?_)
    refine g_icmp_ge B 62 dX12_nextOf_9 (by decide) ?_ ?_
    · refine g_aload_n B dX12_nextOf_12 0 rfl ?_
      refine g_iload_n B dX12_nextOf_13 1 rfl ?_
      refine g_iload_n B dX12_nextOf_14 3 rfl ?_
      refine g_callV_ip [.int x1, .int x3] (ci := 11) (T0 := TX12) (N := 27) B hS9 mf12_canPair wd_2219 (gw B wp_117) wd_2217 (by decide) rfl (fun h => (gd_ne h).1) (c12_canPair X l a0 x1 x3 M) (by decide) (by decide) (by decide) rfl (by decide) dX12_nextOf_15 rfl (fun v_2 => ?_)
      refine g_if_eq B 56 dX12_nextOf_18 (by decide) ?_ ?_
      · refine g_sub (lv' := [(0, .ref a0), (1, .int x1), (2, .int x2), (3, .int x3)]) [0, 1, 2, 3] rfl ?_
        exact g12_nextOf_J56 B hS9 hr (p12_nextOf_L4 M n) ih a0 x1 x2 x3
      · refine g_aload_n B dX12_nextOf_21 0 rfl ?_
        refine g_getR (ci := 11) (T0 := TX12) (N := 27) B (by decide) rfl in_11 (k := 25) (by decide) rfl wd_1666 (fun _ h => h) dX12_nextOf_22 (fun v_3 => ?_)
        refine g_iload_n B dX12_nextOf_25 1 rfl ?_
        refine g_iaload B dX12_nextOf_26 (fun v_4 => ?_)
        refine g_iload_n B dX12_nextOf_27 3 rfl ?_
        refine g_callS_ip [.int v_4, .int x3] B hS9 mf12_has wd_1958 wd_1957 (c12_has X l v_4 x3 M) (by decide) (by decide) (by decide) rfl (by decide) dX12_nextOf_28 rfl (fun v_5 => ?_)
        refine g_if_ne B 56 dX12_nextOf_31 (by decide) ?_ ?_
        · refine g_iload_n B dX12_nextOf_34 2 rfl ?_
          refine g_iconst (v := (-1)) B dX12_nextOf_35 (by decide) ?_
          refine g_icmp_eq B 54 dX12_nextOf_36 (by decide) ?_ ?_
          · refine g_sub (lv' := [(0, .ref a0), (1, .int x1), (3, .int x3)]) [0, 1, 3] rfl ?_
            exact g12_nextOf_J54 B hS9 hr (p12_nextOf_L4 M n) ih a0 x1 x3
          · refine g_aload_n B dX12_nextOf_39 0 rfl ?_
            refine g_iload_n B dX12_nextOf_40 1 rfl ?_
            refine g_iload_n B dX12_nextOf_41 3 rfl ?_
            refine g_callV_ip [.int x1, .int x3] (ci := 11) (T0 := TX12) (N := 27) B hS9 mf12_gapOf wd_2002 (gw B wp_89) wd_2000 (by decide) rfl (fun h => (gd_ne h).1) (c12_gapOf X l a0 x1 x3 M) (by decide) (by decide) (by decide) rfl (by decide) dX12_nextOf_42 rfl (fun v_6 => ?_)
            refine g_aload_n B dX12_nextOf_45 0 rfl ?_
            refine g_iload_n B dX12_nextOf_46 1 rfl ?_
            refine g_iload_n B dX12_nextOf_47 2 rfl ?_
            refine g_callV_ip [.int x1, .int x2] (ci := 11) (T0 := TX12) (N := 27) B hS9 mf12_gapOf wd_2002 (gw B wp_89) wd_2000 (by decide) rfl (fun h => (gd_ne h).1) (c12_gapOf X l a0 x1 x2 M) (by decide) (by decide) (by decide) rfl (Nat.le_of_ble_eq_true rfl) dX12_nextOf_48 rfl (fun v_7 => ?_)
            refine g_icmp_ge B 56 dX12_nextOf_51 (by decide) ?_ ?_
            · refine g_sub (lv' := [(0, .ref a0), (1, .int x1), (3, .int x3)]) [0, 1, 3] rfl ?_
              exact g12_nextOf_J54 B hS9 hr (p12_nextOf_L4 M n) ih a0 x1 x3
            · refine g_sub (lv' := [(0, .ref a0), (1, .int x1), (2, .int x2), (3, .int x3)]) [0, 1, 2, 3] rfl ?_
              exact g12_nextOf_J56 B hS9 hr (p12_nextOf_L4 M n) ih a0 x1 x2 x3
        · refine g_sub (lv' := [(0, .ref a0), (1, .int x1), (2, .int x2), (3, .int x3)]) [0, 1, 2, 3] rfl ?_
          exact g12_nextOf_J56 B hS9 hr (p12_nextOf_L4 M n) ih a0 x1 x2 x3
    · refine g_iload_n B dX12_nextOf_62 2 rfl ?_
      exact g_ireturn B hr rfl (by decide) (by decide) rfl dX12_nextOf_63
set_option maxRecDepth 20000 in
set_option maxHeartbeats 2000000 in
theorem g12_nextOf {X : gX} {p : Program} {l : Launch} {e : Env} {s : State} {m : MethodId} {args : Array Value} {below : List Frame} {meth : Method} {c : Code} (B : gB X p (rm12_nextOf) s m args meth c RX12 cX12_nextOf 4 (rm12_nextOf)) (hS9 : gS X s) (hr : meth.sig.returnType = some .int) {M : mMem} (a0 : Nat) (x1 : Int32) : GG X p l e (rm12_nextOf) s m args below meth c (gP X below args s 0 0 (fun r9 : Int32 => (some (.int r9), M))) 4 0 0 0 [(0, .ref a0), (1, .int x1)] [] M (p12_nextOf a0 x1 M) := by
  unfold p12_nextOf
  refine g_gd ?_
  refine g_iconst (v := (-1)) B dX12_nextOf_0 (by decide) ?_
  refine g_istore_n (lv' := [(2, .int (-1)), (0, .ref a0), (1, .int x1)]) B dX12_nextOf_1 (by decide) [0, 1, 2] rfl ?_
  refine g_iconst (v := 0) B dX12_nextOf_2 (by decide) ?_
  refine g_istore_n (lv' := [(3, .int 0), (2, .int (-1)), (0, .ref a0), (1, .int x1)]) B dX12_nextOf_3 (by decide) [0, 1, 2, 3] rfl ?_
  refine g_sub (lv' := [(0, .ref a0), (1, .int x1), (2, .int (-1)), (3, .int 0)]) [2, 3, 1, 0] rfl ?_
  exact (g12_nextOf_L4 B hS9 hr) gF a0 x1 (-1) 0
theorem c12_nextOf (X : gX) (l : Launch) (a0 : Nat) (x1 : Int32) (M : mMem) : Con X l yX12_nextOf cX12_nextOf 4 (some .int) rm12_nextOf (fun r9 : Int32 => (some (.int r9), M)) [.ref a0, .int x1] M (p12_nextOf a0 x1 M) := g_con (own := RX12) (by decide +kernel) rfl (Nat.le_of_ble_eq_true rfl) (fun p e s m args below meth c B hS9 hr hn => g12_nextOf B hS9 hr a0 x1)
theorem mf12_wouldRather : gMF yX12_wouldRather cX12_wouldRather 4 (some .boolean) 2 := ⟨wd_2244, wd_13, ⟨by decide, by decide⟩, by decide +kernel⟩
set_option maxRecDepth 20000 in
set_option maxHeartbeats 2000000 in
theorem g12_wouldRather_J54 {X : gX} {p : Program} {l : Launch} {e : Env} {s : State} {m : MethodId} {args : Array Value} {below : List Frame} {meth : Method} {c : Code} (B : gB X p (rm12_wouldRather) s m args meth c RX12 cX12_wouldRather 4 (rm12_wouldRather)) (hS9 : gS X s) (hr : meth.sig.returnType = some .boolean) {M : mMem} (u0 : Int32) : GG X p l e (rm12_wouldRather) s m args below meth c (gP X below args s 0 0 (fun r9 : Int32 => (some (.int r9), M))) 4 0 0 54 [] [.int u0] M (p12_wouldRather_J54 M u0) := by
  unfold p12_wouldRather_J54
  exact g_zreturn (f := fun z => z) B hr (by decide) (by decide) rfl dX12_wouldRather_54
set_option maxRecDepth 20000 in
set_option maxHeartbeats 2000000 in
theorem g12_wouldRather_J49 {X : gX} {p : Program} {l : Launch} {e : Env} {s : State} {m : MethodId} {args : Array Value} {below : List Frame} {meth : Method} {c : Code} (B : gB X p (rm12_wouldRather) s m args meth c RX12 cX12_wouldRather 4 (rm12_wouldRather)) (hS9 : gS X s) (hr : meth.sig.returnType = some .boolean) {M : mMem} : GG X p l e (rm12_wouldRather) s m args below meth c (gP X below args s 0 0 (fun r9 : Int32 => (some (.int r9), M))) 4 0 0 49 [] [] M (p12_wouldRather_J49 M) := by
  unfold p12_wouldRather_J49
  refine g_iconst (v := 1) B dX12_wouldRather_49 (by decide) ?_
  refine g_goto B 54 dX12_wouldRather_50 (by decide) ?_
  refine g_sub (lv' := []) [] rfl ?_
  exact g12_wouldRather_J54 B hS9 hr 1
set_option maxRecDepth 20000 in
set_option maxHeartbeats 2000000 in
theorem g12_wouldRather_J53 {X : gX} {p : Program} {l : Launch} {e : Env} {s : State} {m : MethodId} {args : Array Value} {below : List Frame} {meth : Method} {c : Code} (B : gB X p (rm12_wouldRather) s m args meth c RX12 cX12_wouldRather 4 (rm12_wouldRather)) (hS9 : gS X s) (hr : meth.sig.returnType = some .boolean) {M : mMem} : GG X p l e (rm12_wouldRather) s m args below meth c (gP X below args s 0 0 (fun r9 : Int32 => (some (.int r9), M))) 4 0 0 53 [] [] M (p12_wouldRather_J53 M) := by
  unfold p12_wouldRather_J53
  refine g_iconst (v := 0) B dX12_wouldRather_53 (by decide) ?_
  refine g_sub (lv' := []) [] rfl ?_
  exact g12_wouldRather_J54 B hS9 hr 0
set_option maxRecDepth 20000 in
set_option maxHeartbeats 2000000 in
theorem g12_wouldRather {X : gX} {p : Program} {l : Launch} {e : Env} {s : State} {m : MethodId} {args : Array Value} {below : List Frame} {meth : Method} {c : Code} (B : gB X p (rm12_wouldRather) s m args meth c RX12 cX12_wouldRather 4 (rm12_wouldRather)) (hS9 : gS X s) (hr : meth.sig.returnType = some .boolean) {M : mMem} (a0 : Nat) (x1 : Int32) (x2 : Int32) : GG X p l e (rm12_wouldRather) s m args below meth c (gP X below args s 0 0 (fun r9 : Int32 => (some (.int r9), M))) 4 0 0 0 [(0, .ref a0), (1, .int x1), (2, .int x2)] [] M (p12_wouldRather a0 x1 x2 M) := by
  unfold p12_wouldRather
  refine g_gd ?_
  refine g_aload_n B dX12_wouldRather_0 0 rfl ?_
  refine g_getR (ci := 11) (T0 := TX12) (N := 27) B (by decide) rfl in_11 (k := 24) (by decide) rfl wd_1665 (fun _ h => h) dX12_wouldRather_1 (fun v_1 => ?_)
  refine g_iload_n B dX12_wouldRather_4 1 rfl ?_
  refine g_iaload B dX12_wouldRather_5 (fun v_2 => ?_)
  refine g_iconst (v := (-1)) B dX12_wouldRather_6 (by decide) ?_
  refine g_icmp_ne B 12 dX12_wouldRather_7 (by decide) ?_ ?_
  · refine g_iconst (v := 1) B dX12_wouldRather_10 (by decide) ?_
    exact g_ireturn B hr rfl (by decide) (by decide) rfl dX12_wouldRather_11
  · refine g_aload_n B dX12_wouldRather_12 0 rfl ?_
    refine g_iload_n B dX12_wouldRather_13 1 rfl ?_
    refine g_iload_n B dX12_wouldRather_14 2 rfl ?_
    refine g_callV_ip [.int x1, .int x2] (ci := 11) (T0 := TX12) (N := 27) B hS9 mf12_gapOf wd_2002 (gw B wp_89) wd_2000 (by decide) rfl (fun h => (gd_ne h).1) (c12_gapOf X l a0 x1 x2 M) (by decide) (by decide) (by decide) rfl (by decide) dX12_wouldRather_15 rfl (fun v_3 => ?_)
    refine g_aload_n B dX12_wouldRather_18 0 rfl ?_
    refine g_iload_n B dX12_wouldRather_19 1 rfl ?_
    refine g_aload_n B dX12_wouldRather_20 0 rfl ?_
    refine g_getR (ci := 11) (T0 := TX12) (N := 27) B (by decide) rfl in_11 (k := 24) (by decide) rfl wd_1665 (fun _ h => h) dX12_wouldRather_21 (fun v_4 => ?_)
    refine g_iload_n B dX12_wouldRather_24 1 rfl ?_
    refine g_iaload B dX12_wouldRather_25 (fun v_5 => ?_)
    refine g_callV_ip [.int x1, .int v_5] (ci := 11) (T0 := TX12) (N := 27) B hS9 mf12_gapOf wd_2002 (gw B wp_89) wd_2000 (by decide) rfl (fun h => (gd_ne h).1) (c12_gapOf X l a0 x1 v_5 M) (by decide) (by decide) (by decide) rfl (Nat.le_of_ble_eq_true rfl) dX12_wouldRather_26 rfl (fun v_6 => ?_)
    refine g_isub B dX12_wouldRather_29 ?_
    refine g_istore_n (lv' := [(3, .int (v_3 - v_6)), (0, .ref a0), (1, .int x1), (2, .int x2)]) B dX12_wouldRather_30 (by decide) [0, 1, 2, 3] rfl ?_
    refine g_iload_n B dX12_wouldRather_31 0 rfl ?_
    refine g_if_lt B 49 dX12_wouldRather_32 (by decide) ?_ ?_
    · refine g_sub (lv' := []) [] rfl ?_
      exact g12_wouldRather_J49 B hS9 hr
    · refine g_iload_n B dX12_wouldRather_35 0 rfl ?_
      refine g_if_ne B 53 dX12_wouldRather_36 (by decide) ?_ ?_
      · refine g_iload_n B dX12_wouldRather_39 3 rfl ?_
        refine g_aload_n B dX12_wouldRather_40 1 rfl ?_
        refine g_getR (ci := 11) (T0 := TX12) (N := 27) B (by decide) rfl in_11 (k := 24) (by decide) rfl wd_1665 (fun _ h => h) dX12_wouldRather_41 (fun v_7 => ?_)
        refine g_iload_n B dX12_wouldRather_44 2 rfl ?_
        refine g_iaload B dX12_wouldRather_45 (fun v_8 => ?_)
        refine g_icmp_ge B 53 dX12_wouldRather_46 (by decide) ?_ ?_
        · refine g_sub (lv' := []) [] rfl ?_
          exact g12_wouldRather_J49 B hS9 hr
        · refine g_sub (lv' := []) [] rfl ?_
          exact g12_wouldRather_J53 B hS9 hr
      · refine g_sub (lv' := []) [] rfl ?_
        exact g12_wouldRather_J53 B hS9 hr
theorem c12_wouldRather (X : gX) (l : Launch) (a0 : Nat) (x1 : Int32) (x2 : Int32) (M : mMem) : Con X l yX12_wouldRather cX12_wouldRather 4 (some .boolean) rm12_wouldRather (fun r9 : Int32 => (some (.int r9), M)) [.ref a0, .int x1, .int x2] M (p12_wouldRather a0 x1 x2 M) := g_con (own := RX12) (by decide +kernel) rfl (Nat.le_of_ble_eq_true rfl) (fun p e s m args below meth c B hS9 hr hn => g12_wouldRather B hS9 hr a0 x1 x2)
theorem mf12_asks : gMF yX12_asks cX12_asks 4 (none) 1 := ⟨wd_2236, wd_13, ⟨by decide, by decide⟩, by decide +kernel⟩
set_option maxRecDepth 20000 in
set_option maxHeartbeats 2000000 in
theorem g12_asks_J65 {X : gX} {p : Program} {l : Launch} {e : Env} {s : State} {m : MethodId} {args : Array Value} {below : List Frame} {meth : Method} {c : Code} (B : gB X p (rm12_asks) s m args meth c RX12 cX12_asks 4 (rm12_asks)) (hS9 : gS X s) (hr : meth.sig.returnType = none) (a0 : Nat) (x1 : Int32) (x2 : Int32) (M : mMem) : GG X p l e (rm12_asks) s m args below meth c (gP X below args s 0 0 (fun M9 : mMem => (none, M9))) 4 0 0 65 [(0, .ref a0), (1, .int x1), (2, .int x2)] [] M (p12_asks_J65 a0 x1 x2 M) := by
  unfold p12_asks_J65
  refine g_aload_n B dX12_asks_65 0 rfl ?_
  refine g_getR (ci := 11) (T0 := TX12) (N := 27) B (by decide) rfl in_11 (k := 24) (by decide) rfl wd_1665 (fun _ h => h) dX12_asks_66 (fun v_1 => ?_)
  refine g_iload_n B dX12_asks_69 2 rfl ?_
  refine g_iload_n B dX12_asks_70 1 rfl ?_
  refine g_iastore B dX12_asks_71 (fun M_2 => ?_)
  refine g_aload_n B dX12_asks_72 0 rfl ?_
  refine g_getR (ci := 11) (T0 := TX12) (N := 27) B (by decide) rfl in_11 (k := 24) (by decide) rfl wd_1665 (fun _ h => h) dX12_asks_73 (fun v_3 => ?_)
  refine g_iload_n B dX12_asks_76 1 rfl ?_
  refine g_iload_n B dX12_asks_77 2 rfl ?_
  refine g_iastore B dX12_asks_78 (fun M_4 => ?_)
  exact g_vreturn B hr (by decide) (by decide) rfl dX12_asks_79
set_option maxRecDepth 20000 in
set_option maxHeartbeats 2000000 in
theorem g12_asks {X : gX} {p : Program} {l : Launch} {e : Env} {s : State} {m : MethodId} {args : Array Value} {below : List Frame} {meth : Method} {c : Code} (B : gB X p (rm12_asks) s m args meth c RX12 cX12_asks 4 (rm12_asks)) (hS9 : gS X s) (hr : meth.sig.returnType = none) (a0 : Nat) (x1 : Int32) (M : mMem) : GG X p l e (rm12_asks) s m args below meth c (gP X below args s 0 0 (fun M9 : mMem => (none, M9))) 4 0 0 0 [(0, .ref a0), (1, .int x1)] [] M (p12_asks a0 x1 M) := by
  unfold p12_asks
  refine g_gd ?_
  refine g_aload_n B dX12_asks_0 0 rfl ?_
  refine g_iload_n B dX12_asks_1 1 rfl ?_
  refine g_callV_ip [.int x1] (ci := 11) (T0 := TX12) (N := 27) B hS9 mf12_nextOf wd_2239 (gw B wp_120) wd_2237 (by decide) rfl (fun h => (gd_ne h).1) (c12_nextOf X l a0 x1 M) (by decide) (by decide) (by decide) rfl (by decide) dX12_asks_2 rfl (fun v_1 => ?_)
  refine g_istore_n (lv' := [(2, .int v_1), (0, .ref a0), (1, .int x1)]) B dX12_asks_5 (by decide) [0, 1, 2] rfl ?_
  refine g_iload_n B dX12_asks_6 0 rfl ?_
  refine g_iconst (v := (-1)) B dX12_asks_7 (by decide) ?_
  refine g_icmp_ne B 12 dX12_asks_8 (by decide) ?_ ?_
  · exact g_vreturn B hr (by decide) (by decide) rfl dX12_asks_11
  · refine g_aload_n B dX12_asks_12 1 rfl ?_
    refine g_iload_n B dX12_asks_13 0 rfl ?_
    refine g_iload_n B dX12_asks_14 2 rfl ?_
    refine g_callV_ip [.int v_1, .int x1] (ci := 11) (T0 := TX12) (N := 27) B hS9 mf12_wouldRather wd_2243 (gw B wp_121) wd_2241 (by decide) rfl (fun h => (gd_ne h).1) (c12_wouldRather X l a0 v_1 x1 M) (by decide) (by decide) (by decide) rfl (by decide) dX12_asks_15 rfl (fun v_2 => ?_)
    refine g_if_ne B 34 dX12_asks_18 (by decide) ?_ ?_
    · refine g_aload_n B dX12_asks_21 1 rfl ?_
      refine g_getR (ci := 11) (T0 := TX12) (N := 27) B (by decide) rfl in_11 (k := 25) (by decide) rfl wd_1666 (fun _ h => h) dX12_asks_22 (fun v_10 => ?_)
      refine g_iload_n B dX12_asks_25 2 rfl ?_
      refine g_dup2_11 B dX12_asks_26 rfl rfl ?_
      refine g_iaload B dX12_asks_27 (fun v_11 => ?_)
      refine g_iconst (v := 1) B dX12_asks_28 (by decide) ?_
      refine g_iload_n B dX12_asks_29 0 rfl ?_
      refine g_ishl B dX12_asks_30 ?_
      refine g_ior B dX12_asks_31 ?_
      refine g_iastore B dX12_asks_32 (fun M_12 => ?_)
      exact g_vreturn B hr (by decide) (by decide) rfl dX12_asks_33
    · refine g_aload_n B dX12_asks_34 1 rfl ?_
      refine g_getR (ci := 11) (T0 := TX12) (N := 27) B (by decide) rfl in_11 (k := 24) (by decide) rfl wd_1665 (fun _ h => h) dX12_asks_35 (fun v_3 => ?_)
      refine g_iload_n B dX12_asks_38 0 rfl ?_
      refine g_iaload B dX12_asks_39 (fun v_4 => ?_)
      refine g_istore_n (lv' := [(3, .int v_4), (2, .int v_1), (0, .ref a0), (1, .int x1)]) B dX12_asks_40 (by decide) [0, 1, 2, 3] rfl ?_
      refine g_iload_n B dX12_asks_41 0 rfl ?_
      refine g_iconst (v := (-1)) B dX12_asks_42 (by decide) ?_
      refine g_icmp_eq B 65 dX12_asks_43 (by decide) ?_ ?_
      · refine g_sub (lv' := [(0, .ref a0), (1, .int x1), (2, .int v_1)]) [2, 3, 1] rfl ?_
        exact g12_asks_J65 B hS9 hr a0 x1 v_1 M
      · refine g_aload_n B dX12_asks_46 2 rfl ?_
        refine g_getR (ci := 11) (T0 := TX12) (N := 27) B (by decide) rfl in_11 (k := 24) (by decide) rfl wd_1665 (fun _ h => h) dX12_asks_47 (fun v_5 => ?_)
        refine g_iload_n B dX12_asks_50 0 rfl ?_
        refine g_iconst (v := (-1)) B dX12_asks_51 (by decide) ?_
        refine g_iastore B dX12_asks_52 (fun M_6 => ?_)
        refine g_aload_n B dX12_asks_53 2 rfl ?_
        refine g_getR (ci := 11) (T0 := TX12) (N := 27) B (by decide) rfl in_11 (k := 25) (by decide) rfl wd_1666 (fun _ h => h) dX12_asks_54 (fun v_7 => ?_)
        refine g_iload_n B dX12_asks_57 0 rfl ?_
        refine g_dup2_11 B dX12_asks_58 rfl rfl ?_
        refine g_iaload B dX12_asks_59 (fun v_8 => ?_)
        refine g_iconst (v := 1) B dX12_asks_60 (by decide) ?_
        refine g_iload_n B dX12_asks_61 1 rfl ?_
        refine g_ishl B dX12_asks_62 ?_
        refine g_ior B dX12_asks_63 ?_
        refine g_iastore B dX12_asks_64 (fun M_9 => ?_)
        refine g_sub (lv' := [(0, .ref a0), (1, .int x1), (2, .int v_1)]) [2, 3, 1] rfl ?_
        exact g12_asks_J65 B hS9 hr a0 x1 v_1 M_9
theorem c12_asks (X : gX) (l : Launch) (a0 : Nat) (x1 : Int32) (M : mMem) : Con X l yX12_asks cX12_asks 4 (none) rm12_asks (fun M9 : mMem => (none, M9)) [.ref a0, .int x1] M (p12_asks a0 x1 M) := g_con (own := RX12) (by decide +kernel) rfl (Nat.le_of_ble_eq_true rfl) (fun p e s m args below meth c B hS9 hr hn => g12_asks B hS9 hr a0 x1 M)
theorem mf12_stable : gMF yX12_stable cX12_stable 4 (some .int) 1 := ⟨wd_2232, wd_13, ⟨by decide, by decide⟩, by decide +kernel⟩
set_option maxRecDepth 20000 in
set_option maxHeartbeats 2000000 in
theorem g12_stable_L26 {X : gX} {p : Program} {l : Launch} {e : Env} {s : State} {m : MethodId} {args : Array Value} {below : List Frame} {meth : Method} {c : Code} (B : gB X p (rm12_stable) s m args meth c RX12 cX12_stable 4 (rm12_stable)) (hS9 : gS X s) (hr : meth.sig.returnType = some .int) (k45 : Nat → Int32 → mMem → Option (Int32 × mMem)) (hk45 : ∀ (a0 : Nat) (x1 : Int32) (M : mMem), GG X p l e (rm12_stable) s m args below meth c (gP X below args s 0 0 (fun r9 : (Int32 × mMem) => (some (.int r9.1), r9.2))) 4 0 0 45 [(0, .ref a0), (1, .int x1)] [] M (k45 a0 x1 M)) : ∀ (n : Nat) (a0 : Nat) (x1 : Int32) (x2 : Int32) (M : mMem), GG X p l e (rm12_stable) s m args below meth c (gP X below args s 0 0 (fun r9 : (Int32 × mMem) => (some (.int r9.1), r9.2))) 4 0 0 26 [(0, .ref a0), (1, .int x1), (2, .int x2)] [] M (p12_stable_L26 k45 n a0 x1 x2 M) := by
  intro n
  induction n with
  | zero => intro a0 x1 x2 M; exact g_none
  | succ n ih =>
    intro a0 x1 x2 M
    rw [p12_stable_L26]
    refine g_iload_n B dX12_stable_26 2 rfl ?_
    refine g_bipush (v := 8) B dX12_stable_27 (by decide) ?_
    refine g_icmp_ge B 45 dX12_stable_29 (by decide) ?_ ?_
    · refine g_aload_n B dX12_stable_32 0 rfl ?_
      refine g_getR (ci := 11) (T0 := TX12) (N := 27) B (by decide) rfl in_11 (k := 25) (by decide) rfl wd_1666 (fun _ h => h) dX12_stable_33 (fun v_1 => ?_)
      refine g_iload_n B dX12_stable_36 2 rfl ?_
      refine g_iconst (v := 0) B dX12_stable_37 (by decide) ?_
      refine g_iastore B dX12_stable_38 (fun M_2 => ?_)
      refine g_iinc (v := (x2 + 1)) (lv' := [(2, .int (x2 + 1)), (0, .ref a0), (1, .int x1)]) B dX12_stable_39 2 rfl rfl (by decide) [0, 1, 2] rfl ?_
      refine g_goto B 26 dX12_stable_42 (by decide) ?_
      refine g_sub (lv' := [(0, .ref a0), (1, .int x1), (2, .int (x2 + 1))]) [1, 2, 0] rfl ?_
      exact ih a0 x1 (x2 + 1) M_2
    · refine g_sub (lv' := [(0, .ref a0), (1, .int x1)]) [0, 1] rfl ?_
      exact hk45 a0 x1 M
set_option maxRecDepth 20000 in
set_option maxHeartbeats 2000000 in
theorem g12_stable_J86 {X : gX} {p : Program} {l : Launch} {e : Env} {s : State} {m : MethodId} {args : Array Value} {below : List Frame} {meth : Method} {c : Code} (B : gB X p (rm12_stable) s m args meth c RX12 cX12_stable 4 (rm12_stable)) (hS9 : gS X s) (hr : meth.sig.returnType = some .int) (rec55 : Nat → Int32 → Int32 → Int32 → mMem → Option (Int32 × mMem)) (hrec55 : ∀ (a0 : Nat) (x1 : Int32) (x2 : Int32) (x3 : Int32) (M : mMem), GG X p l e (rm12_stable) s m args below meth c (gP X below args s 0 0 (fun r9 : (Int32 × mMem) => (some (.int r9.1), r9.2))) 4 0 0 55 [(0, .ref a0), (1, .int x1), (2, .int x2), (3, .int x3)] [] M (rec55 a0 x1 x2 x3 M)) (a0 : Nat) (x1 : Int32) (x2 : Int32) (x3 : Int32) (M : mMem) : GG X p l e (rm12_stable) s m args below meth c (gP X below args s 0 0 (fun r9 : (Int32 × mMem) => (some (.int r9.1), r9.2))) 4 0 0 86 [(0, .ref a0), (1, .int x1), (2, .int x2), (3, .int x3)] [] M (p12_stable_J86 rec55 a0 x1 x2 x3 M) := by
  unfold p12_stable_J86
  refine g_iinc (v := (x3 + 1)) (lv' := [(3, .int (x3 + 1)), (0, .ref a0), (1, .int x1), (2, .int x2)]) B dX12_stable_86 3 rfl rfl (by decide) [0, 1, 2, 3] rfl ?_
  refine g_goto B 55 dX12_stable_89 (by decide) ?_
  refine g_sub (lv' := [(0, .ref a0), (1, .int x1), (2, .int x2), (3, .int (x3 + 1))]) [1, 2, 3, 0] rfl ?_
  exact hrec55 a0 x1 x2 (x3 + 1) M
set_option maxRecDepth 20000 in
set_option maxHeartbeats 2000000 in
theorem g12_stable_L55 {X : gX} {p : Program} {l : Launch} {e : Env} {s : State} {m : MethodId} {args : Array Value} {below : List Frame} {meth : Method} {c : Code} (B : gB X p (rm12_stable) s m args meth c RX12 cX12_stable 4 (rm12_stable)) (hS9 : gS X s) (hr : meth.sig.returnType = some .int) (k92 : Nat → Int32 → Int32 → mMem → Option (Int32 × mMem)) (hk92 : ∀ (a0 : Nat) (x1 : Int32) (x2 : Int32) (M : mMem), GG X p l e (rm12_stable) s m args below meth c (gP X below args s 0 0 (fun r9 : (Int32 × mMem) => (some (.int r9.1), r9.2))) 4 0 0 92 [(0, .ref a0), (1, .int x1), (2, .int x2)] [] M (k92 a0 x1 x2 M)) : ∀ (n : Nat) (a0 : Nat) (x1 : Int32) (x2 : Int32) (x3 : Int32) (M : mMem), GG X p l e (rm12_stable) s m args below meth c (gP X below args s 0 0 (fun r9 : (Int32 × mMem) => (some (.int r9.1), r9.2))) 4 0 0 55 [(0, .ref a0), (1, .int x1), (2, .int x2), (3, .int x3)] [] M (p12_stable_L55 k92 n a0 x1 x2 x3 M) := by
  intro n
  induction n with
  | zero => intro a0 x1 x2 x3 M; exact g_none
  | succ n ih =>
    intro a0 x1 x2 x3 M
    rw [p12_stable_L55]
    refine g_iload_n B dX12_stable_55 3 rfl ?_
    refine g_aload_n B dX12_stable_56 0 rfl ?_
    refine g_callV_ip [] (ci := 11) (T0 := TX12) (N := 27) B hS9 mf12_people wd_1793 (gw B wp_51) wd_1791 (by decide) rfl (fun h => (gd_ne h).1) (c12_people X l a0 M) (by decide) (by decide) (by decide) rfl (Nat.le_of_ble_eq_true rfl) dX12_stable_57 rfl (fun v_1 => ?_)
    refine g_icmp_ge B 92 dX12_stable_60 (by decide) ?_ ?_
    · refine g_aload_n B dX12_stable_63 0 rfl ?_
      refine g_iload_n B dX12_stable_64 3 rfl ?_
      refine g_callV_ip [.int x3] (ci := 11) (T0 := TX12) (N := 27) B hS9 mf12_isBoy wd_2050 (gw B wp_97) wd_2048 (by decide) rfl (fun h => (gd_ne h).1) (c12_isBoy X l a0 x3 M) (by decide) (by decide) (by decide) rfl (by decide) dX12_stable_65 rfl (fun v_2 => ?_)
      refine g_if_eq B 86 dX12_stable_68 (by decide) ?_ ?_
      · refine g_sub (lv' := [(0, .ref a0), (1, .int x1), (2, .int x2), (3, .int x3)]) [0, 1, 2, 3] rfl ?_
        exact g12_stable_J86 B hS9 hr (p12_stable_L55 k92 n) ih a0 x1 x2 x3 M
      · refine g_aload_n B dX12_stable_71 0 rfl ?_
        refine g_getR (ci := 11) (T0 := TX12) (N := 27) B (by decide) rfl in_11 (k := 24) (by decide) rfl wd_1665 (fun _ h => h) dX12_stable_72 (fun v_3 => ?_)
        refine g_iload_n B dX12_stable_75 3 rfl ?_
        refine g_iaload B dX12_stable_76 (fun v_4 => ?_)
        refine g_iconst (v := (-1)) B dX12_stable_77 (by decide) ?_
        refine g_icmp_ne B 86 dX12_stable_78 (by decide) ?_ ?_
        · refine g_aload_n B dX12_stable_81 0 rfl ?_
          refine g_iload_n B dX12_stable_82 3 rfl ?_
          refine g_callV_vw [.int x3] (ci := 11) (T0 := TX12) (N := 27) B hS9 mf12_asks wd_2235 (gw B wp_119) wd_2233 (by decide) rfl (fun h => (gd_ne h).1) (c12_asks X l a0 x3 M) (by decide) (by decide) (by decide) rfl (by decide) dX12_stable_83 rfl (fun q_5 => ?_)
          refine g_sub (lv' := [(0, .ref a0), (1, .int x1), (2, .int x2), (3, .int x3)]) [0, 1, 2, 3] rfl ?_
          exact g12_stable_J86 B hS9 hr (p12_stable_L55 k92 n) ih a0 x1 x2 x3 q_5
        · refine g_sub (lv' := [(0, .ref a0), (1, .int x1), (2, .int x2), (3, .int x3)]) [0, 1, 2, 3] rfl ?_
          exact g12_stable_J86 B hS9 hr (p12_stable_L55 k92 n) ih a0 x1 x2 x3 M
    · refine g_sub (lv' := [(0, .ref a0), (1, .int x1), (2, .int x2)]) [0, 1, 2] rfl ?_
      exact hk92 a0 x1 x2 M
set_option maxRecDepth 20000 in
set_option maxHeartbeats 2000000 in
theorem g12_stable_J92 {X : gX} {p : Program} {l : Launch} {e : Env} {s : State} {m : MethodId} {args : Array Value} {below : List Frame} {meth : Method} {c : Code} (B : gB X p (rm12_stable) s m args meth c RX12 cX12_stable 4 (rm12_stable)) (hS9 : gS X s) (hr : meth.sig.returnType = some .int) (rec47 : Nat → Int32 → Int32 → mMem → Option (Int32 × mMem)) (hrec47 : ∀ (a0 : Nat) (x1 : Int32) (x2 : Int32) (M : mMem), GG X p l e (rm12_stable) s m args below meth c (gP X below args s 0 0 (fun r9 : (Int32 × mMem) => (some (.int r9.1), r9.2))) 4 0 0 47 [(0, .ref a0), (1, .int x1), (2, .int x2)] [] M (rec47 a0 x1 x2 M)) (a0 : Nat) (x1 : Int32) (x2 : Int32) (M : mMem) : GG X p l e (rm12_stable) s m args below meth c (gP X below args s 0 0 (fun r9 : (Int32 × mMem) => (some (.int r9.1), r9.2))) 4 0 0 92 [(0, .ref a0), (1, .int x1), (2, .int x2)] [] M (p12_stable_J92 rec47 a0 x1 x2 M) := by
  unfold p12_stable_J92
  refine g_iinc (v := (x2 + 1)) (lv' := [(2, .int (x2 + 1)), (0, .ref a0), (1, .int x1)]) B dX12_stable_92 2 rfl rfl (by decide) [0, 1, 2] rfl ?_
  refine g_goto B 47 dX12_stable_95 (by decide) ?_
  refine g_sub (lv' := [(0, .ref a0), (1, .int x1), (2, .int (x2 + 1))]) [1, 2, 0] rfl ?_
  exact hrec47 a0 x1 (x2 + 1) M
set_option maxRecDepth 20000 in
set_option maxHeartbeats 2000000 in
theorem g12_stable_L47 {X : gX} {p : Program} {l : Launch} {e : Env} {s : State} {m : MethodId} {args : Array Value} {below : List Frame} {meth : Method} {c : Code} (B : gB X p (rm12_stable) s m args meth c RX12 cX12_stable 4 (rm12_stable)) (hS9 : gS X s) (hr : meth.sig.returnType = some .int) : ∀ (n : Nat) (a0 : Nat) (x1 : Int32) (x2 : Int32) (M : mMem), GG X p l e (rm12_stable) s m args below meth c (gP X below args s 0 0 (fun r9 : (Int32 × mMem) => (some (.int r9.1), r9.2))) 4 0 0 47 [(0, .ref a0), (1, .int x1), (2, .int x2)] [] M (p12_stable_L47 n a0 x1 x2 M) := by
  intro n
  induction n with
  | zero => intro a0 x1 x2 M; exact g_none
  | succ n ih =>
    intro a0 x1 x2 M
    rw [p12_stable_L47]
    refine g_iload_n B dX12_stable_47 2 rfl ?_
    refine g_bipush (v := 64) B dX12_stable_48 (by decide) ?_
    refine g_icmp_ge B 98 dX12_stable_50 (by decide) ?_ ?_
    · refine g_iconst (v := 0) B dX12_stable_53 (by decide) ?_
      refine g_istore_n (lv' := [(3, .int 0), (0, .ref a0), (1, .int x1), (2, .int x2)]) B dX12_stable_54 (by decide) [0, 1, 2, 3] rfl ?_
      refine g_sub (lv' := [(0, .ref a0), (1, .int x1), (2, .int x2), (3, .int 0)]) [1, 2, 3, 0] rfl ?_
      exact (g12_stable_L55 B hS9 hr (p12_stable_J92 (p12_stable_L47 n)) (fun e0 e1 e2 e3 => g12_stable_J92 B hS9 hr (p12_stable_L47 n) ih e0 e1 e2 e3)) gF a0 x1 x2 0 M
    · refine g_aload_n B dX12_stable_98 0 rfl ?_
      refine g_getR (ci := 11) (T0 := TX12) (N := 27) B (by decide) rfl in_11 (k := 24) (by decide) rfl wd_1665 (fun _ h => h) dX12_stable_99 (fun v_1 => ?_)
      refine g_iload_n B dX12_stable_102 1 rfl ?_
      refine g_iaload B dX12_stable_103 (fun v_2 => ?_)
      exact g_ireturn B hr rfl (by decide) (by decide) rfl dX12_stable_104
set_option maxRecDepth 20000 in
set_option maxHeartbeats 2000000 in
theorem g12_stable_J45 {X : gX} {p : Program} {l : Launch} {e : Env} {s : State} {m : MethodId} {args : Array Value} {below : List Frame} {meth : Method} {c : Code} (B : gB X p (rm12_stable) s m args meth c RX12 cX12_stable 4 (rm12_stable)) (hS9 : gS X s) (hr : meth.sig.returnType = some .int) (a0 : Nat) (x1 : Int32) (M : mMem) : GG X p l e (rm12_stable) s m args below meth c (gP X below args s 0 0 (fun r9 : (Int32 × mMem) => (some (.int r9.1), r9.2))) 4 0 0 45 [(0, .ref a0), (1, .int x1)] [] M (p12_stable_J45 a0 x1 M) := by
  unfold p12_stable_J45
  refine g_iconst (v := 0) B dX12_stable_45 (by decide) ?_
  refine g_istore_n (lv' := [(2, .int 0), (0, .ref a0), (1, .int x1)]) B dX12_stable_46 (by decide) [0, 1, 2] rfl ?_
  refine g_sub (lv' := [(0, .ref a0), (1, .int x1), (2, .int 0)]) [1, 2, 0] rfl ?_
  exact (g12_stable_L47 B hS9 hr) gF a0 x1 0 M
set_option maxRecDepth 20000 in
set_option maxHeartbeats 2000000 in
theorem g12_stable {X : gX} {p : Program} {l : Launch} {e : Env} {s : State} {m : MethodId} {args : Array Value} {below : List Frame} {meth : Method} {c : Code} (B : gB X p (rm12_stable) s m args meth c RX12 cX12_stable 4 (rm12_stable)) (hS9 : gS X s) (hr : meth.sig.returnType = some .int) (a0 : Nat) (x1 : Int32) (M : mMem) : GG X p l e (rm12_stable) s m args below meth c (gP X below args s 0 0 (fun r9 : (Int32 × mMem) => (some (.int r9.1), r9.2))) 4 0 0 0 [(0, .ref a0), (1, .int x1)] [] M (p12_stable a0 x1 M) := by
  unfold p12_stable
  refine g_gd ?_
  refine g_aload_n B dX12_stable_0 0 rfl ?_
  refine g_iconst (v := 0) B dX12_stable_1 (by decide) ?_
  refine g_putI (ci := 11) (T0 := TX12) (N := 27) B (by decide) rfl in_11 tyX12 tyX12_ok nmX12 (k := 0) (by decide) wd_1641 (fun _ h => h) rfl rfl (ty := .int) (by decide +kernel) rfl rfl dX12_stable_2 (fun M_1 => ?_)
  refine g_aload_n B dX12_stable_5 0 rfl ?_
  refine g_aload_n B dX12_stable_6 0 rfl ?_
  refine g_iload_n B dX12_stable_7 1 rfl ?_
  refine g_callV_ip [.int x1] (ci := 11) (T0 := TX12) (N := 27) B hS9 mf12_nobody wd_1944 (gw B wp_79) wd_1942 (by decide) rfl (fun h => (gd_ne h).1) (c12_nobody X l a0 x1 M_1) (by decide) (by decide) (by decide) rfl (Nat.le_of_ble_eq_true rfl) dX12_stable_8 rfl (fun v_2 => ?_)
  refine g_iconst (v := 1) B dX12_stable_11 (by decide) ?_
  refine g_callV_iw [.int v_2, .int 1] (ci := 11) (T0 := TX12) (N := 27) B hS9 mf12_throwsIf wd_1932 (gw B wp_78) wd_1930 (by decide) rfl (fun h => (gd_ne h).1) (c12_throwsIf X l a0 v_2 1 M_1) (by decide) (by decide) (by decide) rfl (by decide) dX12_stable_12 rfl (fun q_3 => ?_)
  refine g_if_eq B 20 dX12_stable_15 (by decide) ?_ ?_
  · refine g_aload_n B dX12_stable_20 0 rfl ?_
    refine g_callV_vw [] (ci := 11) (T0 := TX12) (N := 27) B hS9 mf12_noMates wd_2223 (gw B wp_118) wd_2221 (by decide) rfl (fun h => (gd_ne h).1) (c12_noMates X l a0 q_3.2) (by decide) (by decide) (by decide) rfl (by decide) dX12_stable_21 rfl (fun q_4 => ?_)
    refine g_iconst (v := 0) B dX12_stable_24 (by decide) ?_
    refine g_istore_n (lv' := [(2, .int 0), (0, .ref a0), (1, .int x1)]) B dX12_stable_25 (by decide) [0, 1, 2] rfl ?_
    refine g_sub (lv' := [(0, .ref a0), (1, .int x1), (2, .int 0)]) [1, 2, 0] rfl ?_
    exact (g12_stable_L26 B hS9 hr p12_stable_J45 (fun e0 e1 e2 => g12_stable_J45 B hS9 hr e0 e1 e2)) gF a0 x1 0 q_4
  · refine g_iconst (v := 0) B dX12_stable_18 (by decide) ?_
    exact g_ireturn B hr rfl (by decide) (by decide) rfl dX12_stable_19
theorem c12_stable (X : gX) (l : Launch) (a0 : Nat) (x1 : Int32) (M : mMem) : Con X l yX12_stable cX12_stable 4 (some .int) rm12_stable (fun r9 : (Int32 × mMem) => (some (.int r9.1), r9.2)) [.ref a0, .int x1] M (p12_stable a0 x1 M) := g_con (own := RX12) (by decide +kernel) rfl (Nat.le_of_ble_eq_true rfl) (fun p e s m args below meth c B hS9 hr hn => g12_stable B hS9 hr a0 x1 M)
theorem mf12_wouldRun : gMF yX12_wouldRun cX12_wouldRun 3 (some .boolean) 2 := ⟨wd_2252, wd_13, ⟨by decide, by decide⟩, by decide +kernel⟩
set_option maxRecDepth 20000 in
set_option maxHeartbeats 2000000 in
theorem g12_wouldRun_J33 {X : gX} {p : Program} {l : Launch} {e : Env} {s : State} {m : MethodId} {args : Array Value} {below : List Frame} {meth : Method} {c : Code} (B : gB X p (rm12_wouldRun) s m args meth c RX12 cX12_wouldRun 3 (rm12_wouldRun)) (hS9 : gS X s) (hr : meth.sig.returnType = some .boolean) {M : mMem} (u0 : Int32) : GG X p l e (rm12_wouldRun) s m args below meth c (gP X below args s 0 0 (fun r9 : Int32 => (some (.int r9), M))) 3 0 0 33 [] [.int u0] M (p12_wouldRun_J33 M u0) := by
  unfold p12_wouldRun_J33
  exact g_zreturn (f := fun z => z) B hr (by decide) (by decide) rfl dX12_wouldRun_33
set_option maxRecDepth 20000 in
set_option maxHeartbeats 2000000 in
theorem g12_wouldRun_J28 {X : gX} {p : Program} {l : Launch} {e : Env} {s : State} {m : MethodId} {args : Array Value} {below : List Frame} {meth : Method} {c : Code} (B : gB X p (rm12_wouldRun) s m args meth c RX12 cX12_wouldRun 3 (rm12_wouldRun)) (hS9 : gS X s) (hr : meth.sig.returnType = some .boolean) {M : mMem} : GG X p l e (rm12_wouldRun) s m args below meth c (gP X below args s 0 0 (fun r9 : Int32 => (some (.int r9), M))) 3 0 0 28 [] [] M (p12_wouldRun_J28 M) := by
  unfold p12_wouldRun_J28
  refine g_iconst (v := 1) B dX12_wouldRun_28 (by decide) ?_
  refine g_goto B 33 dX12_wouldRun_29 (by decide) ?_
  refine g_sub (lv' := []) [] rfl ?_
  exact g12_wouldRun_J33 B hS9 hr 1
set_option maxRecDepth 20000 in
set_option maxHeartbeats 2000000 in
theorem g12_wouldRun {X : gX} {p : Program} {l : Launch} {e : Env} {s : State} {m : MethodId} {args : Array Value} {below : List Frame} {meth : Method} {c : Code} (B : gB X p (rm12_wouldRun) s m args meth c RX12 cX12_wouldRun 3 (rm12_wouldRun)) (hS9 : gS X s) (hr : meth.sig.returnType = some .boolean) {M : mMem} (a0 : Nat) (x1 : Int32) (x2 : Int32) : GG X p l e (rm12_wouldRun) s m args below meth c (gP X below args s 0 0 (fun r9 : Int32 => (some (.int r9), M))) 3 0 0 0 [(0, .ref a0), (1, .int x1), (2, .int x2)] [] M (p12_wouldRun a0 x1 x2 M) := by
  unfold p12_wouldRun
  refine g_gd ?_
  refine g_aload_n B dX12_wouldRun_0 0 rfl ?_
  refine g_iload_n B dX12_wouldRun_1 1 rfl ?_
  refine g_callV_ip [.int x1] (ci := 11) (T0 := TX12) (N := 27) B hS9 mf12_isSingle wd_1850 (gw B wp_62) wd_1848 (by decide) rfl (fun h => (gd_ne h).1) (c12_isSingle X l a0 x1 M) (by decide) (by decide) (by decide) rfl (by decide) dX12_wouldRun_2 rfl (fun v_1 => ?_)
  refine g_if_ne B 28 dX12_wouldRun_5 (by decide) ?_ ?_
  · refine g_aload_n B dX12_wouldRun_8 0 rfl ?_
    refine g_iload_n B dX12_wouldRun_9 1 rfl ?_
    refine g_iload_n B dX12_wouldRun_10 2 rfl ?_
    refine g_callV_ip [.int x1, .int x2] (ci := 11) (T0 := TX12) (N := 27) B hS9 mf12_gapOf wd_2002 (gw B wp_89) wd_2000 (by decide) rfl (fun h => (gd_ne h).1) (c12_gapOf X l a0 x1 x2 M) (by decide) (by decide) (by decide) rfl (by decide) dX12_wouldRun_11 rfl (fun v_2 => ?_)
    refine g_aload_n B dX12_wouldRun_14 0 rfl ?_
    refine g_iload_n B dX12_wouldRun_15 1 rfl ?_
    refine g_aload_n B dX12_wouldRun_16 0 rfl ?_
    refine g_iload_n B dX12_wouldRun_17 1 rfl ?_
    refine g_iconst (v := 4) B dX12_wouldRun_18 (by decide) ?_
    refine g_callV_ip [.int x1, .int 4] (ci := 11) (T0 := TX12) (N := 27) B hS9 mf12_of wd_1846 (gw B wp_61) wd_1844 (by decide) rfl (fun h => (gd_ne h).1) (c12_of X l a0 x1 4 M) (by decide) (by decide) (by decide) rfl (Nat.le_of_ble_eq_true rfl) dX12_wouldRun_19 rfl (fun v_3 => ?_)
    refine g_callV_ip [.int x1, .int v_3] (ci := 11) (T0 := TX12) (N := 27) B hS9 mf12_gapOf wd_2002 (gw B wp_89) wd_2000 (by decide) rfl (fun h => (gd_ne h).1) (c12_gapOf X l a0 x1 v_3 M) (by decide) (by decide) (by decide) rfl (Nat.le_of_ble_eq_true rfl) dX12_wouldRun_22 rfl (fun v_4 => ?_)
    refine g_icmp_ge B 32 dX12_wouldRun_25 (by decide) ?_ ?_
    · refine g_sub (lv' := []) [] rfl ?_
      exact g12_wouldRun_J28 B hS9 hr
    · refine g_iconst (v := 0) B dX12_wouldRun_32 (by decide) ?_
      refine g_sub (lv' := []) [] rfl ?_
      exact g12_wouldRun_J33 B hS9 hr 0
  · refine g_sub (lv' := []) [] rfl ?_
    exact g12_wouldRun_J28 B hS9 hr
theorem c12_wouldRun (X : gX) (l : Launch) (a0 : Nat) (x1 : Int32) (x2 : Int32) (M : mMem) : Con X l yX12_wouldRun cX12_wouldRun 3 (some .boolean) rm12_wouldRun (fun r9 : Int32 => (some (.int r9), M)) [.ref a0, .int x1, .int x2] M (p12_wouldRun a0 x1 x2 M) := g_con (own := RX12) (by decide +kernel) rfl (Nat.le_of_ble_eq_true rfl) (fun p e s m args below meth c B hS9 hr hn => g12_wouldRun B hS9 hr a0 x1 x2)
theorem mf12_runs : gMF yX12_runs cX12_runs 4 (some .int) 0 := ⟨wd_2248, wd_13, ⟨by decide, by decide⟩, by decide +kernel⟩
set_option maxRecDepth 20000 in
set_option maxHeartbeats 2000000 in
theorem g12_runs_J86 {X : gX} {p : Program} {l : Launch} {e : Env} {s : State} {m : MethodId} {args : Array Value} {below : List Frame} {meth : Method} {c : Code} (B : gB X p (rm12_runs) s m args meth c RX12 cX12_runs 4 (rm12_runs)) (hS9 : gS X s) (hr : meth.sig.returnType = some .int) (rec19 : Nat → Int32 → Int32 → Int32 → mMem → Option (Int32 × mMem)) (hrec19 : ∀ (a0 : Nat) (x1 : Int32) (x2 : Int32) (x3 : Int32) (M : mMem), GG X p l e (rm12_runs) s m args below meth c (gP X below args s 0 0 (fun r9 : (Int32 × mMem) => (some (.int r9.1), r9.2))) 4 0 0 19 [(0, .ref a0), (1, .int x1), (2, .int x2), (3, .int x3)] [] M (rec19 a0 x1 x2 x3 M)) (a0 : Nat) (x2 : Int32) (x3 : Int32) (u0 : Int32) (u1 : Int32) (M : mMem) : GG X p l e (rm12_runs) s m args below meth c (gP X below args s 0 0 (fun r9 : (Int32 × mMem) => (some (.int r9.1), r9.2))) 4 0 0 86 [(0, .ref a0), (2, .int x2), (3, .int x3)] [.int u1, .int u0] M (p12_runs_J86 rec19 a0 x2 x3 u0 u1 M) := by
  unfold p12_runs_J86
  refine g_iadd B dX12_runs_86 ?_
  refine g_istore_n (lv' := [(1, .int (u0 + u1)), (0, .ref a0), (2, .int x2), (3, .int x3)]) B dX12_runs_87 (by decide) [0, 1, 2, 3] rfl ?_
  refine g_iinc (v := (x3 + 1)) (lv' := [(3, .int (x3 + 1)), (1, .int (u0 + u1)), (0, .ref a0), (2, .int x2)]) B dX12_runs_88 3 rfl rfl (by decide) [0, 1, 2, 3] rfl ?_
  refine g_goto B 19 dX12_runs_91 (by decide) ?_
  refine g_sub (lv' := [(0, .ref a0), (1, .int (u0 + u1)), (2, .int x2), (3, .int (x3 + 1))]) [2, 1, 3, 0] rfl ?_
  exact hrec19 a0 (u0 + u1) x2 (x3 + 1) M
set_option maxRecDepth 20000 in
set_option maxHeartbeats 2000000 in
theorem g12_runs_J85 {X : gX} {p : Program} {l : Launch} {e : Env} {s : State} {m : MethodId} {args : Array Value} {below : List Frame} {meth : Method} {c : Code} (B : gB X p (rm12_runs) s m args meth c RX12 cX12_runs 4 (rm12_runs)) (hS9 : gS X s) (hr : meth.sig.returnType = some .int) (rec19 : Nat → Int32 → Int32 → Int32 → mMem → Option (Int32 × mMem)) (hrec19 : ∀ (a0 : Nat) (x1 : Int32) (x2 : Int32) (x3 : Int32) (M : mMem), GG X p l e (rm12_runs) s m args below meth c (gP X below args s 0 0 (fun r9 : (Int32 × mMem) => (some (.int r9.1), r9.2))) 4 0 0 19 [(0, .ref a0), (1, .int x1), (2, .int x2), (3, .int x3)] [] M (rec19 a0 x1 x2 x3 M)) (a0 : Nat) (x2 : Int32) (x3 : Int32) (u0 : Int32) (M : mMem) : GG X p l e (rm12_runs) s m args below meth c (gP X below args s 0 0 (fun r9 : (Int32 × mMem) => (some (.int r9.1), r9.2))) 4 0 0 85 [(0, .ref a0), (2, .int x2), (3, .int x3)] [.int u0] M (p12_runs_J85 rec19 a0 x2 x3 u0 M) := by
  unfold p12_runs_J85
  refine g_iconst (v := 0) B dX12_runs_85 (by decide) ?_
  refine g_sub (lv' := [(0, .ref a0), (2, .int x2), (3, .int x3)]) [0, 1, 2] rfl ?_
  exact g12_runs_J86 B hS9 hr rec19 hrec19 a0 x2 x3 u0 0 M
set_option maxRecDepth 20000 in
set_option maxHeartbeats 2000000 in
theorem g12_runs_L19 {X : gX} {p : Program} {l : Launch} {e : Env} {s : State} {m : MethodId} {args : Array Value} {below : List Frame} {meth : Method} {c : Code} (B : gB X p (rm12_runs) s m args meth c RX12 cX12_runs 4 (rm12_runs)) (hS9 : gS X s) (hr : meth.sig.returnType = some .int) (k94 : Nat → Int32 → Int32 → mMem → Option (Int32 × mMem)) (hk94 : ∀ (a0 : Nat) (x1 : Int32) (x2 : Int32) (M : mMem), GG X p l e (rm12_runs) s m args below meth c (gP X below args s 0 0 (fun r9 : (Int32 × mMem) => (some (.int r9.1), r9.2))) 4 0 0 94 [(0, .ref a0), (1, .int x1), (2, .int x2)] [] M (k94 a0 x1 x2 M)) : ∀ (n : Nat) (a0 : Nat) (x1 : Int32) (x2 : Int32) (x3 : Int32) (M : mMem), GG X p l e (rm12_runs) s m args below meth c (gP X below args s 0 0 (fun r9 : (Int32 × mMem) => (some (.int r9.1), r9.2))) 4 0 0 19 [(0, .ref a0), (1, .int x1), (2, .int x2), (3, .int x3)] [] M (p12_runs_L19 k94 n a0 x1 x2 x3 M) := by
  intro n
  induction n with
  | zero => intro a0 x1 x2 x3 M; exact g_none
  | succ n ih =>
    intro a0 x1 x2 x3 M
    rw [p12_runs_L19]
    refine g_iload_n B dX12_runs_19 3 rfl ?_
    refine g_aload_n B dX12_runs_20 0 rfl ?_
    refine g_callV_ip [] (ci := 11) (T0 := TX12) (N := 27) B hS9 mf12_people wd_1793 (gw B wp_51) wd_1791 (by decide) rfl (fun h => (gd_ne h).1) (c12_people X l a0 M) (by decide) (by decide) (by decide) rfl (Nat.le_of_ble_eq_true rfl) dX12_runs_21 rfl (fun v_1 => ?_)
    refine g_icmp_ge B 94 dX12_runs_24 (by decide) ?_ ?_
    · refine g_iload_n B dX12_runs_27 1 rfl ?_
      refine g_aload_n B dX12_runs_28 0 rfl ?_
      refine g_iload_n B dX12_runs_29 2 rfl ?_
      refine g_callV_ip [.int x2] (ci := 11) (T0 := TX12) (N := 27) B hS9 mf12_isBoy wd_2050 (gw B wp_97) wd_2048 (by decide) rfl (fun h => (gd_ne h).1) (c12_isBoy X l a0 x2 M) (by decide) (by decide) (by decide) rfl (Nat.le_of_ble_eq_true rfl) dX12_runs_30 rfl (fun v_2 => ?_)
      refine g_if_eq B 85 dX12_runs_33 (by decide) ?_ ?_
      · refine g_sub (lv' := [(0, .ref a0), (2, .int x2), (3, .int x3)]) [0, 2, 3] rfl ?_
        exact g12_runs_J85 B hS9 hr (p12_runs_L19 k94 n) ih a0 x2 x3 x1 M
      · refine g_aload_n B dX12_runs_36 0 rfl ?_
        refine g_iload_n B dX12_runs_37 3 rfl ?_
        refine g_callV_ip [.int x3] (ci := 11) (T0 := TX12) (N := 27) B hS9 mf12_isBoy wd_2050 (gw B wp_97) wd_2048 (by decide) rfl (fun h => (gd_ne h).1) (c12_isBoy X l a0 x3 M) (by decide) (by decide) (by decide) rfl (Nat.le_of_ble_eq_true rfl) dX12_runs_38 rfl (fun v_3 => ?_)
        refine g_if_ne B 85 dX12_runs_41 (by decide) ?_ ?_
        · refine g_aload_n B dX12_runs_44 0 rfl ?_
          refine g_iload_n B dX12_runs_45 2 rfl ?_
          refine g_iload_n B dX12_runs_46 3 rfl ?_
          refine g_callV_ip [.int x2, .int x3] (ci := 11) (T0 := TX12) (N := 27) B hS9 mf12_areClose wd_1854 (gw B wp_63) wd_1852 (by decide) rfl (fun h => (gd_ne h).1) (c12_areClose X l a0 x2 x3 M) (by decide) (by decide) (by decide) rfl (Nat.le_of_ble_eq_true rfl) dX12_runs_47 rfl (fun v_4 => ?_)
          refine g_if_ne B 85 dX12_runs_50 (by decide) ?_ ?_
          · refine g_aload_n B dX12_runs_53 0 rfl ?_
            refine g_iload_n B dX12_runs_54 2 rfl ?_
            refine g_iconst (v := 4) B dX12_runs_55 (by decide) ?_
            refine g_callV_ip [.int x2, .int 4] (ci := 11) (T0 := TX12) (N := 27) B hS9 mf12_of wd_1846 (gw B wp_61) wd_1844 (by decide) rfl (fun h => (gd_ne h).1) (c12_of X l a0 x2 4 M) (by decide) (by decide) (by decide) rfl (Nat.le_of_ble_eq_true rfl) dX12_runs_56 rfl (fun v_5 => ?_)
            refine g_iload_n B dX12_runs_59 3 rfl ?_
            refine g_icmp_eq B 85 dX12_runs_60 (by decide) ?_ ?_
            · refine g_sub (lv' := [(0, .ref a0), (2, .int x2), (3, .int x3)]) [0, 2, 3] rfl ?_
              exact g12_runs_J85 B hS9 hr (p12_runs_L19 k94 n) ih a0 x2 x3 x1 M
            · refine g_aload_n B dX12_runs_63 0 rfl ?_
              refine g_iload_n B dX12_runs_64 2 rfl ?_
              refine g_iload_n B dX12_runs_65 3 rfl ?_
              refine g_callV_ip [.int x2, .int x3] (ci := 11) (T0 := TX12) (N := 27) B hS9 mf12_wouldRun wd_2251 (gw B wp_122) wd_2249 (by decide) rfl (fun h => (gd_ne h).1) (c12_wouldRun X l a0 x2 x3 M) (by decide) (by decide) (by decide) rfl (Nat.le_of_ble_eq_true rfl) dX12_runs_66 rfl (fun v_6 => ?_)
              refine g_if_eq B 85 dX12_runs_69 (by decide) ?_ ?_
              · refine g_sub (lv' := [(0, .ref a0), (2, .int x2), (3, .int x3)]) [0, 2, 3] rfl ?_
                exact g12_runs_J85 B hS9 hr (p12_runs_L19 k94 n) ih a0 x2 x3 x1 M
              · refine g_aload_n B dX12_runs_72 0 rfl ?_
                refine g_iload_n B dX12_runs_73 3 rfl ?_
                refine g_iload_n B dX12_runs_74 2 rfl ?_
                refine g_callV_ip [.int x3, .int x2] (ci := 11) (T0 := TX12) (N := 27) B hS9 mf12_wouldRun wd_2251 (gw B wp_122) wd_2249 (by decide) rfl (fun h => (gd_ne h).1) (c12_wouldRun X l a0 x3 x2 M) (by decide) (by decide) (by decide) rfl (Nat.le_of_ble_eq_true rfl) dX12_runs_75 rfl (fun v_7 => ?_)
                refine g_if_eq B 85 dX12_runs_78 (by decide) ?_ ?_
                · refine g_sub (lv' := [(0, .ref a0), (2, .int x2), (3, .int x3)]) [0, 2, 3] rfl ?_
                  exact g12_runs_J85 B hS9 hr (p12_runs_L19 k94 n) ih a0 x2 x3 x1 M
                · refine g_iconst (v := 1) B dX12_runs_81 (by decide) ?_
                  refine g_goto B 86 dX12_runs_82 (by decide) ?_
                  refine g_sub (lv' := [(0, .ref a0), (2, .int x2), (3, .int x3)]) [0, 2, 3] rfl ?_
                  exact g12_runs_J86 B hS9 hr (p12_runs_L19 k94 n) ih a0 x2 x3 x1 1 M
          · refine g_sub (lv' := [(0, .ref a0), (2, .int x2), (3, .int x3)]) [0, 2, 3] rfl ?_
            exact g12_runs_J85 B hS9 hr (p12_runs_L19 k94 n) ih a0 x2 x3 x1 M
        · refine g_sub (lv' := [(0, .ref a0), (2, .int x2), (3, .int x3)]) [0, 2, 3] rfl ?_
          exact g12_runs_J85 B hS9 hr (p12_runs_L19 k94 n) ih a0 x2 x3 x1 M
    · refine g_sub (lv' := [(0, .ref a0), (1, .int x1), (2, .int x2)]) [0, 1, 2] rfl ?_
      exact hk94 a0 x1 x2 M
set_option maxRecDepth 20000 in
set_option maxHeartbeats 2000000 in
theorem g12_runs_J94 {X : gX} {p : Program} {l : Launch} {e : Env} {s : State} {m : MethodId} {args : Array Value} {below : List Frame} {meth : Method} {c : Code} (B : gB X p (rm12_runs) s m args meth c RX12 cX12_runs 4 (rm12_runs)) (hS9 : gS X s) (hr : meth.sig.returnType = some .int) (rec9 : Nat → Int32 → Int32 → mMem → Option (Int32 × mMem)) (hrec9 : ∀ (a0 : Nat) (x1 : Int32) (x2 : Int32) (M : mMem), GG X p l e (rm12_runs) s m args below meth c (gP X below args s 0 0 (fun r9 : (Int32 × mMem) => (some (.int r9.1), r9.2))) 4 0 0 9 [(0, .ref a0), (1, .int x1), (2, .int x2)] [] M (rec9 a0 x1 x2 M)) (a0 : Nat) (x1 : Int32) (x2 : Int32) (M : mMem) : GG X p l e (rm12_runs) s m args below meth c (gP X below args s 0 0 (fun r9 : (Int32 × mMem) => (some (.int r9.1), r9.2))) 4 0 0 94 [(0, .ref a0), (1, .int x1), (2, .int x2)] [] M (p12_runs_J94 rec9 a0 x1 x2 M) := by
  unfold p12_runs_J94
  refine g_iinc (v := (x2 + 1)) (lv' := [(2, .int (x2 + 1)), (0, .ref a0), (1, .int x1)]) B dX12_runs_94 2 rfl rfl (by decide) [0, 1, 2] rfl ?_
  refine g_goto B 9 dX12_runs_97 (by decide) ?_
  refine g_sub (lv' := [(0, .ref a0), (1, .int x1), (2, .int (x2 + 1))]) [1, 2, 0] rfl ?_
  exact hrec9 a0 x1 (x2 + 1) M
set_option maxRecDepth 20000 in
set_option maxHeartbeats 2000000 in
theorem g12_runs_L9 {X : gX} {p : Program} {l : Launch} {e : Env} {s : State} {m : MethodId} {args : Array Value} {below : List Frame} {meth : Method} {c : Code} (B : gB X p (rm12_runs) s m args meth c RX12 cX12_runs 4 (rm12_runs)) (hS9 : gS X s) (hr : meth.sig.returnType = some .int) : ∀ (n : Nat) (a0 : Nat) (x1 : Int32) (x2 : Int32) (M : mMem), GG X p l e (rm12_runs) s m args below meth c (gP X below args s 0 0 (fun r9 : (Int32 × mMem) => (some (.int r9.1), r9.2))) 4 0 0 9 [(0, .ref a0), (1, .int x1), (2, .int x2)] [] M (p12_runs_L9 n a0 x1 x2 M) := by
  intro n
  induction n with
  | zero => intro a0 x1 x2 M; exact g_none
  | succ n ih =>
    intro a0 x1 x2 M
    rw [p12_runs_L9]
    refine g_iload_n B dX12_runs_9 2 rfl ?_
    refine g_aload_n B dX12_runs_10 0 rfl ?_
    refine g_callV_ip [] (ci := 11) (T0 := TX12) (N := 27) B hS9 mf12_people wd_1793 (gw B wp_51) wd_1791 (by decide) rfl (fun h => (gd_ne h).1) (c12_people X l a0 M) (by decide) (by decide) (by decide) rfl (Nat.le_of_ble_eq_true rfl) dX12_runs_11 rfl (fun v_1 => ?_)
    refine g_icmp_ge B 100 dX12_runs_14 (by decide) ?_ ?_
    · refine g_iconst (v := 0) B dX12_runs_17 (by decide) ?_
      refine g_istore_n (lv' := [(3, .int 0), (0, .ref a0), (1, .int x1), (2, .int x2)]) B dX12_runs_18 (by decide) [0, 1, 2, 3] rfl ?_
      refine g_sub (lv' := [(0, .ref a0), (1, .int x1), (2, .int x2), (3, .int 0)]) [1, 2, 3, 0] rfl ?_
      exact (g12_runs_L19 B hS9 hr (p12_runs_J94 (p12_runs_L9 n)) (fun e0 e1 e2 e3 => g12_runs_J94 B hS9 hr (p12_runs_L9 n) ih e0 e1 e2 e3)) gF a0 x1 x2 0 M
    · refine g_iload_n B dX12_runs_100 1 rfl ?_
      exact g_ireturn B hr rfl (by decide) (by decide) rfl dX12_runs_101
set_option maxRecDepth 20000 in
set_option maxHeartbeats 2000000 in
theorem g12_runs {X : gX} {p : Program} {l : Launch} {e : Env} {s : State} {m : MethodId} {args : Array Value} {below : List Frame} {meth : Method} {c : Code} (B : gB X p (rm12_runs) s m args meth c RX12 cX12_runs 4 (rm12_runs)) (hS9 : gS X s) (hr : meth.sig.returnType = some .int) (a0 : Nat) (M : mMem) : GG X p l e (rm12_runs) s m args below meth c (gP X below args s 0 0 (fun r9 : (Int32 × mMem) => (some (.int r9.1), r9.2))) 4 0 0 0 [(0, .ref a0)] [] M (p12_runs a0 M) := by
  unfold p12_runs
  refine g_gd ?_
  refine g_aload_n B dX12_runs_0 0 rfl ?_
  refine g_iconst (v := 0) B dX12_runs_1 (by decide) ?_
  refine g_putI (ci := 11) (T0 := TX12) (N := 27) B (by decide) rfl in_11 tyX12 tyX12_ok nmX12 (k := 0) (by decide) wd_1641 (fun _ h => h) rfl rfl (ty := .int) (by decide +kernel) rfl rfl dX12_runs_2 (fun M_1 => ?_)
  refine g_iconst (v := 0) B dX12_runs_5 (by decide) ?_
  refine g_istore_n (lv' := [(1, .int 0), (0, .ref a0)]) B dX12_runs_6 (by decide) [0, 1] rfl ?_
  refine g_iconst (v := 0) B dX12_runs_7 (by decide) ?_
  refine g_istore_n (lv' := [(2, .int 0), (1, .int 0), (0, .ref a0)]) B dX12_runs_8 (by decide) [0, 1, 2] rfl ?_
  refine g_sub (lv' := [(0, .ref a0), (1, .int 0), (2, .int 0)]) [2, 1, 0] rfl ?_
  exact (g12_runs_L9 B hS9 hr) gF a0 0 0 M_1
theorem c12_runs (X : gX) (l : Launch) (a0 : Nat) (M : mMem) : Con X l yX12_runs cX12_runs 4 (some .int) rm12_runs (fun r9 : (Int32 × mMem) => (some (.int r9.1), r9.2)) [.ref a0] M (p12_runs a0 M) := g_con (own := RX12) (by decide +kernel) rfl (Nat.le_of_ble_eq_true rfl) (fun p e s m args below meth c B hS9 hr hn => g12_runs B hS9 hr a0 M)
