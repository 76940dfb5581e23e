theorem mf5_next : gMF yX9_next cX9_next 1 (some .int) 0 := ⟨wd_854, wd_6, ⟨by decide, by decide⟩, by decide +kernel⟩
set_option maxRecDepth 20000 in
set_option maxHeartbeats 2000000 in
theorem g5_next_J43 {X : gX} {p : Program} {l : Launch} {e : Env} {s : State} {m : MethodId} {args : Array Value} {below : List Frame} {meth : Method} {c : Code} (B : gB X p (rm5_next) s m args meth c RX9 cX9_next 1 (rm5_next)) (hS9 : gS X s) (hr : meth.sig.returnType = some .int) {M : mMem} (u0 : Int32) : GG X p l e (rm5_next) s m args below meth c (gP X below args s 0 0 (fun r9 : Int32 => (some (.int r9), M))) 1 0 0 43 [] [.int u0] M (p5_next_J43 M u0) := by
  unfold p5_next_J43
  exact g_ireturn B hr rfl (by decide) (by decide) rfl dX9_next_43
set_option maxRecDepth 20000 in
set_option maxHeartbeats 2000000 in
theorem g5_next_J42 {X : gX} {p : Program} {l : Launch} {e : Env} {s : State} {m : MethodId} {args : Array Value} {below : List Frame} {meth : Method} {c : Code} (B : gB X p (rm5_next) s m args meth c RX9 cX9_next 1 (rm5_next)) (hS9 : gS X s) (hr : meth.sig.returnType = some .int) {M : mMem} : GG X p l e (rm5_next) s m args below meth c (gP X below args s 0 0 (fun r9 : Int32 => (some (.int r9), M))) 1 0 0 42 [] [] M (p5_next_J42 M) := by
  unfold p5_next_J42
  refine g_iconst (v := 1) B dX9_next_42 (by decide) ?_
  refine g_sub (lv' := []) [] rfl ?_
  exact g5_next_J43 B hS9 hr 1
set_option maxRecDepth 20000 in
set_option maxHeartbeats 2000000 in
theorem g5_next {X : gX} {p : Program} {l : Launch} {e : Env} {s : State} {m : MethodId} {args : Array Value} {below : List Frame} {meth : Method} {c : Code} (B : gB X p (rm5_next) s m args meth c RX9 cX9_next 1 (rm5_next)) (hS9 : gS X s) (hr : meth.sig.returnType = some .int) {M : mMem} (a0 : Nat) : GG X p l e (rm5_next) s m args below meth c (gP X below args s 0 0 (fun r9 : Int32 => (some (.int r9), M))) 1 0 0 0 [(0, .ref a0)] [] M (p5_next a0 M) := by
  unfold p5_next
  refine g_gd ?_
  refine g_aload_n B dX9_next_0 0 rfl ?_
  refine g_getI (ci := 5) (T0 := TX5) (N := 9) B (by decide) rfl in_5 (k := 6) (by decide) rfl wd_246 (fun _ h => h) dX9_next_1 (fun v_1 => ?_)
  refine g_if_lt B 42 dX9_next_4 (by decide) ?_ ?_
  · refine g_sub (lv' := []) [] rfl ?_
    exact g5_next_J42 B hS9 hr
  · refine g_aload_n B dX9_next_7 0 rfl ?_
    refine g_getI (ci := 5) (T0 := TX5) (N := 9) B (by decide) rfl in_5 (k := 6) (by decide) rfl wd_246 (fun _ h => h) dX9_next_8 (fun v_2 => ?_)
    refine g_aload_n B dX9_next_11 0 rfl ?_
    refine g_getI (ci := 5) (T0 := TX5) (N := 9) B (by decide) rfl in_5 (k := 4) (by decide) rfl wd_244 (fun _ h => h) dX9_next_12 (fun v_3 => ?_)
    refine g_icmp_ge B 42 dX9_next_15 (by decide) ?_ ?_
    · refine g_aload_n B dX9_next_18 0 rfl ?_
      refine g_getI (ci := 5) (T0 := TX5) (N := 9) B (by decide) rfl in_5 (k := 6) (by decide) rfl wd_246 (fun _ h => h) dX9_next_19 (fun v_4 => ?_)
      refine g_aload_n B dX9_next_22 0 rfl ?_
      refine g_getR (ci := 5) (T0 := TX5) (N := 9) B (by decide) rfl in_5 (k := 0) (by decide) rfl wd_240 (fun _ h => h) dX9_next_23 (fun v_5 => ?_)
      refine g_alen B dX9_next_26 (fun v_6 => ?_)
      refine g_icmp_ge B 42 dX9_next_27 (by decide) ?_ ?_
      · refine g_aload_n B dX9_next_30 0 rfl ?_
        refine g_getR (ci := 5) (T0 := TX5) (N := 9) B (by decide) rfl in_5 (k := 0) (by decide) rfl wd_240 (fun _ h => h) dX9_next_31 (fun v_7 => ?_)
        refine g_aload_n B dX9_next_34 0 rfl ?_
        refine g_getI (ci := 5) (T0 := TX5) (N := 9) B (by decide) rfl in_5 (k := 6) (by decide) rfl wd_246 (fun _ h => h) dX9_next_35 (fun v_8 => ?_)
        refine g_iaload B dX9_next_38 (fun v_9 => ?_)
        refine g_goto B 43 dX9_next_39 (by decide) ?_
        refine g_sub (lv' := []) [] rfl ?_
        exact g5_next_J43 B hS9 hr v_9
      · refine g_sub (lv' := []) [] rfl ?_
        exact g5_next_J42 B hS9 hr
    · refine g_sub (lv' := []) [] rfl ?_
      exact g5_next_J42 B hS9 hr
theorem c5_next (X : gX) (l : Launch) (a0 : Nat) (M : mMem) : Con X l yX9_next cX9_next 1 (some .int) rm5_next (fun r9 : Int32 => (some (.int r9), M)) [.ref a0] M (p5_next a0 M) := g_con (own := RX9) (by decide +kernel) rfl (Nat.le_of_ble_eq_true rfl) (fun p e s m args below meth c B hS9 hr hn => g5_next B hS9 hr a0)
theorem mf5_numberOfNext : gMF yX9_numberOfNext cX9_numberOfNext 1 (some .int) 0 := ⟨wd_886, wd_6, ⟨by decide, by decide⟩, by decide +kernel⟩
set_option maxRecDepth 20000 in
set_option maxHeartbeats 2000000 in
theorem g5_numberOfNext_J43 {X : gX} {p : Program} {l : Launch} {e : Env} {s : State} {m : MethodId} {args : Array Value} {below : List Frame} {meth : Method} {c : Code} (B : gB X p (rm5_numberOfNext) s m args meth c RX9 cX9_numberOfNext 1 (rm5_numberOfNext)) (hS9 : gS X s) (hr : meth.sig.returnType = some .int) {M : mMem} (u0 : Int32) : GG X p l e (rm5_numberOfNext) s m args below meth c (gP X below args s 0 0 (fun r9 : Int32 => (some (.int r9), M))) 1 0 0 43 [] [.int u0] M (p5_numberOfNext_J43 M u0) := by
  unfold p5_numberOfNext_J43
  exact g_ireturn B hr rfl (by decide) (by decide) rfl dX9_numberOfNext_43
set_option maxRecDepth 20000 in
set_option maxHeartbeats 2000000 in
theorem g5_numberOfNext_J42 {X : gX} {p : Program} {l : Launch} {e : Env} {s : State} {m : MethodId} {args : Array Value} {below : List Frame} {meth : Method} {c : Code} (B : gB X p (rm5_numberOfNext) s m args meth c RX9 cX9_numberOfNext 1 (rm5_numberOfNext)) (hS9 : gS X s) (hr : meth.sig.returnType = some .int) {M : mMem} : GG X p l e (rm5_numberOfNext) s m args below meth c (gP X below args s 0 0 (fun r9 : Int32 => (some (.int r9), M))) 1 0 0 42 [] [] M (p5_numberOfNext_J42 M) := by
  unfold p5_numberOfNext_J42
  refine g_iconst (v := 0) B dX9_numberOfNext_42 (by decide) ?_
  refine g_sub (lv' := []) [] rfl ?_
  exact g5_numberOfNext_J43 B hS9 hr 0
set_option maxRecDepth 20000 in
set_option maxHeartbeats 2000000 in
theorem g5_numberOfNext {X : gX} {p : Program} {l : Launch} {e : Env} {s : State} {m : MethodId} {args : Array Value} {below : List Frame} {meth : Method} {c : Code} (B : gB X p (rm5_numberOfNext) s m args meth c RX9 cX9_numberOfNext 1 (rm5_numberOfNext)) (hS9 : gS X s) (hr : meth.sig.returnType = some .int) {M : mMem} (a0 : Nat) : GG X p l e (rm5_numberOfNext) s m args below meth c (gP X below args s 0 0 (fun r9 : Int32 => (some (.int r9), M))) 1 0 0 0 [(0, .ref a0)] [] M (p5_numberOfNext a0 M) := by
  unfold p5_numberOfNext
  refine g_gd ?_
  refine g_aload_n B dX9_numberOfNext_0 0 rfl ?_
  refine g_getI (ci := 5) (T0 := TX5) (N := 9) B (by decide) rfl in_5 (k := 6) (by decide) rfl wd_246 (fun _ h => h) dX9_numberOfNext_1 (fun v_1 => ?_)
  refine g_if_lt B 42 dX9_numberOfNext_4 (by decide) ?_ ?_
  · refine g_sub (lv' := []) [] rfl ?_
    exact g5_numberOfNext_J42 B hS9 hr
  · refine g_aload_n B dX9_numberOfNext_7 0 rfl ?_
    refine g_getI (ci := 5) (T0 := TX5) (N := 9) B (by decide) rfl in_5 (k := 6) (by decide) rfl wd_246 (fun _ h => h) dX9_numberOfNext_8 (fun v_2 => ?_)
    refine g_aload_n B dX9_numberOfNext_11 0 rfl ?_
    refine g_getI (ci := 5) (T0 := TX5) (N := 9) B (by decide) rfl in_5 (k := 4) (by decide) rfl wd_244 (fun _ h => h) dX9_numberOfNext_12 (fun v_3 => ?_)
    refine g_icmp_ge B 42 dX9_numberOfNext_15 (by decide) ?_ ?_
    · refine g_aload_n B dX9_numberOfNext_18 0 rfl ?_
      refine g_getI (ci := 5) (T0 := TX5) (N := 9) B (by decide) rfl in_5 (k := 6) (by decide) rfl wd_246 (fun _ h => h) dX9_numberOfNext_19 (fun v_4 => ?_)
      refine g_aload_n B dX9_numberOfNext_22 0 rfl ?_
      refine g_getR (ci := 5) (T0 := TX5) (N := 9) B (by decide) rfl in_5 (k := 2) (by decide) rfl wd_242 (fun _ h => h) dX9_numberOfNext_23 (fun v_5 => ?_)
      refine g_alen B dX9_numberOfNext_26 (fun v_6 => ?_)
      refine g_icmp_ge B 42 dX9_numberOfNext_27 (by decide) ?_ ?_
      · refine g_aload_n B dX9_numberOfNext_30 0 rfl ?_
        refine g_getR (ci := 5) (T0 := TX5) (N := 9) B (by decide) rfl in_5 (k := 2) (by decide) rfl wd_242 (fun _ h => h) dX9_numberOfNext_31 (fun v_7 => ?_)
        refine g_aload_n B dX9_numberOfNext_34 0 rfl ?_
        refine g_getI (ci := 5) (T0 := TX5) (N := 9) B (by decide) rfl in_5 (k := 6) (by decide) rfl wd_246 (fun _ h => h) dX9_numberOfNext_35 (fun v_8 => ?_)
        refine g_iaload B dX9_numberOfNext_38 (fun v_9 => ?_)
        refine g_goto B 43 dX9_numberOfNext_39 (by decide) ?_
        refine g_sub (lv' := []) [] rfl ?_
        exact g5_numberOfNext_J43 B hS9 hr v_9
      · refine g_sub (lv' := []) [] rfl ?_
        exact g5_numberOfNext_J42 B hS9 hr
    · refine g_sub (lv' := []) [] rfl ?_
      exact g5_numberOfNext_J42 B hS9 hr
theorem c5_numberOfNext (X : gX) (l : Launch) (a0 : Nat) (M : mMem) : Con X l yX9_numberOfNext cX9_numberOfNext 1 (some .int) rm5_numberOfNext (fun r9 : Int32 => (some (.int r9), M)) [.ref a0] M (p5_numberOfNext a0 M) := g_con (own := RX9) (by decide +kernel) rfl (Nat.le_of_ble_eq_true rfl) (fun p e s m args below meth c B hS9 hr hn => g5_numberOfNext B hS9 hr a0)
theorem mf5_tookNumber : gMF yX9_tookNumber cX9_tookNumber 4 (some .boolean) 2 := ⟨wd_880, wd_6, ⟨by decide, by decide⟩, by decide +kernel⟩
set_option maxRecDepth 20000 in
set_option maxHeartbeats 2000000 in
theorem g5_tookNumber_J23 {X : gX} {p : Program} {l : Launch} {e : Env} {s : State} {m : MethodId} {args : Array Value} {below : List Frame} {meth : Method} {c : Code} (B : gB X p (rm5_tookNumber) s m args meth c RX9 cX9_tookNumber 4 (rm5_tookNumber)) (hS9 : gS X s) (hr : meth.sig.returnType = some .boolean) (M : mMem) : GG X p l e (rm5_tookNumber) s m args below meth c (gP X below args s 0 0 (fun r9 : (Int32 × mMem) => (some (.int r9.1), r9.2))) 4 0 0 23 [] [] M (p5_tookNumber_J23 M) := by
  unfold p5_tookNumber_J23
  refine g_iconst (v := 0) B dX9_tookNumber_23 (by decide) ?_
  exact g_ireturn B hr rfl (by decide) (by decide) rfl dX9_tookNumber_24
set_option maxRecDepth 20000 in
set_option maxHeartbeats 2000000 in
theorem g5_tookNumber {X : gX} {p : Program} {l : Launch} {e : Env} {s : State} {m : MethodId} {args : Array Value} {below : List Frame} {meth : Method} {c : Code} (B : gB X p (rm5_tookNumber) s m args meth c RX9 cX9_tookNumber 4 (rm5_tookNumber)) (hS9 : gS X s) (hr : meth.sig.returnType = some .boolean) (a0 : Nat) (x1 : Int32) (x2 : Int32) (M : mMem) : GG X p l e (rm5_tookNumber) s m args below meth c (gP X below args s 0 0 (fun r9 : (Int32 × mMem) => (some (.int r9.1), r9.2))) 4 0 0 0 [(0, .ref a0), (1, .int x1), (2, .int x2)] [] M (p5_tookNumber a0 x1 x2 M) := by
  unfold p5_tookNumber
  refine g_gd ?_
  refine g_aload_n B dX9_tookNumber_0 0 rfl ?_
  refine g_callV_ip [] (ci := 5) (T0 := TX5) (N := 9) B hS9 mf5_numberOfNext wd_882 (gw B wd_885) wd_881 (by decide) rfl (fun h => (gd_ne h).1) (c5_numberOfNext X l a0 M) (by decide) (by decide) (by decide) rfl (by decide) dX9_tookNumber_1 rfl (fun v_1 => ?_)
  refine g_istore_n (lv' := [(3, .int v_1), (0, .ref a0), (1, .int x1), (2, .int x2)]) B dX9_tookNumber_4 (by decide) [0, 1, 2, 3] rfl ?_
  refine g_aload_n B dX9_tookNumber_5 1 rfl ?_
  refine g_callV_ip [] (ci := 5) (T0 := TX5) (N := 9) B hS9 mf5_next wd_850 (gw B wd_853) wd_849 (by decide) rfl (fun h => (gd_ne h).1) (c5_next X l a0 M) (by decide) (by decide) (by decide) rfl (by decide) dX9_tookNumber_6 rfl (fun v_2 => ?_)
  refine g_iconst (v := 2) B dX9_tookNumber_9 (by decide) ?_
  refine g_icmp_ne B 23 dX9_tookNumber_10 (by decide) ?_ ?_
  · refine g_iload_n B dX9_tookNumber_13 0 rfl ?_
    refine g_iload_n B dX9_tookNumber_14 2 rfl ?_
    refine g_icmp_lt B 23 dX9_tookNumber_15 (by decide) ?_ ?_
    · refine g_sub (lv' := []) [] rfl ?_
      exact g5_tookNumber_J23 B hS9 hr M
    · refine g_iload_n B dX9_tookNumber_18 0 rfl ?_
      refine g_iload_n B dX9_tookNumber_19 3 rfl ?_
      refine g_icmp_le B 25 dX9_tookNumber_20 (by decide) ?_ ?_
      · refine g_sub (lv' := []) [] rfl ?_
        exact g5_tookNumber_J23 B hS9 hr M
      · refine g_aload_n B dX9_tookNumber_25 1 rfl ?_
        refine g_iload_n B dX9_tookNumber_26 0 rfl ?_
        refine g_putI (ci := 5) (T0 := TX5) (N := 9) B (by decide) rfl in_5 tyX5 tyX5_ok nmX5 (k := 7) (by decide) wd_251 (fun _ h => h) rfl rfl (ty := .int) (by decide +kernel) rfl rfl dX9_tookNumber_27 (fun M_3 => ?_)
        refine g_aload_n B dX9_tookNumber_30 1 rfl ?_
        refine g_dup B dX9_tookNumber_31 rfl ?_
        refine g_getI (ci := 5) (T0 := TX5) (N := 9) B (by decide) rfl in_5 (k := 6) (by decide) rfl wd_246 (fun _ h => h) dX9_tookNumber_32 (fun v_4 => ?_)
        refine g_iconst (v := 1) B dX9_tookNumber_35 (by decide) ?_
        refine g_iadd B dX9_tookNumber_36 ?_
        refine g_putI (ci := 5) (T0 := TX5) (N := 9) B (by decide) rfl in_5 tyX5 tyX5_ok nmX5 (k := 6) (by decide) wd_246 (fun _ h => h) rfl rfl (ty := .int) (by decide +kernel) rfl rfl dX9_tookNumber_37 (fun M_5 => ?_)
        refine g_iconst (v := 1) B dX9_tookNumber_40 (by decide) ?_
        exact g_ireturn B hr rfl (by decide) (by decide) rfl dX9_tookNumber_41
  · refine g_sub (lv' := []) [] rfl ?_
    exact g5_tookNumber_J23 B hS9 hr M
theorem c5_tookNumber (X : gX) (l : Launch) (a0 : Nat) (x1 : Int32) (x2 : Int32) (M : mMem) : Con X l yX9_tookNumber cX9_tookNumber 4 (some .boolean) rm5_tookNumber (fun r9 : (Int32 × mMem) => (some (.int r9.1), r9.2)) [.ref a0, .int x1, .int x2] M (p5_tookNumber a0 x1 x2 M) := g_con (own := RX9) (by decide +kernel) rfl (Nat.le_of_ble_eq_true rfl) (fun p e s m args below meth c B hS9 hr hn => g5_tookNumber B hS9 hr a0 x1 x2 M)
theorem mf5_took : gMF yX9_took cX9_took 2 (some .boolean) 1 := ⟨wd_874, wd_6, ⟨by decide, by decide⟩, by decide +kernel⟩
set_option maxRecDepth 20000 in
set_option maxHeartbeats 2000000 in
theorem g5_took {X : gX} {p : Program} {l : Launch} {e : Env} {s : State} {m : MethodId} {args : Array Value} {below : List Frame} {meth : Method} {c : Code} (B : gB X p (rm5_took) s m args meth c RX9 cX9_took 2 (rm5_took)) (hS9 : gS X s) (hr : meth.sig.returnType = some .boolean) (a0 : Nat) (x1 : Int32) (M : mMem) : GG X p l e (rm5_took) s m args below meth c (gP X below args s 0 0 (fun r9 : (Int32 × mMem) => (some (.int r9.1), r9.2))) 2 0 0 0 [(0, .ref a0), (1, .int x1)] [] M (p5_took a0 x1 M) := by
  unfold p5_took
  refine g_gd ?_
  refine g_aload_n B dX9_took_0 0 rfl ?_
  refine g_callV_ip [] (ci := 5) (T0 := TX5) (N := 9) B hS9 mf5_next wd_850 (gw B wd_853) wd_849 (by decide) rfl (fun h => (gd_ne h).1) (c5_next X l a0 M) (by decide) (by decide) (by decide) rfl (by decide) dX9_took_1 rfl (fun v_1 => ?_)
  refine g_iload_n B dX9_took_4 1 rfl ?_
  refine g_icmp_eq B 10 dX9_took_5 (by decide) ?_ ?_
  · refine g_aload_n B dX9_took_10 0 rfl ?_
    refine g_dup B dX9_took_11 rfl ?_
    refine g_getI (ci := 5) (T0 := TX5) (N := 9) B (by decide) rfl in_5 (k := 6) (by decide) rfl wd_246 (fun _ h => h) dX9_took_12 (fun v_2 => ?_)
    refine g_iconst (v := 1) B dX9_took_15 (by decide) ?_
    refine g_iadd B dX9_took_16 ?_
    refine g_putI (ci := 5) (T0 := TX5) (N := 9) B (by decide) rfl in_5 tyX5 tyX5_ok nmX5 (k := 6) (by decide) wd_246 (fun _ h => h) rfl rfl (ty := .int) (by decide +kernel) rfl rfl dX9_took_17 (fun M_3 => ?_)
    refine g_iconst (v := 1) B dX9_took_20 (by decide) ?_
    exact g_ireturn B hr rfl (by decide) (by decide) rfl dX9_took_21
  · refine g_iconst (v := 0) B dX9_took_8 (by decide) ?_
    exact g_ireturn B hr rfl (by decide) (by decide) rfl dX9_took_9
theorem c5_took (X : gX) (l : Launch) (a0 : Nat) (x1 : Int32) (M : mMem) : Con X l yX9_took cX9_took 2 (some .boolean) rm5_took (fun r9 : (Int32 × mMem) => (some (.int r9.1), r9.2)) [.ref a0, .int x1] M (p5_took a0 x1 M) := g_con (own := RX9) (by decide +kernel) rfl (Nat.le_of_ble_eq_true rfl) (fun p e s m args below meth c B hS9 hr hn => g5_took B hS9 hr a0 x1 M)
theorem mf5_isPart : gMF yX5_isPart cX5_isPart 1 (some .boolean) 1 := ⟨wd_960, wd_8, ⟨by decide, by decide⟩, by decide +kernel⟩
set_option maxRecDepth 20000 in
set_option maxHeartbeats 2000000 in
theorem g5_isPart_J46 {X : gX} {p : Program} {l : Launch} {e : Env} {s : State} {m : MethodId} {args : Array Value} {below : List Frame} {meth : Method} {c : Code} (B : gB X p (rm5_isPart) s m args meth c RX5 cX5_isPart 1 (rm5_isPart)) (hS9 : gS X s) (hr : meth.sig.returnType = some .boolean) {M : mMem} (u0 : Int32) : GG X p l e (rm5_isPart) s m args below meth c (gP X below args s 0 0 (fun r9 : Int32 => (some (.int r9), M))) 1 0 0 46 [] [.int u0] M (p5_isPart_J46 M u0) := by
  unfold p5_isPart_J46
  exact g_zreturn (f := fun z => z) B hr (by decide) (by decide) rfl dX5_isPart_46
set_option maxRecDepth 20000 in
set_option maxHeartbeats 2000000 in
theorem g5_isPart_J41 {X : gX} {p : Program} {l : Launch} {e : Env} {s : State} {m : MethodId} {args : Array Value} {below : List Frame} {meth : Method} {c : Code} (B : gB X p (rm5_isPart) s m args meth c RX5 cX5_isPart 1 (rm5_isPart)) (hS9 : gS X s) (hr : meth.sig.returnType = some .boolean) {M : mMem} : GG X p l e (rm5_isPart) s m args below meth c (gP X below args s 0 0 (fun r9 : Int32 => (some (.int r9), M))) 1 0 0 41 [] [] M (p5_isPart_J41 M) := by
  unfold p5_isPart_J41
  refine g_iconst (v := 1) B dX5_isPart_41 (by decide) ?_
  refine g_goto B 46 dX5_isPart_42 (by decide) ?_
  refine g_sub (lv' := []) [] rfl ?_
  exact g5_isPart_J46 B hS9 hr 1
set_option maxRecDepth 20000 in
set_option maxHeartbeats 2000000 in
theorem g5_isPart {X : gX} {p : Program} {l : Launch} {e : Env} {s : State} {m : MethodId} {args : Array Value} {below : List Frame} {meth : Method} {c : Code} (B : gB X p (rm5_isPart) s m args meth c RX5 cX5_isPart 1 (rm5_isPart)) (hS9 : gS X s) (hr : meth.sig.returnType = some .boolean) {M : mMem} (x0 : Int32) : GG X p l e (rm5_isPart) s m args below meth c (gP X below args s 0 0 (fun r9 : Int32 => (some (.int r9), M))) 1 0 0 0 [(0, .int x0)] [] M (p5_isPart x0 M) := by
  unfold p5_isPart
  refine g_iload_n B dX5_isPart_0 0 rfl ?_
  refine g_iconst (v := 2) B dX5_isPart_1 (by decide) ?_
  refine g_icmp_eq B 41 dX5_isPart_2 (by decide) ?_ ?_
  · refine g_sub (lv' := []) [] rfl ?_
    exact g5_isPart_J41 B hS9 hr
  · refine g_iload_n B dX5_isPart_5 0 rfl ?_
    refine g_bipush (v := 26) B dX5_isPart_6 (by decide) ?_
    refine g_icmp_eq B 41 dX5_isPart_8 (by decide) ?_ ?_
    · refine g_sub (lv' := []) [] rfl ?_
      exact g5_isPart_J41 B hS9 hr
    · refine g_iload_n B dX5_isPart_11 0 rfl ?_
      refine g_bipush (v := 27) B dX5_isPart_12 (by decide) ?_
      refine g_icmp_eq B 41 dX5_isPart_14 (by decide) ?_ ?_
      · refine g_sub (lv' := []) [] rfl ?_
        exact g5_isPart_J41 B hS9 hr
      · refine g_iload_n B dX5_isPart_17 0 rfl ?_
        refine g_bipush (v := 6) B dX5_isPart_18 (by decide) ?_
        refine g_icmp_eq B 41 dX5_isPart_20 (by decide) ?_ ?_
        · refine g_sub (lv' := []) [] rfl ?_
          exact g5_isPart_J41 B hS9 hr
        · refine g_iload_n B dX5_isPart_23 0 rfl ?_
          refine g_bipush (v := 28) B dX5_isPart_24 (by decide) ?_
          refine g_icmp_eq B 41 dX5_isPart_26 (by decide) ?_ ?_
          · refine g_sub (lv' := []) [] rfl ?_
            exact g5_isPart_J41 B hS9 hr
          · refine g_iload_n B dX5_isPart_29 0 rfl ?_
            refine g_bipush (v := 29) B dX5_isPart_30 (by decide) ?_
            refine g_icmp_eq B 41 dX5_isPart_32 (by decide) ?_ ?_
            · refine g_sub (lv' := []) [] rfl ?_
              exact g5_isPart_J41 B hS9 hr
            · refine g_iload_n B dX5_isPart_35 0 rfl ?_
              refine g_bipush (v := 16) B dX5_isPart_36 (by decide) ?_
              refine g_icmp_ne B 45 dX5_isPart_38 (by decide) ?_ ?_
              · refine g_sub (lv' := []) [] rfl ?_
                exact g5_isPart_J41 B hS9 hr
              · refine g_iconst (v := 0) B dX5_isPart_45 (by decide) ?_
                refine g_sub (lv' := []) [] rfl ?_
                exact g5_isPart_J46 B hS9 hr 0
theorem c5_isPart (X : gX) (l : Launch) (x0 : Int32) (M : mMem) : Con X l yX5_isPart cX5_isPart 1 (some .boolean) rm5_isPart (fun r9 : Int32 => (some (.int r9), M)) [.int x0] M (p5_isPart x0 M) := g_con (own := RX5) (by decide +kernel) rfl (Nat.le_of_ble_eq_true rfl) (fun p e s m args below meth c B hS9 hr hn => g5_isPart B hS9 hr x0)
theorem mf5_readSum : gMF yX5_readSum cX5_readSum 3 (some .boolean) 0 := ⟨wd_957, wd_8, ⟨by decide, by decide⟩, by decide +kernel⟩
set_option maxRecDepth 20000 in
set_option maxHeartbeats 2000000 in
theorem g5_readSum_J59 {X : gX} {p : Program} {l : Launch} {e : Env} {s : State} {m : MethodId} {args : Array Value} {below : List Frame} {meth : Method} {c : Code} (B : gB X p (rm5_readSum) s m args meth c RX5 cX5_readSum 3 (rm5_readSum)) (hS9 : gS X s) (hr : meth.sig.returnType = some .boolean) (rec2 : Nat → Int32 → mMem → Option (Int32 × mMem)) (hrec2 : ∀ (a0 : Nat) (x1 : Int32) (M : mMem), GG X p l e (rm5_readSum) s m args below meth c (gP X below args s 0 0 (fun r9 : (Int32 × mMem) => (some (.int r9.1), r9.2))) 3 0 0 2 [(0, .ref a0), (1, .int x1)] [] M (rec2 a0 x1 M)) (a0 : Nat) (x1 : Int32) (M : mMem) : GG X p l e (rm5_readSum) s m args below meth c (gP X below args s 0 0 (fun r9 : (Int32 × mMem) => (some (.int r9.1), r9.2))) 3 0 0 59 [(0, .ref a0), (1, .int x1)] [] M (p5_readSum_J59 rec2 a0 x1 M) := by
  unfold p5_readSum_J59
  refine g_aload_n B dX5_readSum_59 0 rfl ?_
  refine g_bipush (v := 43) B dX5_readSum_60 (by decide) ?_
  refine g_callU_iw (x := ⟨"CribLine$LawReader", "took", "(I)Z"⟩) (owner := "CribLine$Reader") [.int 43] (ci := 5) (T0 := TX5) (N := 9) B hS9 mf5_took wd_873 (gw B wd_933) wd_931 wd_932 (va_Decl.of (gw B wd_873) (gw B wd_874)) (by decide +kernel) (by decide) rfl (fun h => (gd_ne h).1) (c5_took X l a0 43 M) (by decide) (by decide) (by decide) rfl (by decide) dX5_readSum_62 rfl (fun q_1 => ?_)
  refine g_if_ne B 70 dX5_readSum_65 (by decide) ?_ ?_
  · refine g_iconst (v := 1) B dX5_readSum_68 (by decide) ?_
    exact g_ireturn B hr rfl (by decide) (by decide) rfl dX5_readSum_69
  · refine g_iinc (v := (x1 + 1)) (lv' := [(1, .int (x1 + 1)), (0, .ref a0)]) B dX5_readSum_70 1 rfl rfl (by decide) [0, 1] rfl ?_
    refine g_goto B 2 dX5_readSum_73 (by decide) ?_
    refine g_sub (lv' := [(0, .ref a0), (1, .int (x1 + 1))]) [1, 0] rfl ?_
    exact hrec2 a0 (x1 + 1) q_1.2
set_option maxRecDepth 20000 in
set_option maxHeartbeats 2000000 in
theorem g5_readSum_L2 {X : gX} {p : Program} {l : Launch} {e : Env} {s : State} {m : MethodId} {args : Array Value} {below : List Frame} {meth : Method} {c : Code} (B : gB X p (rm5_readSum) s m args meth c RX5 cX5_readSum 3 (rm5_readSum)) (hS9 : gS X s) (hr : meth.sig.returnType = some .boolean) : ∀ (n : Nat) (a0 : Nat) (x1 : Int32) (M : mMem), GG X p l e (rm5_readSum) s m args below meth c (gP X below args s 0 0 (fun r9 : (Int32 × mMem) => (some (.int r9.1), r9.2))) 3 0 0 2 [(0, .ref a0), (1, .int x1)] [] M (p5_readSum_L2 n a0 x1 M) := by
  intro n
  induction n with
  | zero => intro a0 x1 M; exact g_none
  | succ n ih =>
    intro a0 x1 M
    rw [p5_readSum_L2]
    refine g_iload_n B dX5_readSum_2 1 rfl ?_
    refine g_sipush (v := 400) B dX5_readSum_3 (by decide) ?_
    refine g_icmp_ge B 76 dX5_readSum_6 (by decide) ?_ ?_
    · refine g_aload_n B dX5_readSum_9 0 rfl ?_
      refine g_callU_ip (x := ⟨"CribLine$LawReader", "next", "()I"⟩) (owner := "CribLine$Reader") [] (ci := 5) (T0 := TX5) (N := 9) B hS9 mf5_next wd_850 (gw B wd_927) wd_925 wd_926 (va_Decl.of (gw B wd_850) (gw B wd_854)) (by decide +kernel) (by decide) rfl (fun h => (gd_ne h).1) (c5_next X l a0 M) (by decide) (by decide) (by decide) rfl (by decide) dX5_readSum_10 rfl (fun v_1 => ?_)
      refine g_istore_n (lv' := [(2, .int v_1), (0, .ref a0), (1, .int x1)]) B dX5_readSum_13 (by decide) [0, 1, 2] rfl ?_
      refine g_iload_n B dX5_readSum_14 0 rfl ?_
      refine g_callS_ip [.int v_1] B hS9 mf5_isPart wd_959 wd_958 (c5_isPart X l v_1 M) (by decide) (by decide) (by decide) rfl (by decide) dX5_readSum_15 rfl (fun v_2 => ?_)
      refine g_if_ne B 23 dX5_readSum_18 (by decide) ?_ ?_
      · refine g_iconst (v := 0) B dX5_readSum_21 (by decide) ?_
        exact g_ireturn B hr rfl (by decide) (by decide) rfl dX5_readSum_22
      · refine g_aload_n B dX5_readSum_23 1 rfl ?_
        refine g_getR (ci := 5) (T0 := TX5) (N := 9) B (by decide) rfl in_5 (k := 8) (by decide) rfl wd_281 (fun _ h => h) dX5_readSum_24 (fun v_3 => ?_)
        refine g_iload_n B dX5_readSum_27 0 rfl ?_
        refine g_aload_n B dX5_readSum_28 1 rfl ?_
        refine g_callU_ip (x := ⟨"CribLine$LawReader", "numberOfNext", "()I"⟩) (owner := "CribLine$Reader") [] (ci := 5) (T0 := TX5) (N := 9) B hS9 mf5_numberOfNext wd_882 (gw B wd_964) wd_961 wd_962 (va_Decl.of (gw B wd_882) (gw B wd_886)) (by decide +kernel) (by decide) rfl (fun h => (gd_ne h).1) (c5_numberOfNext X l a0 M) (by decide) (by decide) (by decide) rfl (Nat.le_of_ble_eq_true rfl) dX5_readSum_29 rfl (fun v_4 => ?_)
        refine g_callV_vw [.int v_1, .int v_4] (ci := 4) (T0 := TX4) (N := 10) B hS9 mf4_put wd_947 (gw B wd_948) wd_946 (by decide) rfl (fun h => (gd_ne h).1) (c4_put X l v_3 v_1 v_4 M) (by decide) (by decide) (by decide) rfl (by decide) dX5_readSum_32 rfl (fun q_5 => ?_)
        refine g_aload_n B dX5_readSum_35 1 rfl ?_
        refine g_dup B dX5_readSum_36 rfl ?_
        refine g_getI (ci := 5) (T0 := TX5) (N := 9) B (by decide) rfl in_5 (k := 6) (by decide) rfl wd_247 (fun x h => u_same (B.2.2.2.2.1 _ wd_248) x h) dX5_readSum_37 (fun v_6 => ?_)
        refine g_iconst (v := 1) B dX5_readSum_40 (by decide) ?_
        refine g_iadd B dX5_readSum_41 ?_
        refine g_putI (ci := 5) (T0 := TX5) (N := 9) B (by decide) rfl in_5 tyX5 tyX5_ok nmX5 (k := 6) (by decide) wd_247 (fun x h => u_same (B.2.2.2.2.1 _ wd_248) x h) rfl rfl (ty := .int) (by decide +kernel) rfl rfl dX5_readSum_42 (fun M_7 => ?_)
        refine g_iload_n B dX5_readSum_45 2 rfl ?_
        refine g_if_le B 59 dX5_readSum_46 (by decide) ?_ ?_
        · refine g_aload_n B dX5_readSum_49 1 rfl ?_
          refine g_getR (ci := 5) (T0 := TX5) (N := 9) B (by decide) rfl in_5 (k := 8) (by decide) rfl wd_281 (fun _ h => h) dX5_readSum_50 (fun v_8 => ?_)
          refine g_bipush (v := 43) B dX5_readSum_53 (by decide) ?_
          refine g_iconst (v := 0) B dX5_readSum_55 (by decide) ?_
          refine g_callV_vw [.int 43, .int 0] (ci := 4) (T0 := TX4) (N := 10) B hS9 mf4_put wd_947 (gw B wd_948) wd_946 (by decide) rfl (fun h => (gd_ne h).1) (c4_put X l v_8 43 0 M_7) (by decide) (by decide) (by decide) rfl (by decide) dX5_readSum_56 rfl (fun q_9 => ?_)
          refine g_sub (lv' := [(0, .ref a0), (1, .int x1)]) [1, 2] rfl ?_
          exact g5_readSum_J59 B hS9 hr (p5_readSum_L2 n) ih a0 x1 q_9
        · refine g_sub (lv' := [(0, .ref a0), (1, .int x1)]) [1, 2] rfl ?_
          exact g5_readSum_J59 B hS9 hr (p5_readSum_L2 n) ih a0 x1 M_7
    · refine g_iconst (v := 0) B dX5_readSum_76 (by decide) ?_
      exact g_ireturn B hr rfl (by decide) (by decide) rfl dX5_readSum_77
set_option maxRecDepth 20000 in
set_option maxHeartbeats 2000000 in
theorem g5_readSum {X : gX} {p : Program} {l : Launch} {e : Env} {s : State} {m : MethodId} {args : Array Value} {below : List Frame} {meth : Method} {c : Code} (B : gB X p (rm5_readSum) s m args meth c RX5 cX5_readSum 3 (rm5_readSum)) (hS9 : gS X s) (hr : meth.sig.returnType = some .boolean) (a0 : Nat) (M : mMem) : GG X p l e (rm5_readSum) s m args below meth c (gP X below args s 0 0 (fun r9 : (Int32 × mMem) => (some (.int r9.1), r9.2))) 3 0 0 0 [(0, .ref a0)] [] M (p5_readSum a0 M) := by
  unfold p5_readSum
  refine g_gd ?_
  refine g_iconst (v := 0) B dX5_readSum_0 (by decide) ?_
  refine g_istore_n (lv' := [(1, .int 0), (0, .ref a0)]) B dX5_readSum_1 (by decide) [0, 1] rfl ?_
  refine g_sub (lv' := [(0, .ref a0), (1, .int 0)]) [1, 0] rfl ?_
  exact (g5_readSum_L2 B hS9 hr) gF a0 0 M
theorem c5_readSum (X : gX) (l : Launch) (a0 : Nat) (M : mMem) : Con X l yX5_readSum cX5_readSum 3 (some .boolean) rm5_readSum (fun r9 : (Int32 × mMem) => (some (.int r9.1), r9.2)) [.ref a0] M (p5_readSum a0 M) := g_con (own := RX5) (by decide +kernel) rfl (Nat.le_of_ble_eq_true rfl) (fun p e s m args below meth c B hS9 hr hn => g5_readSum B hS9 hr a0 M)
theorem mf5_readComparison : gMF yX5_readComparison cX5_readComparison 2 (some .boolean) 0 := ⟨wd_953, wd_8, ⟨by decide, by decide⟩, by decide +kernel⟩
set_option maxRecDepth 20000 in
set_option maxHeartbeats 2000000 in
theorem g5_readComparison_J28 {X : gX} {p : Program} {l : Launch} {e : Env} {s : State} {m : MethodId} {args : Array Value} {below : List Frame} {meth : Method} {c : Code} (B : gB X p (rm5_readComparison) s m args meth c RX5 cX5_readComparison 2 (rm5_readComparison)) (hS9 : gS X s) (hr : meth.sig.returnType = some .boolean) (a0 : Nat) (x1 : Int32) (M : mMem) : GG X p l e (rm5_readComparison) s m args below meth c (gP X below args s 0 0 (fun r9 : (Int32 × mMem) => (some (.int r9.1), r9.2))) 2 0 0 28 [(0, .ref a0), (1, .int x1)] [] M (p5_readComparison_J28 a0 x1 M) := by
  unfold p5_readComparison_J28
  refine g_aload_n B dX5_readComparison_28 0 rfl ?_
  refine g_dup B dX5_readComparison_29 rfl ?_
  refine g_getI (ci := 5) (T0 := TX5) (N := 9) B (by decide) rfl in_5 (k := 6) (by decide) rfl wd_247 (fun x h => u_same (B.2.2.2.2.1 _ wd_248) x h) dX5_readComparison_30 (fun v_1 => ?_)
  refine g_iconst (v := 1) B dX5_readComparison_33 (by decide) ?_
  refine g_iadd B dX5_readComparison_34 ?_
  refine g_putI (ci := 5) (T0 := TX5) (N := 9) B (by decide) rfl in_5 tyX5 tyX5_ok nmX5 (k := 6) (by decide) wd_247 (fun x h => u_same (B.2.2.2.2.1 _ wd_248) x h) rfl rfl (ty := .int) (by decide +kernel) rfl rfl dX5_readComparison_35 (fun M_2 => ?_)
  refine g_aload_n B dX5_readComparison_38 0 rfl ?_
  refine g_callV_iw [] (ci := 5) (T0 := TX5) (N := 9) B hS9 mf5_readSum wd_956 (gw B wp_21) wd_954 (by decide) rfl (fun h => (gd_ne h).1) (c5_readSum X l a0 M_2) (by decide) (by decide) (by decide) rfl (by decide) dX5_readComparison_39 rfl (fun q_3 => ?_)
  refine g_if_ne B 47 dX5_readComparison_42 (by decide) ?_ ?_
  · refine g_iconst (v := 0) B dX5_readComparison_45 (by decide) ?_
    exact g_ireturn B hr rfl (by decide) (by decide) rfl dX5_readComparison_46
  · refine g_aload_n B dX5_readComparison_47 0 rfl ?_
    refine g_getR (ci := 5) (T0 := TX5) (N := 9) B (by decide) rfl in_5 (k := 8) (by decide) rfl wd_281 (fun _ h => h) dX5_readComparison_48 (fun v_4 => ?_)
    refine g_iload_n B dX5_readComparison_51 1 rfl ?_
    refine g_iconst (v := 0) B dX5_readComparison_52 (by decide) ?_
    refine g_callV_vw [.int x1, .int 0] (ci := 4) (T0 := TX4) (N := 10) B hS9 mf4_put wd_947 (gw B wd_948) wd_946 (by decide) rfl (fun h => (gd_ne h).1) (c4_put X l v_4 x1 0 q_3.2) (by decide) (by decide) (by decide) rfl (by decide) dX5_readComparison_53 rfl (fun q_5 => ?_)
    refine g_iconst (v := 1) B dX5_readComparison_56 (by decide) ?_
    exact g_ireturn B hr rfl (by decide) (by decide) rfl dX5_readComparison_57
set_option maxRecDepth 20000 in
set_option maxHeartbeats 2000000 in
theorem g5_readComparison {X : gX} {p : Program} {l : Launch} {e : Env} {s : State} {m : MethodId} {args : Array Value} {below : List Frame} {meth : Method} {c : Code} (B : gB X p (rm5_readComparison) s m args meth c RX5 cX5_readComparison 2 (rm5_readComparison)) (hS9 : gS X s) (hr : meth.sig.returnType = some .boolean) (a0 : Nat) (M : mMem) : GG X p l e (rm5_readComparison) s m args below meth c (gP X below args s 0 0 (fun r9 : (Int32 × mMem) => (some (.int r9.1), r9.2))) 2 0 0 0 [(0, .ref a0)] [] M (p5_readComparison a0 M) := by
  unfold p5_readComparison
  refine g_gd ?_
  refine g_aload_n B dX5_readComparison_0 0 rfl ?_
  refine g_callV_iw [] (ci := 5) (T0 := TX5) (N := 9) B hS9 mf5_readSum wd_956 (gw B wp_21) wd_954 (by decide) rfl (fun h => (gd_ne h).1) (c5_readSum X l a0 M) (by decide) (by decide) (by decide) rfl (by decide) dX5_readComparison_1 rfl (fun q_1 => ?_)
  refine g_if_ne B 9 dX5_readComparison_4 (by decide) ?_ ?_
  · refine g_iconst (v := 0) B dX5_readComparison_7 (by decide) ?_
    exact g_ireturn B hr rfl (by decide) (by decide) rfl dX5_readComparison_8
  · refine g_aload_n B dX5_readComparison_9 0 rfl ?_
    refine g_callU_ip (x := ⟨"CribLine$LawReader", "next", "()I"⟩) (owner := "CribLine$Reader") [] (ci := 5) (T0 := TX5) (N := 9) B hS9 mf5_next wd_850 (gw B wd_927) wd_925 wd_926 (va_Decl.of (gw B wd_850) (gw B wd_854)) (by decide +kernel) (by decide) rfl (fun h => (gd_ne h).1) (c5_next X l a0 q_1.2) (by decide) (by decide) (by decide) rfl (by decide) dX5_readComparison_10 rfl (fun v_2 => ?_)
    refine g_istore_n (lv' := [(1, .int v_2), (0, .ref a0)]) B dX5_readComparison_13 (by decide) [0, 1] rfl ?_
    refine g_iload_n B dX5_readComparison_14 0 rfl ?_
    refine g_bipush (v := 60) B dX5_readComparison_15 (by decide) ?_
    refine g_icmp_eq B 28 dX5_readComparison_17 (by decide) ?_ ?_
    · refine g_sub (lv' := [(0, .ref a0), (1, .int v_2)]) [1, 0] rfl ?_
      exact g5_readComparison_J28 B hS9 hr a0 v_2 q_1.2
    · refine g_iload_n B dX5_readComparison_20 0 rfl ?_
      refine g_bipush (v := 62) B dX5_readComparison_21 (by decide) ?_
      refine g_icmp_eq B 28 dX5_readComparison_23 (by decide) ?_ ?_
      · refine g_sub (lv' := [(0, .ref a0), (1, .int v_2)]) [1, 0] rfl ?_
        exact g5_readComparison_J28 B hS9 hr a0 v_2 q_1.2
      · refine g_iconst (v := 0) B dX5_readComparison_26 (by decide) ?_
        exact g_ireturn B hr rfl (by decide) (by decide) rfl dX5_readComparison_27
theorem c5_readComparison (X : gX) (l : Launch) (a0 : Nat) (M : mMem) : Con X l yX5_readComparison cX5_readComparison 2 (some .boolean) rm5_readComparison (fun r9 : (Int32 × mMem) => (some (.int r9.1), r9.2)) [.ref a0] M (p5_readComparison a0 M) := g_con (own := RX5) (by decide +kernel) rfl (Nat.le_of_ble_eq_true rfl) (fun p e s m args below meth c B hS9 hr hn => g5_readComparison B hS9 hr a0 M)
theorem mf5_readAtom : gMF yX5_readAtom cX5_readAtom 3 (some .boolean) 1 := ⟨wd_945, wd_8, ⟨by decide, by decide⟩, by decide +kernel⟩
theorem mf5_readAll : gMF yX5_readAll cX5_readAll 3 (some .boolean) 1 := ⟨wd_941, wd_8, ⟨by decide, by decide⟩, by decide +kernel⟩
theorem mf5_readAny : gMF yX5_readAny cX5_readAny 3 (some .boolean) 1 := ⟨wd_937, wd_8, ⟨by decide, by decide⟩, by decide +kernel⟩
set_option maxRecDepth 20000 in
set_option maxHeartbeats 2000000 in
theorem g5_readAtom_J65 {X : gX} {p : Program} {l : Launch} {e : Env} {s : State} {m : MethodId} {args : Array Value} {below : List Frame} {meth : Method} {c : Code} (d : Nat) (B : gB X p (rmG1 (d + 1)) s m args meth c RX5 cX5_readAtom 3 (rmG1 (d + 1))) (hS9 : gS X s) (hr : meth.sig.returnType = some .boolean) (u0 : Int32) (M : mMem) : GG X p l e (rmG1 (d + 1)) s m args below meth c (gP X below args s 0 0 (fun r9 : (Int32 × mMem) => (some (.int r9.1), r9.2))) 3 0 0 65 [] [.int u0] M (p5_readAtom_J65 u0 M) := by
  unfold p5_readAtom_J65
  exact g_zreturn (f := fun z => (z, M)) B hr (Nat.le_refl 0) (Nat.le_refl 0) rfl dX5_readAtom_65
set_option maxRecDepth 20000 in
set_option maxHeartbeats 2000000 in
theorem g5_readAtom_J64 {X : gX} {p : Program} {l : Launch} {e : Env} {s : State} {m : MethodId} {args : Array Value} {below : List Frame} {meth : Method} {c : Code} (d : Nat) (B : gB X p (rmG1 (d + 1)) s m args meth c RX5 cX5_readAtom 3 (rmG1 (d + 1))) (hS9 : gS X s) (hr : meth.sig.returnType = some .boolean) (M : mMem) : GG X p l e (rmG1 (d + 1)) s m args below meth c (gP X below args s 0 0 (fun r9 : (Int32 × mMem) => (some (.int r9.1), r9.2))) 3 0 0 64 [] [] M (p5_readAtom_J64 M) := by
  unfold p5_readAtom_J64
  refine g_iconst (v := 0) B dX5_readAtom_64 (by decide) ?_
  refine g_sub (lv' := []) [] rfl ?_
  exact g5_readAtom_J65 d B hS9 hr 0 M
set_option maxRecDepth 20000 in
set_option maxHeartbeats 2000000 in
theorem g5_readAtom_J17 {X : gX} {p : Program} {l : Launch} {e : Env} {s : State} {m : MethodId} {args : Array Value} {below : List Frame} {meth : Method} {c : Code} (d : Nat) (B : gB X p (rmG1 (d + 1)) s m args meth c RX5 cX5_readAtom 3 (rmG1 (d + 1))) (hS9 : gS X s) (hr : meth.sig.returnType = some .boolean) (f_5_readAny : Nat → Int32 → mMem → Option (Int32 × mMem)) (hf_5_readAny : ∀ (a0 : Nat) (x1 : Int32) (M : mMem), Con X l yX5_readAny cX5_readAny 3 (some .boolean) (rmG1 d) (fun r9 : (Int32 × mMem) => (some (.int r9.1), r9.2)) [.ref a0, .int x1] M (f_5_readAny a0 x1 M)) (hk_5_readAny : ∀ (a0 : Nat) (x1 : Int32) (M : mMem), f_5_readAny a0 x1 M ≠ none → mK M a0 = 6) (f_5_readAtom : Nat → Int32 → mMem → Option (Int32 × mMem)) (hf_5_readAtom : ∀ (a0 : Nat) (x1 : Int32) (M : mMem), Con X l yX5_readAtom cX5_readAtom 3 (some .boolean) (rmG1 d) (fun r9 : (Int32 × mMem) => (some (.int r9.1), r9.2)) [.ref a0, .int x1] M (f_5_readAtom a0 x1 M)) (hk_5_readAtom : ∀ (a0 : Nat) (x1 : Int32) (M : mMem), f_5_readAtom a0 x1 M ≠ none → mK M a0 = 6) (a0 : Nat) (x1 : Int32) (x2 : Int32) (M : mMem) : GG X p l e (rmG1 (d + 1)) s m args below meth c (gP X below args s 0 0 (fun r9 : (Int32 × mMem) => (some (.int r9.1), r9.2))) 3 0 0 17 [(0, .ref a0), (1, .int x1), (2, .int x2)] [] M (p5_readAtom_J17 f_5_readAny f_5_readAtom a0 x1 x2 M) := by
  unfold p5_readAtom_J17
  refine g_iload_n B dX5_readAtom_17 1 rfl ?_
  refine g_bipush (v := 6) B dX5_readAtom_18 (by decide) ?_
  refine g_icmp_lt B 25 dX5_readAtom_20 (by decide) ?_ ?_
  · refine g_aload_n B dX5_readAtom_25 0 rfl ?_
    refine g_dup B dX5_readAtom_26 rfl ?_
    refine g_getI (ci := 5) (T0 := TX5) (N := 9) B (by decide) rfl in_5 (k := 6) (by decide) rfl wd_247 (fun x h => u_same (B.2.2.2.2.1 _ wd_248) x h) dX5_readAtom_27 (fun v_1 => ?_)
    refine g_iconst (v := 1) B dX5_readAtom_30 (by decide) ?_
    refine g_iadd B dX5_readAtom_31 ?_
    refine g_putI (ci := 5) (T0 := TX5) (N := 9) B (by decide) rfl in_5 tyX5 tyX5_ok nmX5 (k := 6) (by decide) wd_247 (fun x h => u_same (B.2.2.2.2.1 _ wd_248) x h) rfl rfl (ty := .int) (by decide +kernel) rfl rfl dX5_readAtom_32 (fun M_2 => ?_)
    refine g_iload_n B dX5_readAtom_35 2 rfl ?_
    refine g_bipush (v := 40) B dX5_readAtom_36 (by decide) ?_
    refine g_icmp_ne B 66 dX5_readAtom_38 (by decide) ?_ ?_
    · refine g_aload_n B dX5_readAtom_41 0 rfl ?_
      refine g_iload_n B dX5_readAtom_42 1 rfl ?_
      refine g_iconst (v := 1) B dX5_readAtom_43 (by decide) ?_
      refine g_iadd B dX5_readAtom_44 ?_
      refine g_callV_iw [.int (x1 + 1)] (ci := 5) (T0 := TX5) (N := 9) B hS9 mf5_readAny wd_936 (gw B wp_17) wd_934 (by decide) rfl (hk_5_readAny a0 (x1 + 1) M_2) (hf_5_readAny a0 (x1 + 1) M_2) (by simp only [rmG1]; omega) (by simp only [rmG1]; omega) ⟨Nat.le_refl 0, Nat.le_refl 0⟩ rfl (by decide) dX5_readAtom_45 rfl (fun q_6 => ?_)
      refine g_if_eq B 64 dX5_readAtom_48 (by decide) ?_ ?_
      · refine g_sub (lv' := []) [] rfl ?_
        exact g5_readAtom_J64 d B hS9 hr q_6.2
      · refine g_aload_n B dX5_readAtom_51 0 rfl ?_
        refine g_bipush (v := 41) B dX5_readAtom_52 (by decide) ?_
        refine g_callU_iw (x := ⟨"CribLine$LawReader", "took", "(I)Z"⟩) (owner := "CribLine$Reader") [.int 41] (ci := 5) (T0 := TX5) (N := 9) B hS9 mf5_took wd_873 (gw B wd_933) wd_931 wd_932 (va_Decl.of (gw B wd_873) (gw B wd_874)) (by decide +kernel) (by decide) rfl (fun h => (gd_ne h).1) (c5_took X l a0 41 q_6.2) (by simp only [rmG1, rm5_took]; omega) (by simp only [rmG1, rm5_took]; omega) ⟨Nat.le_refl 0, Nat.le_refl 0⟩ rfl (by decide) dX5_readAtom_54 rfl (fun q_7 => ?_)
        refine g_if_eq B 64 dX5_readAtom_57 (by decide) ?_ ?_
        · refine g_sub (lv' := []) [] rfl ?_
          exact g5_readAtom_J64 d B hS9 hr q_7.2
        · refine g_iconst (v := 1) B dX5_readAtom_60 (by decide) ?_
          refine g_goto B 65 dX5_readAtom_61 (by decide) ?_
          refine g_sub (lv' := []) [] rfl ?_
          exact g5_readAtom_J65 d B hS9 hr 1 q_7.2
    · refine g_aload_n B dX5_readAtom_66 0 rfl ?_
      refine g_iload_n B dX5_readAtom_67 1 rfl ?_
      refine g_iconst (v := 1) B dX5_readAtom_68 (by decide) ?_
      refine g_iadd B dX5_readAtom_69 ?_
      refine g_callV_iw [.int (x1 + 1)] (ci := 5) (T0 := TX5) (N := 9) B hS9 mf5_readAtom wd_944 (gw B wp_19) wd_942 (by decide) rfl (hk_5_readAtom a0 (x1 + 1) M_2) (hf_5_readAtom a0 (x1 + 1) M_2) (by simp only [rmG1]; omega) (by simp only [rmG1]; omega) ⟨Nat.le_refl 0, Nat.le_refl 0⟩ rfl (by decide) dX5_readAtom_70 rfl (fun q_3 => ?_)
      refine g_if_ne B 78 dX5_readAtom_73 (by decide) ?_ ?_
      · refine g_iconst (v := 0) B dX5_readAtom_76 (by decide) ?_
        exact g_ireturn B hr rfl (Nat.le_refl 0) (Nat.le_refl 0) rfl dX5_readAtom_77
      · refine g_aload_n B dX5_readAtom_78 0 rfl ?_
        refine g_getR (ci := 5) (T0 := TX5) (N := 9) B (by decide) rfl in_5 (k := 8) (by decide) rfl wd_281 (fun _ h => h) dX5_readAtom_79 (fun v_4 => ?_)
        refine g_bipush (v := 23) B dX5_readAtom_82 (by decide) ?_
        refine g_iconst (v := 0) B dX5_readAtom_84 (by decide) ?_
        refine g_callV_vw [.int 23, .int 0] (ci := 4) (T0 := TX4) (N := 10) B hS9 mf4_put wd_947 (gw B wd_948) wd_946 (by decide) rfl (fun h => (gd_ne h).1) (c4_put X l v_4 23 0 q_3.2) (by simp only [rmG1, rm4_put]; omega) (by simp only [rmG1, rm4_put]; omega) ⟨Nat.le_refl 0, Nat.le_refl 0⟩ rfl (by decide) dX5_readAtom_85 rfl (fun q_5 => ?_)
        refine g_iconst (v := 1) B dX5_readAtom_88 (by decide) ?_
        exact g_ireturn B hr rfl (Nat.le_refl 0) (Nat.le_refl 0) rfl dX5_readAtom_89
  · refine g_iconst (v := 0) B dX5_readAtom_23 (by decide) ?_
    exact g_ireturn B hr rfl (Nat.le_refl 0) (Nat.le_refl 0) rfl dX5_readAtom_24
set_option maxRecDepth 20000 in
set_option maxHeartbeats 2000000 in
theorem g5_readAtom_J108 {X : gX} {p : Program} {l : Launch} {e : Env} {s : State} {m : MethodId} {args : Array Value} {below : List Frame} {meth : Method} {c : Code} (d : Nat) (B : gB X p (rmG1 (d + 1)) s m args meth c RX5 cX5_readAtom 3 (rmG1 (d + 1))) (hS9 : gS X s) (hr : meth.sig.returnType = some .boolean) (a0 : Nat) (x2 : Int32) (M : mMem) : GG X p l e (rmG1 (d + 1)) s m args below meth c (gP X below args s 0 0 (fun r9 : (Int32 × mMem) => (some (.int r9.1), r9.2))) 3 0 0 108 [(0, .ref a0), (2, .int x2)] [] M (p5_readAtom_J108 a0 x2 M) := by
  unfold p5_readAtom_J108
  refine g_aload_n B dX5_readAtom_108 0 rfl ?_
  refine g_dup B dX5_readAtom_109 rfl ?_
  refine g_getI (ci := 5) (T0 := TX5) (N := 9) B (by decide) rfl in_5 (k := 6) (by decide) rfl wd_247 (fun x h => u_same (B.2.2.2.2.1 _ wd_248) x h) dX5_readAtom_110 (fun v_1 => ?_)
  refine g_iconst (v := 1) B dX5_readAtom_113 (by decide) ?_
  refine g_iadd B dX5_readAtom_114 ?_
  refine g_putI (ci := 5) (T0 := TX5) (N := 9) B (by decide) rfl in_5 tyX5 tyX5_ok nmX5 (k := 6) (by decide) wd_247 (fun x h => u_same (B.2.2.2.2.1 _ wd_248) x h) rfl rfl (ty := .int) (by decide +kernel) rfl rfl dX5_readAtom_115 (fun M_2 => ?_)
  refine g_aload_n B dX5_readAtom_118 0 rfl ?_
  refine g_getR (ci := 5) (T0 := TX5) (N := 9) B (by decide) rfl in_5 (k := 8) (by decide) rfl wd_281 (fun _ h => h) dX5_readAtom_119 (fun v_3 => ?_)
  refine g_iload_n B dX5_readAtom_122 1 rfl ?_
  refine g_iconst (v := 0) B dX5_readAtom_123 (by decide) ?_
  refine g_callV_vw [.int x2, .int 0] (ci := 4) (T0 := TX4) (N := 10) B hS9 mf4_put wd_947 (gw B wd_948) wd_946 (by decide) rfl (fun h => (gd_ne h).1) (c4_put X l v_3 x2 0 M_2) (by simp only [rmG1, rm4_put]; omega) (by simp only [rmG1, rm4_put]; omega) ⟨Nat.le_refl 0, Nat.le_refl 0⟩ rfl (by decide) dX5_readAtom_124 rfl (fun q_4 => ?_)
  refine g_iconst (v := 1) B dX5_readAtom_127 (by decide) ?_
  exact g_ireturn B hr rfl (Nat.le_refl 0) (Nat.le_refl 0) rfl dX5_readAtom_128
set_option maxRecDepth 20000 in
set_option maxHeartbeats 2000000 in
theorem g5_readAtom_B {X : gX} {p : Program} {l : Launch} {e : Env} {s : State} {m : MethodId} {args : Array Value} {below : List Frame} {meth : Method} {c : Code} (d : Nat) (B : gB X p (rmG1 (d + 1)) s m args meth c RX5 cX5_readAtom 3 (rmG1 (d + 1))) (hS9 : gS X s) (hr : meth.sig.returnType = some .boolean) (f_5_readAny : Nat → Int32 → mMem → Option (Int32 × mMem)) (hf_5_readAny : ∀ (a0 : Nat) (x1 : Int32) (M : mMem), Con X l yX5_readAny cX5_readAny 3 (some .boolean) (rmG1 d) (fun r9 : (Int32 × mMem) => (some (.int r9.1), r9.2)) [.ref a0, .int x1] M (f_5_readAny a0 x1 M)) (hk_5_readAny : ∀ (a0 : Nat) (x1 : Int32) (M : mMem), f_5_readAny a0 x1 M ≠ none → mK M a0 = 6) (f_5_readAtom : Nat → Int32 → mMem → Option (Int32 × mMem)) (hf_5_readAtom : ∀ (a0 : Nat) (x1 : Int32) (M : mMem), Con X l yX5_readAtom cX5_readAtom 3 (some .boolean) (rmG1 d) (fun r9 : (Int32 × mMem) => (some (.int r9.1), r9.2)) [.ref a0, .int x1] M (f_5_readAtom a0 x1 M)) (hk_5_readAtom : ∀ (a0 : Nat) (x1 : Int32) (M : mMem), f_5_readAtom a0 x1 M ≠ none → mK M a0 = 6) (a0 : Nat) (x1 : Int32) (M : mMem) : GG X p l e (rmG1 (d + 1)) s m args below meth c (gP X below args s 0 0 (fun r9 : (Int32 × mMem) => (some (.int r9.1), r9.2))) 3 0 0 0 [(0, .ref a0), (1, .int x1)] [] M (p5_readAtom_B f_5_readAny f_5_readAtom a0 x1 M) := by
  unfold p5_readAtom_B
  refine g_gd ?_
  refine g_aload_n B dX5_readAtom_0 0 rfl ?_
  refine g_callU_ip (x := ⟨"CribLine$LawReader", "next", "()I"⟩) (owner := "CribLine$Reader") [] (ci := 5) (T0 := TX5) (N := 9) B hS9 mf5_next wd_850 (gw B wd_927) wd_925 wd_926 (va_Decl.of (gw B wd_850) (gw B wd_854)) (by decide +kernel) (by decide) rfl (fun h => (gd_ne h).1) (c5_next X l a0 M) (by simp only [rmG1, rm5_next]; omega) (by simp only [rmG1, rm5_next]; omega) ⟨Nat.le_refl 0, Nat.le_refl 0⟩ rfl (by decide) dX5_readAtom_1 rfl (fun v_1 => ?_)
  refine g_istore_n (lv' := [(2, .int v_1), (0, .ref a0), (1, .int x1)]) B dX5_readAtom_4 (by decide) [0, 1, 2] rfl ?_
  refine g_iload_n B dX5_readAtom_5 0 rfl ?_
  refine g_bipush (v := 40) B dX5_readAtom_6 (by decide) ?_
  refine g_icmp_eq B 17 dX5_readAtom_8 (by decide) ?_ ?_
  · refine g_sub (lv' := [(0, .ref a0), (1, .int x1), (2, .int v_1)]) [1, 2, 0] rfl ?_
    exact g5_readAtom_J17 d B hS9 hr f_5_readAny hf_5_readAny hk_5_readAny f_5_readAtom hf_5_readAtom hk_5_readAtom a0 x1 v_1 M
  · refine g_iload_n B dX5_readAtom_11 0 rfl ?_
    refine g_bipush (v := 23) B dX5_readAtom_12 (by decide) ?_
    refine g_icmp_ne B 90 dX5_readAtom_14 (by decide) ?_ ?_
    · refine g_sub (lv' := [(0, .ref a0), (1, .int x1), (2, .int v_1)]) [1, 2, 0] rfl ?_
      exact g5_readAtom_J17 d B hS9 hr f_5_readAny hf_5_readAny hk_5_readAny f_5_readAtom hf_5_readAtom hk_5_readAtom a0 x1 v_1 M
    · refine g_iload_n B dX5_readAtom_90 0 rfl ?_
      refine g_bipush (v := 12) B dX5_readAtom_91 (by decide) ?_
      refine g_icmp_eq B 108 dX5_readAtom_93 (by decide) ?_ ?_
      · refine g_sub (lv' := [(0, .ref a0), (2, .int v_1)]) [1, 0] rfl ?_
        exact g5_readAtom_J108 d B hS9 hr a0 v_1 M
      · refine g_iload_n B dX5_readAtom_96 0 rfl ?_
        refine g_bipush (v := 24) B dX5_readAtom_97 (by decide) ?_
        refine g_icmp_eq B 108 dX5_readAtom_99 (by decide) ?_ ?_
        · refine g_sub (lv' := [(0, .ref a0), (2, .int v_1)]) [1, 0] rfl ?_
          exact g5_readAtom_J108 d B hS9 hr a0 v_1 M
        · refine g_iload_n B dX5_readAtom_102 0 rfl ?_
          refine g_bipush (v := 25) B dX5_readAtom_103 (by decide) ?_
          refine g_icmp_ne B 129 dX5_readAtom_105 (by decide) ?_ ?_
          · refine g_sub (lv' := [(0, .ref a0), (2, .int v_1)]) [1, 0] rfl ?_
            exact g5_readAtom_J108 d B hS9 hr a0 v_1 M
          · refine g_aload_n B dX5_readAtom_129 1 rfl ?_
            refine g_callV_iw [] (ci := 5) (T0 := TX5) (N := 9) B hS9 mf5_readComparison wd_952 (gw B wp_20) wd_950 (by decide) rfl (fun h => (gd_ne h).1) (c5_readComparison X l a0 M) (by simp only [rmG1, rm5_readComparison]; omega) (by simp only [rmG1, rm5_readComparison]; omega) ⟨Nat.le_refl 0, Nat.le_refl 0⟩ rfl (by decide) dX5_readAtom_130 rfl (fun q_2 => ?_)
            exact g_zreturn (f := fun z => (z, q_2.2)) B hr (Nat.le_refl 0) (Nat.le_refl 0) rfl dX5_readAtom_133
set_option maxRecDepth 20000 in
set_option maxHeartbeats 2000000 in
theorem g5_readAll_J54 {X : gX} {p : Program} {l : Launch} {e : Env} {s : State} {m : MethodId} {args : Array Value} {below : List Frame} {meth : Method} {c : Code} (d : Nat) (B : gB X p (rmG1 (d + 1)) s m args meth c RX5 cX5_readAll 3 (rmG1 (d + 1))) (hS9 : gS X s) (hr : meth.sig.returnType = some .boolean) (M : mMem) : GG X p l e (rmG1 (d + 1)) s m args below meth c (gP X below args s 0 0 (fun r9 : (Int32 × mMem) => (some (.int r9.1), r9.2))) 3 0 0 54 [] [] M (p5_readAll_J54 M) := by
  unfold p5_readAll_J54
  refine g_iconst (v := 1) B dX5_readAll_54 (by decide) ?_
  exact g_ireturn B hr rfl (Nat.le_refl 0) (Nat.le_refl 0) rfl dX5_readAll_55
set_option maxRecDepth 20000 in
set_option maxHeartbeats 2000000 in
theorem g5_readAll_L12 {X : gX} {p : Program} {l : Launch} {e : Env} {s : State} {m : MethodId} {args : Array Value} {below : List Frame} {meth : Method} {c : Code} (d : Nat) (B : gB X p (rmG1 (d + 1)) s m args meth c RX5 cX5_readAll 3 (rmG1 (d + 1))) (hS9 : gS X s) (hr : meth.sig.returnType = some .boolean) (f_5_readAtom : Nat → Int32 → mMem → Option (Int32 × mMem)) (hf_5_readAtom : ∀ (a0 : Nat) (x1 : Int32) (M : mMem), Con X l yX5_readAtom cX5_readAtom 3 (some .boolean) (rmG1 d) (fun r9 : (Int32 × mMem) => (some (.int r9.1), r9.2)) [.ref a0, .int x1] M (f_5_readAtom a0 x1 M)) (hk_5_readAtom : ∀ (a0 : Nat) (x1 : Int32) (M : mMem), f_5_readAtom a0 x1 M ≠ none → mK M a0 = 6) : ∀ (n : Nat) (a0 : Nat) (x1 : Int32) (x2 : Int32) (M : mMem), GG X p l e (rmG1 (d + 1)) s m args below meth c (gP X below args s 0 0 (fun r9 : (Int32 × mMem) => (some (.int r9.1), r9.2))) 3 0 0 12 [(0, .ref a0), (1, .int x1), (2, .int x2)] [] M (p5_readAll_L12 f_5_readAtom n a0 x1 x2 M) := by
  intro n
  induction n with
  | zero => intro a0 x1 x2 M; exact g_none
  | succ n ih =>
    intro a0 x1 x2 M
    rw [p5_readAll_L12]
    refine g_iload_n B dX5_readAll_12 2 rfl ?_
    refine g_sipush (v := 400) B dX5_readAll_13 (by decide) ?_
    refine g_icmp_ge B 54 dX5_readAll_16 (by decide) ?_ ?_
    · refine g_aload_n B dX5_readAll_19 0 rfl ?_
      refine g_bipush (v := 22) B dX5_readAll_20 (by decide) ?_
      refine g_callU_iw (x := ⟨"CribLine$LawReader", "took", "(I)Z"⟩) (owner := "CribLine$Reader") [.int 22] (ci := 5) (T0 := TX5) (N := 9) B hS9 mf5_took wd_873 (gw B wd_933) wd_931 wd_932 (va_Decl.of (gw B wd_873) (gw B wd_874)) (by decide +kernel) (by decide) rfl (fun h => (gd_ne h).1) (c5_took X l a0 22 M) (by simp only [rmG1, rm5_took]; omega) (by simp only [rmG1, rm5_took]; omega) ⟨Nat.le_refl 0, Nat.le_refl 0⟩ rfl (by decide) dX5_readAll_22 rfl (fun q_1 => ?_)
      refine g_if_eq B 54 dX5_readAll_25 (by decide) ?_ ?_
      · refine g_sub (lv' := []) [] rfl ?_
        exact g5_readAll_J54 d B hS9 hr q_1.2
      · refine g_aload_n B dX5_readAll_28 0 rfl ?_
        refine g_iload_n B dX5_readAll_29 1 rfl ?_
        refine g_callV_iw [.int x1] (ci := 5) (T0 := TX5) (N := 9) B hS9 mf5_readAtom wd_944 (gw B wp_19) wd_942 (by decide) rfl (hk_5_readAtom a0 x1 q_1.2) (hf_5_readAtom a0 x1 q_1.2) (by simp only [rmG1]; omega) (by simp only [rmG1]; omega) ⟨Nat.le_refl 0, Nat.le_refl 0⟩ rfl (by decide) dX5_readAll_30 rfl (fun q_2 => ?_)
        refine g_if_ne B 38 dX5_readAll_33 (by decide) ?_ ?_
        · refine g_iconst (v := 0) B dX5_readAll_36 (by decide) ?_
          exact g_ireturn B hr rfl (Nat.le_refl 0) (Nat.le_refl 0) rfl dX5_readAll_37
        · refine g_aload_n B dX5_readAll_38 0 rfl ?_
          refine g_getR (ci := 5) (T0 := TX5) (N := 9) B (by decide) rfl in_5 (k := 8) (by decide) rfl wd_281 (fun _ h => h) dX5_readAll_39 (fun v_3 => ?_)
          refine g_bipush (v := 22) B dX5_readAll_42 (by decide) ?_
          refine g_iconst (v := 0) B dX5_readAll_44 (by decide) ?_
          refine g_callV_vw [.int 22, .int 0] (ci := 4) (T0 := TX4) (N := 10) B hS9 mf4_put wd_947 (gw B wd_948) wd_946 (by decide) rfl (fun h => (gd_ne h).1) (c4_put X l v_3 22 0 q_2.2) (by simp only [rmG1, rm4_put]; omega) (by simp only [rmG1, rm4_put]; omega) ⟨Nat.le_refl 0, Nat.le_refl 0⟩ rfl (by decide) dX5_readAll_45 rfl (fun q_4 => ?_)
          refine g_iinc (v := (x2 + 1)) (lv' := [(2, .int (x2 + 1)), (0, .ref a0), (1, .int x1)]) B dX5_readAll_48 2 rfl rfl (by decide) [0, 1, 2] rfl ?_
          refine g_goto B 12 dX5_readAll_51 (by decide) ?_
          refine g_sub (lv' := [(0, .ref a0), (1, .int x1), (2, .int (x2 + 1))]) [1, 2, 0] rfl ?_
          exact ih a0 x1 (x2 + 1) q_4
    · refine g_sub (lv' := []) [] rfl ?_
      exact g5_readAll_J54 d B hS9 hr M
set_option maxRecDepth 20000 in
set_option maxHeartbeats 2000000 in
theorem g5_readAll_B {X : gX} {p : Program} {l : Launch} {e : Env} {s : State} {m : MethodId} {args : Array Value} {below : List Frame} {meth : Method} {c : Code} (d : Nat) (B : gB X p (rmG1 (d + 1)) s m args meth c RX5 cX5_readAll 3 (rmG1 (d + 1))) (hS9 : gS X s) (hr : meth.sig.returnType = some .boolean) (f_5_readAtom : Nat → Int32 → mMem → Option (Int32 × mMem)) (hf_5_readAtom : ∀ (a0 : Nat) (x1 : Int32) (M : mMem), Con X l yX5_readAtom cX5_readAtom 3 (some .boolean) (rmG1 d) (fun r9 : (Int32 × mMem) => (some (.int r9.1), r9.2)) [.ref a0, .int x1] M (f_5_readAtom a0 x1 M)) (hk_5_readAtom : ∀ (a0 : Nat) (x1 : Int32) (M : mMem), f_5_readAtom a0 x1 M ≠ none → mK M a0 = 6) (a0 : Nat) (x1 : Int32) (M : mMem) : GG X p l e (rmG1 (d + 1)) s m args below meth c (gP X below args s 0 0 (fun r9 : (Int32 × mMem) => (some (.int r9.1), r9.2))) 3 0 0 0 [(0, .ref a0), (1, .int x1)] [] M (p5_readAll_B f_5_readAtom a0 x1 M) := by
  unfold p5_readAll_B
  refine g_gd ?_
  refine g_aload_n B dX5_readAll_0 0 rfl ?_
  refine g_iload_n B dX5_readAll_1 1 rfl ?_
  refine g_callV_iw [.int x1] (ci := 5) (T0 := TX5) (N := 9) B hS9 mf5_readAtom wd_944 (gw B wp_19) wd_942 (by decide) rfl (hk_5_readAtom a0 x1 M) (hf_5_readAtom a0 x1 M) (by simp only [rmG1]; omega) (by simp only [rmG1]; omega) ⟨Nat.le_refl 0, Nat.le_refl 0⟩ rfl (by decide) dX5_readAll_2 rfl (fun q_1 => ?_)
  refine g_if_ne B 10 dX5_readAll_5 (by decide) ?_ ?_
  · refine g_iconst (v := 0) B dX5_readAll_8 (by decide) ?_
    exact g_ireturn B hr rfl (Nat.le_refl 0) (Nat.le_refl 0) rfl dX5_readAll_9
  · refine g_iconst (v := 0) B dX5_readAll_10 (by decide) ?_
    refine g_istore_n (lv' := [(2, .int 0), (0, .ref a0), (1, .int x1)]) B dX5_readAll_11 (by decide) [0, 1, 2] rfl ?_
    refine g_sub (lv' := [(0, .ref a0), (1, .int x1), (2, .int 0)]) [1, 2, 0] rfl ?_
    exact (g5_readAll_L12 d B hS9 hr f_5_readAtom hf_5_readAtom hk_5_readAtom) gF a0 x1 0 q_1.2
set_option maxRecDepth 20000 in
set_option maxHeartbeats 2000000 in
theorem g5_readAny_J54 {X : gX} {p : Program} {l : Launch} {e : Env} {s : State} {m : MethodId} {args : Array Value} {below : List Frame} {meth : Method} {c : Code} (d : Nat) (B : gB X p (rmG1 (d + 1)) s m args meth c RX5 cX5_readAny 3 (rmG1 (d + 1))) (hS9 : gS X s) (hr : meth.sig.returnType = some .boolean) (M : mMem) : GG X p l e (rmG1 (d + 1)) s m args below meth c (gP X below args s 0 0 (fun r9 : (Int32 × mMem) => (some (.int r9.1), r9.2))) 3 0 0 54 [] [] M (p5_readAny_J54 M) := by
  unfold p5_readAny_J54
  refine g_iconst (v := 1) B dX5_readAny_54 (by decide) ?_
  exact g_ireturn B hr rfl (Nat.le_refl 0) (Nat.le_refl 0) rfl dX5_readAny_55
set_option maxRecDepth 20000 in
set_option maxHeartbeats 2000000 in
theorem g5_readAny_L12 {X : gX} {p : Program} {l : Launch} {e : Env} {s : State} {m : MethodId} {args : Array Value} {below : List Frame} {meth : Method} {c : Code} (d : Nat) (B : gB X p (rmG1 (d + 1)) s m args meth c RX5 cX5_readAny 3 (rmG1 (d + 1))) (hS9 : gS X s) (hr : meth.sig.returnType = some .boolean) (f_5_readAll : Nat → Int32 → mMem → Option (Int32 × mMem)) (hf_5_readAll : ∀ (a0 : Nat) (x1 : Int32) (M : mMem), Con X l yX5_readAll cX5_readAll 3 (some .boolean) (rmG1 d) (fun r9 : (Int32 × mMem) => (some (.int r9.1), r9.2)) [.ref a0, .int x1] M (f_5_readAll a0 x1 M)) (hk_5_readAll : ∀ (a0 : Nat) (x1 : Int32) (M : mMem), f_5_readAll a0 x1 M ≠ none → mK M a0 = 6) : ∀ (n : Nat) (a0 : Nat) (x1 : Int32) (x2 : Int32) (M : mMem), GG X p l e (rmG1 (d + 1)) s m args below meth c (gP X below args s 0 0 (fun r9 : (Int32 × mMem) => (some (.int r9.1), r9.2))) 3 0 0 12 [(0, .ref a0), (1, .int x1), (2, .int x2)] [] M (p5_readAny_L12 f_5_readAll n a0 x1 x2 M) := by
  intro n
  induction n with
  | zero => intro a0 x1 x2 M; exact g_none
  | succ n ih =>
    intro a0 x1 x2 M
    rw [p5_readAny_L12]
    refine g_iload_n B dX5_readAny_12 2 rfl ?_
    refine g_sipush (v := 400) B dX5_readAny_13 (by decide) ?_
    refine g_icmp_ge B 54 dX5_readAny_16 (by decide) ?_ ?_
    · refine g_aload_n B dX5_readAny_19 0 rfl ?_
      refine g_bipush (v := 21) B dX5_readAny_20 (by decide) ?_
      refine g_callU_iw (x := ⟨"CribLine$LawReader", "took", "(I)Z"⟩) (owner := "CribLine$Reader") [.int 21] (ci := 5) (T0 := TX5) (N := 9) B hS9 mf5_took wd_873 (gw B wd_933) wd_931 wd_932 (va_Decl.of (gw B wd_873) (gw B wd_874)) (by decide +kernel) (by decide) rfl (fun h => (gd_ne h).1) (c5_took X l a0 21 M) (by simp only [rmG1, rm5_took]; omega) (by simp only [rmG1, rm5_took]; omega) ⟨Nat.le_refl 0, Nat.le_refl 0⟩ rfl (by decide) dX5_readAny_22 rfl (fun q_1 => ?_)
      refine g_if_eq B 54 dX5_readAny_25 (by decide) ?_ ?_
      · refine g_sub (lv' := []) [] rfl ?_
        exact g5_readAny_J54 d B hS9 hr q_1.2
      · refine g_aload_n B dX5_readAny_28 0 rfl ?_
        refine g_iload_n B dX5_readAny_29 1 rfl ?_
        refine g_callV_iw [.int x1] (ci := 5) (T0 := TX5) (N := 9) B hS9 mf5_readAll wd_940 (gw B wp_18) wd_938 (by decide) rfl (hk_5_readAll a0 x1 q_1.2) (hf_5_readAll a0 x1 q_1.2) (by simp only [rmG1]; omega) (by simp only [rmG1]; omega) ⟨Nat.le_refl 0, Nat.le_refl 0⟩ rfl (by decide) dX5_readAny_30 rfl (fun q_2 => ?_)
        refine g_if_ne B 38 dX5_readAny_33 (by decide) ?_ ?_
        · refine g_iconst (v := 0) B dX5_readAny_36 (by decide) ?_
          exact g_ireturn B hr rfl (Nat.le_refl 0) (Nat.le_refl 0) rfl dX5_readAny_37
        · refine g_aload_n B dX5_readAny_38 0 rfl ?_
          refine g_getR (ci := 5) (T0 := TX5) (N := 9) B (by decide) rfl in_5 (k := 8) (by decide) rfl wd_281 (fun _ h => h) dX5_readAny_39 (fun v_3 => ?_)
          refine g_bipush (v := 21) B dX5_readAny_42 (by decide) ?_
          refine g_iconst (v := 0) B dX5_readAny_44 (by decide) ?_
          refine g_callV_vw [.int 21, .int 0] (ci := 4) (T0 := TX4) (N := 10) B hS9 mf4_put wd_947 (gw B wd_948) wd_946 (by decide) rfl (fun h => (gd_ne h).1) (c4_put X l v_3 21 0 q_2.2) (by simp only [rmG1, rm4_put]; omega) (by simp only [rmG1, rm4_put]; omega) ⟨Nat.le_refl 0, Nat.le_refl 0⟩ rfl (by decide) dX5_readAny_45 rfl (fun q_4 => ?_)
          refine g_iinc (v := (x2 + 1)) (lv' := [(2, .int (x2 + 1)), (0, .ref a0), (1, .int x1)]) B dX5_readAny_48 2 rfl rfl (by decide) [0, 1, 2] rfl ?_
          refine g_goto B 12 dX5_readAny_51 (by decide) ?_
          refine g_sub (lv' := [(0, .ref a0), (1, .int x1), (2, .int (x2 + 1))]) [1, 2, 0] rfl ?_
          exact ih a0 x1 (x2 + 1) q_4
    · refine g_sub (lv' := []) [] rfl ?_
      exact g5_readAny_J54 d B hS9 hr M
set_option maxRecDepth 20000 in
set_option maxHeartbeats 2000000 in
theorem g5_readAny_B {X : gX} {p : Program} {l : Launch} {e : Env} {s : State} {m : MethodId} {args : Array Value} {below : List Frame} {meth : Method} {c : Code} (d : Nat) (B : gB X p (rmG1 (d + 1)) s m args meth c RX5 cX5_readAny 3 (rmG1 (d + 1))) (hS9 : gS X s) (hr : meth.sig.returnType = some .boolean) (f_5_readAll : Nat → Int32 → mMem → Option (Int32 × mMem)) (hf_5_readAll : ∀ (a0 : Nat) (x1 : Int32) (M : mMem), Con X l yX5_readAll cX5_readAll 3 (some .boolean) (rmG1 d) (fun r9 : (Int32 × mMem) => (some (.int r9.1), r9.2)) [.ref a0, .int x1] M (f_5_readAll a0 x1 M)) (hk_5_readAll : ∀ (a0 : Nat) (x1 : Int32) (M : mMem), f_5_readAll a0 x1 M ≠ none → mK M a0 = 6) (a0 : Nat) (x1 : Int32) (M : mMem) : GG X p l e (rmG1 (d + 1)) s m args below meth c (gP X below args s 0 0 (fun r9 : (Int32 × mMem) => (some (.int r9.1), r9.2))) 3 0 0 0 [(0, .ref a0), (1, .int x1)] [] M (p5_readAny_B f_5_readAll a0 x1 M) := by
  unfold p5_readAny_B
  refine g_gd ?_
  refine g_aload_n B dX5_readAny_0 0 rfl ?_
  refine g_iload_n B dX5_readAny_1 1 rfl ?_
  refine g_callV_iw [.int x1] (ci := 5) (T0 := TX5) (N := 9) B hS9 mf5_readAll wd_940 (gw B wp_18) wd_938 (by decide) rfl (hk_5_readAll a0 x1 M) (hf_5_readAll a0 x1 M) (by simp only [rmG1]; omega) (by simp only [rmG1]; omega) ⟨Nat.le_refl 0, Nat.le_refl 0⟩ rfl (by decide) dX5_readAny_2 rfl (fun q_1 => ?_)
  refine g_if_ne B 10 dX5_readAny_5 (by decide) ?_ ?_
  · refine g_iconst (v := 0) B dX5_readAny_8 (by decide) ?_
    exact g_ireturn B hr rfl (Nat.le_refl 0) (Nat.le_refl 0) rfl dX5_readAny_9
  · refine g_iconst (v := 0) B dX5_readAny_10 (by decide) ?_
    refine g_istore_n (lv' := [(2, .int 0), (0, .ref a0), (1, .int x1)]) B dX5_readAny_11 (by decide) [0, 1, 2] rfl ?_
    refine g_sub (lv' := [(0, .ref a0), (1, .int x1), (2, .int 0)]) [1, 2, 0] rfl ?_
    exact (g5_readAny_L12 d B hS9 hr f_5_readAll hf_5_readAll hk_5_readAll) gF a0 x1 0 q_1.2
theorem hk1_5_readAtom : ∀ (d : Nat) (a0 : Nat) (x1 : Int32) (M : mMem), (grp1 d).1 a0 x1 M ≠ none → mK M a0 = 6
  | 0, _, _, _ => fun h => absurd rfl h
  | d + 1, _, _, _ => fun h => (gd_ne h).1
theorem hk1_5_readAll : ∀ (d : Nat) (a0 : Nat) (x1 : Int32) (M : mMem), (grp1 d).2.1 a0 x1 M ≠ none → mK M a0 = 6
  | 0, _, _, _ => fun h => absurd rfl h
  | d + 1, _, _, _ => fun h => (gd_ne h).1
theorem hk1_5_readAny : ∀ (d : Nat) (a0 : Nat) (x1 : Int32) (M : mMem), (grp1 d).2.2 a0 x1 M ≠ none → mK M a0 = 6
  | 0, _, _, _ => fun h => absurd rfl h
  | d + 1, _, _, _ => fun h => (gd_ne h).1
set_option maxRecDepth 20000 in
theorem cgrp1 (X : gX) (l : Launch) : ∀ (d : Nat), (∀ (a0 : Nat) (x1 : Int32) (M : mMem), Con X l yX5_readAtom cX5_readAtom 3 (some .boolean) (rmG1 d) (fun r9 : (Int32 × mMem) => (some (.int r9.1), r9.2)) [.ref a0, .int x1] M ((grp1 d).1 a0 x1 M)) ∧ (∀ (a0 : Nat) (x1 : Int32) (M : mMem), Con X l yX5_readAll cX5_readAll 3 (some .boolean) (rmG1 d) (fun r9 : (Int32 × mMem) => (some (.int r9.1), r9.2)) [.ref a0, .int x1] M ((grp1 d).2.1 a0 x1 M)) ∧ (∀ (a0 : Nat) (x1 : Int32) (M : mMem), Con X l yX5_readAny cX5_readAny 3 (some .boolean) (rmG1 d) (fun r9 : (Int32 × mMem) => (some (.int r9.1), r9.2)) [.ref a0, .int x1] M ((grp1 d).2.2 a0 x1 M))
  | 0 => ⟨fun _ _ _ h => absurd rfl h, fun _ _ _ h => absurd rfl h, fun _ _ _ h => absurd rfl h⟩
  | d + 1 => ⟨fun a0 x1 M => g_con (own := RX5) (by decide +kernel) rfl (Nat.le_of_ble_eq_true rfl) (fun p e s m args below meth c B hS9 hr hn => g5_readAtom_B d B hS9 hr ((grp1 d).2.2) ((cgrp1 X l d).2.2) (hk1_5_readAny d) ((grp1 d).1) ((cgrp1 X l d).1) (hk1_5_readAtom d) a0 x1 M),
      fun a0 x1 M => g_con (own := RX5) (by decide +kernel) rfl (Nat.le_of_ble_eq_true rfl) (fun p e s m args below meth c B hS9 hr hn => g5_readAll_B d B hS9 hr ((grp1 d).1) ((cgrp1 X l d).1) (hk1_5_readAtom d) a0 x1 M),
      fun a0 x1 M => g_con (own := RX5) (by decide +kernel) rfl (Nat.le_of_ble_eq_true rfl) (fun p e s m args below meth c B hS9 hr hn => g5_readAny_B d B hS9 hr ((grp1 d).2.1) ((cgrp1 X l d).2.1) (hk1_5_readAll d) a0 x1 M)⟩
theorem c5_readAtom (X : gX) (l : Launch) (a0 : Nat) (x1 : Int32) (M : mMem) : Con X l yX5_readAtom cX5_readAtom 3 (some .boolean) rm5_readAtom (fun r9 : (Int32 × mMem) => (some (.int r9.1), r9.2)) [.ref a0, .int x1] M (p5_readAtom a0 x1 M) := (cgrp1 X l 64).1 a0 x1 M
theorem hkw5_readAtom (a0 : Nat) (x1 : Int32) (M : mMem) (h : p5_readAtom a0 x1 M ≠ none) : mK M a0 = 6 := hk1_5_readAtom 64 a0 x1 M h
theorem c5_readAll (X : gX) (l : Launch) (a0 : Nat) (x1 : Int32) (M : mMem) : Con X l yX5_readAll cX5_readAll 3 (some .boolean) rm5_readAll (fun r9 : (Int32 × mMem) => (some (.int r9.1), r9.2)) [.ref a0, .int x1] M (p5_readAll a0 x1 M) := (cgrp1 X l 64).2.1 a0 x1 M
theorem hkw5_readAll (a0 : Nat) (x1 : Int32) (M : mMem) (h : p5_readAll a0 x1 M ≠ none) : mK M a0 = 6 := hk1_5_readAll 64 a0 x1 M h
theorem c5_readAny (X : gX) (l : Launch) (a0 : Nat) (x1 : Int32) (M : mMem) : Con X l yX5_readAny cX5_readAny 3 (some .boolean) rm5_readAny (fun r9 : (Int32 × mMem) => (some (.int r9.1), r9.2)) [.ref a0, .int x1] M (p5_readAny a0 x1 M) := (cgrp1 X l 64).2.2 a0 x1 M
theorem hkw5_readAny (a0 : Nat) (x1 : Int32) (M : mMem) (h : p5_readAny a0 x1 M ≠ none) : mK M a0 = 6 := hk1_5_readAny 64 a0 x1 M h
theorem mf5_readLine : gMF yX5_readLine cX5_readLine 4 (some .boolean) 0 := ⟨wd_924, wd_8, ⟨by decide, by decide⟩, by decide +kernel⟩
set_option maxRecDepth 20000 in
set_option maxHeartbeats 2000000 in
theorem g5_readLine_J95 {X : gX} {p : Program} {l : Launch} {e : Env} {s : State} {m : MethodId} {args : Array Value} {below : List Frame} {meth : Method} {c : Code} (B : gB X p (rm5_readLine) s m args meth c RX5 cX5_readLine 4 (rm5_readLine)) (hS9 : gS X s) (hr : meth.sig.returnType = some .boolean) (a0 : Nat) (x1 : Int32) (x2 : Int32) (x3 : Int32) (M : mMem) : GG X p l e (rm5_readLine) s m args below meth c (gP X below args s 0 0 (fun r9 : (Int32 × mMem) => (some (.int r9.1), r9.2))) 4 0 0 95 [(0, .ref a0), (1, .int x1), (2, .int x2), (3, .int x3)] [] M (p5_readLine_J95 a0 x1 x2 x3 M) := by
  unfold p5_readLine_J95
  refine g_aload_n B dX5_readLine_95 0 rfl ?_
  refine g_getR (ci := 5) (T0 := TX5) (N := 9) B (by decide) rfl in_5 (k := 8) (by decide) rfl wd_281 (fun _ h => h) dX5_readLine_96 (fun v_1 => ?_)
  refine g_iload_n B dX5_readLine_99 1 rfl ?_
  refine g_iload_n B dX5_readLine_100 2 rfl ?_
  refine g_iload_n B dX5_readLine_101 3 rfl ?_
  refine g_callV_vw [.int x1, .int x2, .int x3] (ci := 4) (T0 := TX4) (N := 10) B hS9 mf4_addLine wd_966 (gw B wd_967) wd_965 (by decide) rfl (fun h => (gd_ne h).1) (c4_addLine X l v_1 x1 x2 x3 M) (by decide) (by decide) (by decide) rfl (by decide) dX5_readLine_102 rfl (fun q_2 => ?_)
  refine g_iconst (v := 1) B dX5_readLine_105 (by decide) ?_
  exact g_ireturn B hr rfl (by decide) (by decide) rfl dX5_readLine_106
set_option maxRecDepth 20000 in
set_option maxHeartbeats 2000000 in
theorem g5_readLine_J67 {X : gX} {p : Program} {l : Launch} {e : Env} {s : State} {m : MethodId} {args : Array Value} {below : List Frame} {meth : Method} {c : Code} (B : gB X p (rm5_readLine) s m args meth c RX5 cX5_readLine 4 (rm5_readLine)) (hS9 : gS X s) (hr : meth.sig.returnType = some .boolean) (a0 : Nat) (x1 : Int32) (u0 : Int32) (M : mMem) : GG X p l e (rm5_readLine) s m args below meth c (gP X below args s 0 0 (fun r9 : (Int32 × mMem) => (some (.int r9.1), r9.2))) 4 0 0 67 [(0, .ref a0), (1, .int x1)] [.int u0] M (p5_readLine_J67 a0 x1 u0 M) := by
  unfold p5_readLine_J67
  refine g_istore_n (lv' := [(2, .int u0), (0, .ref a0), (1, .int x1)]) B dX5_readLine_67 (by decide) [0, 1, 2] rfl ?_
  refine g_aload_n B dX5_readLine_68 1 rfl ?_
  refine g_getR (ci := 5) (T0 := TX5) (N := 9) B (by decide) rfl in_5 (k := 8) (by decide) rfl wd_281 (fun _ h => h) dX5_readLine_69 (fun v_1 => ?_)
  refine g_getI (ci := 4) (T0 := TX4) (N := 10) B (by decide) rfl in_4 (k := 8) (by decide) rfl wd_206 (fun _ h => h) dX5_readLine_72 (fun v_2 => ?_)
  refine g_istore_n (lv' := [(3, .int v_2), (2, .int u0), (0, .ref a0), (1, .int x1)]) B dX5_readLine_75 (by decide) [0, 1, 2, 3] rfl ?_
  refine g_aload_n B dX5_readLine_76 2 rfl ?_
  refine g_bipush (v := 20) B dX5_readLine_77 (by decide) ?_
  refine g_callU_iw (x := ⟨"CribLine$LawReader", "took", "(I)Z"⟩) (owner := "CribLine$Reader") [.int 20] (ci := 5) (T0 := TX5) (N := 9) B hS9 mf5_took wd_873 (gw B wd_933) wd_931 wd_932 (va_Decl.of (gw B wd_873) (gw B wd_874)) (by decide +kernel) (by decide) rfl (fun h => (gd_ne h).1) (c5_took X l a0 20 M) (by decide) (by decide) (by decide) rfl (by decide) dX5_readLine_79 rfl (fun q_3 => ?_)
  refine g_if_eq B 95 dX5_readLine_82 (by decide) ?_ ?_
  · refine g_sub (lv' := [(0, .ref a0), (1, .int x1), (2, .int u0), (3, .int v_2)]) [2, 3, 1, 0] rfl ?_
    exact g5_readLine_J95 B hS9 hr a0 x1 u0 v_2 q_3.2
  · refine g_aload_n B dX5_readLine_85 2 rfl ?_
    refine g_iconst (v := 0) B dX5_readLine_86 (by decide) ?_
    refine g_callV_iw [.int 0] (ci := 5) (T0 := TX5) (N := 9) B hS9 mf5_readAny wd_936 (gw B wp_17) wd_934 (by decide) rfl (hkw5_readAny a0 0 q_3.2) (c5_readAny X l a0 0 q_3.2) (by decide) (by decide) (by decide) rfl (by decide) dX5_readLine_87 rfl (fun q_4 => ?_)
    refine g_if_ne B 95 dX5_readLine_90 (by decide) ?_ ?_
    · refine g_iconst (v := 0) B dX5_readLine_93 (by decide) ?_
      exact g_ireturn B hr rfl (by decide) (by decide) rfl dX5_readLine_94
    · refine g_sub (lv' := [(0, .ref a0), (1, .int x1), (2, .int u0), (3, .int v_2)]) [2, 3, 1, 0] rfl ?_
      exact g5_readLine_J95 B hS9 hr a0 x1 u0 v_2 q_4.2
set_option maxRecDepth 20000 in
set_option maxHeartbeats 2000000 in
theorem g5_readLine_J53 {X : gX} {p : Program} {l : Launch} {e : Env} {s : State} {m : MethodId} {args : Array Value} {below : List Frame} {meth : Method} {c : Code} (B : gB X p (rm5_readLine) s m args meth c RX5 cX5_readLine 4 (rm5_readLine)) (hS9 : gS X s) (hr : meth.sig.returnType = some .boolean) (a0 : Nat) (x1 : Int32) (M : mMem) : GG X p l e (rm5_readLine) s m args below meth c (gP X below args s 0 0 (fun r9 : (Int32 × mMem) => (some (.int r9.1), r9.2))) 4 0 0 53 [(0, .ref a0), (1, .int x1)] [] M (p5_readLine_J53 a0 x1 M) := by
  unfold p5_readLine_J53
  refine g_iload_n B dX5_readLine_53 1 rfl ?_
  refine g_bipush (v := 19) B dX5_readLine_54 (by decide) ?_
  refine g_icmp_ne B 63 dX5_readLine_56 (by decide) ?_ ?_
  · refine g_iconst (v := 0) B dX5_readLine_59 (by decide) ?_
    refine g_goto B 67 dX5_readLine_60 (by decide) ?_
    refine g_sub (lv' := [(0, .ref a0), (1, .int x1)]) [0, 1] rfl ?_
    exact g5_readLine_J67 B hS9 hr a0 x1 0 M
  · refine g_aload_n B dX5_readLine_63 0 rfl ?_
    refine g_getI (ci := 5) (T0 := TX5) (N := 9) B (by decide) rfl in_5 (k := 7) (by decide) rfl wd_252 (fun x h => u_same (B.2.2.2.2.1 _ wd_253) x h) dX5_readLine_64 (fun v_1 => ?_)
    refine g_sub (lv' := [(0, .ref a0), (1, .int x1)]) [0, 1] rfl ?_
    exact g5_readLine_J67 B hS9 hr a0 x1 v_1 M
set_option maxRecDepth 20000 in
set_option maxHeartbeats 2000000 in
theorem g5_readLine_J25 {X : gX} {p : Program} {l : Launch} {e : Env} {s : State} {m : MethodId} {args : Array Value} {below : List Frame} {meth : Method} {c : Code} (B : gB X p (rm5_readLine) s m args meth c RX5 cX5_readLine 4 (rm5_readLine)) (hS9 : gS X s) (hr : meth.sig.returnType = some .boolean) (a0 : Nat) (x1 : Int32) (M : mMem) : GG X p l e (rm5_readLine) s m args below meth c (gP X below args s 0 0 (fun r9 : (Int32 × mMem) => (some (.int r9.1), r9.2))) 4 0 0 25 [(0, .ref a0), (1, .int x1)] [] M (p5_readLine_J25 a0 x1 M) := by
  unfold p5_readLine_J25
  refine g_aload_n B dX5_readLine_25 0 rfl ?_
  refine g_dup B dX5_readLine_26 rfl ?_
  refine g_getI (ci := 5) (T0 := TX5) (N := 9) B (by decide) rfl in_5 (k := 6) (by decide) rfl wd_247 (fun x h => u_same (B.2.2.2.2.1 _ wd_248) x h) dX5_readLine_27 (fun v_1 => ?_)
  refine g_iconst (v := 1) B dX5_readLine_30 (by decide) ?_
  refine g_iadd B dX5_readLine_31 ?_
  refine g_putI (ci := 5) (T0 := TX5) (N := 9) B (by decide) rfl in_5 tyX5 tyX5_ok nmX5 (k := 6) (by decide) wd_247 (fun x h => u_same (B.2.2.2.2.1 _ wd_248) x h) rfl rfl (ty := .int) (by decide +kernel) rfl rfl dX5_readLine_32 (fun M_2 => ?_)
  refine g_iload_n B dX5_readLine_35 1 rfl ?_
  refine g_bipush (v := 19) B dX5_readLine_36 (by decide) ?_
  refine g_icmp_eq B 53 dX5_readLine_38 (by decide) ?_ ?_
  · refine g_sub (lv' := [(0, .ref a0), (1, .int x1)]) [0, 1] rfl ?_
    exact g5_readLine_J53 B hS9 hr a0 x1 M_2
  · refine g_aload_n B dX5_readLine_41 0 rfl ?_
    refine g_iconst (v := 0) B dX5_readLine_42 (by decide) ?_
    refine g_bipush (v := 60) B dX5_readLine_43 (by decide) ?_
    refine g_callU_iw (x := ⟨"CribLine$LawReader", "tookNumber", "(II)Z"⟩) (owner := "CribLine$Reader") [.int 0, .int 60] (ci := 5) (T0 := TX5) (N := 9) B hS9 mf5_tookNumber wd_879 (gw B wd_930) wd_928 wd_929 (va_Decl.of (gw B wd_879) (gw B wd_880)) (by decide +kernel) (by decide) rfl (fun h => (gd_ne h).1) (c5_tookNumber X l a0 0 60 M_2) (by decide) (by decide) (by decide) rfl (by decide) dX5_readLine_45 rfl (fun q_3 => ?_)
    refine g_if_ne B 53 dX5_readLine_48 (by decide) ?_ ?_
    · refine g_iconst (v := 0) B dX5_readLine_51 (by decide) ?_
      exact g_ireturn B hr rfl (by decide) (by decide) rfl dX5_readLine_52
    · refine g_sub (lv' := [(0, .ref a0), (1, .int x1)]) [0, 1] rfl ?_
      exact g5_readLine_J53 B hS9 hr a0 x1 q_3.2
set_option maxRecDepth 20000 in
set_option maxHeartbeats 2000000 in
theorem g5_readLine {X : gX} {p : Program} {l : Launch} {e : Env} {s : State} {m : MethodId} {args : Array Value} {below : List Frame} {meth : Method} {c : Code} (B : gB X p (rm5_readLine) s m args meth c RX5 cX5_readLine 4 (rm5_readLine)) (hS9 : gS X s) (hr : meth.sig.returnType = some .boolean) (a0 : Nat) (M : mMem) : GG X p l e (rm5_readLine) s m args below meth c (gP X below args s 0 0 (fun r9 : (Int32 × mMem) => (some (.int r9.1), r9.2))) 4 0 0 0 [(0, .ref a0)] [] M (p5_readLine a0 M) := by
  unfold p5_readLine
  refine g_gd ?_
  refine g_aload_n B dX5_readLine_0 0 rfl ?_
  refine g_callU_ip (x := ⟨"CribLine$LawReader", "next", "()I"⟩) (owner := "CribLine$Reader") [] (ci := 5) (T0 := TX5) (N := 9) B hS9 mf5_next wd_850 (gw B wd_927) wd_925 wd_926 (va_Decl.of (gw B wd_850) (gw B wd_854)) (by decide +kernel) (by decide) rfl (fun h => (gd_ne h).1) (c5_next X l a0 M) (by decide) (by decide) (by decide) rfl (by decide) dX5_readLine_1 rfl (fun v_1 => ?_)
  refine g_istore_n (lv' := [(1, .int v_1), (0, .ref a0)]) B dX5_readLine_4 (by decide) [0, 1] rfl ?_
  refine g_iload_n B dX5_readLine_5 0 rfl ?_
  refine g_bipush (v := 17) B dX5_readLine_6 (by decide) ?_
  refine g_icmp_eq B 25 dX5_readLine_8 (by decide) ?_ ?_
  · refine g_sub (lv' := [(0, .ref a0), (1, .int v_1)]) [1, 0] rfl ?_
    exact g5_readLine_J25 B hS9 hr a0 v_1 M
  · refine g_iload_n B dX5_readLine_11 0 rfl ?_
    refine g_bipush (v := 18) B dX5_readLine_12 (by decide) ?_
    refine g_icmp_eq B 25 dX5_readLine_14 (by decide) ?_ ?_
    · refine g_sub (lv' := [(0, .ref a0), (1, .int v_1)]) [1, 0] rfl ?_
      exact g5_readLine_J25 B hS9 hr a0 v_1 M
    · refine g_iload_n B dX5_readLine_17 0 rfl ?_
      refine g_bipush (v := 19) B dX5_readLine_18 (by decide) ?_
      refine g_icmp_eq B 25 dX5_readLine_20 (by decide) ?_ ?_
      · refine g_sub (lv' := [(0, .ref a0), (1, .int v_1)]) [1, 0] rfl ?_
        exact g5_readLine_J25 B hS9 hr a0 v_1 M
      · refine g_iconst (v := 0) B dX5_readLine_23 (by decide) ?_
        exact g_ireturn B hr rfl (by decide) (by decide) rfl dX5_readLine_24
theorem c5_readLine (X : gX) (l : Launch) (a0 : Nat) (M : mMem) : Con X l yX5_readLine cX5_readLine 4 (some .boolean) rm5_readLine (fun r9 : (Int32 × mMem) => (some (.int r9.1), r9.2)) [.ref a0] M (p5_readLine a0 M) := g_con (own := RX5) (by decide +kernel) rfl (Nat.le_of_ble_eq_true rfl) (fun p e s m args below meth c B hS9 hr hn => g5_readLine B hS9 hr a0 M)
theorem mf6_cell : gMF yX6_cell cX6_cell 5 (some .int) 2 := ⟨wd_1115, wd_4, ⟨by decide, by decide⟩, by decide +kernel⟩
set_option maxRecDepth 20000 in
set_option maxHeartbeats 2000000 in
theorem g6_cell_J21 {X : gX} {p : Program} {l : Launch} {e : Env} {s : State} {m : MethodId} {args : Array Value} {below : List Frame} {meth : Method} {c : Code} (B : gB X p (rm6_cell) s m args meth c RX6 cX6_cell 5 (rm6_cell)) (hS9 : gS X s) (hr : meth.sig.returnType = some .int) {M : mMem} : GG X p l e (rm6_cell) s m args below meth c (gP X below args s 0 0 (fun r9 : Int32 => (some (.int r9), M))) 5 0 0 21 [] [] M (p6_cell_J21 M) := by
  unfold p6_cell_J21
  refine g_iconst (v := (-1)) B dX6_cell_21 (by decide) ?_
  exact g_ireturn B hr rfl (by decide) (by decide) rfl dX6_cell_22
set_option maxRecDepth 20000 in
set_option maxHeartbeats 2000000 in
theorem g6_cell_J76 {X : gX} {p : Program} {l : Launch} {e : Env} {s : State} {m : MethodId} {args : Array Value} {below : List Frame} {meth : Method} {c : Code} (B : gB X p (rm6_cell) s m args meth c RX6 cX6_cell 5 (rm6_cell)) (hS9 : gS X s) (hr : meth.sig.returnType = some .int) {M : mMem} (u0 : Int32) : GG X p l e (rm6_cell) s m args below meth c (gP X below args s 0 0 (fun r9 : Int32 => (some (.int r9), M))) 5 0 0 76 [] [.int u0] M (p6_cell_J76 M u0) := by
  unfold p6_cell_J76
  exact g_ireturn B hr rfl (by decide) (by decide) rfl dX6_cell_76
set_option maxRecDepth 20000 in
set_option maxHeartbeats 2000000 in
theorem g6_cell_J75 {X : gX} {p : Program} {l : Launch} {e : Env} {s : State} {m : MethodId} {args : Array Value} {below : List Frame} {meth : Method} {c : Code} (B : gB X p (rm6_cell) s m args meth c RX6 cX6_cell 5 (rm6_cell)) (hS9 : gS X s) (hr : meth.sig.returnType = some .int) {M : mMem} : GG X p l e (rm6_cell) s m args below meth c (gP X below args s 0 0 (fun r9 : Int32 => (some (.int r9), M))) 5 0 0 75 [] [] M (p6_cell_J75 M) := by
  unfold p6_cell_J75
  refine g_iconst (v := (-1)) B dX6_cell_75 (by decide) ?_
  refine g_sub (lv' := []) [] rfl ?_
  exact g6_cell_J76 B hS9 hr (-1)
set_option maxRecDepth 20000 in
set_option maxHeartbeats 2000000 in
theorem g6_cell_J44 {X : gX} {p : Program} {l : Launch} {e : Env} {s : State} {m : MethodId} {args : Array Value} {below : List Frame} {meth : Method} {c : Code} (B : gB X p (rm6_cell) s m args meth c RX6 cX6_cell 5 (rm6_cell)) (hS9 : gS X s) (hr : meth.sig.returnType = some .int) {M : mMem} (a0 : Nat) (x2 : Int32) (u0 : Int32) : GG X p l e (rm6_cell) s m args below meth c (gP X below args s 0 0 (fun r9 : Int32 => (some (.int r9), M))) 5 0 0 44 [(0, .ref a0), (2, .int x2)] [.int u0] M (p6_cell_J44 M a0 x2 u0) := by
  unfold p6_cell_J44
  refine g_iconst (v := 5) B dX6_cell_44 (by decide) ?_
  refine g_imul B dX6_cell_45 ?_
  refine g_iload_n B dX6_cell_46 1 rfl ?_
  refine g_iadd B dX6_cell_47 ?_
  refine g_istore (lv' := [(4, .int ((u0 * 5) + x2)), (0, .ref a0), (2, .int x2)]) B dX6_cell_48 (by decide) [0, 1, 2] rfl ?_
  refine g_iload B dX6_cell_50 0 rfl ?_
  refine g_if_lt B 75 dX6_cell_52 (by decide) ?_ ?_
  · refine g_sub (lv' := []) [] rfl ?_
    exact g6_cell_J75 B hS9 hr
  · refine g_iload B dX6_cell_55 0 rfl ?_
    refine g_aload_n B dX6_cell_57 1 rfl ?_
    refine g_getR (ci := 6) (T0 := TX6) (N := 3) B (by decide) rfl in_6 (k := 0) (by decide) rfl wd_123 (fun _ h => h) dX6_cell_58 (fun v_1 => ?_)
    refine g_alen B dX6_cell_61 (fun v_2 => ?_)
    refine g_icmp_ge B 75 dX6_cell_62 (by decide) ?_ ?_
    · refine g_aload_n B dX6_cell_65 1 rfl ?_
      refine g_getR (ci := 6) (T0 := TX6) (N := 3) B (by decide) rfl in_6 (k := 0) (by decide) rfl wd_123 (fun _ h => h) dX6_cell_66 (fun v_3 => ?_)
      refine g_iload B dX6_cell_69 0 rfl ?_
      refine g_iaload B dX6_cell_71 (fun v_4 => ?_)
      refine g_goto B 76 dX6_cell_72 (by decide) ?_
      refine g_sub (lv' := []) [] rfl ?_
      exact g6_cell_J76 B hS9 hr v_4
    · refine g_sub (lv' := []) [] rfl ?_
      exact g6_cell_J75 B hS9 hr
set_option maxRecDepth 20000 in
set_option maxHeartbeats 2000000 in
theorem g6_cell {X : gX} {p : Program} {l : Launch} {e : Env} {s : State} {m : MethodId} {args : Array Value} {below : List Frame} {meth : Method} {c : Code} (B : gB X p (rm6_cell) s m args meth c RX6 cX6_cell 5 (rm6_cell)) (hS9 : gS X s) (hr : meth.sig.returnType = some .int) {M : mMem} (a0 : Nat) (x1 : Int32) (x2 : Int32) : GG X p l e (rm6_cell) s m args below meth c (gP X below args s 0 0 (fun r9 : Int32 => (some (.int r9), M))) 5 0 0 0 [(0, .ref a0), (1, .int x1), (2, .int x2)] [] M (p6_cell a0 x1 x2 M) := by
  unfold p6_cell
  refine g_gd ?_
  refine g_iload_n B dX6_cell_0 1 rfl ?_
  refine g_if_lt B 21 dX6_cell_1 (by decide) ?_ ?_
  · refine g_sub (lv' := []) [] rfl ?_
    exact g6_cell_J21 B hS9 hr
  · refine g_iload_n B dX6_cell_4 1 rfl ?_
    refine g_aload_n B dX6_cell_5 0 rfl ?_
    refine g_getI (ci := 6) (T0 := TX6) (N := 3) B (by decide) rfl in_6 (k := 2) (by decide) rfl wd_125 (fun _ h => h) dX6_cell_6 (fun v_1 => ?_)
    refine g_icmp_ge B 21 dX6_cell_9 (by decide) ?_ ?_
    · refine g_iload_n B dX6_cell_12 2 rfl ?_
      refine g_if_lt B 21 dX6_cell_13 (by decide) ?_ ?_
      · refine g_sub (lv' := []) [] rfl ?_
        exact g6_cell_J21 B hS9 hr
      · refine g_iload_n B dX6_cell_16 2 rfl ?_
        refine g_iconst (v := 5) B dX6_cell_17 (by decide) ?_
        refine g_icmp_lt B 23 dX6_cell_18 (by decide) ?_ ?_
        · refine g_aload_n B dX6_cell_23 0 rfl ?_
          refine g_getI (ci := 6) (T0 := TX6) (N := 3) B (by decide) rfl in_6 (k := 1) (by decide) rfl wd_124 (fun _ h => h) dX6_cell_24 (fun v_2 => ?_)
          refine g_iconst (v := 1) B dX6_cell_27 (by decide) ?_
          refine g_isub B dX6_cell_28 ?_
          refine g_iload_n B dX6_cell_29 1 rfl ?_
          refine g_isub B dX6_cell_30 ?_
          refine g_istore_n (lv' := [(3, .int ((v_2 - 1) - x1)), (0, .ref a0), (1, .int x1), (2, .int x2)]) B dX6_cell_31 (by decide) [0, 1, 2, 3] rfl ?_
          refine g_iload_n B dX6_cell_32 0 rfl ?_
          refine g_if_ge B 43 dX6_cell_33 (by decide) ?_ ?_
          · refine g_iload_n B dX6_cell_36 0 rfl ?_
            refine g_bipush (v := 60) B dX6_cell_37 (by decide) ?_
            refine g_iadd B dX6_cell_39 ?_
            refine g_goto B 44 dX6_cell_40 (by decide) ?_
            refine g_sub (lv' := [(0, .ref a0), (2, .int x2)]) [1, 3] rfl ?_
            exact g6_cell_J44 B hS9 hr a0 x2 (((v_2 - 1) - x1) + 60)
          · refine g_iload_n B dX6_cell_43 0 rfl ?_
            refine g_sub (lv' := [(0, .ref a0), (2, .int x2)]) [1, 3] rfl ?_
            exact g6_cell_J44 B hS9 hr a0 x2 ((v_2 - 1) - x1)
        · refine g_sub (lv' := []) [] rfl ?_
          exact g6_cell_J21 B hS9 hr
    · refine g_sub (lv' := []) [] rfl ?_
      exact g6_cell_J21 B hS9 hr
theorem c6_cell (X : gX) (l : Launch) (a0 : Nat) (x1 : Int32) (x2 : Int32) (M : mMem) : Con X l yX6_cell cX6_cell 5 (some .int) rm6_cell (fun r9 : Int32 => (some (.int r9), M)) [.ref a0, .int x1, .int x2] M (p6_cell a0 x1 x2 M) := g_con (own := RX6) (by decide +kernel) rfl (Nat.le_of_ble_eq_true rfl) (fun p e s m args below meth c B hS9 hr hn => g6_cell B hS9 hr a0 x1 x2)
theorem mf6_shareOf : gMF yX6_shareOf cX6_shareOf 5 (some .int) 1 := ⟨wd_1111, wd_4, ⟨by decide, by decide⟩, by decide +kernel⟩
set_option maxRecDepth 20000 in
set_option maxHeartbeats 2000000 in
theorem g6_shareOf_J48 {X : gX} {p : Program} {l : Launch} {e : Env} {s : State} {m : MethodId} {args : Array Value} {below : List Frame} {meth : Method} {c : Code} (B : gB X p (rm6_shareOf) s m args meth c RX6 cX6_shareOf 5 (rm6_shareOf)) (hS9 : gS X s) (hr : meth.sig.returnType = some .int) {M : mMem} (rec7 : Nat → Int32 → Int32 → Int32 → Int32 → Option Int32) (hrec7 : ∀ (a0 : Nat) (x1 : Int32) (x2 : Int32) (x3 : Int32) (x4 : Int32), GG X p l e (rm6_shareOf) s m args below meth c (gP X below args s 0 0 (fun r9 : Int32 => (some (.int r9), M))) 5 0 0 7 [(0, .ref a0), (1, .int x1), (2, .int x2), (3, .int x3), (4, .int x4)] [] M (rec7 a0 x1 x2 x3 x4)) (a0 : Nat) (x1 : Int32) (x2 : Int32) (x3 : Int32) (x4 : Int32) : GG X p l e (rm6_shareOf) s m args below meth c (gP X below args s 0 0 (fun r9 : Int32 => (some (.int r9), M))) 5 0 0 48 [(0, .ref a0), (1, .int x1), (2, .int x2), (3, .int x3), (4, .int x4)] [] M (p6_shareOf_J48 M rec7 a0 x1 x2 x3 x4) := by
  unfold p6_shareOf_J48
  refine g_iinc (v := (x4 + 1)) (lv' := [(4, .int (x4 + 1)), (0, .ref a0), (1, .int x1), (2, .int x2), (3, .int x3)]) B dX6_shareOf_48 4 rfl rfl (by decide) [0, 1, 2, 3, 4] rfl ?_
  refine g_goto B 7 dX6_shareOf_51 (by decide) ?_
  refine g_sub (lv' := [(0, .ref a0), (1, .int x1), (2, .int x2), (3, .int x3), (4, .int (x4 + 1))]) [1, 2, 3, 4, 0] rfl ?_
  exact hrec7 a0 x1 x2 x3 (x4 + 1)
set_option maxRecDepth 20000 in
set_option maxHeartbeats 2000000 in
theorem g6_shareOf_J46 {X : gX} {p : Program} {l : Launch} {e : Env} {s : State} {m : MethodId} {args : Array Value} {below : List Frame} {meth : Method} {c : Code} (B : gB X p (rm6_shareOf) s m args meth c RX6 cX6_shareOf 5 (rm6_shareOf)) (hS9 : gS X s) (hr : meth.sig.returnType = some .int) {M : mMem} (rec7 : Nat → Int32 → Int32 → Int32 → Int32 → Option Int32) (hrec7 : ∀ (a0 : Nat) (x1 : Int32) (x2 : Int32) (x3 : Int32) (x4 : Int32), GG X p l e (rm6_shareOf) s m args below meth c (gP X below args s 0 0 (fun r9 : Int32 => (some (.int r9), M))) 5 0 0 7 [(0, .ref a0), (1, .int x1), (2, .int x2), (3, .int x3), (4, .int x4)] [] M (rec7 a0 x1 x2 x3 x4)) (a0 : Nat) (x1 : Int32) (x2 : Int32) (x4 : Int32) (u0 : Int32) (u1 : Int32) : GG X p l e (rm6_shareOf) s m args below meth c (gP X below args s 0 0 (fun r9 : Int32 => (some (.int r9), M))) 5 0 0 46 [(0, .ref a0), (1, .int x1), (2, .int x2), (4, .int x4)] [.int u1, .int u0] M (p6_shareOf_J46 M rec7 a0 x1 x2 x4 u0 u1) := by
  unfold p6_shareOf_J46
  refine g_iadd B dX6_shareOf_46 ?_
  refine g_istore_n (lv' := [(3, .int (u0 + u1)), (0, .ref a0), (1, .int x1), (2, .int x2), (4, .int x4)]) B dX6_shareOf_47 (by decide) [0, 1, 2, 3, 4] rfl ?_
  refine g_sub (lv' := [(0, .ref a0), (1, .int x1), (2, .int x2), (3, .int (u0 + u1)), (4, .int x4)]) [1, 2, 3, 0, 4] rfl ?_
  exact g6_shareOf_J48 B hS9 hr rec7 hrec7 a0 x1 x2 (u0 + u1) x4
set_option maxRecDepth 20000 in
set_option maxHeartbeats 2000000 in
theorem g6_shareOf_L7 {X : gX} {p : Program} {l : Launch} {e : Env} {s : State} {m : MethodId} {args : Array Value} {below : List Frame} {meth : Method} {c : Code} (B : gB X p (rm6_shareOf) s m args meth c RX6 cX6_shareOf 5 (rm6_shareOf)) (hS9 : gS X s) (hr : meth.sig.returnType = some .int) {M : mMem} (k54 : Int32 → Int32 → Option Int32) (hk54 : ∀ (x2 : Int32) (x3 : Int32), GG X p l e (rm6_shareOf) s m args below meth c (gP X below args s 0 0 (fun r9 : Int32 => (some (.int r9), M))) 5 0 0 54 [(2, .int x2), (3, .int x3)] [] M (k54 x2 x3)) : ∀ (n : Nat) (a0 : Nat) (x1 : Int32) (x2 : Int32) (x3 : Int32) (x4 : Int32), GG X p l e (rm6_shareOf) s m args below meth c (gP X below args s 0 0 (fun r9 : Int32 => (some (.int r9), M))) 5 0 0 7 [(0, .ref a0), (1, .int x1), (2, .int x2), (3, .int x3), (4, .int x4)] [] M (p6_shareOf_L7 M k54 n a0 x1 x2 x3 x4) := by
  intro n
  induction n with
  | zero => intro a0 x1 x2 x3 x4; exact g_none
  | succ n ih =>
    intro a0 x1 x2 x3 x4
    rw [p6_shareOf_L7]
    refine g_iload B dX6_shareOf_7 4 rfl ?_
    refine g_aload_n B dX6_shareOf_9 0 rfl ?_
    refine g_getI (ci := 6) (T0 := TX6) (N := 3) B (by decide) rfl in_6 (k := 2) (by decide) rfl wd_125 (fun _ h => h) dX6_shareOf_10 (fun v_1 => ?_)
    refine g_icmp_ge B 54 dX6_shareOf_13 (by decide) ?_ ?_
    · refine g_aload_n B dX6_shareOf_16 0 rfl ?_
      refine g_iload B dX6_shareOf_17 4 rfl ?_
      refine g_iconst (v := 3) B dX6_shareOf_19 (by decide) ?_
      refine g_callV_ip [.int x4, .int 3] (ci := 6) (T0 := TX6) (N := 3) B hS9 mf6_cell wd_1113 (gw B wd_1114) wd_1112 (by decide) rfl (fun h => (gd_ne h).1) (c6_cell X l a0 x4 3 M) (by decide) (by decide) (by decide) rfl (by decide) dX6_shareOf_20 rfl (fun v_2 => ?_)
      refine g_if_ne B 48 dX6_shareOf_23 (by decide) ?_ ?_
      · refine g_iinc (v := (x2 + 1)) (lv' := [(2, .int (x2 + 1)), (0, .ref a0), (1, .int x1), (3, .int x3), (4, .int x4)]) B dX6_shareOf_26 2 rfl rfl (by decide) [0, 1, 2, 3, 4] rfl ?_
        refine g_iload_n B dX6_shareOf_29 3 rfl ?_
        refine g_aload_n B dX6_shareOf_30 1 rfl ?_
        refine g_iload B dX6_shareOf_31 4 rfl ?_
        refine g_iconst (v := 2) B dX6_shareOf_33 (by decide) ?_
        refine g_callV_ip [.int x4, .int 2] (ci := 6) (T0 := TX6) (N := 3) B hS9 mf6_cell wd_1113 (gw B wd_1114) wd_1112 (by decide) rfl (fun h => (gd_ne h).1) (c6_cell X l a0 x4 2 M) (by decide) (by decide) (by decide) rfl (Nat.le_of_ble_eq_true rfl) dX6_shareOf_34 rfl (fun v_3 => ?_)
        refine g_iload_n B dX6_shareOf_37 2 rfl ?_
        refine g_icmp_ne B 45 dX6_shareOf_38 (by decide) ?_ ?_
        · refine g_iconst (v := 1) B dX6_shareOf_41 (by decide) ?_
          refine g_goto B 46 dX6_shareOf_42 (by decide) ?_
          refine g_sub (lv' := [(0, .ref a0), (1, .int x1), (2, .int (x2 + 1)), (4, .int x4)]) [1, 2, 0, 4] rfl ?_
          exact g6_shareOf_J46 B hS9 hr (p6_shareOf_L7 M k54 n) ih a0 x1 (x2 + 1) x4 x3 1
        · refine g_iconst (v := 0) B dX6_shareOf_45 (by decide) ?_
          refine g_sub (lv' := [(0, .ref a0), (1, .int x1), (2, .int (x2 + 1)), (4, .int x4)]) [1, 2, 0, 4] rfl ?_
          exact g6_shareOf_J46 B hS9 hr (p6_shareOf_L7 M k54 n) ih a0 x1 (x2 + 1) x4 x3 0
      · refine g_sub (lv' := [(0, .ref a0), (1, .int x1), (2, .int x2), (3, .int x3), (4, .int x4)]) [0, 1, 2, 3, 4] rfl ?_
        exact g6_shareOf_J48 B hS9 hr (p6_shareOf_L7 M k54 n) ih a0 x1 x2 x3 x4
    · refine g_sub (lv' := [(2, .int x2), (3, .int x3)]) [2, 3] rfl ?_
      exact hk54 x2 x3
set_option maxRecDepth 20000 in
set_option maxHeartbeats 2000000 in
theorem g6_shareOf_J68 {X : gX} {p : Program} {l : Launch} {e : Env} {s : State} {m : MethodId} {args : Array Value} {below : List Frame} {meth : Method} {c : Code} (B : gB X p (rm6_shareOf) s m args meth c RX6 cX6_shareOf 5 (rm6_shareOf)) (hS9 : gS X s) (hr : meth.sig.returnType = some .int) {M : mMem} (u0 : Int32) : GG X p l e (rm6_shareOf) s m args below meth c (gP X below args s 0 0 (fun r9 : Int32 => (some (.int r9), M))) 5 0 0 68 [] [.int u0] M (p6_shareOf_J68 M u0) := by
  unfold p6_shareOf_J68
  exact g_ireturn B hr rfl (by decide) (by decide) rfl dX6_shareOf_68
set_option maxRecDepth 20000 in
set_option maxHeartbeats 2000000 in
theorem g6_shareOf_J54 {X : gX} {p : Program} {l : Launch} {e : Env} {s : State} {m : MethodId} {args : Array Value} {below : List Frame} {meth : Method} {c : Code} (B : gB X p (rm6_shareOf) s m args meth c RX6 cX6_shareOf 5 (rm6_shareOf)) (hS9 : gS X s) (hr : meth.sig.returnType = some .int) {M : mMem} (x2 : Int32) (x3 : Int32) : GG X p l e (rm6_shareOf) s m args below meth c (gP X below args s 0 0 (fun r9 : Int32 => (some (.int r9), M))) 5 0 0 54 [(2, .int x2), (3, .int x3)] [] M (p6_shareOf_J54 M x2 x3) := by
  unfold p6_shareOf_J54
  refine g_iload_n B dX6_shareOf_54 0 rfl ?_
  refine g_if_le B 67 dX6_shareOf_55 (by decide) ?_ ?_
  · refine g_bipush (v := 100) B dX6_shareOf_58 (by decide) ?_
    refine g_iload_n B dX6_shareOf_60 1 rfl ?_
    refine g_imul B dX6_shareOf_61 ?_
    refine g_iload_n B dX6_shareOf_62 0 rfl ?_
    refine g_idiv B dX6_shareOf_63 (fun v_1 => ?_)
    refine g_goto B 68 dX6_shareOf_64 (by decide) ?_
    refine g_sub (lv' := []) [] rfl ?_
    exact g6_shareOf_J68 B hS9 hr v_1
  · refine g_iconst (v := 0) B dX6_shareOf_67 (by decide) ?_
    refine g_sub (lv' := []) [] rfl ?_
    exact g6_shareOf_J68 B hS9 hr 0
set_option maxRecDepth 20000 in
set_option maxHeartbeats 2000000 in
theorem g6_shareOf {X : gX} {p : Program} {l : Launch} {e : Env} {s : State} {m : MethodId} {args : Array Value} {below : List Frame} {meth : Method} {c : Code} (B : gB X p (rm6_shareOf) s m args meth c RX6 cX6_shareOf 5 (rm6_shareOf)) (hS9 : gS X s) (hr : meth.sig.returnType = some .int) {M : mMem} (a0 : Nat) (x1 : Int32) : GG X p l e (rm6_shareOf) s m args below meth c (gP X below args s 0 0 (fun r9 : Int32 => (some (.int r9), M))) 5 0 0 0 [(0, .ref a0), (1, .int x1)] [] M (p6_shareOf a0 x1 M) := by
  unfold p6_shareOf
  refine g_gd ?_
  refine g_iconst (v := 0) B dX6_shareOf_0 (by decide) ?_
  refine g_istore_n (lv' := [(2, .int 0), (0, .ref a0), (1, .int x1)]) B dX6_shareOf_1 (by decide) [0, 1, 2] rfl ?_
  refine g_iconst (v := 0) B dX6_shareOf_2 (by decide) ?_
  refine g_istore_n (lv' := [(3, .int 0), (2, .int 0), (0, .ref a0), (1, .int x1)]) B dX6_shareOf_3 (by decide) [0, 1, 2, 3] rfl ?_
  refine g_iconst (v := 0) B dX6_shareOf_4 (by decide) ?_
  refine g_istore (lv' := [(4, .int 0), (3, .int 0), (2, .int 0), (0, .ref a0), (1, .int x1)]) B dX6_shareOf_5 (by decide) [0, 1, 2, 3, 4] rfl ?_
  refine g_sub (lv' := [(0, .ref a0), (1, .int x1), (2, .int 0), (3, .int 0), (4, .int 0)]) [3, 4, 2, 1, 0] rfl ?_
  exact (g6_shareOf_L7 B hS9 hr (p6_shareOf_J54 M) (fun e0 e1 => g6_shareOf_J54 B hS9 hr e0 e1)) gF a0 x1 0 0 0
theorem c6_shareOf (X : gX) (l : Launch) (a0 : Nat) (x1 : Int32) (M : mMem) : Con X l yX6_shareOf cX6_shareOf 5 (some .int) rm6_shareOf (fun r9 : Int32 => (some (.int r9), M)) [.ref a0, .int x1] M (p6_shareOf a0 x1 M) := g_con (own := RX6) (by decide +kernel) rfl (Nat.le_of_ble_eq_true rfl) (fun p e s m args below meth c B hS9 hr hn => g6_shareOf B hS9 hr a0 x1)
theorem mf6_rowsTo : gMF yX6_rowsTo cX6_rowsTo 4 (some .int) 1 := ⟨wd_1622, wd_4, ⟨by decide, by decide⟩, by decide +kernel⟩
set_option maxRecDepth 20000 in
set_option maxHeartbeats 2000000 in
theorem g6_rowsTo_J25 {X : gX} {p : Program} {l : Launch} {e : Env} {s : State} {m : MethodId} {args : Array Value} {below : List Frame} {meth : Method} {c : Code} (B : gB X p (rm6_rowsTo) s m args meth c RX6 cX6_rowsTo 4 (rm6_rowsTo)) (hS9 : gS X s) (hr : meth.sig.returnType = some .int) {M : mMem} (rec4 : Nat → Int32 → Int32 → Int32 → Option Int32) (hrec4 : ∀ (a0 : Nat) (x1 : Int32) (x2 : Int32) (x3 : Int32), GG X p l e (rm6_rowsTo) s m args below meth c (gP X below args s 0 0 (fun r9 : Int32 => (some (.int r9), M))) 4 0 0 4 [(0, .ref a0), (1, .int x1), (2, .int x2), (3, .int x3)] [] M (rec4 a0 x1 x2 x3)) (a0 : Nat) (x1 : Int32) (x2 : Int32) (x3 : Int32) : GG X p l e (rm6_rowsTo) s m args below meth c (gP X below args s 0 0 (fun r9 : Int32 => (some (.int r9), M))) 4 0 0 25 [(0, .ref a0), (1, .int x1), (2, .int x2), (3, .int x3)] [] M (p6_rowsTo_J25 M rec4 a0 x1 x2 x3) := by
  unfold p6_rowsTo_J25
  refine g_iinc (v := (x3 + 1)) (lv' := [(3, .int (x3 + 1)), (0, .ref a0), (1, .int x1), (2, .int x2)]) B dX6_rowsTo_25 3 rfl rfl (by decide) [0, 1, 2, 3] rfl ?_
  refine g_goto B 4 dX6_rowsTo_28 (by decide) ?_
  refine g_sub (lv' := [(0, .ref a0), (1, .int x1), (2, .int x2), (3, .int (x3 + 1))]) [1, 2, 3, 0] rfl ?_
  exact hrec4 a0 x1 x2 (x3 + 1)
set_option maxRecDepth 20000 in
set_option maxHeartbeats 2000000 in
theorem g6_rowsTo_L4 {X : gX} {p : Program} {l : Launch} {e : Env} {s : State} {m : MethodId} {args : Array Value} {below : List Frame} {meth : Method} {c : Code} (B : gB X p (rm6_rowsTo) s m args meth c RX6 cX6_rowsTo 4 (rm6_rowsTo)) (hS9 : gS X s) (hr : meth.sig.returnType = some .int) {M : mMem} : ∀ (n : Nat) (a0 : Nat) (x1 : Int32) (x2 : Int32) (x3 : Int32), GG X p l e (rm6_rowsTo) s m args below meth c (gP X below args s 0 0 (fun r9 : Int32 => (some (.int r9), M))) 4 0 0 4 [(0, .ref a0), (1, .int x1), (2, .int x2), (3, .int x3)] [] M (p6_rowsTo_L4 M n a0 x1 x2 x3) := by
  intro n
  induction n with
  | zero => intro a0 x1 x2 x3; exact g_none
  | succ n ih =>
    intro a0 x1 x2 x3
    rw [p6_rowsTo_L4]
    refine g_iload_n B dX6_rowsTo_4 3 rfl ?_
    refine g_aload_n B dX6_rowsTo_5 0 rfl ?_
    refine g_getI (ci := 6) (T0 := TX6) (N := 3) B (by decide) rfl in_6 (k := 2) (by decide) rfl wd_125 (fun _ h => h) dX6_rowsTo_6 (fun v_1 => ?_)
    refine g_icmp_ge B 31 dX6_rowsTo_9 (by decide) ?_ ?_
    · refine g_aload_n B dX6_rowsTo_12 0 rfl ?_
      refine g_iload_n B dX6_rowsTo_13 3 rfl ?_
      refine g_iconst (v := 2) B dX6_rowsTo_14 (by decide) ?_
      refine g_callV_ip [.int x3, .int 2] (ci := 6) (T0 := TX6) (N := 3) B hS9 mf6_cell wd_1113 (gw B wd_1114) wd_1112 (by decide) rfl (fun h => (gd_ne h).1) (c6_cell X l a0 x3 2 M) (by decide) (by decide) (by decide) rfl (by decide) dX6_rowsTo_15 rfl (fun v_2 => ?_)
      refine g_iload_n B dX6_rowsTo_18 1 rfl ?_
      refine g_icmp_ne B 25 dX6_rowsTo_19 (by decide) ?_ ?_
      · refine g_iinc (v := (x2 + 1)) (lv' := [(2, .int (x2 + 1)), (0, .ref a0), (1, .int x1), (3, .int x3)]) B dX6_rowsTo_22 2 rfl rfl (by decide) [0, 1, 2, 3] rfl ?_
        refine g_sub (lv' := [(0, .ref a0), (1, .int x1), (2, .int (x2 + 1)), (3, .int x3)]) [1, 2, 0, 3] rfl ?_
        exact g6_rowsTo_J25 B hS9 hr (p6_rowsTo_L4 M n) ih a0 x1 (x2 + 1) x3
      · refine g_sub (lv' := [(0, .ref a0), (1, .int x1), (2, .int x2), (3, .int x3)]) [0, 1, 2, 3] rfl ?_
        exact g6_rowsTo_J25 B hS9 hr (p6_rowsTo_L4 M n) ih a0 x1 x2 x3
    · refine g_iload_n B dX6_rowsTo_31 2 rfl ?_
      exact g_ireturn B hr rfl (by decide) (by decide) rfl dX6_rowsTo_32
set_option maxRecDepth 20000 in
set_option maxHeartbeats 2000000 in
theorem g6_rowsTo {X : gX} {p : Program} {l : Launch} {e : Env} {s : State} {m : MethodId} {args : Array Value} {below : List Frame} {meth : Method} {c : Code} (B : gB X p (rm6_rowsTo) s m args meth c RX6 cX6_rowsTo 4 (rm6_rowsTo)) (hS9 : gS X s) (hr : meth.sig.returnType = some .int) {M : mMem} (a0 : Nat) (x1 : Int32) : GG X p l e (rm6_rowsTo) s m args below meth c (gP X below args s 0 0 (fun r9 : Int32 => (some (.int r9), M))) 4 0 0 0 [(0, .ref a0), (1, .int x1)] [] M (p6_rowsTo a0 x1 M) := by
  unfold p6_rowsTo
  refine g_gd ?_
  refine g_iconst (v := 0) B dX6_rowsTo_0 (by decide) ?_
  refine g_istore_n (lv' := [(2, .int 0), (0, .ref a0), (1, .int x1)]) B dX6_rowsTo_1 (by decide) [0, 1, 2] rfl ?_
  refine g_iconst (v := 0) B dX6_rowsTo_2 (by decide) ?_
  refine g_istore_n (lv' := [(3, .int 0), (2, .int 0), (0, .ref a0), (1, .int x1)]) B dX6_rowsTo_3 (by decide) [0, 1, 2, 3] rfl ?_
  refine g_sub (lv' := [(0, .ref a0), (1, .int x1), (2, .int 0), (3, .int 0)]) [2, 3, 1, 0] rfl ?_
  exact (g6_rowsTo_L4 B hS9 hr) gF a0 x1 0 0
theorem c6_rowsTo (X : gX) (l : Launch) (a0 : Nat) (x1 : Int32) (M : mMem) : Con X l yX6_rowsTo cX6_rowsTo 4 (some .int) rm6_rowsTo (fun r9 : Int32 => (some (.int r9), M)) [.ref a0, .int x1] M (p6_rowsTo a0 x1 M) := g_con (own := RX6) (by decide +kernel) rfl (Nat.le_of_ble_eq_true rfl) (fun p e s m args below meth c B hS9 hr hn => g6_rowsTo B hS9 hr a0 x1)
theorem mf6_latestDayTo : gMF yX6_latestDayTo cX6_latestDayTo 3 (some .int) 1 := ⟨wd_1618, wd_4, ⟨by decide, by decide⟩, by decide +kernel⟩
set_option maxRecDepth 20000 in
set_option maxHeartbeats 2000000 in
theorem g6_latestDayTo_L2 {X : gX} {p : Program} {l : Launch} {e : Env} {s : State} {m : MethodId} {args : Array Value} {below : List Frame} {meth : Method} {c : Code} (B : gB X p (rm6_latestDayTo) s m args meth c RX6 cX6_latestDayTo 3 (rm6_latestDayTo)) (hS9 : gS X s) (hr : meth.sig.returnType = some .int) {M : mMem} : ∀ (n : Nat) (a0 : Nat) (x1 : Int32) (x2 : Int32), GG X p l e (rm6_latestDayTo) s m args below meth c (gP X below args s 0 0 (fun r9 : Int32 => (some (.int r9), M))) 3 0 0 2 [(0, .ref a0), (1, .int x1), (2, .int x2)] [] M (p6_latestDayTo_L2 M n a0 x1 x2) := by
  intro n
  induction n with
  | zero => intro a0 x1 x2; exact g_none
  | succ n ih =>
    intro a0 x1 x2
    rw [p6_latestDayTo_L2]
    refine g_iload_n B dX6_latestDayTo_2 2 rfl ?_
    refine g_aload_n B dX6_latestDayTo_3 0 rfl ?_
    refine g_getI (ci := 6) (T0 := TX6) (N := 3) B (by decide) rfl in_6 (k := 2) (by decide) rfl wd_125 (fun _ h => h) dX6_latestDayTo_4 (fun v_1 => ?_)
    refine g_icmp_ge B 33 dX6_latestDayTo_7 (by decide) ?_ ?_
    · refine g_aload_n B dX6_latestDayTo_10 0 rfl ?_
      refine g_iload_n B dX6_latestDayTo_11 2 rfl ?_
      refine g_iconst (v := 2) B dX6_latestDayTo_12 (by decide) ?_
      refine g_callV_ip [.int x2, .int 2] (ci := 6) (T0 := TX6) (N := 3) B hS9 mf6_cell wd_1113 (gw B wd_1114) wd_1112 (by decide) rfl (fun h => (gd_ne h).1) (c6_cell X l a0 x2 2 M) (by decide) (by decide) (by decide) rfl (by decide) dX6_latestDayTo_13 rfl (fun v_2 => ?_)
      refine g_iload_n B dX6_latestDayTo_16 1 rfl ?_
      refine g_icmp_ne B 27 dX6_latestDayTo_17 (by decide) ?_ ?_
      · refine g_aload_n B dX6_latestDayTo_20 0 rfl ?_
        refine g_iload_n B dX6_latestDayTo_21 2 rfl ?_
        refine g_iconst (v := 0) B dX6_latestDayTo_22 (by decide) ?_
        refine g_callV_ip [.int x2, .int 0] (ci := 6) (T0 := TX6) (N := 3) B hS9 mf6_cell wd_1113 (gw B wd_1114) wd_1112 (by decide) rfl (fun h => (gd_ne h).1) (c6_cell X l a0 x2 0 M) (by decide) (by decide) (by decide) rfl (by decide) dX6_latestDayTo_23 rfl (fun v_3 => ?_)
        exact g_ireturn B hr rfl (by decide) (by decide) rfl dX6_latestDayTo_26
      · refine g_iinc (v := (x2 + 1)) (lv' := [(2, .int (x2 + 1)), (0, .ref a0), (1, .int x1)]) B dX6_latestDayTo_27 2 rfl rfl (by decide) [0, 1, 2] rfl ?_
        refine g_goto B 2 dX6_latestDayTo_30 (by decide) ?_
        refine g_sub (lv' := [(0, .ref a0), (1, .int x1), (2, .int (x2 + 1))]) [1, 2, 0] rfl ?_
        exact ih a0 x1 (x2 + 1)
    · refine g_iconst (v := (-1)) B dX6_latestDayTo_33 (by decide) ?_
      exact g_ireturn B hr rfl (by decide) (by decide) rfl dX6_latestDayTo_34
set_option maxRecDepth 20000 in
set_option maxHeartbeats 2000000 in
theorem g6_latestDayTo {X : gX} {p : Program} {l : Launch} {e : Env} {s : State} {m : MethodId} {args : Array Value} {below : List Frame} {meth : Method} {c : Code} (B : gB X p (rm6_latestDayTo) s m args meth c RX6 cX6_latestDayTo 3 (rm6_latestDayTo)) (hS9 : gS X s) (hr : meth.sig.returnType = some .int) {M : mMem} (a0 : Nat) (x1 : Int32) : GG X p l e (rm6_latestDayTo) s m args below meth c (gP X below args s 0 0 (fun r9 : Int32 => (some (.int r9), M))) 3 0 0 0 [(0, .ref a0), (1, .int x1)] [] M (p6_latestDayTo a0 x1 M) := by
  unfold p6_latestDayTo
  refine g_gd ?_
  refine g_iconst (v := 0) B dX6_latestDayTo_0 (by decide) ?_
  refine g_istore_n (lv' := [(2, .int 0), (0, .ref a0), (1, .int x1)]) B dX6_latestDayTo_1 (by decide) [0, 1, 2] rfl ?_
  refine g_sub (lv' := [(0, .ref a0), (1, .int x1), (2, .int 0)]) [1, 2, 0] rfl ?_
  exact (g6_latestDayTo_L2 B hS9 hr) gF a0 x1 0
theorem c6_latestDayTo (X : gX) (l : Launch) (a0 : Nat) (x1 : Int32) (M : mMem) : Con X l yX6_latestDayTo cX6_latestDayTo 3 (some .int) rm6_latestDayTo (fun r9 : Int32 => (some (.int r9), M)) [.ref a0, .int x1] M (p6_latestDayTo a0 x1 M) := g_con (own := RX6) (by decide +kernel) rfl (Nat.le_of_ble_eq_true rfl) (fun p e s m args below meth c B hS9 hr hn => g6_latestDayTo B hS9 hr a0 x1)
theorem mf7_init : gMF yX7_init cX7_init 2 (none) 1 := ⟨wd_349, wd_11, ⟨by decide, by decide⟩, by decide +kernel⟩
set_option maxRecDepth 20000 in
set_option maxHeartbeats 2000000 in
theorem g7_init {X : gX} {p : Program} {l : Launch} {e : Env} {s : State} {m : MethodId} {args : Array Value} {below : List Frame} {meth : Method} {c : Code} (B : gB X p (rm7_init) s m args meth c RX7 cX7_init 2 (rm7_init)) (hS9 : gS X s) (hr : meth.sig.returnType = none) (hin2 : meth.name = "<init>") (a0 : Nat) (a1 : Nat) (M : mMem) : GG X p l e (rm7_init) s m args below meth c (gP X below args s 3 24 (fun M9 : mMem => (none, M9))) 2 0 0 0 [(0, .ref a0), (1, .ref a1)] [] M (p7_init a0 a1 M) := by
  unfold p7_init
  refine g_gd ?_
  refine g_aload_n B dX7_init_0 0 rfl ?_
  refine g_objinit B wd_350 wd_36 wd_37 (by decide) (by decide) dX7_init_1 ?_
  refine g_aload_n B dX7_init_4 0 rfl ?_
  refine g_bipush (v := 8) B dX7_init_5 (by decide) ?_
  refine g_newarrayI (N := 8) B wd_116 (by decide +kernel) (by decide +kernel) (by decide +kernel) (by decide) dX7_init_7 (fun n_1 => ?_)
  refine g_putRF (ci := 7) (T0 := TX7) (N := 6) B (by decide) rfl in_7 tyX7 tyX7_ok nmX7 (k := 1) (by decide) wd_352 (fun _ h => h) rfl rfl hin2 rfl (ty := (.array .int)) (by decide +kernel) rfl rfl dX7_init_9 (fun M_2 => ?_)
  refine g_aload_n B dX7_init_12 0 rfl ?_
  refine g_bipush (v := 8) B dX7_init_13 (by decide) ?_
  refine g_newarrayI (N := 8) B wd_116 (by decide +kernel) (by decide +kernel) (by decide +kernel) (by decide) dX7_init_15 (fun n_3 => ?_)
  refine g_putRF (ci := 7) (T0 := TX7) (N := 6) B (by decide) rfl in_7 tyX7 tyX7_ok nmX7 (k := 2) (by decide) wd_353 (fun _ h => h) rfl rfl hin2 rfl (ty := (.array .int)) (by decide +kernel) rfl rfl dX7_init_17 (fun M_4 => ?_)
  refine g_aload_n B dX7_init_20 0 rfl ?_
  refine g_bipush (v := 8) B dX7_init_21 (by decide) ?_
  refine g_newarrayI (N := 8) B wd_116 (by decide +kernel) (by decide +kernel) (by decide +kernel) (by decide) dX7_init_23 (fun n_5 => ?_)
  refine g_putRF (ci := 7) (T0 := TX7) (N := 6) B (by decide) rfl in_7 tyX7 tyX7_ok nmX7 (k := 3) (by decide) wd_354 (fun _ h => h) rfl rfl hin2 rfl (ty := (.array .int)) (by decide +kernel) rfl rfl dX7_init_25 (fun M_6 => ?_)
  refine g_aload_n B dX7_init_28 0 rfl ?_
  refine g_iconst (v := 0) B dX7_init_29 (by decide) ?_
  refine g_putI (ci := 7) (T0 := TX7) (N := 6) B (by decide) rfl in_7 tyX7 tyX7_ok nmX7 (k := 4) (by decide) wd_355 (fun _ h => h) rfl rfl (ty := .int) (by decide +kernel) rfl rfl dX7_init_30 (fun M_7 => ?_)
  refine g_aload_n B dX7_init_33 0 rfl ?_
  refine g_iconst (v := 0) B dX7_init_34 (by decide) ?_
  refine g_putI (ci := 7) (T0 := TX7) (N := 6) B (by decide) rfl in_7 tyX7 tyX7_ok nmX7 (k := 5) (by decide) wd_357 (fun _ h => h) rfl rfl (ty := .int) (by decide +kernel) rfl rfl dX7_init_35 (fun M_8 => ?_)
  refine g_aload_n B dX7_init_38 0 rfl ?_
  refine g_aload_n B dX7_init_39 1 rfl ?_
  refine g_putRF (ci := 7) (T0 := TX7) (N := 6) B (by decide) rfl in_7 tyX7 tyX7_ok nmX7 (k := 0) (by decide) wd_351 (fun _ h => h) rfl rfl hin2 rfl (ty := (.object "CribLine$Family")) (by decide +kernel) rfl rfl dX7_init_40 (fun M_9 => ?_)
  exact g_vreturn B hr (by decide) (by decide) rfl dX7_init_43
theorem c7_init (X : gX) (l : Launch) (a0 : Nat) (a1 : Nat) (M : mMem) : Con X l yX7_init cX7_init 2 (none) rm7_init (fun M9 : mMem => (none, M9)) [.ref a0, .ref a1] M (p7_init a0 a1 M) := g_con (own := RX7) (by decide +kernel) rfl (Nat.le_of_ble_eq_true rfl) (fun p e s m args below meth c B hS9 hr hn => g7_init B hS9 hr hn a0 a1 M)
theorem mf7_isSingle : gMF yX7_isSingle cX7_isSingle 3 (some .boolean) 2 := ⟨wd_584, wd_11, ⟨by decide, by decide⟩, by decide +kernel⟩
set_option maxRecDepth 20000 in
set_option maxHeartbeats 2000000 in
theorem g7_isSingle_J46 {X : gX} {p : Program} {l : Launch} {e : Env} {s : State} {m : MethodId} {args : Array Value} {below : List Frame} {meth : Method} {c : Code} (B : gB X p (rm7_isSingle) s m args meth c RX7 cX7_isSingle 3 (rm7_isSingle)) (hS9 : gS X s) (hr : meth.sig.returnType = some .boolean) {M : mMem} (u0 : Int32) : GG X p l e (rm7_isSingle) s m args below meth c (gP X below args s 0 0 (fun r9 : Int32 => (some (.int r9), M))) 3 0 0 46 [] [.int u0] M (p7_isSingle_J46 M u0) := by
  unfold p7_isSingle_J46
  exact g_zreturn (f := fun z => z) B hr (by decide) (by decide) rfl dX7_isSingle_46
set_option maxRecDepth 20000 in
set_option maxHeartbeats 2000000 in
theorem g7_isSingle_J45 {X : gX} {p : Program} {l : Launch} {e : Env} {s : State} {m : MethodId} {args : Array Value} {below : List Frame} {meth : Method} {c : Code} (B : gB X p (rm7_isSingle) s m args meth c RX7 cX7_isSingle 3 (rm7_isSingle)) (hS9 : gS X s) (hr : meth.sig.returnType = some .boolean) {M : mMem} : GG X p l e (rm7_isSingle) s m args below meth c (gP X below args s 0 0 (fun r9 : Int32 => (some (.int r9), M))) 3 0 0 45 [] [] M (p7_isSingle_J45 M) := by
  unfold p7_isSingle_J45
  refine g_iconst (v := 0) B dX7_isSingle_45 (by decide) ?_
  refine g_sub (lv' := []) [] rfl ?_
  exact g7_isSingle_J46 B hS9 hr 0
set_option maxRecDepth 20000 in
set_option maxHeartbeats 2000000 in
theorem g7_isSingle {X : gX} {p : Program} {l : Launch} {e : Env} {s : State} {m : MethodId} {args : Array Value} {below : List Frame} {meth : Method} {c : Code} (B : gB X p (rm7_isSingle) s m args meth c RX7 cX7_isSingle 3 (rm7_isSingle)) (hS9 : gS X s) (hr : meth.sig.returnType = some .boolean) {M : mMem} (a0 : Nat) (x1 : Int32) (x2 : Int32) : GG X p l e (rm7_isSingle) s m args below meth c (gP X below args s 0 0 (fun r9 : Int32 => (some (.int r9), M))) 3 0 0 0 [(0, .ref a0), (1, .int x1), (2, .int x2)] [] M (p7_isSingle a0 x1 x2 M) := by
  unfold p7_isSingle
  refine g_gd ?_
  refine g_aload_n B dX7_isSingle_0 0 rfl ?_
  refine g_getR (ci := 7) (T0 := TX7) (N := 6) B (by decide) rfl in_7 (k := 0) (by decide) rfl wd_351 (fun _ h => h) dX7_isSingle_1 (fun v_1 => ?_)
  refine g_iload_n B dX7_isSingle_4 1 rfl ?_
  refine g_callV_ip [.int x1] (ci := 2) (T0 := TX2) (N := 11) B hS9 mf2_has wd_503 (gw B wd_504) wd_585 (by decide) rfl (fun h => (gd_ne h).1) (c2_has X l v_1 x1 M) (by decide) (by decide) (by decide) rfl (by decide) dX7_isSingle_5 rfl (fun v_2 => ?_)
  refine g_if_eq B 45 dX7_isSingle_8 (by decide) ?_ ?_
  · refine g_sub (lv' := []) [] rfl ?_
    exact g7_isSingle_J45 B hS9 hr
  · refine g_aload_n B dX7_isSingle_11 0 rfl ?_
    refine g_getR (ci := 7) (T0 := TX7) (N := 6) B (by decide) rfl in_7 (k := 0) (by decide) rfl wd_351 (fun _ h => h) dX7_isSingle_12 (fun v_3 => ?_)
    refine g_iload_n B dX7_isSingle_15 1 rfl ?_
    refine g_callV_ap [.int x1] (ci := 2) (T0 := TX2) (N := 11) B hS9 mf2_at wd_466 (gw B wd_467) wd_586 (by decide) rfl (fun h => (gd_ne h).1) (c2_at X l v_3 x1 M) (by decide) (by decide) (by decide) rfl (by decide) dX7_isSingle_16 rfl (fun v_4 => ?_)
    refine g_getI (ci := 8) (T0 := TX8) (N := 9) B (by decide) rfl in_8 (k := 2) (by decide) rfl wd_65 (fun _ h => h) dX7_isSingle_19 (fun v_5 => ?_)
    refine g_iload_n B dX7_isSingle_22 2 rfl ?_
    refine g_icmp_ne B 45 dX7_isSingle_23 (by decide) ?_ ?_
    · refine g_aload_n B dX7_isSingle_26 0 rfl ?_
      refine g_getR (ci := 7) (T0 := TX7) (N := 6) B (by decide) rfl in_7 (k := 0) (by decide) rfl wd_351 (fun _ h => h) dX7_isSingle_27 (fun v_6 => ?_)
      refine g_iload_n B dX7_isSingle_30 1 rfl ?_
      refine g_callV_ap [.int x1] (ci := 2) (T0 := TX2) (N := 11) B hS9 mf2_at wd_466 (gw B wd_467) wd_586 (by decide) rfl (fun h => (gd_ne h).1) (c2_at X l v_6 x1 M) (by decide) (by decide) (by decide) rfl (by decide) dX7_isSingle_31 rfl (fun v_7 => ?_)
      refine g_getI (ci := 8) (T0 := TX8) (N := 9) B (by decide) rfl in_8 (k := 4) (by decide) rfl wd_74 (fun _ h => h) dX7_isSingle_34 (fun v_8 => ?_)
      refine g_iconst (v := (-1)) B dX7_isSingle_37 (by decide) ?_
      refine g_icmp_ne B 45 dX7_isSingle_38 (by decide) ?_ ?_
      · refine g_iconst (v := 1) B dX7_isSingle_41 (by decide) ?_
        refine g_goto B 46 dX7_isSingle_42 (by decide) ?_
        refine g_sub (lv' := []) [] rfl ?_
        exact g7_isSingle_J46 B hS9 hr 1
      · refine g_sub (lv' := []) [] rfl ?_
        exact g7_isSingle_J45 B hS9 hr
    · refine g_sub (lv' := []) [] rfl ?_
      exact g7_isSingle_J45 B hS9 hr
theorem c7_isSingle (X : gX) (l : Launch) (a0 : Nat) (x1 : Int32) (x2 : Int32) (M : mMem) : Con X l yX7_isSingle cX7_isSingle 3 (some .boolean) rm7_isSingle (fun r9 : Int32 => (some (.int r9), M)) [.ref a0, .int x1, .int x2] M (p7_isSingle a0 x1 x2 M) := g_con (own := RX7) (by decide +kernel) rfl (Nat.le_of_ble_eq_true rfl) (fun p e s m args below meth c B hS9 hr hn => g7_isSingle B hS9 hr a0 x1 x2)
theorem mf7_matchFrom : gMF yX7_matchFrom cX7_matchFrom 5 (none) 3 := ⟨wd_579, wd_11, ⟨by decide, by decide⟩, by decide +kernel⟩
set_option maxRecDepth 20000 in
set_option maxHeartbeats 2000000 in
theorem g7_matchFrom_J69 {X : gX} {p : Program} {l : Launch} {e : Env} {s : State} {m : MethodId} {args : Array Value} {below : List Frame} {meth : Method} {c : Code} (d : Nat) (B : gB X p (rmG2 (d + 1)) s m args meth c RX7 cX7_matchFrom 5 (rmG2 (d + 1))) (hS9 : gS X s) (hr : meth.sig.returnType = none) (M : mMem) : GG X p l e (rmG2 (d + 1)) s m args below meth c (gP X below args s 0 0 (fun M9 : mMem => (none, M9))) 5 0 0 69 [] [] M (p7_matchFrom_J69 M) := by
  unfold p7_matchFrom_J69
  exact g_vreturn B hr (Nat.le_refl 0) (Nat.le_refl 0) rfl dX7_matchFrom_69
set_option maxRecDepth 20000 in
set_option maxHeartbeats 2000000 in
theorem g7_matchFrom_J41 {X : gX} {p : Program} {l : Launch} {e : Env} {s : State} {m : MethodId} {args : Array Value} {below : List Frame} {meth : Method} {c : Code} (d : Nat) (B : gB X p (rmG2 (d + 1)) s m args meth c RX7 cX7_matchFrom 5 (rmG2 (d + 1))) (hS9 : gS X s) (hr : meth.sig.returnType = none) (a0 : Nat) (x2 : Int32) (x3 : Int32) (M : mMem) : GG X p l e (rmG2 (d + 1)) s m args below meth c (gP X below args s 0 0 (fun M9 : mMem => (none, M9))) 5 0 0 41 [(0, .ref a0), (2, .int x2), (3, .int x3)] [] M (p7_matchFrom_J41 a0 x2 x3 M) := by
  unfold p7_matchFrom_J41
  refine g_aload_n B dX7_matchFrom_41 0 rfl ?_
  refine g_iload_n B dX7_matchFrom_42 1 rfl ?_
  refine g_putI (ci := 7) (T0 := TX7) (N := 6) B (by decide) rfl in_7 tyX7 tyX7_ok nmX7 (k := 4) (by decide) wd_355 (fun _ h => h) rfl rfl (ty := .int) (by decide +kernel) rfl rfl dX7_matchFrom_43 (fun M_1 => ?_)
  refine g_aload_n B dX7_matchFrom_46 0 rfl ?_
  refine g_iload_n B dX7_matchFrom_47 2 rfl ?_
  refine g_putI (ci := 7) (T0 := TX7) (N := 6) B (by decide) rfl in_7 tyX7 tyX7_ok nmX7 (k := 5) (by decide) wd_357 (fun _ h => h) rfl rfl (ty := .int) (by decide +kernel) rfl rfl dX7_matchFrom_48 (fun M_2 => ?_)
  refine g_aload_n B dX7_matchFrom_51 0 rfl ?_
  refine g_getR (ci := 7) (T0 := TX7) (N := 6) B (by decide) rfl in_7 (k := 1) (by decide) rfl wd_352 (fun _ h => h) dX7_matchFrom_52 (fun v_3 => ?_)
  refine g_iconst (v := 0) B dX7_matchFrom_55 (by decide) ?_
  refine g_aload_n B dX7_matchFrom_56 0 rfl ?_
  refine g_getR (ci := 7) (T0 := TX7) (N := 6) B (by decide) rfl in_7 (k := 2) (by decide) rfl wd_353 (fun _ h => h) dX7_matchFrom_57 (fun v_4 => ?_)
  refine g_iconst (v := 0) B dX7_matchFrom_60 (by decide) ?_
  refine g_aload_n B dX7_matchFrom_61 0 rfl ?_
  refine g_getR (ci := 7) (T0 := TX7) (N := 6) B (by decide) rfl in_7 (k := 2) (by decide) rfl wd_353 (fun _ h => h) dX7_matchFrom_62 (fun v_5 => ?_)
  refine g_alen B dX7_matchFrom_65 (fun v_6 => ?_)
  refine g_copyI B wd_580 wd_475 wd_474 wd_14 (by simp only [rmG2]; omega) (Nat.le_of_ble_eq_true rfl) dX7_matchFrom_66 (fun M_7 => ?_)
  refine g_sub (lv' := []) [] rfl ?_
  exact g7_matchFrom_J69 d B hS9 hr M_7
set_option maxRecDepth 20000 in
set_option maxHeartbeats 2000000 in
theorem g7_matchFrom_J17 {X : gX} {p : Program} {l : Launch} {e : Env} {s : State} {m : MethodId} {args : Array Value} {below : List Frame} {meth : Method} {c : Code} (d : Nat) (B : gB X p (rmG2 (d + 1)) s m args meth c RX7 cX7_matchFrom 5 (rmG2 (d + 1))) (hS9 : gS X s) (hr : meth.sig.returnType = none) (a0 : Nat) (x2 : Int32) (x3 : Int32) (M : mMem) : GG X p l e (rmG2 (d + 1)) s m args below meth c (gP X below args s 0 0 (fun M9 : mMem => (none, M9))) 5 0 0 17 [(0, .ref a0), (2, .int x2), (3, .int x3)] [] M (p7_matchFrom_J17 a0 x2 x3 M) := by
  unfold p7_matchFrom_J17
  refine g_iload_n B dX7_matchFrom_17 1 rfl ?_
  refine g_aload_n B dX7_matchFrom_18 0 rfl ?_
  refine g_getI (ci := 7) (T0 := TX7) (N := 6) B (by decide) rfl in_7 (k := 4) (by decide) rfl wd_355 (fun _ h => h) dX7_matchFrom_19 (fun v_1 => ?_)
  refine g_icmp_gt B 41 dX7_matchFrom_22 (by decide) ?_ ?_
  · refine g_sub (lv' := [(0, .ref a0), (2, .int x2), (3, .int x3)]) [0, 1, 2] rfl ?_
    exact g7_matchFrom_J41 d B hS9 hr a0 x2 x3 M
  · refine g_iload_n B dX7_matchFrom_25 1 rfl ?_
    refine g_aload_n B dX7_matchFrom_26 0 rfl ?_
    refine g_getI (ci := 7) (T0 := TX7) (N := 6) B (by decide) rfl in_7 (k := 4) (by decide) rfl wd_355 (fun _ h => h) dX7_matchFrom_27 (fun v_2 => ?_)
    refine g_icmp_ne B 69 dX7_matchFrom_30 (by decide) ?_ ?_
    · refine g_iload_n B dX7_matchFrom_33 2 rfl ?_
      refine g_aload_n B dX7_matchFrom_34 0 rfl ?_
      refine g_getI (ci := 7) (T0 := TX7) (N := 6) B (by decide) rfl in_7 (k := 5) (by decide) rfl wd_357 (fun _ h => h) dX7_matchFrom_35 (fun v_3 => ?_)
      refine g_icmp_ge B 69 dX7_matchFrom_38 (by decide) ?_ ?_
      · refine g_sub (lv' := [(0, .ref a0), (2, .int x2), (3, .int x3)]) [0, 1, 2] rfl ?_
        exact g7_matchFrom_J41 d B hS9 hr a0 x2 x3 M
      · refine g_sub (lv' := []) [] rfl ?_
        exact g7_matchFrom_J69 d B hS9 hr M
    · refine g_sub (lv' := []) [] rfl ?_
      exact g7_matchFrom_J69 d B hS9 hr M
set_option maxRecDepth 20000 in
set_option maxHeartbeats 2000000 in
theorem g7_matchFrom_J182 {X : gX} {p : Program} {l : Launch} {e : Env} {s : State} {m : MethodId} {args : Array Value} {below : List Frame} {meth : Method} {c : Code} (d : Nat) (B : gB X p (rmG2 (d + 1)) s m args meth c RX7 cX7_matchFrom 5 (rmG2 (d + 1))) (hS9 : gS X s) (hr : meth.sig.returnType = none) (f_7_matchFrom : Nat → Int32 → Int32 → Int32 → mMem → Option mMem) (hf_7_matchFrom : ∀ (a0 : Nat) (x1 : Int32) (x2 : Int32) (x3 : Int32) (M : mMem), Con X l yX7_matchFrom cX7_matchFrom 5 (none) (rmG2 d) (fun M9 : mMem => (none, M9)) [.ref a0, .int x1, .int x2, .int x3] M (f_7_matchFrom a0 x1 x2 x3 M)) (hk_7_matchFrom : ∀ (a0 : Nat) (x1 : Int32) (x2 : Int32) (x3 : Int32) (M : mMem), f_7_matchFrom a0 x1 x2 x3 M ≠ none → mK M a0 = 8) (a0 : Nat) (x1 : Int32) (x2 : Int32) (x3 : Int32) (M : mMem) : GG X p l e (rmG2 (d + 1)) s m args below meth c (gP X below args s 0 0 (fun M9 : mMem => (none, M9))) 5 0 0 182 [(0, .ref a0), (1, .int x1), (2, .int x2), (3, .int x3)] [] M (p7_matchFrom_J182 f_7_matchFrom a0 x1 x2 x3 M) := by
  unfold p7_matchFrom_J182
  refine g_aload_n B dX7_matchFrom_182 0 rfl ?_
  refine g_iload_n B dX7_matchFrom_183 1 rfl ?_
  refine g_iconst (v := 1) B dX7_matchFrom_184 (by decide) ?_
  refine g_iadd B dX7_matchFrom_185 ?_
  refine g_iload_n B dX7_matchFrom_186 2 rfl ?_
  refine g_iload_n B dX7_matchFrom_187 3 rfl ?_
  refine g_callV_vw [.int (x1 + 1), .int x2, .int x3] (ci := 7) (T0 := TX7) (N := 6) B hS9 mf7_matchFrom wd_578 (gw B wp_5) wd_576 (by decide) rfl (hk_7_matchFrom a0 (x1 + 1) x2 x3 M) (hf_7_matchFrom a0 (x1 + 1) x2 x3 M) (by simp only [rmG2]; omega) (by simp only [rmG2]; omega) ⟨Nat.le_refl 0, Nat.le_refl 0⟩ rfl (by decide) dX7_matchFrom_188 rfl (fun q_1 => ?_)
  exact g_vreturn B hr (Nat.le_refl 0) (Nat.le_refl 0) rfl dX7_matchFrom_191
set_option maxRecDepth 20000 in
set_option maxHeartbeats 2000000 in
theorem g7_matchFrom_J176 {X : gX} {p : Program} {l : Launch} {e : Env} {s : State} {m : MethodId} {args : Array Value} {below : List Frame} {meth : Method} {c : Code} (d : Nat) (B : gB X p (rmG2 (d + 1)) s m args meth c RX7 cX7_matchFrom 5 (rmG2 (d + 1))) (hS9 : gS X s) (hr : meth.sig.returnType = none) (rec82 : Nat → Int32 → Int32 → Int32 → Int32 → mMem → Option mMem) (hrec82 : ∀ (a0 : Nat) (x1 : Int32) (x2 : Int32) (x3 : Int32) (x4 : Int32) (M : mMem), GG X p l e (rmG2 (d + 1)) s m args below meth c (gP X below args s 0 0 (fun M9 : mMem => (none, M9))) 5 0 0 82 [(0, .ref a0), (1, .int x1), (2, .int x2), (3, .int x3), (4, .int x4)] [] M (rec82 a0 x1 x2 x3 x4 M)) (a0 : Nat) (x1 : Int32) (x2 : Int32) (x3 : Int32) (x4 : Int32) (M : mMem) : GG X p l e (rmG2 (d + 1)) s m args below meth c (gP X below args s 0 0 (fun M9 : mMem => (none, M9))) 5 0 0 176 [(0, .ref a0), (1, .int x1), (2, .int x2), (3, .int x3), (4, .int x4)] [] M (p7_matchFrom_J176 rec82 a0 x1 x2 x3 x4 M) := by
  unfold p7_matchFrom_J176
  refine g_iinc (v := (x4 + 1)) (lv' := [(4, .int (x4 + 1)), (0, .ref a0), (1, .int x1), (2, .int x2), (3, .int x3)]) B dX7_matchFrom_176 4 rfl rfl (by decide) [0, 1, 2, 3, 4] rfl ?_
  refine g_goto B 82 dX7_matchFrom_179 (by decide) ?_
  refine g_sub (lv' := [(0, .ref a0), (1, .int x1), (2, .int x2), (3, .int x3), (4, .int (x4 + 1))]) [1, 2, 3, 4, 0] rfl ?_
  exact hrec82 a0 x1 x2 x3 (x4 + 1) M
set_option maxRecDepth 20000 in
set_option maxHeartbeats 2000000 in
theorem g7_matchFrom_L82 {X : gX} {p : Program} {l : Launch} {e : Env} {s : State} {m : MethodId} {args : Array Value} {below : List Frame} {meth : Method} {c : Code} (d : Nat) (B : gB X p (rmG2 (d + 1)) s m args meth c RX7 cX7_matchFrom 5 (rmG2 (d + 1))) (hS9 : gS X s) (hr : meth.sig.returnType = none) (f_7_matchFrom : Nat → Int32 → Int32 → Int32 → mMem → Option mMem) (hf_7_matchFrom : ∀ (a0 : Nat) (x1 : Int32) (x2 : Int32) (x3 : Int32) (M : mMem), Con X l yX7_matchFrom cX7_matchFrom 5 (none) (rmG2 d) (fun M9 : mMem => (none, M9)) [.ref a0, .int x1, .int x2, .int x3] M (f_7_matchFrom a0 x1 x2 x3 M)) (hk_7_matchFrom : ∀ (a0 : Nat) (x1 : Int32) (x2 : Int32) (x3 : Int32) (M : mMem), f_7_matchFrom a0 x1 x2 x3 M ≠ none → mK M a0 = 8) (k182 : Nat → Int32 → Int32 → Int32 → mMem → Option mMem) (hk182 : ∀ (a0 : Nat) (x1 : Int32) (x2 : Int32) (x3 : Int32) (M : mMem), GG X p l e (rmG2 (d + 1)) s m args below meth c (gP X below args s 0 0 (fun M9 : mMem => (none, M9))) 5 0 0 182 [(0, .ref a0), (1, .int x1), (2, .int x2), (3, .int x3)] [] M (k182 a0 x1 x2 x3 M)) : ∀ (n : Nat) (a0 : Nat) (x1 : Int32) (x2 : Int32) (x3 : Int32) (x4 : Int32) (M : mMem), GG X p l e (rmG2 (d + 1)) s m args below meth c (gP X below args s 0 0 (fun M9 : mMem => (none, M9))) 5 0 0 82 [(0, .ref a0), (1, .int x1), (2, .int x2), (3, .int x3), (4, .int x4)] [] M (p7_matchFrom_L82 f_7_matchFrom k182 n a0 x1 x2 x3 x4 M) := by
  intro n
  induction n with
  | zero => intro a0 x1 x2 x3 x4 M; exact g_none
  | succ n ih =>
    intro a0 x1 x2 x3 x4 M
    rw [p7_matchFrom_L82]
    refine g_iload B dX7_matchFrom_82 4 rfl ?_
    refine g_bipush (v := 8) B dX7_matchFrom_84 (by decide) ?_
    refine g_icmp_ge B 182 dX7_matchFrom_86 (by decide) ?_ ?_
    · refine g_aload_n B dX7_matchFrom_89 0 rfl ?_
      refine g_iload B dX7_matchFrom_90 4 rfl ?_
      refine g_iconst (v := 1) B dX7_matchFrom_92 (by decide) ?_
      refine g_callV_ip [.int x4, .int 1] (ci := 7) (T0 := TX7) (N := 6) B hS9 mf7_isSingle wd_583 (gw B wp_6) wd_581 (by decide) rfl (fun h => (gd_ne h).1) (c7_isSingle X l a0 x4 1 M) (by simp only [rmG2, rm7_isSingle]; omega) (by simp only [rmG2, rm7_isSingle]; omega) ⟨Nat.le_refl 0, Nat.le_refl 0⟩ rfl (by decide) dX7_matchFrom_93 rfl (fun v_1 => ?_)
      refine g_if_eq B 176 dX7_matchFrom_96 (by decide) ?_ ?_
      · refine g_sub (lv' := [(0, .ref a0), (1, .int x1), (2, .int x2), (3, .int x3), (4, .int x4)]) [0, 1, 2, 3, 4] rfl ?_
        exact g7_matchFrom_J176 d B hS9 hr (p7_matchFrom_L82 f_7_matchFrom k182 n) ih a0 x1 x2 x3 x4 M
      · refine g_aload_n B dX7_matchFrom_99 0 rfl ?_
        refine g_getR (ci := 7) (T0 := TX7) (N := 6) B (by decide) rfl in_7 (k := 1) (by decide) rfl wd_352 (fun _ h => h) dX7_matchFrom_100 (fun v_2 => ?_)
        refine g_iload B dX7_matchFrom_103 4 rfl ?_
        refine g_iaload B dX7_matchFrom_105 (fun v_3 => ?_)
        refine g_iconst (v := (-1)) B dX7_matchFrom_106 (by decide) ?_
        refine g_icmp_ne B 176 dX7_matchFrom_107 (by decide) ?_ ?_
        · refine g_aload_n B dX7_matchFrom_110 0 rfl ?_
          refine g_getR (ci := 7) (T0 := TX7) (N := 6) B (by decide) rfl in_7 (k := 0) (by decide) rfl wd_351 (fun _ h => h) dX7_matchFrom_111 (fun v_4 => ?_)
          refine g_iload_n B dX7_matchFrom_114 1 rfl ?_
          refine g_iload B dX7_matchFrom_115 4 rfl ?_
          refine g_callV_ip [.int x1, .int x4] (ci := 2) (T0 := TX2) (N := 11) B hS9 mf2_mayWed wd_588 (gw B wd_589) wd_587 (by decide) rfl (fun h => (gd_ne h).1) (c2_mayWed X l v_4 x1 x4 M) (by simp only [rmG2, rm2_mayWed]; omega) (by simp only [rmG2, rm2_mayWed]; omega) ⟨Nat.le_refl 0, Nat.le_refl 0⟩ rfl (by decide) dX7_matchFrom_117 rfl (fun v_5 => ?_)
          refine g_if_eq B 176 dX7_matchFrom_120 (by decide) ?_ ?_
          · refine g_sub (lv' := [(0, .ref a0), (1, .int x1), (2, .int x2), (3, .int x3), (4, .int x4)]) [0, 1, 2, 3, 4] rfl ?_
            exact g7_matchFrom_J176 d B hS9 hr (p7_matchFrom_L82 f_7_matchFrom k182 n) ih a0 x1 x2 x3 x4 M
          · refine g_aload_n B dX7_matchFrom_123 0 rfl ?_
            refine g_getR (ci := 7) (T0 := TX7) (N := 6) B (by decide) rfl in_7 (k := 1) (by decide) rfl wd_352 (fun _ h => h) dX7_matchFrom_124 (fun v_6 => ?_)
            refine g_iload_n B dX7_matchFrom_127 1 rfl ?_
            refine g_iload B dX7_matchFrom_128 4 rfl ?_
            refine g_iastore B dX7_matchFrom_130 (fun M_7 => ?_)
            refine g_aload_n B dX7_matchFrom_131 0 rfl ?_
            refine g_getR (ci := 7) (T0 := TX7) (N := 6) B (by decide) rfl in_7 (k := 1) (by decide) rfl wd_352 (fun _ h => h) dX7_matchFrom_132 (fun v_8 => ?_)
            refine g_iload B dX7_matchFrom_135 4 rfl ?_
            refine g_iload_n B dX7_matchFrom_137 1 rfl ?_
            refine g_iastore B dX7_matchFrom_138 (fun M_9 => ?_)
            refine g_aload_n B dX7_matchFrom_139 0 rfl ?_
            refine g_iload_n B dX7_matchFrom_140 1 rfl ?_
            refine g_iconst (v := 1) B dX7_matchFrom_141 (by decide) ?_
            refine g_iadd B dX7_matchFrom_142 ?_
            refine g_iload_n B dX7_matchFrom_143 2 rfl ?_
            refine g_iconst (v := 1) B dX7_matchFrom_144 (by decide) ?_
            refine g_iadd B dX7_matchFrom_145 ?_
            refine g_iload_n B dX7_matchFrom_146 3 rfl ?_
            refine g_aload_n B dX7_matchFrom_147 0 rfl ?_
            refine g_getR (ci := 7) (T0 := TX7) (N := 6) B (by decide) rfl in_7 (k := 0) (by decide) rfl wd_351 (fun _ h => h) dX7_matchFrom_148 (fun v_10 => ?_)
            refine g_iload_n B dX7_matchFrom_151 1 rfl ?_
            refine g_iload B dX7_matchFrom_152 4 rfl ?_
            refine g_callV_ip [.int x1, .int x4] (ci := 2) (T0 := TX2) (N := 11) B hS9 mf2_gapOf wd_596 (gw B wd_597) wd_595 (by decide) rfl (fun h => (gd_ne h).1) (c2_gapOf X l v_10 x1 x4 M_9) (by simp only [rmG2, rm2_gapOf]; omega) (by simp only [rmG2, rm2_gapOf]; omega) ⟨Nat.le_refl 0, Nat.le_refl 0⟩ rfl (Nat.le_of_ble_eq_true rfl) dX7_matchFrom_154 rfl (fun v_11 => ?_)
            refine g_iadd B dX7_matchFrom_157 ?_
            refine g_callV_vw [.int (x1 + 1), .int (x2 + 1), .int (x3 + v_11)] (ci := 7) (T0 := TX7) (N := 6) B hS9 mf7_matchFrom wd_578 (gw B wp_5) wd_576 (by decide) rfl (hk_7_matchFrom a0 (x1 + 1) (x2 + 1) (x3 + v_11) M_9) (hf_7_matchFrom a0 (x1 + 1) (x2 + 1) (x3 + v_11) M_9) (by simp only [rmG2]; omega) (by simp only [rmG2]; omega) ⟨Nat.le_refl 0, Nat.le_refl 0⟩ rfl (by decide) dX7_matchFrom_158 rfl (fun q_12 => ?_)
            refine g_aload_n B dX7_matchFrom_161 0 rfl ?_
            refine g_getR (ci := 7) (T0 := TX7) (N := 6) B (by decide) rfl in_7 (k := 1) (by decide) rfl wd_352 (fun _ h => h) dX7_matchFrom_162 (fun v_13 => ?_)
            refine g_iload_n B dX7_matchFrom_165 1 rfl ?_
            refine g_iconst (v := (-1)) B dX7_matchFrom_166 (by decide) ?_
            refine g_iastore B dX7_matchFrom_167 (fun M_14 => ?_)
            refine g_aload_n B dX7_matchFrom_168 0 rfl ?_
            refine g_getR (ci := 7) (T0 := TX7) (N := 6) B (by decide) rfl in_7 (k := 1) (by decide) rfl wd_352 (fun _ h => h) dX7_matchFrom_169 (fun v_15 => ?_)
            refine g_iload B dX7_matchFrom_172 4 rfl ?_
            refine g_iconst (v := (-1)) B dX7_matchFrom_174 (by decide) ?_
            refine g_iastore B dX7_matchFrom_175 (fun M_16 => ?_)
            refine g_sub (lv' := [(0, .ref a0), (1, .int x1), (2, .int x2), (3, .int x3), (4, .int x4)]) [0, 1, 2, 3, 4] rfl ?_
            exact g7_matchFrom_J176 d B hS9 hr (p7_matchFrom_L82 f_7_matchFrom k182 n) ih a0 x1 x2 x3 x4 M_16
        · refine g_sub (lv' := [(0, .ref a0), (1, .int x1), (2, .int x2), (3, .int x3), (4, .int x4)]) [0, 1, 2, 3, 4] rfl ?_
          exact g7_matchFrom_J176 d B hS9 hr (p7_matchFrom_L82 f_7_matchFrom k182 n) ih a0 x1 x2 x3 x4 M
    · refine g_sub (lv' := [(0, .ref a0), (1, .int x1), (2, .int x2), (3, .int x3)]) [0, 1, 2, 3] rfl ?_
      exact hk182 a0 x1 x2 x3 M
set_option maxRecDepth 20000 in
set_option maxHeartbeats 2000000 in
theorem g7_matchFrom_B {X : gX} {p : Program} {l : Launch} {e : Env} {s : State} {m : MethodId} {args : Array Value} {below : List Frame} {meth : Method} {c : Code} (d : Nat) (B : gB X p (rmG2 (d + 1)) s m args meth c RX7 cX7_matchFrom 5 (rmG2 (d + 1))) (hS9 : gS X s) (hr : meth.sig.returnType = none) (f_7_matchFrom : Nat → Int32 → Int32 → Int32 → mMem → Option mMem) (hf_7_matchFrom : ∀ (a0 : Nat) (x1 : Int32) (x2 : Int32) (x3 : Int32) (M : mMem), Con X l yX7_matchFrom cX7_matchFrom 5 (none) (rmG2 d) (fun M9 : mMem => (none, M9)) [.ref a0, .int x1, .int x2, .int x3] M (f_7_matchFrom a0 x1 x2 x3 M)) (hk_7_matchFrom : ∀ (a0 : Nat) (x1 : Int32) (x2 : Int32) (x3 : Int32) (M : mMem), f_7_matchFrom a0 x1 x2 x3 M ≠ none → mK M a0 = 8) (a0 : Nat) (x1 : Int32) (x2 : Int32) (x3 : Int32) (M : mMem) : GG X p l e (rmG2 (d + 1)) s m args below meth c (gP X below args s 0 0 (fun M9 : mMem => (none, M9))) 5 0 0 0 [(0, .ref a0), (1, .int x1), (2, .int x2), (3, .int x3)] [] M (p7_matchFrom_B f_7_matchFrom a0 x1 x2 x3 M) := by
  unfold p7_matchFrom_B
  refine g_gd ?_
  refine g_iload_n B dX7_matchFrom_0 1 rfl ?_
  refine g_bipush (v := 8) B dX7_matchFrom_1 (by decide) ?_
  refine g_icmp_ge B 17 dX7_matchFrom_3 (by decide) ?_ ?_
  · refine g_iload_n B dX7_matchFrom_6 1 rfl ?_
    refine g_aload_n B dX7_matchFrom_7 0 rfl ?_
    refine g_getR (ci := 7) (T0 := TX7) (N := 6) B (by decide) rfl in_7 (k := 0) (by decide) rfl wd_351 (fun _ h => h) dX7_matchFrom_8 (fun v_1 => ?_)
    refine g_getI (ci := 2) (T0 := TX2) (N := 11) B (by decide) rfl in_2 (k := 4) (by decide) rfl wd_143 (fun _ h => h) dX7_matchFrom_11 (fun v_2 => ?_)
    refine g_icmp_lt B 70 dX7_matchFrom_14 (by decide) ?_ ?_
    · refine g_aload_n B dX7_matchFrom_70 0 rfl ?_
      refine g_iload_n B dX7_matchFrom_71 1 rfl ?_
      refine g_iconst (v := 0) B dX7_matchFrom_72 (by decide) ?_
      refine g_callV_ip [.int x1, .int 0] (ci := 7) (T0 := TX7) (N := 6) B hS9 mf7_isSingle wd_583 (gw B wp_6) wd_581 (by decide) rfl (fun h => (gd_ne h).1) (c7_isSingle X l a0 x1 0 M) (by simp only [rmG2, rm7_isSingle]; omega) (by simp only [rmG2, rm7_isSingle]; omega) ⟨Nat.le_refl 0, Nat.le_refl 0⟩ rfl (by decide) dX7_matchFrom_73 rfl (fun v_3 => ?_)
      refine g_if_eq B 182 dX7_matchFrom_76 (by decide) ?_ ?_
      · refine g_sub (lv' := [(0, .ref a0), (1, .int x1), (2, .int x2), (3, .int x3)]) [0, 1, 2, 3] rfl ?_
        exact g7_matchFrom_J182 d B hS9 hr f_7_matchFrom hf_7_matchFrom hk_7_matchFrom a0 x1 x2 x3 M
      · refine g_iconst (v := 0) B dX7_matchFrom_79 (by decide) ?_
        refine g_istore (lv' := [(4, .int 0), (0, .ref a0), (1, .int x1), (2, .int x2), (3, .int x3)]) B dX7_matchFrom_80 (by decide) [0, 1, 2, 3, 4] rfl ?_
        refine g_sub (lv' := [(0, .ref a0), (1, .int x1), (2, .int x2), (3, .int x3), (4, .int 0)]) [1, 2, 3, 4, 0] rfl ?_
        exact (g7_matchFrom_L82 d B hS9 hr f_7_matchFrom hf_7_matchFrom hk_7_matchFrom (p7_matchFrom_J182 f_7_matchFrom) (fun e0 e1 e2 e3 e4 => g7_matchFrom_J182 d B hS9 hr f_7_matchFrom hf_7_matchFrom hk_7_matchFrom e0 e1 e2 e3 e4)) gF a0 x1 x2 x3 0 M
    · refine g_sub (lv' := [(0, .ref a0), (2, .int x2), (3, .int x3)]) [0, 2, 3] rfl ?_
      exact g7_matchFrom_J17 d B hS9 hr a0 x2 x3 M
  · refine g_sub (lv' := [(0, .ref a0), (2, .int x2), (3, .int x3)]) [0, 2, 3] rfl ?_
    exact g7_matchFrom_J17 d B hS9 hr a0 x2 x3 M
theorem hk2_7_matchFrom : ∀ (d : Nat) (a0 : Nat) (x1 : Int32) (x2 : Int32) (x3 : Int32) (M : mMem), (grp2 d) a0 x1 x2 x3 M ≠ none → mK M a0 = 8
  | 0, _, _, _, _, _ => fun h => absurd rfl h
  | d + 1, _, _, _, _, _ => fun h => (gd_ne h).1
set_option maxRecDepth 20000 in
theorem cgrp2 (X : gX) (l : Launch) : ∀ (d : Nat), (∀ (a0 : Nat) (x1 : Int32) (x2 : Int32) (x3 : Int32) (M : mMem), Con X l yX7_matchFrom cX7_matchFrom 5 (none) (rmG2 d) (fun M9 : mMem => (none, M9)) [.ref a0, .int x1, .int x2, .int x3] M ((grp2 d) a0 x1 x2 x3 M))
  | 0 => fun _ _ _ _ _ h => absurd rfl h
  | d + 1 => fun a0 x1 x2 x3 M => g_con (own := RX7) (by decide +kernel) rfl (Nat.le_of_ble_eq_true rfl) (fun p e s m args below meth c B hS9 hr hn => g7_matchFrom_B d B hS9 hr (grp2 d) (cgrp2 X l d) (hk2_7_matchFrom d) a0 x1 x2 x3 M)
theorem c7_matchFrom (X : gX) (l : Launch) (a0 : Nat) (x1 : Int32) (x2 : Int32) (x3 : Int32) (M : mMem) : Con X l yX7_matchFrom cX7_matchFrom 5 (none) rm7_matchFrom (fun M9 : mMem => (none, M9)) [.ref a0, .int x1, .int x2, .int x3] M (p7_matchFrom a0 x1 x2 x3 M) := (cgrp2 X l 64) a0 x1 x2 x3 M
theorem hkw7_matchFrom (a0 : Nat) (x1 : Int32) (x2 : Int32) (x3 : Int32) (M : mMem) (h : p7_matchFrom a0 x1 x2 x3 M ≠ none) : mK M a0 = 8 := hk2_7_matchFrom 64 a0 x1 x2 x3 M h
theorem mf7_bestMatching : gMF yX7_bestMatching cX7_bestMatching 1 (none) 0 := ⟨wd_572, wd_11, ⟨by decide, by decide⟩, by decide +kernel⟩
set_option maxRecDepth 20000 in
set_option maxHeartbeats 2000000 in
theorem g7_bestMatching {X : gX} {p : Program} {l : Launch} {e : Env} {s : State} {m : MethodId} {args : Array Value} {below : List Frame} {meth : Method} {c : Code} (B : gB X p (rm7_bestMatching) s m args meth c RX7 cX7_bestMatching 1 (rm7_bestMatching)) (hS9 : gS X s) (hr : meth.sig.returnType = none) (a0 : Nat) (M : mMem) : GG X p l e (rm7_bestMatching) s m args below meth c (gP X below args s 0 0 (fun M9 : mMem => (none, M9))) 1 0 0 0 [(0, .ref a0)] [] M (p7_bestMatching a0 M) := by
  unfold p7_bestMatching
  refine g_gd ?_
  refine g_aload_n B dX7_bestMatching_0 0 rfl ?_
  refine g_getR (ci := 7) (T0 := TX7) (N := 6) B (by decide) rfl in_7 (k := 1) (by decide) rfl wd_352 (fun _ h => h) dX7_bestMatching_1 (fun v_1 => ?_)
  refine g_iconst (v := (-1)) B dX7_bestMatching_4 (by decide) ?_
  refine g_callS_vw [.ref v_1, .int (-1)] B hS9 mfJ7_fill wd_574 wd_573 (cJ7_fill X l v_1 (-1) M) (by decide) (by decide) (by decide) rfl (by decide) dX7_bestMatching_5 rfl (fun q_2 => ?_)
  refine g_aload_n B dX7_bestMatching_8 0 rfl ?_
  refine g_getR (ci := 7) (T0 := TX7) (N := 6) B (by decide) rfl in_7 (k := 2) (by decide) rfl wd_353 (fun _ h => h) dX7_bestMatching_9 (fun v_3 => ?_)
  refine g_iconst (v := (-1)) B dX7_bestMatching_12 (by decide) ?_
  refine g_callS_vw [.ref v_3, .int (-1)] B hS9 mfJ7_fill wd_574 wd_573 (cJ7_fill X l v_3 (-1) q_2) (by decide) (by decide) (by decide) rfl (by decide) dX7_bestMatching_13 rfl (fun q_4 => ?_)
  refine g_aload_n B dX7_bestMatching_16 0 rfl ?_
  refine g_iconst (v := 0) B dX7_bestMatching_17 (by decide) ?_
  refine g_putI (ci := 7) (T0 := TX7) (N := 6) B (by decide) rfl in_7 tyX7 tyX7_ok nmX7 (k := 4) (by decide) wd_355 (fun _ h => h) rfl rfl (ty := .int) (by decide +kernel) rfl rfl dX7_bestMatching_18 (fun M_5 => ?_)
  refine g_aload_n B dX7_bestMatching_21 0 rfl ?_
  refine g_iconst (v := 0) B dX7_bestMatching_22 (by decide) ?_
  refine g_putI (ci := 7) (T0 := TX7) (N := 6) B (by decide) rfl in_7 tyX7 tyX7_ok nmX7 (k := 5) (by decide) wd_357 (fun _ h => h) rfl rfl (ty := .int) (by decide +kernel) rfl rfl dX7_bestMatching_23 (fun M_6 => ?_)
  refine g_aload_n B dX7_bestMatching_26 0 rfl ?_
  refine g_iconst (v := 0) B dX7_bestMatching_27 (by decide) ?_
  refine g_iconst (v := 0) B dX7_bestMatching_28 (by decide) ?_
  refine g_iconst (v := 0) B dX7_bestMatching_29 (by decide) ?_
  refine g_callV_vw [.int 0, .int 0, .int 0] (ci := 7) (T0 := TX7) (N := 6) B hS9 mf7_matchFrom wd_578 (gw B wp_5) wd_576 (by decide) rfl (hkw7_matchFrom a0 0 0 0 M_6) (c7_matchFrom X l a0 0 0 0 M_6) (by decide) (by decide) (by decide) rfl (by decide) dX7_bestMatching_30 rfl (fun q_7 => ?_)
  exact g_vreturn B hr (by decide) (by decide) rfl dX7_bestMatching_33
theorem c7_bestMatching (X : gX) (l : Launch) (a0 : Nat) (M : mMem) : Con X l yX7_bestMatching cX7_bestMatching 1 (none) rm7_bestMatching (fun M9 : mMem => (none, M9)) [.ref a0] M (p7_bestMatching a0 M) := g_con (own := RX7) (by decide +kernel) rfl (Nat.le_of_ble_eq_true rfl) (fun p e s m args below meth c B hS9 hr hn => g7_bestMatching B hS9 hr a0 M)
theorem mf7_bestOf : gMF yX7_bestOf cX7_bestOf 2 (some .int) 1 := ⟨wd_1426, wd_11, ⟨by decide, by decide⟩, by decide +kernel⟩
set_option maxRecDepth 20000 in
set_option maxHeartbeats 2000000 in
theorem g7_bestOf_J23 {X : gX} {p : Program} {l : Launch} {e : Env} {s : State} {m : MethodId} {args : Array Value} {below : List Frame} {meth : Method} {c : Code} (B : gB X p (rm7_bestOf) s m args meth c RX7 cX7_bestOf 2 (rm7_bestOf)) (hS9 : gS X s) (hr : meth.sig.returnType = some .int) {M : mMem} (u0 : Int32) : GG X p l e (rm7_bestOf) s m args below meth c (gP X below args s 0 0 (fun r9 : Int32 => (some (.int r9), M))) 2 0 0 23 [] [.int u0] M (p7_bestOf_J23 M u0) := by
  unfold p7_bestOf_J23
  exact g_ireturn B hr rfl (by decide) (by decide) rfl dX7_bestOf_23
set_option maxRecDepth 20000 in
set_option maxHeartbeats 2000000 in
theorem g7_bestOf_J22 {X : gX} {p : Program} {l : Launch} {e : Env} {s : State} {m : MethodId} {args : Array Value} {below : List Frame} {meth : Method} {c : Code} (B : gB X p (rm7_bestOf) s m args meth c RX7 cX7_bestOf 2 (rm7_bestOf)) (hS9 : gS X s) (hr : meth.sig.returnType = some .int) {M : mMem} : GG X p l e (rm7_bestOf) s m args below meth c (gP X below args s 0 0 (fun r9 : Int32 => (some (.int r9), M))) 2 0 0 22 [] [] M (p7_bestOf_J22 M) := by
  unfold p7_bestOf_J22
  refine g_iconst (v := (-1)) B dX7_bestOf_22 (by decide) ?_
  refine g_sub (lv' := []) [] rfl ?_
  exact g7_bestOf_J23 B hS9 hr (-1)
set_option maxRecDepth 20000 in
set_option maxHeartbeats 2000000 in
theorem g7_bestOf {X : gX} {p : Program} {l : Launch} {e : Env} {s : State} {m : MethodId} {args : Array Value} {below : List Frame} {meth : Method} {c : Code} (B : gB X p (rm7_bestOf) s m args meth c RX7 cX7_bestOf 2 (rm7_bestOf)) (hS9 : gS X s) (hr : meth.sig.returnType = some .int) {M : mMem} (a0 : Nat) (x1 : Int32) : GG X p l e (rm7_bestOf) s m args below meth c (gP X below args s 0 0 (fun r9 : Int32 => (some (.int r9), M))) 2 0 0 0 [(0, .ref a0), (1, .int x1)] [] M (p7_bestOf a0 x1 M) := by
  unfold p7_bestOf
  refine g_gd ?_
  refine g_iload_n B dX7_bestOf_0 1 rfl ?_
  refine g_if_lt B 22 dX7_bestOf_1 (by decide) ?_ ?_
  · refine g_sub (lv' := []) [] rfl ?_
    exact g7_bestOf_J22 B hS9 hr
  · refine g_iload_n B dX7_bestOf_4 1 rfl ?_
    refine g_aload_n B dX7_bestOf_5 0 rfl ?_
    refine g_getR (ci := 7) (T0 := TX7) (N := 6) B (by decide) rfl in_7 (k := 2) (by decide) rfl wd_353 (fun _ h => h) dX7_bestOf_6 (fun v_1 => ?_)
    refine g_alen B dX7_bestOf_9 (fun v_2 => ?_)
    refine g_icmp_ge B 22 dX7_bestOf_10 (by decide) ?_ ?_
    · refine g_aload_n B dX7_bestOf_13 0 rfl ?_
      refine g_getR (ci := 7) (T0 := TX7) (N := 6) B (by decide) rfl in_7 (k := 2) (by decide) rfl wd_353 (fun _ h => h) dX7_bestOf_14 (fun v_3 => ?_)
      refine g_iload_n B dX7_bestOf_17 1 rfl ?_
      refine g_iaload B dX7_bestOf_18 (fun v_4 => ?_)
      refine g_goto B 23 dX7_bestOf_19 (by decide) ?_
      refine g_sub (lv' := []) [] rfl ?_
      exact g7_bestOf_J23 B hS9 hr v_4
    · refine g_sub (lv' := []) [] rfl ?_
      exact g7_bestOf_J22 B hS9 hr
theorem c7_bestOf (X : gX) (l : Launch) (a0 : Nat) (x1 : Int32) (M : mMem) : Con X l yX7_bestOf cX7_bestOf 2 (some .int) rm7_bestOf (fun r9 : Int32 => (some (.int r9), M)) [.ref a0, .int x1] M (p7_bestOf a0 x1 M) := g_con (own := RX7) (by decide +kernel) rfl (Nat.le_of_ble_eq_true rfl) (fun p e s m args below meth c B hS9 hr hn => g7_bestOf B hS9 hr a0 x1)
theorem mf7_nearestNotAsked : gMF yX7_nearestNotAsked cX7_nearestNotAsked 4 (some .int) 1 := ⟨wd_1445, wd_11, ⟨by decide, by decide⟩, by decide +kernel⟩
set_option maxRecDepth 20000 in
set_option maxHeartbeats 2000000 in
theorem g7_nearestNotAsked_J91 {X : gX} {p : Program} {l : Launch} {e : Env} {s : State} {m : MethodId} {args : Array Value} {below : List Frame} {meth : Method} {c : Code} (B : gB X p (rm7_nearestNotAsked) s m args meth c RX7 cX7_nearestNotAsked 4 (rm7_nearestNotAsked)) (hS9 : gS X s) (hr : meth.sig.returnType = some .int) {M : mMem} (x2 : Int32) : GG X p l e (rm7_nearestNotAsked) s m args below meth c (gP X below args s 0 0 (fun r9 : Int32 => (some (.int r9), M))) 4 0 0 91 [(2, .int x2)] [] M (p7_nearestNotAsked_J91 M x2) := by
  unfold p7_nearestNotAsked_J91
  refine g_iload_n B dX7_nearestNotAsked_91 0 rfl ?_
  exact g_ireturn B hr rfl (by decide) (by decide) rfl dX7_nearestNotAsked_92
set_option maxRecDepth 20000 in
set_option maxHeartbeats 2000000 in
theorem g7_nearestNotAsked_J85 {X : gX} {p : Program} {l : Launch} {e : Env} {s : State} {m : MethodId} {args : Array Value} {below : List Frame} {meth : Method} {c : Code} (B : gB X p (rm7_nearestNotAsked) s m args meth c RX7 cX7_nearestNotAsked 4 (rm7_nearestNotAsked)) (hS9 : gS X s) (hr : meth.sig.returnType = some .int) {M : mMem} (rec4 : Nat → Int32 → Int32 → Int32 → Option Int32) (hrec4 : ∀ (a0 : Nat) (x1 : Int32) (x2 : Int32) (x3 : Int32), GG X p l e (rm7_nearestNotAsked) s m args below meth c (gP X below args s 0 0 (fun r9 : Int32 => (some (.int r9), M))) 4 0 0 4 [(0, .ref a0), (1, .int x1), (2, .int x2), (3, .int x3)] [] M (rec4 a0 x1 x2 x3)) (a0 : Nat) (x1 : Int32) (x2 : Int32) (x3 : Int32) : GG X p l e (rm7_nearestNotAsked) s m args below meth c (gP X below args s 0 0 (fun r9 : Int32 => (some (.int r9), M))) 4 0 0 85 [(0, .ref a0), (1, .int x1), (2, .int x2), (3, .int x3)] [] M (p7_nearestNotAsked_J85 M rec4 a0 x1 x2 x3) := by
  unfold p7_nearestNotAsked_J85
  refine g_iinc (v := (x3 + 1)) (lv' := [(3, .int (x3 + 1)), (0, .ref a0), (1, .int x1), (2, .int x2)]) B dX7_nearestNotAsked_85 3 rfl rfl (by decide) [0, 1, 2, 3] rfl ?_
  refine g_goto B 4 dX7_nearestNotAsked_88 (by decide) ?_
  refine g_sub (lv' := [(0, .ref a0), (1, .int x1), (2, .int x2), (3, .int (x3 + 1))]) [1, 2, 3, 0] rfl ?_
  exact hrec4 a0 x1 x2 (x3 + 1)
set_option maxRecDepth 20000 in
set_option maxHeartbeats 2000000 in
theorem g7_nearestNotAsked_J83 {X : gX} {p : Program} {l : Launch} {e : Env} {s : State} {m : MethodId} {args : Array Value} {below : List Frame} {meth : Method} {c : Code} (B : gB X p (rm7_nearestNotAsked) s m args meth c RX7 cX7_nearestNotAsked 4 (rm7_nearestNotAsked)) (hS9 : gS X s) (hr : meth.sig.returnType = some .int) {M : mMem} (rec4 : Nat → Int32 → Int32 → Int32 → Option Int32) (hrec4 : ∀ (a0 : Nat) (x1 : Int32) (x2 : Int32) (x3 : Int32), GG X p l e (rm7_nearestNotAsked) s m args below meth c (gP X below args s 0 0 (fun r9 : Int32 => (some (.int r9), M))) 4 0 0 4 [(0, .ref a0), (1, .int x1), (2, .int x2), (3, .int x3)] [] M (rec4 a0 x1 x2 x3)) (a0 : Nat) (x1 : Int32) (x3 : Int32) : GG X p l e (rm7_nearestNotAsked) s m args below meth c (gP X below args s 0 0 (fun r9 : Int32 => (some (.int r9), M))) 4 0 0 83 [(0, .ref a0), (1, .int x1), (3, .int x3)] [] M (p7_nearestNotAsked_J83 M rec4 a0 x1 x3) := by
  unfold p7_nearestNotAsked_J83
  refine g_iload_n B dX7_nearestNotAsked_83 2 rfl ?_
  refine g_istore_n (lv' := [(2, .int x3), (0, .ref a0), (1, .int x1), (3, .int x3)]) B dX7_nearestNotAsked_84 (by decide) [0, 1, 2, 3] rfl ?_
  refine g_sub (lv' := [(0, .ref a0), (1, .int x1), (2, .int x3), (3, .int x3)]) [1, 2, 0, 3] rfl ?_
  exact g7_nearestNotAsked_J85 B hS9 hr rec4 hrec4 a0 x1 x3 x3
set_option maxRecDepth 20000 in
set_option maxHeartbeats 2000000 in
theorem g7_nearestNotAsked_L4 {X : gX} {p : Program} {l : Launch} {e : Env} {s : State} {m : MethodId} {args : Array Value} {below : List Frame} {meth : Method} {c : Code} (B : gB X p (rm7_nearestNotAsked) s m args meth c RX7 cX7_nearestNotAsked 4 (rm7_nearestNotAsked)) (hS9 : gS X s) (hr : meth.sig.returnType = some .int) {M : mMem} : ∀ (n : Nat) (a0 : Nat) (x1 : Int32) (x2 : Int32) (x3 : Int32), GG X p l e (rm7_nearestNotAsked) s m args below meth c (gP X below args s 0 0 (fun r9 : Int32 => (some (.int r9), M))) 4 0 0 4 [(0, .ref a0), (1, .int x1), (2, .int x2), (3, .int x3)] [] M (p7_nearestNotAsked_L4 M n a0 x1 x2 x3) := by
  intro n
  induction n with
  | zero => intro a0 x1 x2 x3; exact g_none
  | succ n ih =>
    intro a0 x1 x2 x3
    rw [p7_nearestNotAsked_L4]
    refine g_iload_n B dX7_nearestNotAsked_4 3 rfl ?_
    refine g_bipush (v := 8) B dX7_nearestNotAsked_5 (by decide) ?_
    refine g_icmp_ge B 91 dX7_nearestNotAsked_7 (by decide) ?_ ?_
    · refine g_iload_n B dX7_nearestNotAsked_10 1 rfl ?_
      refine g_if_lt B 91 dX7_nearestNotAsked_11 (by decide) ?_ ?_
      · refine g_sub (lv' := [(2, .int x2)]) [2] rfl ?_
        exact g7_nearestNotAsked_J91 B hS9 hr x2
      · refine g_iload_n B dX7_nearestNotAsked_14 1 rfl ?_
        refine g_aload_n B dX7_nearestNotAsked_15 0 rfl ?_
        refine g_getR (ci := 7) (T0 := TX7) (N := 6) B (by decide) rfl in_7 (k := 3) (by decide) rfl wd_354 (fun _ h => h) dX7_nearestNotAsked_16 (fun v_1 => ?_)
        refine g_alen B dX7_nearestNotAsked_19 (fun v_2 => ?_)
        refine g_icmp_ge B 91 dX7_nearestNotAsked_20 (by decide) ?_ ?_
        · refine g_aload_n B dX7_nearestNotAsked_23 0 rfl ?_
          refine g_iload_n B dX7_nearestNotAsked_24 3 rfl ?_
          refine g_iconst (v := 1) B dX7_nearestNotAsked_25 (by decide) ?_
          refine g_callV_ip [.int x3, .int 1] (ci := 7) (T0 := TX7) (N := 6) B hS9 mf7_isSingle wd_583 (gw B wp_6) wd_581 (by decide) rfl (fun h => (gd_ne h).1) (c7_isSingle X l a0 x3 1 M) (by decide) (by decide) (by decide) rfl (by decide) dX7_nearestNotAsked_26 rfl (fun v_3 => ?_)
          refine g_if_eq B 85 dX7_nearestNotAsked_29 (by decide) ?_ ?_
          · refine g_sub (lv' := [(0, .ref a0), (1, .int x1), (2, .int x2), (3, .int x3)]) [0, 1, 2, 3] rfl ?_
            exact g7_nearestNotAsked_J85 B hS9 hr (p7_nearestNotAsked_L4 M n) ih a0 x1 x2 x3
          · refine g_aload_n B dX7_nearestNotAsked_32 0 rfl ?_
            refine g_getR (ci := 7) (T0 := TX7) (N := 6) B (by decide) rfl in_7 (k := 0) (by decide) rfl wd_351 (fun _ h => h) dX7_nearestNotAsked_33 (fun v_4 => ?_)
            refine g_iload_n B dX7_nearestNotAsked_36 1 rfl ?_
            refine g_iload_n B dX7_nearestNotAsked_37 3 rfl ?_
            refine g_callV_ip [.int x1, .int x3] (ci := 2) (T0 := TX2) (N := 11) B hS9 mf2_mayWed wd_588 (gw B wd_589) wd_587 (by decide) rfl (fun h => (gd_ne h).1) (c2_mayWed X l v_4 x1 x3 M) (by decide) (by decide) (by decide) rfl (by decide) dX7_nearestNotAsked_38 rfl (fun v_5 => ?_)
            refine g_if_eq B 85 dX7_nearestNotAsked_41 (by decide) ?_ ?_
            · refine g_sub (lv' := [(0, .ref a0), (1, .int x1), (2, .int x2), (3, .int x3)]) [0, 1, 2, 3] rfl ?_
              exact g7_nearestNotAsked_J85 B hS9 hr (p7_nearestNotAsked_L4 M n) ih a0 x1 x2 x3
            · refine g_aload_n B dX7_nearestNotAsked_44 0 rfl ?_
              refine g_getR (ci := 7) (T0 := TX7) (N := 6) B (by decide) rfl in_7 (k := 3) (by decide) rfl wd_354 (fun _ h => h) dX7_nearestNotAsked_45 (fun v_6 => ?_)
              refine g_iload_n B dX7_nearestNotAsked_48 1 rfl ?_
              refine g_iaload B dX7_nearestNotAsked_49 (fun v_7 => ?_)
              refine g_iload_n B dX7_nearestNotAsked_50 3 rfl ?_
              refine g_ishr B dX7_nearestNotAsked_51 ?_
              refine g_iconst (v := 1) B dX7_nearestNotAsked_52 (by decide) ?_
              refine g_iand B dX7_nearestNotAsked_53 ?_
              refine g_if_ne B 85 dX7_nearestNotAsked_54 (by decide) ?_ ?_
              · refine g_iload_n B dX7_nearestNotAsked_57 2 rfl ?_
                refine g_iconst (v := (-1)) B dX7_nearestNotAsked_58 (by decide) ?_
                refine g_icmp_eq B 83 dX7_nearestNotAsked_59 (by decide) ?_ ?_
                · refine g_sub (lv' := [(0, .ref a0), (1, .int x1), (3, .int x3)]) [0, 1, 3] rfl ?_
                  exact g7_nearestNotAsked_J83 B hS9 hr (p7_nearestNotAsked_L4 M n) ih a0 x1 x3
                · refine g_aload_n B dX7_nearestNotAsked_62 0 rfl ?_
                  refine g_getR (ci := 7) (T0 := TX7) (N := 6) B (by decide) rfl in_7 (k := 0) (by decide) rfl wd_351 (fun _ h => h) dX7_nearestNotAsked_63 (fun v_8 => ?_)
                  refine g_iload_n B dX7_nearestNotAsked_66 1 rfl ?_
                  refine g_iload_n B dX7_nearestNotAsked_67 3 rfl ?_
                  refine g_callV_ip [.int x1, .int x3] (ci := 2) (T0 := TX2) (N := 11) B hS9 mf2_gapOf wd_596 (gw B wd_597) wd_595 (by decide) rfl (fun h => (gd_ne h).1) (c2_gapOf X l v_8 x1 x3 M) (by decide) (by decide) (by decide) rfl (by decide) dX7_nearestNotAsked_68 rfl (fun v_9 => ?_)
                  refine g_aload_n B dX7_nearestNotAsked_71 0 rfl ?_
                  refine g_getR (ci := 7) (T0 := TX7) (N := 6) B (by decide) rfl in_7 (k := 0) (by decide) rfl wd_351 (fun _ h => h) dX7_nearestNotAsked_72 (fun v_10 => ?_)
                  refine g_iload_n B dX7_nearestNotAsked_75 1 rfl ?_
                  refine g_iload_n B dX7_nearestNotAsked_76 2 rfl ?_
                  refine g_callV_ip [.int x1, .int x2] (ci := 2) (T0 := TX2) (N := 11) B hS9 mf2_gapOf wd_596 (gw B wd_597) wd_595 (by decide) rfl (fun h => (gd_ne h).1) (c2_gapOf X l v_10 x1 x2 M) (by decide) (by decide) (by decide) rfl (Nat.le_of_ble_eq_true rfl) dX7_nearestNotAsked_77 rfl (fun v_11 => ?_)
                  refine g_icmp_ge B 85 dX7_nearestNotAsked_80 (by decide) ?_ ?_
                  · refine g_sub (lv' := [(0, .ref a0), (1, .int x1), (3, .int x3)]) [0, 1, 3] rfl ?_
                    exact g7_nearestNotAsked_J83 B hS9 hr (p7_nearestNotAsked_L4 M n) ih a0 x1 x3
                  · refine g_sub (lv' := [(0, .ref a0), (1, .int x1), (2, .int x2), (3, .int x3)]) [0, 1, 2, 3] rfl ?_
                    exact g7_nearestNotAsked_J85 B hS9 hr (p7_nearestNotAsked_L4 M n) ih a0 x1 x2 x3
              · refine g_sub (lv' := [(0, .ref a0), (1, .int x1), (2, .int x2), (3, .int x3)]) [0, 1, 2, 3] rfl ?_
                exact g7_nearestNotAsked_J85 B hS9 hr (p7_nearestNotAsked_L4 M n) ih a0 x1 x2 x3
        · refine g_sub (lv' := [(2, .int x2)]) [2] rfl ?_
          exact g7_nearestNotAsked_J91 B hS9 hr x2
    · refine g_sub (lv' := [(2, .int x2)]) [2] rfl ?_
      exact g7_nearestNotAsked_J91 B hS9 hr x2
set_option maxRecDepth 20000 in
set_option maxHeartbeats 2000000 in
theorem g7_nearestNotAsked {X : gX} {p : Program} {l : Launch} {e : Env} {s : State} {m : MethodId} {args : Array Value} {below : List Frame} {meth : Method} {c : Code} (B : gB X p (rm7_nearestNotAsked) s m args meth c RX7 cX7_nearestNotAsked 4 (rm7_nearestNotAsked)) (hS9 : gS X s) (hr : meth.sig.returnType = some .int) {M : mMem} (a0 : Nat) (x1 : Int32) : GG X p l e (rm7_nearestNotAsked) s m args below meth c (gP X below args s 0 0 (fun r9 : Int32 => (some (.int r9), M))) 4 0 0 0 [(0, .ref a0), (1, .int x1)] [] M (p7_nearestNotAsked a0 x1 M) := by
  unfold p7_nearestNotAsked
  refine g_gd ?_
  refine g_iconst (v := (-1)) B dX7_nearestNotAsked_0 (by decide) ?_
  refine g_istore_n (lv' := [(2, .int (-1)), (0, .ref a0), (1, .int x1)]) B dX7_nearestNotAsked_1 (by decide) [0, 1, 2] rfl ?_
  refine g_iconst (v := 0) B dX7_nearestNotAsked_2 (by decide) ?_
  refine g_istore_n (lv' := [(3, .int 0), (2, .int (-1)), (0, .ref a0), (1, .int x1)]) B dX7_nearestNotAsked_3 (by decide) [0, 1, 2, 3] rfl ?_
  refine g_sub (lv' := [(0, .ref a0), (1, .int x1), (2, .int (-1)), (3, .int 0)]) [2, 3, 1, 0] rfl ?_
  exact (g7_nearestNotAsked_L4 B hS9 hr) gF a0 x1 (-1) 0
theorem c7_nearestNotAsked (X : gX) (l : Launch) (a0 : Nat) (x1 : Int32) (M : mMem) : Con X l yX7_nearestNotAsked cX7_nearestNotAsked 4 (some .int) rm7_nearestNotAsked (fun r9 : Int32 => (some (.int r9), M)) [.ref a0, .int x1] M (p7_nearestNotAsked a0 x1 M) := g_con (own := RX7) (by decide +kernel) rfl (Nat.le_of_ble_eq_true rfl) (fun p e s m args below meth c B hS9 hr hn => g7_nearestNotAsked B hS9 hr a0 x1)
theorem mf7_isNearer : gMF yX7_isNearer cX7_isNearer 6 (some .boolean) 3 := ⟨wd_1453, wd_11, ⟨by decide, by decide⟩, by decide +kernel⟩
set_option maxRecDepth 20000 in
set_option maxHeartbeats 2000000 in
theorem g7_isNearer_J46 {X : gX} {p : Program} {l : Launch} {e : Env} {s : State} {m : MethodId} {args : Array Value} {below : List Frame} {meth : Method} {c : Code} (B : gB X p (rm7_isNearer) s m args meth c RX7 cX7_isNearer 6 (rm7_isNearer)) (hS9 : gS X s) (hr : meth.sig.returnType = some .boolean) {M : mMem} (u0 : Int32) : GG X p l e (rm7_isNearer) s m args below meth c (gP X below args s 0 0 (fun r9 : Int32 => (some (.int r9), M))) 6 0 0 46 [] [.int u0] M (p7_isNearer_J46 M u0) := by
  unfold p7_isNearer_J46
  exact g_zreturn (f := fun z => z) B hr (by decide) (by decide) rfl dX7_isNearer_46
set_option maxRecDepth 20000 in
set_option maxHeartbeats 2000000 in
theorem g7_isNearer_J41 {X : gX} {p : Program} {l : Launch} {e : Env} {s : State} {m : MethodId} {args : Array Value} {below : List Frame} {meth : Method} {c : Code} (B : gB X p (rm7_isNearer) s m args meth c RX7 cX7_isNearer 6 (rm7_isNearer)) (hS9 : gS X s) (hr : meth.sig.returnType = some .boolean) {M : mMem} : GG X p l e (rm7_isNearer) s m args below meth c (gP X below args s 0 0 (fun r9 : Int32 => (some (.int r9), M))) 6 0 0 41 [] [] M (p7_isNearer_J41 M) := by
  unfold p7_isNearer_J41
  refine g_iconst (v := 1) B dX7_isNearer_41 (by decide) ?_
  refine g_goto B 46 dX7_isNearer_42 (by decide) ?_
  refine g_sub (lv' := []) [] rfl ?_
  exact g7_isNearer_J46 B hS9 hr 1
set_option maxRecDepth 20000 in
set_option maxHeartbeats 2000000 in
theorem g7_isNearer_J45 {X : gX} {p : Program} {l : Launch} {e : Env} {s : State} {m : MethodId} {args : Array Value} {below : List Frame} {meth : Method} {c : Code} (B : gB X p (rm7_isNearer) s m args meth c RX7 cX7_isNearer 6 (rm7_isNearer)) (hS9 : gS X s) (hr : meth.sig.returnType = some .boolean) {M : mMem} : GG X p l e (rm7_isNearer) s m args below meth c (gP X below args s 0 0 (fun r9 : Int32 => (some (.int r9), M))) 6 0 0 45 [] [] M (p7_isNearer_J45 M) := by
  unfold p7_isNearer_J45
  refine g_iconst (v := 0) B dX7_isNearer_45 (by decide) ?_
  refine g_sub (lv' := []) [] rfl ?_
  exact g7_isNearer_J46 B hS9 hr 0
set_option maxRecDepth 20000 in
set_option maxHeartbeats 2000000 in
theorem g7_isNearer {X : gX} {p : Program} {l : Launch} {e : Env} {s : State} {m : MethodId} {args : Array Value} {below : List Frame} {meth : Method} {c : Code} (B : gB X p (rm7_isNearer) s m args meth c RX7 cX7_isNearer 6 (rm7_isNearer)) (hS9 : gS X s) (hr : meth.sig.returnType = some .boolean) {M : mMem} (a0 : Nat) (x1 : Int32) (x2 : Int32) (x3 : Int32) : GG X p l e (rm7_isNearer) s m args below meth c (gP X below args s 0 0 (fun r9 : Int32 => (some (.int r9), M))) 6 0 0 0 [(0, .ref a0), (1, .int x1), (2, .int x2), (3, .int x3)] [] M (p7_isNearer a0 x1 x2 x3 M) := by
  unfold p7_isNearer
  refine g_gd ?_
  refine g_aload_n B dX7_isNearer_0 0 rfl ?_
  refine g_getR (ci := 7) (T0 := TX7) (N := 6) B (by decide) rfl in_7 (k := 0) (by decide) rfl wd_351 (fun _ h => h) dX7_isNearer_1 (fun v_1 => ?_)
  refine g_iload_n B dX7_isNearer_4 1 rfl ?_
  refine g_iload_n B dX7_isNearer_5 2 rfl ?_
  refine g_callV_ip [.int x1, .int x2] (ci := 2) (T0 := TX2) (N := 11) B hS9 mf2_gapOf wd_596 (gw B wd_597) wd_595 (by decide) rfl (fun h => (gd_ne h).1) (c2_gapOf X l v_1 x1 x2 M) (by decide) (by decide) (by decide) rfl (by decide) dX7_isNearer_6 rfl (fun v_2 => ?_)
  refine g_istore (lv' := [(4, .int v_2), (0, .ref a0), (1, .int x1), (2, .int x2), (3, .int x3)]) B dX7_isNearer_9 (by decide) [0, 1, 2, 3, 4] rfl ?_
  refine g_aload_n B dX7_isNearer_11 1 rfl ?_
  refine g_getR (ci := 7) (T0 := TX7) (N := 6) B (by decide) rfl in_7 (k := 0) (by decide) rfl wd_351 (fun _ h => h) dX7_isNearer_12 (fun v_3 => ?_)
  refine g_iload_n B dX7_isNearer_15 2 rfl ?_
  refine g_iload_n B dX7_isNearer_16 4 rfl ?_
  refine g_callV_ip [.int x1, .int x3] (ci := 2) (T0 := TX2) (N := 11) B hS9 mf2_gapOf wd_596 (gw B wd_597) wd_595 (by decide) rfl (fun h => (gd_ne h).1) (c2_gapOf X l v_3 x1 x3 M) (by decide) (by decide) (by decide) rfl (by decide) dX7_isNearer_17 rfl (fun v_4 => ?_)
  refine g_istore (lv' := [(5, .int v_4), (4, .int v_2), (0, .ref a0), (1, .int x1), (2, .int x2), (3, .int x3)]) B dX7_isNearer_20 (by decide) [0, 1, 2, 3, 4, 5] rfl ?_
  refine g_iload B dX7_isNearer_22 1 rfl ?_
  refine g_iload B dX7_isNearer_24 0 rfl ?_
  refine g_icmp_lt B 41 dX7_isNearer_26 (by decide) ?_ ?_
  · refine g_sub (lv' := []) [] rfl ?_
    exact g7_isNearer_J41 B hS9 hr
  · refine g_iload B dX7_isNearer_29 1 rfl ?_
    refine g_iload B dX7_isNearer_31 0 rfl ?_
    refine g_icmp_ne B 45 dX7_isNearer_33 (by decide) ?_ ?_
    · refine g_iload_n B dX7_isNearer_36 4 rfl ?_
      refine g_iload_n B dX7_isNearer_37 5 rfl ?_
      refine g_icmp_ge B 45 dX7_isNearer_38 (by decide) ?_ ?_
      · refine g_sub (lv' := []) [] rfl ?_
        exact g7_isNearer_J41 B hS9 hr
      · refine g_sub (lv' := []) [] rfl ?_
        exact g7_isNearer_J45 B hS9 hr
    · refine g_sub (lv' := []) [] rfl ?_
      exact g7_isNearer_J45 B hS9 hr
theorem c7_isNearer (X : gX) (l : Launch) (a0 : Nat) (x1 : Int32) (x2 : Int32) (x3 : Int32) (M : mMem) : Con X l yX7_isNearer cX7_isNearer 6 (some .boolean) rm7_isNearer (fun r9 : Int32 => (some (.int r9), M)) [.ref a0, .int x1, .int x2, .int x3] M (p7_isNearer a0 x1 x2 x3 M) := g_con (own := RX7) (by decide +kernel) rfl (Nat.le_of_ble_eq_true rfl) (fun p e s m args below meth c B hS9 hr hn => g7_isNearer B hS9 hr a0 x1 x2 x3)
theorem mf7_askOne : gMF yX7_askOne cX7_askOne 4 (none) 2 := ⟨wd_1449, wd_11, ⟨by decide, by decide⟩, by decide +kernel⟩
set_option maxRecDepth 20000 in
set_option maxHeartbeats 2000000 in
theorem g7_askOne_J20 {X : gX} {p : Program} {l : Launch} {e : Env} {s : State} {m : MethodId} {args : Array Value} {below : List Frame} {meth : Method} {c : Code} (B : gB X p (rm7_askOne) s m args meth c RX7 cX7_askOne 4 (rm7_askOne)) (hS9 : gS X s) (hr : meth.sig.returnType = none) (M : mMem) : GG X p l e (rm7_askOne) s m args below meth c (gP X below args s 0 0 (fun M9 : mMem => (none, M9))) 4 0 0 20 [] [] M (p7_askOne_J20 M) := by
  unfold p7_askOne_J20
  exact g_vreturn B hr (by decide) (by decide) rfl dX7_askOne_20
set_option maxRecDepth 20000 in
set_option maxHeartbeats 2000000 in
theorem g7_askOne_J89 {X : gX} {p : Program} {l : Launch} {e : Env} {s : State} {m : MethodId} {args : Array Value} {below : List Frame} {meth : Method} {c : Code} (B : gB X p (rm7_askOne) s m args meth c RX7 cX7_askOne 4 (rm7_askOne)) (hS9 : gS X s) (hr : meth.sig.returnType = none) (M : mMem) : GG X p l e (rm7_askOne) s m args below meth c (gP X below args s 0 0 (fun M9 : mMem => (none, M9))) 4 0 0 89 [] [] M (p7_askOne_J89 M) := by
  unfold p7_askOne_J89
  exact g_vreturn B hr (by decide) (by decide) rfl dX7_askOne_89
set_option maxRecDepth 20000 in
set_option maxHeartbeats 2000000 in
theorem g7_askOne_J55 {X : gX} {p : Program} {l : Launch} {e : Env} {s : State} {m : MethodId} {args : Array Value} {below : List Frame} {meth : Method} {c : Code} (B : gB X p (rm7_askOne) s m args meth c RX7 cX7_askOne 4 (rm7_askOne)) (hS9 : gS X s) (hr : meth.sig.returnType = none) (a0 : Nat) (x1 : Int32) (x2 : Int32) (x3 : Int32) (M : mMem) : GG X p l e (rm7_askOne) s m args below meth c (gP X below args s 0 0 (fun M9 : mMem => (none, M9))) 4 0 0 55 [(0, .ref a0), (1, .int x1), (2, .int x2), (3, .int x3)] [] M (p7_askOne_J55 a0 x1 x2 x3 M) := by
  unfold p7_askOne_J55
  refine g_aload_n B dX7_askOne_55 0 rfl ?_
  refine g_getR (ci := 7) (T0 := TX7) (N := 6) B (by decide) rfl in_7 (k := 1) (by decide) rfl wd_352 (fun _ h => h) dX7_askOne_56 (fun v_1 => ?_)
  refine g_iload_n B dX7_askOne_59 2 rfl ?_
  refine g_iload_n B dX7_askOne_60 1 rfl ?_
  refine g_iastore B dX7_askOne_61 (fun M_2 => ?_)
  refine g_aload_n B dX7_askOne_62 0 rfl ?_
  refine g_getR (ci := 7) (T0 := TX7) (N := 6) B (by decide) rfl in_7 (k := 1) (by decide) rfl wd_352 (fun _ h => h) dX7_askOne_63 (fun v_3 => ?_)
  refine g_iload_n B dX7_askOne_66 1 rfl ?_
  refine g_iload_n B dX7_askOne_67 2 rfl ?_
  refine g_iastore B dX7_askOne_68 (fun M_4 => ?_)
  refine g_iload_n B dX7_askOne_69 3 rfl ?_
  refine g_if_lt B 89 dX7_askOne_70 (by decide) ?_ ?_
  · refine g_sub (lv' := []) [] rfl ?_
    exact g7_askOne_J89 B hS9 hr M_4
  · refine g_iload_n B dX7_askOne_73 3 rfl ?_
    refine g_aload_n B dX7_askOne_74 0 rfl ?_
    refine g_getR (ci := 7) (T0 := TX7) (N := 6) B (by decide) rfl in_7 (k := 1) (by decide) rfl wd_352 (fun _ h => h) dX7_askOne_75 (fun v_5 => ?_)
    refine g_alen B dX7_askOne_78 (fun v_6 => ?_)
    refine g_icmp_ge B 89 dX7_askOne_79 (by decide) ?_ ?_
    · refine g_aload_n B dX7_askOne_82 0 rfl ?_
      refine g_getR (ci := 7) (T0 := TX7) (N := 6) B (by decide) rfl in_7 (k := 1) (by decide) rfl wd_352 (fun _ h => h) dX7_askOne_83 (fun v_7 => ?_)
      refine g_iload_n B dX7_askOne_86 3 rfl ?_
      refine g_iconst (v := (-1)) B dX7_askOne_87 (by decide) ?_
      refine g_iastore B dX7_askOne_88 (fun M_8 => ?_)
      refine g_sub (lv' := []) [] rfl ?_
      exact g7_askOne_J89 B hS9 hr M_8
    · refine g_sub (lv' := []) [] rfl ?_
      exact g7_askOne_J89 B hS9 hr M_4
set_option maxRecDepth 20000 in
set_option maxHeartbeats 2000000 in
theorem g7_askOne {X : gX} {p : Program} {l : Launch} {e : Env} {s : State} {m : MethodId} {args : Array Value} {below : List Frame} {meth : Method} {c : Code} (B : gB X p (rm7_askOne) s m args meth c RX7 cX7_askOne 4 (rm7_askOne)) (hS9 : gS X s) (hr : meth.sig.returnType = none) (a0 : Nat) (x1 : Int32) (x2 : Int32) (M : mMem) : GG X p l e (rm7_askOne) s m args below meth c (gP X below args s 0 0 (fun M9 : mMem => (none, M9))) 4 0 0 0 [(0, .ref a0), (1, .int x1), (2, .int x2)] [] M (p7_askOne a0 x1 x2 M) := by
  unfold p7_askOne
  refine g_gd ?_
  refine g_iload_n B dX7_askOne_0 1 rfl ?_
  refine g_if_lt B 20 dX7_askOne_1 (by decide) ?_ ?_
  · refine g_sub (lv' := []) [] rfl ?_
    exact g7_askOne_J20 B hS9 hr M
  · refine g_iload_n B dX7_askOne_4 1 rfl ?_
    refine g_bipush (v := 8) B dX7_askOne_5 (by decide) ?_
    refine g_icmp_ge B 20 dX7_askOne_7 (by decide) ?_ ?_
    · refine g_iload_n B dX7_askOne_10 2 rfl ?_
      refine g_if_lt B 20 dX7_askOne_11 (by decide) ?_ ?_
      · refine g_sub (lv' := []) [] rfl ?_
        exact g7_askOne_J20 B hS9 hr M
      · refine g_iload_n B dX7_askOne_14 2 rfl ?_
        refine g_bipush (v := 8) B dX7_askOne_15 (by decide) ?_
        refine g_icmp_lt B 21 dX7_askOne_17 (by decide) ?_ ?_
        · refine g_aload_n B dX7_askOne_21 0 rfl ?_
          refine g_getR (ci := 7) (T0 := TX7) (N := 6) B (by decide) rfl in_7 (k := 3) (by decide) rfl wd_354 (fun _ h => h) dX7_askOne_22 (fun v_1 => ?_)
          refine g_iload_n B dX7_askOne_25 1 rfl ?_
          refine g_dup2_11 B dX7_askOne_26 rfl rfl ?_
          refine g_iaload B dX7_askOne_27 (fun v_2 => ?_)
          refine g_iconst (v := 1) B dX7_askOne_28 (by decide) ?_
          refine g_iload_n B dX7_askOne_29 2 rfl ?_
          refine g_ishl B dX7_askOne_30 ?_
          refine g_ior B dX7_askOne_31 ?_
          refine g_iastore B dX7_askOne_32 (fun M_3 => ?_)
          refine g_aload_n B dX7_askOne_33 0 rfl ?_
          refine g_getR (ci := 7) (T0 := TX7) (N := 6) B (by decide) rfl in_7 (k := 1) (by decide) rfl wd_352 (fun _ h => h) dX7_askOne_34 (fun v_4 => ?_)
          refine g_iload_n B dX7_askOne_37 2 rfl ?_
          refine g_iaload B dX7_askOne_38 (fun v_5 => ?_)
          refine g_istore_n (lv' := [(3, .int v_5), (0, .ref a0), (1, .int x1), (2, .int x2)]) B dX7_askOne_39 (by decide) [0, 1, 2, 3] rfl ?_
          refine g_iload_n B dX7_askOne_40 0 rfl ?_
          refine g_iconst (v := (-1)) B dX7_askOne_41 (by decide) ?_
          refine g_icmp_eq B 55 dX7_askOne_42 (by decide) ?_ ?_
          · refine g_sub (lv' := [(0, .ref a0), (1, .int x1), (2, .int x2), (3, .int v_5)]) [1, 2, 3, 0] rfl ?_
            exact g7_askOne_J55 B hS9 hr a0 x1 x2 v_5 M_3
          · refine g_aload_n B dX7_askOne_45 1 rfl ?_
            refine g_iload_n B dX7_askOne_46 3 rfl ?_
            refine g_iload_n B dX7_askOne_47 2 rfl ?_
            refine g_iload_n B dX7_askOne_48 0 rfl ?_
            refine g_callV_ip [.int x2, .int x1, .int v_5] (ci := 7) (T0 := TX7) (N := 6) B hS9 mf7_isNearer wd_1452 (gw B wp_37) wd_1450 (by decide) rfl (fun h => (gd_ne h).1) (c7_isNearer X l a0 x2 x1 v_5 M_3) (by decide) (by decide) (by decide) rfl (by decide) dX7_askOne_49 rfl (fun v_6 => ?_)
            refine g_if_eq B 89 dX7_askOne_52 (by decide) ?_ ?_
            · refine g_sub (lv' := []) [] rfl ?_
              exact g7_askOne_J89 B hS9 hr M_3
            · refine g_sub (lv' := [(0, .ref a0), (1, .int x1), (2, .int x2), (3, .int v_5)]) [1, 2, 3, 0] rfl ?_
              exact g7_askOne_J55 B hS9 hr a0 x1 x2 v_5 M_3
        · refine g_sub (lv' := []) [] rfl ?_
          exact g7_askOne_J20 B hS9 hr M
    · refine g_sub (lv' := []) [] rfl ?_
      exact g7_askOne_J20 B hS9 hr M
theorem c7_askOne (X : gX) (l : Launch) (a0 : Nat) (x1 : Int32) (x2 : Int32) (M : mMem) : Con X l yX7_askOne cX7_askOne 4 (none) rm7_askOne (fun M9 : mMem => (none, M9)) [.ref a0, .int x1, .int x2] M (p7_askOne a0 x1 x2 M) := g_con (own := RX7) (by decide +kernel) rfl (Nat.le_of_ble_eq_true rfl) (fun p e s m args below meth c B hS9 hr hn => g7_askOne B hS9 hr a0 x1 x2 M)
theorem mf7_someoneAsks : gMF yX7_someoneAsks cX7_someoneAsks 3 (some .boolean) 0 := ⟨wd_1441, wd_11, ⟨by decide, by decide⟩, by decide +kernel⟩
set_option maxRecDepth 20000 in
set_option maxHeartbeats 2000000 in
theorem g7_someoneAsks_J46 {X : gX} {p : Program} {l : Launch} {e : Env} {s : State} {m : MethodId} {args : Array Value} {below : List Frame} {meth : Method} {c : Code} (B : gB X p (rm7_someoneAsks) s m args meth c RX7 cX7_someoneAsks 3 (rm7_someoneAsks)) (hS9 : gS X s) (hr : meth.sig.returnType = some .boolean) (rec2 : Nat → Int32 → mMem → Option (Int32 × mMem)) (hrec2 : ∀ (a0 : Nat) (x1 : Int32) (M : mMem), GG X p l e (rm7_someoneAsks) s m args below meth c (gP X below args s 0 0 (fun r9 : (Int32 × mMem) => (some (.int r9.1), r9.2))) 3 0 0 2 [(0, .ref a0), (1, .int x1)] [] M (rec2 a0 x1 M)) (a0 : Nat) (x1 : Int32) (M : mMem) : GG X p l e (rm7_someoneAsks) s m args below meth c (gP X below args s 0 0 (fun r9 : (Int32 × mMem) => (some (.int r9.1), r9.2))) 3 0 0 46 [(0, .ref a0), (1, .int x1)] [] M (p7_someoneAsks_J46 rec2 a0 x1 M) := by
  unfold p7_someoneAsks_J46
  refine g_iinc (v := (x1 + 1)) (lv' := [(1, .int (x1 + 1)), (0, .ref a0)]) B dX7_someoneAsks_46 1 rfl rfl (by decide) [0, 1] rfl ?_
  refine g_goto B 2 dX7_someoneAsks_49 (by decide) ?_
  refine g_sub (lv' := [(0, .ref a0), (1, .int (x1 + 1))]) [1, 0] rfl ?_
  exact hrec2 a0 (x1 + 1) M
set_option maxRecDepth 20000 in
set_option maxHeartbeats 2000000 in
theorem g7_someoneAsks_L2 {X : gX} {p : Program} {l : Launch} {e : Env} {s : State} {m : MethodId} {args : Array Value} {below : List Frame} {meth : Method} {c : Code} (B : gB X p (rm7_someoneAsks) s m args meth c RX7 cX7_someoneAsks 3 (rm7_someoneAsks)) (hS9 : gS X s) (hr : meth.sig.returnType = some .boolean) : ∀ (n : Nat) (a0 : Nat) (x1 : Int32) (M : mMem), GG X p l e (rm7_someoneAsks) s m args below meth c (gP X below args s 0 0 (fun r9 : (Int32 × mMem) => (some (.int r9.1), r9.2))) 3 0 0 2 [(0, .ref a0), (1, .int x1)] [] M (p7_someoneAsks_L2 n a0 x1 M) := by
  intro n
  induction n with
  | zero => intro a0 x1 M; exact g_none
  | succ n ih =>
    intro a0 x1 M
    rw [p7_someoneAsks_L2]
    refine g_iload_n B dX7_someoneAsks_2 1 rfl ?_
    refine g_bipush (v := 8) B dX7_someoneAsks_3 (by decide) ?_
    refine g_icmp_ge B 52 dX7_someoneAsks_5 (by decide) ?_ ?_
    · refine g_aload_n B dX7_someoneAsks_8 0 rfl ?_
      refine g_iload_n B dX7_someoneAsks_9 1 rfl ?_
      refine g_iconst (v := 0) B dX7_someoneAsks_10 (by decide) ?_
      refine g_callV_ip [.int x1, .int 0] (ci := 7) (T0 := TX7) (N := 6) B hS9 mf7_isSingle wd_583 (gw B wp_6) wd_581 (by decide) rfl (fun h => (gd_ne h).1) (c7_isSingle X l a0 x1 0 M) (by decide) (by decide) (by decide) rfl (by decide) dX7_someoneAsks_11 rfl (fun v_1 => ?_)
      refine g_if_eq B 46 dX7_someoneAsks_14 (by decide) ?_ ?_
      · refine g_sub (lv' := [(0, .ref a0), (1, .int x1)]) [0, 1] rfl ?_
        exact g7_someoneAsks_J46 B hS9 hr (p7_someoneAsks_L2 n) ih a0 x1 M
      · refine g_aload_n B dX7_someoneAsks_17 0 rfl ?_
        refine g_getR (ci := 7) (T0 := TX7) (N := 6) B (by decide) rfl in_7 (k := 1) (by decide) rfl wd_352 (fun _ h => h) dX7_someoneAsks_18 (fun v_2 => ?_)
        refine g_iload_n B dX7_someoneAsks_21 1 rfl ?_
        refine g_iaload B dX7_someoneAsks_22 (fun v_3 => ?_)
        refine g_iconst (v := (-1)) B dX7_someoneAsks_23 (by decide) ?_
        refine g_icmp_ne B 46 dX7_someoneAsks_24 (by decide) ?_ ?_
        · refine g_aload_n B dX7_someoneAsks_27 0 rfl ?_
          refine g_iload_n B dX7_someoneAsks_28 1 rfl ?_
          refine g_callV_ip [.int x1] (ci := 7) (T0 := TX7) (N := 6) B hS9 mf7_nearestNotAsked wd_1444 (gw B wp_35) wd_1442 (by decide) rfl (fun h => (gd_ne h).1) (c7_nearestNotAsked X l a0 x1 M) (by decide) (by decide) (by decide) rfl (by decide) dX7_someoneAsks_29 rfl (fun v_4 => ?_)
          refine g_istore_n (lv' := [(2, .int v_4), (0, .ref a0), (1, .int x1)]) B dX7_someoneAsks_32 (by decide) [0, 1, 2] rfl ?_
          refine g_iload_n B dX7_someoneAsks_33 0 rfl ?_
          refine g_iconst (v := (-1)) B dX7_someoneAsks_34 (by decide) ?_
          refine g_icmp_eq B 46 dX7_someoneAsks_35 (by decide) ?_ ?_
          · refine g_sub (lv' := [(0, .ref a0), (1, .int x1)]) [1, 2] rfl ?_
            exact g7_someoneAsks_J46 B hS9 hr (p7_someoneAsks_L2 n) ih a0 x1 M
          · refine g_aload_n B dX7_someoneAsks_38 1 rfl ?_
            refine g_iload_n B dX7_someoneAsks_39 2 rfl ?_
            refine g_iload_n B dX7_someoneAsks_40 0 rfl ?_
            refine g_callV_vw [.int x1, .int v_4] (ci := 7) (T0 := TX7) (N := 6) B hS9 mf7_askOne wd_1448 (gw B wp_36) wd_1446 (by decide) rfl (fun h => (gd_ne h).1) (c7_askOne X l a0 x1 v_4 M) (by decide) (by decide) (by decide) rfl (by decide) dX7_someoneAsks_41 rfl (fun q_5 => ?_)
            refine g_iconst (v := 1) B dX7_someoneAsks_44 (by decide) ?_
            exact g_ireturn B hr rfl (by decide) (by decide) rfl dX7_someoneAsks_45
        · refine g_sub (lv' := [(0, .ref a0), (1, .int x1)]) [0, 1] rfl ?_
          exact g7_someoneAsks_J46 B hS9 hr (p7_someoneAsks_L2 n) ih a0 x1 M
    · refine g_iconst (v := 0) B dX7_someoneAsks_52 (by decide) ?_
      exact g_ireturn B hr rfl (by decide) (by decide) rfl dX7_someoneAsks_53
set_option maxRecDepth 20000 in
set_option maxHeartbeats 2000000 in
theorem g7_someoneAsks {X : gX} {p : Program} {l : Launch} {e : Env} {s : State} {m : MethodId} {args : Array Value} {below : List Frame} {meth : Method} {c : Code} (B : gB X p (rm7_someoneAsks) s m args meth c RX7 cX7_someoneAsks 3 (rm7_someoneAsks)) (hS9 : gS X s) (hr : meth.sig.returnType = some .boolean) (a0 : Nat) (M : mMem) : GG X p l e (rm7_someoneAsks) s m args below meth c (gP X below args s 0 0 (fun r9 : (Int32 × mMem) => (some (.int r9.1), r9.2))) 3 0 0 0 [(0, .ref a0)] [] M (p7_someoneAsks a0 M) := by
  unfold p7_someoneAsks
  refine g_gd ?_
  refine g_iconst (v := 0) B dX7_someoneAsks_0 (by decide) ?_
  refine g_istore_n (lv' := [(1, .int 0), (0, .ref a0)]) B dX7_someoneAsks_1 (by decide) [0, 1] rfl ?_
  refine g_sub (lv' := [(0, .ref a0), (1, .int 0)]) [1, 0] rfl ?_
  exact (g7_someoneAsks_L2 B hS9 hr) gF a0 0 M
theorem c7_someoneAsks (X : gX) (l : Launch) (a0 : Nat) (M : mMem) : Con X l yX7_someoneAsks cX7_someoneAsks 3 (some .boolean) rm7_someoneAsks (fun r9 : (Int32 × mMem) => (some (.int r9.1), r9.2)) [.ref a0] M (p7_someoneAsks a0 M) := g_con (own := RX7) (by decide +kernel) rfl (Nat.le_of_ble_eq_true rfl) (fun p e s m args below meth c B hS9 hr hn => g7_someoneAsks B hS9 hr a0 M)
theorem mf7_stableOf : gMF yX7_stableOf cX7_stableOf 3 (some .int) 1 := ⟨wd_1437, wd_11, ⟨by decide, by decide⟩, by decide +kernel⟩
set_option maxRecDepth 20000 in
set_option maxHeartbeats 2000000 in
theorem g7_stableOf_L18 {X : gX} {p : Program} {l : Launch} {e : Env} {s : State} {m : MethodId} {args : Array Value} {below : List Frame} {meth : Method} {c : Code} (B : gB X p (rm7_stableOf) s m args meth c RX7 cX7_stableOf 3 (rm7_stableOf)) (hS9 : gS X s) (hr : meth.sig.returnType = some .int) (k31 : Nat → Int32 → mMem → Option (Int32 × mMem)) (hk31 : ∀ (a0 : Nat) (x1 : Int32) (M : mMem), GG X p l e (rm7_stableOf) s m args below meth c (gP X below args s 0 0 (fun r9 : (Int32 × mMem) => (some (.int r9.1), r9.2))) 3 0 0 31 [(0, .ref a0), (1, .int x1)] [] M (k31 a0 x1 M)) (k40 : Nat → Int32 → mMem → Option (Int32 × mMem)) (hk40 : ∀ (a0 : Nat) (x1 : Int32) (M : mMem), GG X p l e (rm7_stableOf) s m args below meth c (gP X below args s 0 0 (fun r9 : (Int32 × mMem) => (some (.int r9.1), r9.2))) 3 0 0 40 [(0, .ref a0), (1, .int x1)] [] M (k40 a0 x1 M)) : ∀ (n : Nat) (a0 : Nat) (x1 : Int32) (x2 : Int32) (M : mMem), GG X p l e (rm7_stableOf) s m args below meth c (gP X below args s 0 0 (fun r9 : (Int32 × mMem) => (some (.int r9.1), r9.2))) 3 0 0 18 [(0, .ref a0), (1, .int x1), (2, .int x2)] [] M (p7_stableOf_L18 k31 k40 n a0 x1 x2 M) := by
  intro n
  induction n with
  | zero => intro a0 x1 x2 M; exact g_none
  | succ n ih =>
    intro a0 x1 x2 M
    rw [p7_stableOf_L18]
    refine g_iload_n B dX7_stableOf_18 2 rfl ?_
    refine g_bipush (v := 64) B dX7_stableOf_19 (by decide) ?_
    refine g_icmp_ge B 40 dX7_stableOf_21 (by decide) ?_ ?_
    · refine g_aload_n B dX7_stableOf_24 0 rfl ?_
      refine g_callV_iw [] (ci := 7) (T0 := TX7) (N := 6) B hS9 mf7_someoneAsks wd_1440 (gw B wp_34) wd_1438 (by decide) rfl (fun h => (gd_ne h).1) (c7_someoneAsks X l a0 M) (by decide) (by decide) (by decide) rfl (by decide) dX7_stableOf_25 rfl (fun q_1 => ?_)
      refine g_if_ne B 34 dX7_stableOf_28 (by decide) ?_ ?_
      · refine g_sub (lv' := [(0, .ref a0), (1, .int x1)]) [0, 1] rfl ?_
        exact hk31 a0 x1 q_1.2
      · refine g_iinc (v := (x2 + 1)) (lv' := [(2, .int (x2 + 1)), (0, .ref a0), (1, .int x1)]) B dX7_stableOf_34 2 rfl rfl (by decide) [0, 1, 2] rfl ?_
        refine g_goto B 18 dX7_stableOf_37 (by decide) ?_
        refine g_sub (lv' := [(0, .ref a0), (1, .int x1), (2, .int (x2 + 1))]) [1, 2, 0] rfl ?_
        exact ih a0 x1 (x2 + 1) q_1.2
    · refine g_sub (lv' := [(0, .ref a0), (1, .int x1)]) [0, 1] rfl ?_
      exact hk40 a0 x1 M
set_option maxRecDepth 20000 in
set_option maxHeartbeats 2000000 in
theorem g7_stableOf_J63 {X : gX} {p : Program} {l : Launch} {e : Env} {s : State} {m : MethodId} {args : Array Value} {below : List Frame} {meth : Method} {c : Code} (B : gB X p (rm7_stableOf) s m args meth c RX7 cX7_stableOf 3 (rm7_stableOf)) (hS9 : gS X s) (hr : meth.sig.returnType = some .int) (u0 : Int32) (M : mMem) : GG X p l e (rm7_stableOf) s m args below meth c (gP X below args s 0 0 (fun r9 : (Int32 × mMem) => (some (.int r9.1), r9.2))) 3 0 0 63 [] [.int u0] M (p7_stableOf_J63 u0 M) := by
  unfold p7_stableOf_J63
  exact g_ireturn B hr rfl (by decide) (by decide) rfl dX7_stableOf_63
set_option maxRecDepth 20000 in
set_option maxHeartbeats 2000000 in
theorem g7_stableOf_J62 {X : gX} {p : Program} {l : Launch} {e : Env} {s : State} {m : MethodId} {args : Array Value} {below : List Frame} {meth : Method} {c : Code} (B : gB X p (rm7_stableOf) s m args meth c RX7 cX7_stableOf 3 (rm7_stableOf)) (hS9 : gS X s) (hr : meth.sig.returnType = some .int) (M : mMem) : GG X p l e (rm7_stableOf) s m args below meth c (gP X below args s 0 0 (fun r9 : (Int32 × mMem) => (some (.int r9.1), r9.2))) 3 0 0 62 [] [] M (p7_stableOf_J62 M) := by
  unfold p7_stableOf_J62
  refine g_iconst (v := (-1)) B dX7_stableOf_62 (by decide) ?_
  refine g_sub (lv' := []) [] rfl ?_
  exact g7_stableOf_J63 B hS9 hr (-1) M
set_option maxRecDepth 20000 in
set_option maxHeartbeats 2000000 in
theorem g7_stableOf_J40 {X : gX} {p : Program} {l : Launch} {e : Env} {s : State} {m : MethodId} {args : Array Value} {below : List Frame} {meth : Method} {c : Code} (B : gB X p (rm7_stableOf) s m args meth c RX7 cX7_stableOf 3 (rm7_stableOf)) (hS9 : gS X s) (hr : meth.sig.returnType = some .int) (a0 : Nat) (x1 : Int32) (M : mMem) : GG X p l e (rm7_stableOf) s m args below meth c (gP X below args s 0 0 (fun r9 : (Int32 × mMem) => (some (.int r9.1), r9.2))) 3 0 0 40 [(0, .ref a0), (1, .int x1)] [] M (p7_stableOf_J40 a0 x1 M) := by
  unfold p7_stableOf_J40
  refine g_iload_n B dX7_stableOf_40 1 rfl ?_
  refine g_if_lt B 62 dX7_stableOf_41 (by decide) ?_ ?_
  · refine g_sub (lv' := []) [] rfl ?_
    exact g7_stableOf_J62 B hS9 hr M
  · refine g_iload_n B dX7_stableOf_44 1 rfl ?_
    refine g_aload_n B dX7_stableOf_45 0 rfl ?_
    refine g_getR (ci := 7) (T0 := TX7) (N := 6) B (by decide) rfl in_7 (k := 1) (by decide) rfl wd_352 (fun _ h => h) dX7_stableOf_46 (fun v_1 => ?_)
    refine g_alen B dX7_stableOf_49 (fun v_2 => ?_)
    refine g_icmp_ge B 62 dX7_stableOf_50 (by decide) ?_ ?_
    · refine g_aload_n B dX7_stableOf_53 0 rfl ?_
      refine g_getR (ci := 7) (T0 := TX7) (N := 6) B (by decide) rfl in_7 (k := 1) (by decide) rfl wd_352 (fun _ h => h) dX7_stableOf_54 (fun v_3 => ?_)
      refine g_iload_n B dX7_stableOf_57 1 rfl ?_
      refine g_iaload B dX7_stableOf_58 (fun v_4 => ?_)
      refine g_goto B 63 dX7_stableOf_59 (by decide) ?_
      refine g_sub (lv' := []) [] rfl ?_
      exact g7_stableOf_J63 B hS9 hr v_4 M
    · refine g_sub (lv' := []) [] rfl ?_
      exact g7_stableOf_J62 B hS9 hr M
set_option maxRecDepth 20000 in
set_option maxHeartbeats 2000000 in
theorem g7_stableOf_J31 {X : gX} {p : Program} {l : Launch} {e : Env} {s : State} {m : MethodId} {args : Array Value} {below : List Frame} {meth : Method} {c : Code} (B : gB X p (rm7_stableOf) s m args meth c RX7 cX7_stableOf 3 (rm7_stableOf)) (hS9 : gS X s) (hr : meth.sig.returnType = some .int) (a0 : Nat) (x1 : Int32) (M : mMem) : GG X p l e (rm7_stableOf) s m args below meth c (gP X below args s 0 0 (fun r9 : (Int32 × mMem) => (some (.int r9.1), r9.2))) 3 0 0 31 [(0, .ref a0), (1, .int x1)] [] M (p7_stableOf_J31 a0 x1 M) := by
  unfold p7_stableOf_J31
  refine g_goto B 40 dX7_stableOf_31 (by decide) ?_
  refine g_sub (lv' := [(0, .ref a0), (1, .int x1)]) [0, 1] rfl ?_
  exact g7_stableOf_J40 B hS9 hr a0 x1 M
set_option maxRecDepth 20000 in
set_option maxHeartbeats 2000000 in
theorem g7_stableOf {X : gX} {p : Program} {l : Launch} {e : Env} {s : State} {m : MethodId} {args : Array Value} {below : List Frame} {meth : Method} {c : Code} (B : gB X p (rm7_stableOf) s m args meth c RX7 cX7_stableOf 3 (rm7_stableOf)) (hS9 : gS X s) (hr : meth.sig.returnType = some .int) (a0 : Nat) (x1 : Int32) (M : mMem) : GG X p l e (rm7_stableOf) s m args below meth c (gP X below args s 0 0 (fun r9 : (Int32 × mMem) => (some (.int r9.1), r9.2))) 3 0 0 0 [(0, .ref a0), (1, .int x1)] [] M (p7_stableOf a0 x1 M) := by
  unfold p7_stableOf
  refine g_gd ?_
  refine g_aload_n B dX7_stableOf_0 0 rfl ?_
  refine g_getR (ci := 7) (T0 := TX7) (N := 6) B (by decide) rfl in_7 (k := 1) (by decide) rfl wd_352 (fun _ h => h) dX7_stableOf_1 (fun v_1 => ?_)
  refine g_iconst (v := (-1)) B dX7_stableOf_4 (by decide) ?_
  refine g_callS_vw [.ref v_1, .int (-1)] B hS9 mfJ7_fill wd_574 wd_573 (cJ7_fill X l v_1 (-1) M) (by decide) (by decide) (by decide) rfl (by decide) dX7_stableOf_5 rfl (fun q_2 => ?_)
  refine g_aload_n B dX7_stableOf_8 0 rfl ?_
  refine g_getR (ci := 7) (T0 := TX7) (N := 6) B (by decide) rfl in_7 (k := 3) (by decide) rfl wd_354 (fun _ h => h) dX7_stableOf_9 (fun v_3 => ?_)
  refine g_iconst (v := 0) B dX7_stableOf_12 (by decide) ?_
  refine g_callS_vw [.ref v_3, .int 0] B hS9 mfJ7_fill wd_574 wd_573 (cJ7_fill X l v_3 0 q_2) (by decide) (by decide) (by decide) rfl (by decide) dX7_stableOf_13 rfl (fun q_4 => ?_)
  refine g_iconst (v := 0) B dX7_stableOf_16 (by decide) ?_
  refine g_istore_n (lv' := [(2, .int 0), (0, .ref a0), (1, .int x1)]) B dX7_stableOf_17 (by decide) [0, 1, 2] rfl ?_
  refine g_sub (lv' := [(0, .ref a0), (1, .int x1), (2, .int 0)]) [1, 2, 0] rfl ?_
  exact (g7_stableOf_L18 B hS9 hr p7_stableOf_J31 (fun e0 e1 e2 => g7_stableOf_J31 B hS9 hr e0 e1 e2) p7_stableOf_J40 (fun e0 e1 e2 => g7_stableOf_J40 B hS9 hr e0 e1 e2)) gF a0 x1 0 q_4
theorem c7_stableOf (X : gX) (l : Launch) (a0 : Nat) (x1 : Int32) (M : mMem) : Con X l yX7_stableOf cX7_stableOf 3 (some .int) rm7_stableOf (fun r9 : (Int32 × mMem) => (some (.int r9.1), r9.2)) [.ref a0, .int x1] M (p7_stableOf a0 x1 M) := g_con (own := RX7) (by decide +kernel) rfl (Nat.le_of_ble_eq_true rfl) (fun p e s m args below meth c B hS9 hr hn => g7_stableOf B hS9 hr a0 x1 M)
