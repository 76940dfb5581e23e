theorem mf12_trial : gMF yX12_trial cX12_trial 4 (some .int) 2 := ⟨wd_2361, wd_13, ⟨by decide, by decide⟩, by decide +kernel⟩
set_option maxRecDepth 20000 in
set_option maxHeartbeats 2000000 in
theorem g12_trial_J55 {X : gX} {p : Program} {l : Launch} {e : Env} {s : State} {m : MethodId} {args : Array Value} {below : List Frame} {meth : Method} {c : Code} (B : gB X p (rm12_trial) s m args meth c RX12 cX12_trial 4 (rm12_trial)) (hS9 : gS X s) (hr : meth.sig.returnType = some .int) (a0 : Nat) (u0 : Int32) (M : mMem) : GG X p l e (rm12_trial) s m args below meth c (gP X below args s 0 0 (fun r9 : (Int32 × mMem) => (some (.int r9.1), r9.2))) 4 0 0 55 [(0, .ref a0)] [.int u0] M (p12_trial_J55 a0 u0 M) := by
  unfold p12_trial_J55
  refine g_istore_n (lv' := [(3, .int u0), (0, .ref a0)]) B dX12_trial_55 (by decide) [0, 1] rfl ?_
  refine g_aload_n B dX12_trial_56 1 rfl ?_
  refine g_callV_vw [] (ci := 11) (T0 := TX12) (N := 27) B hS9 mf12_bringsBack wd_2026 (gw B wp_93) wd_2024 (by decide) rfl (fun h => (gd_ne h).1) (c12_bringsBack X l a0 M) (by decide) (by decide) (by decide) rfl (by decide) dX12_trial_57 rfl (fun q_1 => ?_)
  refine g_iload_n B dX12_trial_60 0 rfl ?_
  exact g_ireturn B hr rfl (by decide) (by decide) rfl dX12_trial_61
set_option maxRecDepth 20000 in
set_option maxHeartbeats 2000000 in
theorem g12_trial_J21 {X : gX} {p : Program} {l : Launch} {e : Env} {s : State} {m : MethodId} {args : Array Value} {below : List Frame} {meth : Method} {c : Code} (B : gB X p (rm12_trial) s m args meth c RX12 cX12_trial 4 (rm12_trial)) (hS9 : gS X s) (hr : meth.sig.returnType = some .int) (a0 : Nat) (x1 : Int32) (x2 : Int32) (b0 : Nat) (u1 : Int32) (M : mMem) : GG X p l e (rm12_trial) s m args below meth c (gP X below args s 0 0 (fun r9 : (Int32 × mMem) => (some (.int r9.1), r9.2))) 4 0 0 21 [(0, .ref a0), (1, .int x1), (2, .int x2)] [.int u1, .ref b0] M (p12_trial_J21 a0 x1 x2 b0 u1 M) := by
  unfold p12_trial_J21
  refine g_iconst (v := 1) B dX12_trial_21 (by decide) ?_
  refine g_callV_iw [.int u1, .int 1] (ci := 11) (T0 := TX12) (N := 27) B hS9 mf12_throwsIf wd_1932 (gw B wp_78) wd_1930 (by decide) rfl (fun h => (gd_ne h).1) (c12_throwsIf X l b0 u1 1 M) (by decide) (by decide) (by decide) rfl (by decide) dX12_trial_22 rfl (fun q_1 => ?_)
  refine g_if_eq B 30 dX12_trial_25 (by decide) ?_ ?_
  · refine g_aload_n B dX12_trial_30 0 rfl ?_
    refine g_callV_vw [] (ci := 11) (T0 := TX12) (N := 27) B hS9 mf12_keepsAll wd_2014 (gw B wp_90) wd_2012 (by decide) rfl (fun h => (gd_ne h).1) (c12_keepsAll X l a0 q_1.2) (by decide) (by decide) (by decide) rfl (by decide) dX12_trial_31 rfl (fun q_2 => ?_)
    refine g_aload_n B dX12_trial_34 0 rfl ?_
    refine g_iload_n B dX12_trial_35 1 rfl ?_
    refine g_callV_iw [.int x1] (ci := 11) (T0 := TX12) (N := 27) B hS9 mf12_goesOn wd_2082 (gw B wp_98) wd_2080 (by decide) rfl (fun h => (gd_ne h).1) (c12_goesOn X l a0 x1 q_2) (by decide) (by decide) (by decide) rfl (by decide) dX12_trial_36 rfl (fun q_3 => ?_)
    refine g_pop B dX12_trial_39 rfl ?_
    refine g_iload_n B dX12_trial_40 2 rfl ?_
    refine g_if_eq B 51 dX12_trial_41 (by decide) ?_ ?_
    · refine g_aload_n B dX12_trial_51 0 rfl ?_
      refine g_callV_ip [] (ci := 11) (T0 := TX12) (N := 27) B hS9 mf12_agesOfAll wd_2340 (gw B wp_130) wd_2338 (by decide) rfl (fun h => (gd_ne h).1) (c12_agesOfAll X l a0 q_3.2) (by decide) (by decide) (by decide) rfl (by decide) dX12_trial_52 rfl (fun v_4 => ?_)
      refine g_sub (lv' := [(0, .ref a0)]) [0] rfl ?_
      exact g12_trial_J55 B hS9 hr a0 v_4 q_3.2
    · refine g_aload_n B dX12_trial_44 0 rfl ?_
      refine g_callV_ip [] (ci := 11) (T0 := TX12) (N := 27) B hS9 mf12_cribOnes wd_2107 (gw B wp_102) wd_2105 (by decide) rfl (fun h => (gd_ne h).1) (c12_cribOnes X l a0 q_3.2) (by decide) (by decide) (by decide) rfl (by decide) dX12_trial_45 rfl (fun v_5 => ?_)
      refine g_goto B 55 dX12_trial_48 (by decide) ?_
      refine g_sub (lv' := [(0, .ref a0)]) [0] rfl ?_
      exact g12_trial_J55 B hS9 hr a0 v_5 q_3.2
  · refine g_iconst (v := 0) B dX12_trial_28 (by decide) ?_
    exact g_ireturn B hr rfl (by decide) (by decide) rfl dX12_trial_29
set_option maxRecDepth 20000 in
set_option maxHeartbeats 2000000 in
theorem g12_trial {X : gX} {p : Program} {l : Launch} {e : Env} {s : State} {m : MethodId} {args : Array Value} {below : List Frame} {meth : Method} {c : Code} (B : gB X p (rm12_trial) s m args meth c RX12 cX12_trial 4 (rm12_trial)) (hS9 : gS X s) (hr : meth.sig.returnType = some .int) (a0 : Nat) (x1 : Int32) (x2 : Int32) (M : mMem) : GG X p l e (rm12_trial) s m args below meth c (gP X below args s 0 0 (fun r9 : (Int32 × mMem) => (some (.int r9.1), r9.2))) 4 0 0 0 [(0, .ref a0), (1, .int x1), (2, .int x2)] [] M (p12_trial a0 x1 x2 M) := by
  unfold p12_trial
  refine g_gd ?_
  refine g_aload_n B dX12_trial_0 0 rfl ?_
  refine g_iconst (v := 0) B dX12_trial_1 (by decide) ?_
  refine g_putI (ci := 11) (T0 := TX12) (N := 27) B (by decide) rfl in_11 tyX12 tyX12_ok nmX12 (k := 0) (by decide) wd_1641 (fun _ h => h) rfl rfl (ty := .int) (by decide +kernel) rfl rfl dX12_trial_2 (fun M_1 => ?_)
  refine g_aload_n B dX12_trial_5 0 rfl ?_
  refine g_iload_n B dX12_trial_6 1 rfl ?_
  refine g_iconst (v := 0) B dX12_trial_7 (by decide) ?_
  refine g_bipush (v := 100) B dX12_trial_8 (by decide) ?_
  refine g_callS_ip [.int x1, .int 0, .int 100] B hS9 mf12_in wd_1947 wd_1946 (c12_in X l x1 0 100 M_1) (by decide) (by decide) (by decide) rfl (Nat.le_of_ble_eq_true rfl) dX12_trial_10 rfl (fun v_2 => ?_)
  refine g_if_ne B 20 dX12_trial_13 (by decide) ?_ ?_
  · refine g_iconst (v := 1) B dX12_trial_16 (by decide) ?_
    refine g_goto B 21 dX12_trial_17 (by decide) ?_
    refine g_sub (lv' := [(0, .ref a0), (1, .int x1), (2, .int x2)]) [0, 1, 2] rfl ?_
    exact g12_trial_J21 B hS9 hr a0 x1 x2 a0 1 M_1
  · refine g_iconst (v := 0) B dX12_trial_20 (by decide) ?_
    refine g_sub (lv' := [(0, .ref a0), (1, .int x1), (2, .int x2)]) [0, 1, 2] rfl ?_
    exact g12_trial_J21 B hS9 hr a0 x1 x2 a0 0 M_1
theorem c12_trial (X : gX) (l : Launch) (a0 : Nat) (x1 : Int32) (x2 : Int32) (M : mMem) : Con X l yX12_trial cX12_trial 4 (some .int) rm12_trial (fun r9 : (Int32 × mMem) => (some (.int r9.1), r9.2)) [.ref a0, .int x1, .int x2] M (p12_trial a0 x1 x2 M) := g_con (own := RX12) (by decide +kernel) rfl (Nat.le_of_ble_eq_true rfl) (fun p e s m args below meth c B hS9 hr hn => g12_trial B hS9 hr a0 x1 x2 M)
theorem mf12_span : gMF yX12_span cX12_span 6 (some .int) 2 := ⟨wd_2365, wd_13, ⟨by decide, by decide⟩, by decide +kernel⟩
set_option maxRecDepth 20000 in
set_option maxHeartbeats 2000000 in
theorem g12_span_J99 {X : gX} {p : Program} {l : Launch} {e : Env} {s : State} {m : MethodId} {args : Array Value} {below : List Frame} {meth : Method} {c : Code} (B : gB X p (rm12_span) s m args meth c RX12 cX12_span 6 (rm12_span)) (hS9 : gS X s) (hr : meth.sig.returnType = some .int) (rec39 : Nat → Int32 → Int32 → Int32 → Int32 → mMem → Option (Int32 × mMem)) (hrec39 : ∀ (a0 : Nat) (x1 : Int32) (x2 : Int32) (x3 : Int32) (x4 : Int32) (M : mMem), GG X p l e (rm12_span) s m args below meth c (gP X below args s 0 0 (fun r9 : (Int32 × mMem) => (some (.int r9.1), r9.2))) 6 0 0 39 [(0, .ref a0), (1, .int x1), (2, .int x2), (3, .int x3), (4, .int x4)] [] M (rec39 a0 x1 x2 x3 x4 M)) (a0 : Nat) (x1 : Int32) (x2 : Int32) (x4 : Int32) (u0 : Int32) (M : mMem) : GG X p l e (rm12_span) s m args below meth c (gP X below args s 0 0 (fun r9 : (Int32 × mMem) => (some (.int r9.1), r9.2))) 6 0 0 99 [(0, .ref a0), (1, .int x1), (2, .int x2), (4, .int x4)] [.int u0] M (p12_span_J99 rec39 a0 x1 x2 x4 u0 M) := by
  unfold p12_span_J99
  refine g_istore_n (lv' := [(3, .int u0), (0, .ref a0), (1, .int x1), (2, .int x2), (4, .int x4)]) B dX12_span_99 (by decide) [0, 1, 2, 3, 4] rfl ?_
  refine g_iinc (v := (x4 + 1)) (lv' := [(4, .int (x4 + 1)), (3, .int u0), (0, .ref a0), (1, .int x1), (2, .int x2)]) B dX12_span_100 4 rfl rfl (by decide) [0, 1, 2, 3, 4] rfl ?_
  refine g_goto B 39 dX12_span_103 (by decide) ?_
  refine g_sub (lv' := [(0, .ref a0), (1, .int x1), (2, .int x2), (3, .int u0), (4, .int (x4 + 1))]) [2, 3, 4, 1, 0] rfl ?_
  exact hrec39 a0 x1 x2 u0 (x4 + 1) M
set_option maxRecDepth 20000 in
set_option maxHeartbeats 2000000 in
theorem g12_span_L39 {X : gX} {p : Program} {l : Launch} {e : Env} {s : State} {m : MethodId} {args : Array Value} {below : List Frame} {meth : Method} {c : Code} (B : gB X p (rm12_span) s m args meth c RX12 cX12_span 6 (rm12_span)) (hS9 : gS X s) (hr : meth.sig.returnType = some .int) : ∀ (n : Nat) (a0 : Nat) (x1 : Int32) (x2 : Int32) (x3 : Int32) (x4 : Int32) (M : mMem), GG X p l e (rm12_span) s m args below meth c (gP X below args s 0 0 (fun r9 : (Int32 × mMem) => (some (.int r9.1), r9.2))) 6 0 0 39 [(0, .ref a0), (1, .int x1), (2, .int x2), (3, .int x3), (4, .int x4)] [] M (p12_span_L39 n a0 x1 x2 x3 x4 M) := by
  intro n
  induction n with
  | zero => intro a0 x1 x2 x3 x4 M; exact g_none
  | succ n ih =>
    intro a0 x1 x2 x3 x4 M
    rw [p12_span_L39]
    refine g_iload B dX12_span_39 4 rfl ?_
    refine g_bipush (v := 6) B dX12_span_41 (by decide) ?_
    refine g_icmp_gt B 106 dX12_span_43 (by decide) ?_ ?_
    · refine g_iload_n B dX12_span_106 3 rfl ?_
      exact g_ireturn B hr rfl (by decide) (by decide) rfl dX12_span_107
    · refine g_aload_n B dX12_span_46 0 rfl ?_
      refine g_getR (ci := 11) (T0 := TX12) (N := 27) B (by decide) rfl in_11 (k := 1) (by decide) rfl wd_1642 (fun _ h => h) dX12_span_47 (fun v_1 => ?_)
      refine g_bipush (v := 8) B dX12_span_50 (by decide) ?_
      refine g_iload B dX12_span_52 4 rfl ?_
      refine g_iastore B dX12_span_54 (fun M_2 => ?_)
      refine g_aload_n B dX12_span_55 0 rfl ?_
      refine g_iload_n B dX12_span_56 1 rfl ?_
      refine g_callV_iw [.int x1] (ci := 11) (T0 := TX12) (N := 27) B hS9 mf12_goesOn wd_2082 (gw B wp_98) wd_2080 (by decide) rfl (fun h => (gd_ne h).1) (c12_goesOn X l a0 x1 M_2) (by decide) (by decide) (by decide) rfl (by decide) dX12_span_57 rfl (fun q_3 => ?_)
      refine g_pop B dX12_span_60 rfl ?_
      refine g_aload_n B dX12_span_61 0 rfl ?_
      refine g_callV_ip [] (ci := 11) (T0 := TX12) (N := 27) B hS9 mf12_agesOfAll wd_2340 (gw B wp_130) wd_2338 (by decide) rfl (fun h => (gd_ne h).1) (c12_agesOfAll X l a0 q_3.2) (by decide) (by decide) (by decide) rfl (by decide) dX12_span_62 rfl (fun v_4 => ?_)
      refine g_istore (lv' := [(5, .int v_4), (0, .ref a0), (1, .int x1), (2, .int x2), (3, .int x3), (4, .int x4)]) B dX12_span_65 (by decide) [0, 1, 2, 3, 4, 5] rfl ?_
      refine g_aload_n B dX12_span_67 1 rfl ?_
      refine g_callV_vw [] (ci := 11) (T0 := TX12) (N := 27) B hS9 mf12_bringsBack wd_2026 (gw B wp_93) wd_2024 (by decide) rfl (fun h => (gd_ne h).1) (c12_bringsBack X l a0 q_3.2) (by decide) (by decide) (by decide) rfl (by decide) dX12_span_68 rfl (fun q_5 => ?_)
      refine g_iload_n B dX12_span_71 4 rfl ?_
      refine g_if_ge B 80 dX12_span_72 (by decide) ?_ ?_
      · refine g_iload B dX12_span_75 0 rfl ?_
        refine g_goto B 99 dX12_span_77 (by decide) ?_
        refine g_sub (lv' := [(0, .ref a0), (1, .int x1), (2, .int x2), (4, .int x4)]) [1, 2, 3, 5] rfl ?_
        exact g12_span_J99 B hS9 hr (p12_span_L39 n) ih a0 x1 x2 x4 v_4 q_5
      · refine g_iload_n B dX12_span_80 3 rfl ?_
        refine g_if_eq B 93 dX12_span_81 (by decide) ?_ ?_
        · refine g_iload_n B dX12_span_93 4 rfl ?_
          refine g_iload B dX12_span_94 0 rfl ?_
          refine g_min B wd_2007 wd_538 wd_15 wd_539 (by decide) (Nat.le_of_ble_eq_true rfl) (by decide) dX12_span_96 ?_
          refine g_sub (lv' := [(0, .ref a0), (1, .int x1), (2, .int x2), (4, .int x4)]) [1, 2, 3, 5] rfl ?_
          exact g12_span_J99 B hS9 hr (p12_span_L39 n) ih a0 x1 x2 x4 (minI x3 v_4) q_5
        · refine g_iload_n B dX12_span_84 4 rfl ?_
          refine g_iload B dX12_span_85 0 rfl ?_
          refine g_max B wd_1869 wd_516 wd_15 wd_517 (by decide) (Nat.le_of_ble_eq_true rfl) (by decide) dX12_span_87 ?_
          refine g_goto B 99 dX12_span_90 (by decide) ?_
          refine g_sub (lv' := [(0, .ref a0), (1, .int x1), (2, .int x2), (4, .int x4)]) [1, 2, 3, 5] rfl ?_
          exact g12_span_J99 B hS9 hr (p12_span_L39 n) ih a0 x1 x2 x4 (maxI x3 v_4) q_5
set_option maxRecDepth 20000 in
set_option maxHeartbeats 2000000 in
theorem g12_span_J21 {X : gX} {p : Program} {l : Launch} {e : Env} {s : State} {m : MethodId} {args : Array Value} {below : List Frame} {meth : Method} {c : Code} (B : gB X p (rm12_span) s m args meth c RX12 cX12_span 6 (rm12_span)) (hS9 : gS X s) (hr : meth.sig.returnType = some .int) (a0 : Nat) (x1 : Int32) (x2 : Int32) (b0 : Nat) (u1 : Int32) (M : mMem) : GG X p l e (rm12_span) s m args below meth c (gP X below args s 0 0 (fun r9 : (Int32 × mMem) => (some (.int r9.1), r9.2))) 6 0 0 21 [(0, .ref a0), (1, .int x1), (2, .int x2)] [.int u1, .ref b0] M (p12_span_J21 a0 x1 x2 b0 u1 M) := by
  unfold p12_span_J21
  refine g_iconst (v := 1) B dX12_span_21 (by decide) ?_
  refine g_callV_iw [.int u1, .int 1] (ci := 11) (T0 := TX12) (N := 27) B hS9 mf12_throwsIf wd_1932 (gw B wp_78) wd_1930 (by decide) rfl (fun h => (gd_ne h).1) (c12_throwsIf X l b0 u1 1 M) (by decide) (by decide) (by decide) rfl (by decide) dX12_span_22 rfl (fun q_1 => ?_)
  refine g_if_eq B 30 dX12_span_25 (by decide) ?_ ?_
  · refine g_aload_n B dX12_span_30 0 rfl ?_
    refine g_callV_vw [] (ci := 11) (T0 := TX12) (N := 27) B hS9 mf12_keepsAll wd_2014 (gw B wp_90) wd_2012 (by decide) rfl (fun h => (gd_ne h).1) (c12_keepsAll X l a0 q_1.2) (by decide) (by decide) (by decide) rfl (by decide) dX12_span_31 rfl (fun q_2 => ?_)
    refine g_iconst (v := (-1)) B dX12_span_34 (by decide) ?_
    refine g_istore_n (lv' := [(3, .int (-1)), (0, .ref a0), (1, .int x1), (2, .int x2)]) B dX12_span_35 (by decide) [0, 1, 2, 3] rfl ?_
    refine g_iconst (v := 1) B dX12_span_36 (by decide) ?_
    refine g_istore (lv' := [(4, .int 1), (3, .int (-1)), (0, .ref a0), (1, .int x1), (2, .int x2)]) B dX12_span_37 (by decide) [0, 1, 2, 3, 4] rfl ?_
    refine g_sub (lv' := [(0, .ref a0), (1, .int x1), (2, .int x2), (3, .int (-1)), (4, .int 1)]) [2, 3, 4, 1, 0] rfl ?_
    exact (g12_span_L39 B hS9 hr) gF a0 x1 x2 (-1) 1 q_2
  · refine g_iconst (v := 0) B dX12_span_28 (by decide) ?_
    exact g_ireturn B hr rfl (by decide) (by decide) rfl dX12_span_29
set_option maxRecDepth 20000 in
set_option maxHeartbeats 2000000 in
theorem g12_span {X : gX} {p : Program} {l : Launch} {e : Env} {s : State} {m : MethodId} {args : Array Value} {below : List Frame} {meth : Method} {c : Code} (B : gB X p (rm12_span) s m args meth c RX12 cX12_span 6 (rm12_span)) (hS9 : gS X s) (hr : meth.sig.returnType = some .int) (a0 : Nat) (x1 : Int32) (x2 : Int32) (M : mMem) : GG X p l e (rm12_span) s m args below meth c (gP X below args s 0 0 (fun r9 : (Int32 × mMem) => (some (.int r9.1), r9.2))) 6 0 0 0 [(0, .ref a0), (1, .int x1), (2, .int x2)] [] M (p12_span a0 x1 x2 M) := by
  unfold p12_span
  refine g_gd ?_
  refine g_aload_n B dX12_span_0 0 rfl ?_
  refine g_iconst (v := 0) B dX12_span_1 (by decide) ?_
  refine g_putI (ci := 11) (T0 := TX12) (N := 27) B (by decide) rfl in_11 tyX12 tyX12_ok nmX12 (k := 0) (by decide) wd_1641 (fun _ h => h) rfl rfl (ty := .int) (by decide +kernel) rfl rfl dX12_span_2 (fun M_1 => ?_)
  refine g_aload_n B dX12_span_5 0 rfl ?_
  refine g_iload_n B dX12_span_6 1 rfl ?_
  refine g_iconst (v := 0) B dX12_span_7 (by decide) ?_
  refine g_bipush (v := 100) B dX12_span_8 (by decide) ?_
  refine g_callS_ip [.int x1, .int 0, .int 100] B hS9 mf12_in wd_1947 wd_1946 (c12_in X l x1 0 100 M_1) (by decide) (by decide) (by decide) rfl (Nat.le_of_ble_eq_true rfl) dX12_span_10 rfl (fun v_2 => ?_)
  refine g_if_ne B 20 dX12_span_13 (by decide) ?_ ?_
  · refine g_iconst (v := 1) B dX12_span_16 (by decide) ?_
    refine g_goto B 21 dX12_span_17 (by decide) ?_
    refine g_sub (lv' := [(0, .ref a0), (1, .int x1), (2, .int x2)]) [0, 1, 2] rfl ?_
    exact g12_span_J21 B hS9 hr a0 x1 x2 a0 1 M_1
  · refine g_iconst (v := 0) B dX12_span_20 (by decide) ?_
    refine g_sub (lv' := [(0, .ref a0), (1, .int x1), (2, .int x2)]) [0, 1, 2] rfl ?_
    exact g12_span_J21 B hS9 hr a0 x1 x2 a0 0 M_1
theorem c12_span (X : gX) (l : Launch) (a0 : Nat) (x1 : Int32) (x2 : Int32) (M : mMem) : Con X l yX12_span cX12_span 6 (some .int) rm12_span (fun r9 : (Int32 × mMem) => (some (.int r9.1), r9.2)) [.ref a0, .int x1, .int x2] M (p12_span a0 x1 x2 M) := g_con (own := RX12) (by decide +kernel) rfl (Nat.le_of_ble_eq_true rfl) (fun p e s m args below meth c B hS9 hr hn => g12_span B hS9 hr a0 x1 x2 M)
theorem mf12_led : gMF yX12_led cX12_led 6 (some .int) 2 := ⟨wd_2369, wd_13, ⟨by decide, by decide⟩, by decide +kernel⟩
set_option maxRecDepth 20000 in
set_option maxHeartbeats 2000000 in
theorem g12_led_J67 {X : gX} {p : Program} {l : Launch} {e : Env} {s : State} {m : MethodId} {args : Array Value} {below : List Frame} {meth : Method} {c : Code} (B : gB X p (rm12_led) s m args meth c RX12 cX12_led 6 (rm12_led)) (hS9 : gS X s) (hr : meth.sig.returnType = some .int) (rec36 : Nat → Int32 → Int32 → Int32 → Int32 → Int32 → mMem → Option (Int32 × mMem)) (hrec36 : ∀ (a0 : Nat) (x1 : Int32) (x2 : Int32) (x3 : Int32) (x4 : Int32) (x5 : Int32) (M : mMem), GG X p l e (rm12_led) s m args below meth c (gP X below args s 0 0 (fun r9 : (Int32 × mMem) => (some (.int r9.1), r9.2))) 6 0 0 36 [(0, .ref a0), (1, .int x1), (2, .int x2), (3, .int x3), (4, .int x4), (5, .int x5)] [] M (rec36 a0 x1 x2 x3 x4 x5 M)) (a0 : Nat) (x1 : Int32) (x2 : Int32) (x3 : Int32) (x4 : Int32) (x5 : Int32) (M : mMem) : GG X p l e (rm12_led) s m args below meth c (gP X below args s 0 0 (fun r9 : (Int32 × mMem) => (some (.int r9.1), r9.2))) 6 0 0 67 [(0, .ref a0), (1, .int x1), (2, .int x2), (3, .int x3), (4, .int x4), (5, .int x5)] [] M (p12_led_J67 rec36 a0 x1 x2 x3 x4 x5 M) := by
  unfold p12_led_J67
  refine g_iinc (v := (x5 + (-1))) (lv' := [(5, .int (x5 + (-1))), (0, .ref a0), (1, .int x1), (2, .int x2), (3, .int x3), (4, .int x4)]) B dX12_led_67 5 rfl rfl (by decide) [0, 1, 2, 3, 4, 5] rfl ?_
  refine g_goto B 36 dX12_led_70 (by decide) ?_
  refine g_sub (lv' := [(0, .ref a0), (1, .int x1), (2, .int x2), (3, .int x3), (4, .int x4), (5, .int (x5 + (-1)))]) [1, 2, 3, 4, 5, 0] rfl ?_
  exact hrec36 a0 x1 x2 x3 x4 (x5 + (-1)) M
set_option maxRecDepth 20000 in
set_option maxHeartbeats 2000000 in
theorem g12_led_L36 {X : gX} {p : Program} {l : Launch} {e : Env} {s : State} {m : MethodId} {args : Array Value} {below : List Frame} {meth : Method} {c : Code} (B : gB X p (rm12_led) s m args meth c RX12 cX12_led 6 (rm12_led)) (hS9 : gS X s) (hr : meth.sig.returnType = some .int) (k73 : Int32 → Int32 → Int32 → mMem → Option (Int32 × mMem)) (hk73 : ∀ (x2 : Int32) (x3 : Int32) (x4 : Int32) (M : mMem), GG X p l e (rm12_led) s m args below meth c (gP X below args s 0 0 (fun r9 : (Int32 × mMem) => (some (.int r9.1), r9.2))) 6 0 0 73 [(2, .int x2), (3, .int x3), (4, .int x4)] [] M (k73 x2 x3 x4 M)) : ∀ (n : Nat) (a0 : Nat) (x1 : Int32) (x2 : Int32) (x3 : Int32) (x4 : Int32) (x5 : Int32) (M : mMem), GG X p l e (rm12_led) s m args below meth c (gP X below args s 0 0 (fun r9 : (Int32 × mMem) => (some (.int r9.1), r9.2))) 6 0 0 36 [(0, .ref a0), (1, .int x1), (2, .int x2), (3, .int x3), (4, .int x4), (5, .int x5)] [] M (p12_led_L36 k73 n a0 x1 x2 x3 x4 x5 M) := by
  intro n
  induction n with
  | zero => intro a0 x1 x2 x3 x4 x5 M; exact g_none
  | succ n ih =>
    intro a0 x1 x2 x3 x4 x5 M
    rw [p12_led_L36]
    refine g_iload B dX12_led_36 5 rfl ?_
    refine g_if_lt B 73 dX12_led_38 (by decide) ?_ ?_
    · refine g_sub (lv' := [(2, .int x2), (3, .int x3), (4, .int x4)]) [2, 3, 4] rfl ?_
      exact hk73 x2 x3 x4 M
    · refine g_aload_n B dX12_led_41 0 rfl ?_
      refine g_iload B dX12_led_42 5 rfl ?_
      refine g_iconst (v := 2) B dX12_led_44 (by decide) ?_
      refine g_callV_ip [.int x5, .int 2] (ci := 11) (T0 := TX12) (N := 27) B hS9 mf12_ofLog wd_1966 (gw B wp_83) wd_1964 (by decide) rfl (fun h => (gd_ne h).1) (c12_ofLog X l a0 x5 2 M) (by decide) (by decide) (by decide) rfl (by decide) dX12_led_45 rfl (fun v_1 => ?_)
      refine g_iload_n B dX12_led_48 1 rfl ?_
      refine g_icmp_eq B 55 dX12_led_49 (by decide) ?_ ?_
      · refine g_iinc (v := (x3 + 1)) (lv' := [(3, .int (x3 + 1)), (0, .ref a0), (1, .int x1), (2, .int x2), (4, .int x4), (5, .int x5)]) B dX12_led_55 3 rfl rfl (by decide) [0, 1, 2, 3, 4, 5] rfl ?_
        refine g_aload_n B dX12_led_58 1 rfl ?_
        refine g_iload B dX12_led_59 5 rfl ?_
        refine g_iconst (v := 0) B dX12_led_61 (by decide) ?_
        refine g_callV_ip [.int x5, .int 0] (ci := 11) (T0 := TX12) (N := 27) B hS9 mf12_ofLog wd_1966 (gw B wp_83) wd_1964 (by decide) rfl (fun h => (gd_ne h).1) (c12_ofLog X l a0 x5 0 M) (by decide) (by decide) (by decide) rfl (by decide) dX12_led_62 rfl (fun v_2 => ?_)
        refine g_istore (lv' := [(4, .int v_2), (3, .int (x3 + 1)), (0, .ref a0), (1, .int x1), (2, .int x2), (5, .int x5)]) B dX12_led_65 (by decide) [0, 1, 2, 3, 4, 5] rfl ?_
        refine g_sub (lv' := [(0, .ref a0), (1, .int x1), (2, .int x2), (3, .int (x3 + 1)), (4, .int v_2), (5, .int x5)]) [2, 3, 4, 1, 0, 5] rfl ?_
        exact g12_led_J67 B hS9 hr (p12_led_L36 k73 n) ih a0 x1 x2 (x3 + 1) v_2 x5 M
      · refine g_goto B 67 dX12_led_52 (by decide) ?_
        refine g_sub (lv' := [(0, .ref a0), (1, .int x1), (2, .int x2), (3, .int x3), (4, .int x4), (5, .int x5)]) [0, 1, 2, 3, 4, 5] rfl ?_
        exact g12_led_J67 B hS9 hr (p12_led_L36 k73 n) ih a0 x1 x2 x3 x4 x5 M
set_option maxRecDepth 20000 in
set_option maxHeartbeats 2000000 in
theorem g12_led_J83 {X : gX} {p : Program} {l : Launch} {e : Env} {s : State} {m : MethodId} {args : Array Value} {below : List Frame} {meth : Method} {c : Code} (B : gB X p (rm12_led) s m args meth c RX12 cX12_led 6 (rm12_led)) (hS9 : gS X s) (hr : meth.sig.returnType = some .int) (u0 : Int32) (M : mMem) : GG X p l e (rm12_led) s m args below meth c (gP X below args s 0 0 (fun r9 : (Int32 × mMem) => (some (.int r9.1), r9.2))) 6 0 0 83 [] [.int u0] M (p12_led_J83 u0 M) := by
  unfold p12_led_J83
  exact g_ireturn B hr rfl (by decide) (by decide) rfl dX12_led_83
set_option maxRecDepth 20000 in
set_option maxHeartbeats 2000000 in
theorem g12_led_J73 {X : gX} {p : Program} {l : Launch} {e : Env} {s : State} {m : MethodId} {args : Array Value} {below : List Frame} {meth : Method} {c : Code} (B : gB X p (rm12_led) s m args meth c RX12 cX12_led 6 (rm12_led)) (hS9 : gS X s) (hr : meth.sig.returnType = some .int) (x2 : Int32) (x3 : Int32) (x4 : Int32) (M : mMem) : GG X p l e (rm12_led) s m args below meth c (gP X below args s 0 0 (fun r9 : (Int32 × mMem) => (some (.int r9.1), r9.2))) 6 0 0 73 [(2, .int x2), (3, .int x3), (4, .int x4)] [] M (p12_led_J73 x2 x3 x4 M) := by
  unfold p12_led_J73
  refine g_iload_n B dX12_led_73 0 rfl ?_
  refine g_if_eq B 82 dX12_led_74 (by decide) ?_ ?_
  · refine g_iload_n B dX12_led_82 1 rfl ?_
    refine g_sub (lv' := []) [] rfl ?_
    exact g12_led_J83 B hS9 hr x3 M
  · refine g_iload B dX12_led_77 2 rfl ?_
    refine g_goto B 83 dX12_led_79 (by decide) ?_
    refine g_sub (lv' := []) [] rfl ?_
    exact g12_led_J83 B hS9 hr x4 M
set_option maxRecDepth 20000 in
set_option maxHeartbeats 2000000 in
theorem g12_led {X : gX} {p : Program} {l : Launch} {e : Env} {s : State} {m : MethodId} {args : Array Value} {below : List Frame} {meth : Method} {c : Code} (B : gB X p (rm12_led) s m args meth c RX12 cX12_led 6 (rm12_led)) (hS9 : gS X s) (hr : meth.sig.returnType = some .int) (a0 : Nat) (x1 : Int32) (x2 : Int32) (M : mMem) : GG X p l e (rm12_led) s m args below meth c (gP X below args s 0 0 (fun r9 : (Int32 × mMem) => (some (.int r9.1), r9.2))) 6 0 0 0 [(0, .ref a0), (1, .int x1), (2, .int x2)] [] M (p12_led a0 x1 x2 M) := by
  unfold p12_led
  refine g_gd ?_
  refine g_aload_n B dX12_led_0 0 rfl ?_
  refine g_iconst (v := 0) B dX12_led_1 (by decide) ?_
  refine g_putI (ci := 11) (T0 := TX12) (N := 27) B (by decide) rfl in_11 tyX12 tyX12_ok nmX12 (k := 0) (by decide) wd_1641 (fun _ h => h) rfl rfl (ty := .int) (by decide +kernel) rfl rfl dX12_led_2 (fun M_1 => ?_)
  refine g_aload_n B dX12_led_5 0 rfl ?_
  refine g_aload_n B dX12_led_6 0 rfl ?_
  refine g_iload_n B dX12_led_7 1 rfl ?_
  refine g_callV_ip [.int x1] (ci := 11) (T0 := TX12) (N := 27) B hS9 mf12_nobody wd_1944 (gw B wp_79) wd_1942 (by decide) rfl (fun h => (gd_ne h).1) (c12_nobody X l a0 x1 M_1) (by decide) (by decide) (by decide) rfl (Nat.le_of_ble_eq_true rfl) dX12_led_8 rfl (fun v_2 => ?_)
  refine g_iconst (v := 1) B dX12_led_11 (by decide) ?_
  refine g_callV_iw [.int v_2, .int 1] (ci := 11) (T0 := TX12) (N := 27) B hS9 mf12_throwsIf wd_1932 (gw B wp_78) wd_1930 (by decide) rfl (fun h => (gd_ne h).1) (c12_throwsIf X l a0 v_2 1 M_1) (by decide) (by decide) (by decide) rfl (by decide) dX12_led_12 rfl (fun q_3 => ?_)
  refine g_if_eq B 20 dX12_led_15 (by decide) ?_ ?_
  · refine g_iconst (v := 0) B dX12_led_20 (by decide) ?_
    refine g_istore_n (lv' := [(3, .int 0), (0, .ref a0), (1, .int x1), (2, .int x2)]) B dX12_led_21 (by decide) [0, 1, 2, 3] rfl ?_
    refine g_iconst (v := (-1)) B dX12_led_22 (by decide) ?_
    refine g_istore (lv' := [(4, .int (-1)), (3, .int 0), (0, .ref a0), (1, .int x1), (2, .int x2)]) B dX12_led_23 (by decide) [0, 1, 2, 3, 4] rfl ?_
    refine g_aload_n B dX12_led_25 2 rfl ?_
    refine g_getR (ci := 11) (T0 := TX12) (N := 27) B (by decide) rfl in_11 (k := 1) (by decide) rfl wd_1642 (fun _ h => h) dX12_led_26 (fun v_4 => ?_)
    refine g_bipush (v := 7) B dX12_led_29 (by decide) ?_
    refine g_iaload B dX12_led_31 (fun v_5 => ?_)
    refine g_iconst (v := 1) B dX12_led_32 (by decide) ?_
    refine g_isub B dX12_led_33 ?_
    refine g_istore (lv' := [(5, .int (v_5 - 1)), (4, .int (-1)), (3, .int 0), (0, .ref a0), (1, .int x1), (2, .int x2)]) B dX12_led_34 (by decide) [0, 1, 2, 3, 4, 5] rfl ?_
    refine g_sub (lv' := [(0, .ref a0), (1, .int x1), (2, .int x2), (3, .int 0), (4, .int (-1)), (5, .int (v_5 - 1))]) [3, 4, 5, 2, 1, 0] rfl ?_
    exact (g12_led_L36 B hS9 hr p12_led_J73 (fun e0 e1 e2 e3 => g12_led_J73 B hS9 hr e0 e1 e2 e3)) gF a0 x1 x2 0 (-1) (v_5 - 1) q_3.2
  · refine g_iconst (v := 0) B dX12_led_18 (by decide) ?_
    exact g_ireturn B hr rfl (by decide) (by decide) rfl dX12_led_19
theorem c12_led (X : gX) (l : Launch) (a0 : Nat) (x1 : Int32) (x2 : Int32) (M : mMem) : Con X l yX12_led cX12_led 6 (some .int) rm12_led (fun r9 : (Int32 × mMem) => (some (.int r9.1), r9.2)) [.ref a0, .int x1, .int x2] M (p12_led a0 x1 x2 M) := g_con (own := RX12) (by decide +kernel) rfl (Nat.le_of_ble_eq_true rfl) (fun p e s m args below meth c B hS9 hr hn => g12_led B hS9 hr a0 x1 x2 M)
theorem mf12_log : gMF yX12_log cX12_log 3 (some .int) 2 := ⟨wd_2373, wd_13, ⟨by decide, by decide⟩, by decide +kernel⟩
set_option maxRecDepth 20000 in
set_option maxHeartbeats 2000000 in
theorem g12_log_J56 {X : gX} {p : Program} {l : Launch} {e : Env} {s : State} {m : MethodId} {args : Array Value} {below : List Frame} {meth : Method} {c : Code} (B : gB X p (rm12_log) s m args meth c RX12 cX12_log 3 (rm12_log)) (hS9 : gS X s) (hr : meth.sig.returnType = some .int) (u0 : Int32) (M : mMem) : GG X p l e (rm12_log) s m args below meth c (gP X below args s 0 0 (fun r9 : (Int32 × mMem) => (some (.int r9.1), r9.2))) 3 0 0 56 [] [.int u0] M (p12_log_J56 u0 M) := by
  unfold p12_log_J56
  exact g_ireturn B hr rfl (by decide) (by decide) rfl dX12_log_56
set_option maxRecDepth 20000 in
set_option maxHeartbeats 2000000 in
theorem g12_log_J20 {X : gX} {p : Program} {l : Launch} {e : Env} {s : State} {m : MethodId} {args : Array Value} {below : List Frame} {meth : Method} {c : Code} (B : gB X p (rm12_log) s m args meth c RX12 cX12_log 3 (rm12_log)) (hS9 : gS X s) (hr : meth.sig.returnType = some .int) (a0 : Nat) (x1 : Int32) (x2 : Int32) (b0 : Nat) (u1 : Int32) (M : mMem) : GG X p l e (rm12_log) s m args below meth c (gP X below args s 0 0 (fun r9 : (Int32 × mMem) => (some (.int r9.1), r9.2))) 3 0 0 20 [(0, .ref a0), (1, .int x1), (2, .int x2)] [.int u1, .ref b0] M (p12_log_J20 a0 x1 x2 b0 u1 M) := by
  unfold p12_log_J20
  refine g_iconst (v := 1) B dX12_log_20 (by decide) ?_
  refine g_callV_iw [.int u1, .int 1] (ci := 11) (T0 := TX12) (N := 27) B hS9 mf12_throwsIf wd_1932 (gw B wp_78) wd_1930 (by decide) rfl (fun h => (gd_ne h).1) (c12_throwsIf X l b0 u1 1 M) (by decide) (by decide) (by decide) rfl (by decide) dX12_log_21 rfl (fun q_1 => ?_)
  refine g_if_eq B 29 dX12_log_24 (by decide) ?_ ?_
  · refine g_iload_n B dX12_log_29 1 rfl ?_
    refine g_iconst (v := 0) B dX12_log_30 (by decide) ?_
    refine g_aload_n B dX12_log_31 0 rfl ?_
    refine g_getR (ci := 11) (T0 := TX12) (N := 27) B (by decide) rfl in_11 (k := 1) (by decide) rfl wd_1642 (fun _ h => h) dX12_log_32 (fun v_2 => ?_)
    refine g_bipush (v := 7) B dX12_log_35 (by decide) ?_
    refine g_iaload B dX12_log_37 (fun v_3 => ?_)
    refine g_iconst (v := 1) B dX12_log_38 (by decide) ?_
    refine g_isub B dX12_log_39 ?_
    refine g_callS_ip [.int x1, .int 0, .int (v_3 - 1)] B hS9 mf12_in wd_1947 wd_1946 (c12_in X l x1 0 (v_3 - 1) q_1.2) (by decide) (by decide) (by decide) rfl (by decide) dX12_log_40 rfl (fun v_4 => ?_)
    refine g_if_eq B 55 dX12_log_43 (by decide) ?_ ?_
    · refine g_iconst (v := (-1)) B dX12_log_55 (by decide) ?_
      refine g_sub (lv' := []) [] rfl ?_
      exact g12_log_J56 B hS9 hr (-1) q_1.2
    · refine g_aload_n B dX12_log_46 0 rfl ?_
      refine g_iload_n B dX12_log_47 1 rfl ?_
      refine g_iload_n B dX12_log_48 2 rfl ?_
      refine g_callV_ip [.int x1, .int x2] (ci := 11) (T0 := TX12) (N := 27) B hS9 mf12_ofLog wd_1966 (gw B wp_83) wd_1964 (by decide) rfl (fun h => (gd_ne h).1) (c12_ofLog X l a0 x1 x2 q_1.2) (by decide) (by decide) (by decide) rfl (by decide) dX12_log_49 rfl (fun v_5 => ?_)
      refine g_goto B 56 dX12_log_52 (by decide) ?_
      refine g_sub (lv' := []) [] rfl ?_
      exact g12_log_J56 B hS9 hr v_5 q_1.2
  · refine g_iconst (v := 0) B dX12_log_27 (by decide) ?_
    exact g_ireturn B hr rfl (by decide) (by decide) rfl dX12_log_28
set_option maxRecDepth 20000 in
set_option maxHeartbeats 2000000 in
theorem g12_log {X : gX} {p : Program} {l : Launch} {e : Env} {s : State} {m : MethodId} {args : Array Value} {below : List Frame} {meth : Method} {c : Code} (B : gB X p (rm12_log) s m args meth c RX12 cX12_log 3 (rm12_log)) (hS9 : gS X s) (hr : meth.sig.returnType = some .int) (a0 : Nat) (x1 : Int32) (x2 : Int32) (M : mMem) : GG X p l e (rm12_log) s m args below meth c (gP X below args s 0 0 (fun r9 : (Int32 × mMem) => (some (.int r9.1), r9.2))) 3 0 0 0 [(0, .ref a0), (1, .int x1), (2, .int x2)] [] M (p12_log a0 x1 x2 M) := by
  unfold p12_log
  refine g_gd ?_
  refine g_aload_n B dX12_log_0 0 rfl ?_
  refine g_iconst (v := 0) B dX12_log_1 (by decide) ?_
  refine g_putI (ci := 11) (T0 := TX12) (N := 27) B (by decide) rfl in_11 tyX12 tyX12_ok nmX12 (k := 0) (by decide) wd_1641 (fun _ h => h) rfl rfl (ty := .int) (by decide +kernel) rfl rfl dX12_log_2 (fun M_1 => ?_)
  refine g_aload_n B dX12_log_5 0 rfl ?_
  refine g_iload_n B dX12_log_6 2 rfl ?_
  refine g_iconst (v := 0) B dX12_log_7 (by decide) ?_
  refine g_iconst (v := 4) B dX12_log_8 (by decide) ?_
  refine g_callS_ip [.int x2, .int 0, .int 4] B hS9 mf12_in wd_1947 wd_1946 (c12_in X l x2 0 4 M_1) (by decide) (by decide) (by decide) rfl (Nat.le_of_ble_eq_true rfl) dX12_log_9 rfl (fun v_2 => ?_)
  refine g_if_ne B 19 dX12_log_12 (by decide) ?_ ?_
  · refine g_iconst (v := 1) B dX12_log_15 (by decide) ?_
    refine g_goto B 20 dX12_log_16 (by decide) ?_
    refine g_sub (lv' := [(0, .ref a0), (1, .int x1), (2, .int x2)]) [0, 1, 2] rfl ?_
    exact g12_log_J20 B hS9 hr a0 x1 x2 a0 1 M_1
  · refine g_iconst (v := 0) B dX12_log_19 (by decide) ?_
    refine g_sub (lv' := [(0, .ref a0), (1, .int x1), (2, .int x2)]) [0, 1, 2] rfl ?_
    exact g12_log_J20 B hS9 hr a0 x1 x2 a0 0 M_1
theorem c12_log (X : gX) (l : Launch) (a0 : Nat) (x1 : Int32) (x2 : Int32) (M : mMem) : Con X l yX12_log cX12_log 3 (some .int) rm12_log (fun r9 : (Int32 × mMem) => (some (.int r9.1), r9.2)) [.ref a0, .int x1, .int x2] M (p12_log a0 x1 x2 M) := g_con (own := RX12) (by decide +kernel) rfl (Nat.le_of_ble_eq_true rfl) (fun p e s m args below meth c B hS9 hr hn => g12_log B hS9 hr a0 x1 x2 M)
theorem mf12_seed : gMF yX12_seed cX12_seed 3 (some .int) 1 := ⟨wd_2377, wd_13, ⟨by decide, by decide⟩, by decide +kernel⟩
set_option maxRecDepth 20000 in
set_option maxHeartbeats 2000000 in
theorem g12_seed {X : gX} {p : Program} {l : Launch} {e : Env} {s : State} {m : MethodId} {args : Array Value} {below : List Frame} {meth : Method} {c : Code} (B : gB X p (rm12_seed) s m args meth c RX12 cX12_seed 3 (rm12_seed)) (hS9 : gS X s) (hr : meth.sig.returnType = some .int) (a0 : Nat) (x1 : Int32) (M : mMem) : GG X p l e (rm12_seed) s m args below meth c (gP X below args s 0 0 (fun r9 : (Int32 × mMem) => (some (.int r9.1), r9.2))) 3 0 0 0 [(0, .ref a0), (1, .int x1)] [] M (p12_seed a0 x1 M) := by
  unfold p12_seed
  refine g_gd ?_
  refine g_aload_n B dX12_seed_0 0 rfl ?_
  refine g_iconst (v := 0) B dX12_seed_1 (by decide) ?_
  refine g_putI (ci := 11) (T0 := TX12) (N := 27) B (by decide) rfl in_11 tyX12 tyX12_ok nmX12 (k := 0) (by decide) wd_1641 (fun _ h => h) rfl rfl (ty := .int) (by decide +kernel) rfl rfl dX12_seed_2 (fun M_1 => ?_)
  refine g_aload_n B dX12_seed_5 0 rfl ?_
  refine g_getR (ci := 11) (T0 := TX12) (N := 27) B (by decide) rfl in_11 (k := 1) (by decide) rfl wd_1642 (fun _ h => h) dX12_seed_6 (fun v_2 => ?_)
  refine g_bipush (v := 8) B dX12_seed_9 (by decide) ?_
  refine g_iaload B dX12_seed_11 (fun v_3 => ?_)
  refine g_istore_n (lv' := [(2, .int v_3), (0, .ref a0), (1, .int x1)]) B dX12_seed_12 (by decide) [0, 1, 2] rfl ?_
  refine g_aload_n B dX12_seed_13 1 rfl ?_
  refine g_getR (ci := 11) (T0 := TX12) (N := 27) B (by decide) rfl in_11 (k := 1) (by decide) rfl wd_1642 (fun _ h => h) dX12_seed_14 (fun v_4 => ?_)
  refine g_bipush (v := 8) B dX12_seed_17 (by decide) ?_
  refine g_iload_n B dX12_seed_19 2 rfl ?_
  refine g_iastore B dX12_seed_20 (fun M_5 => ?_)
  refine g_iload_n B dX12_seed_21 0 rfl ?_
  exact g_ireturn B hr rfl (by decide) (by decide) rfl dX12_seed_22
theorem c12_seed (X : gX) (l : Launch) (a0 : Nat) (x1 : Int32) (M : mMem) : Con X l yX12_seed cX12_seed 3 (some .int) rm12_seed (fun r9 : (Int32 × mMem) => (some (.int r9.1), r9.2)) [.ref a0, .int x1] M (p12_seed a0 x1 M) := g_con (own := RX12) (by decide +kernel) rfl (Nat.le_of_ble_eq_true rfl) (fun p e s m args below meth c B hS9 hr hn => g12_seed B hS9 hr a0 x1 M)
theorem mf12_count : gMF yX12_count cX12_count 6 (some .int) 1 := ⟨wd_2381, wd_13, ⟨by decide, by decide⟩, by decide +kernel⟩
set_option maxRecDepth 20000 in
set_option maxHeartbeats 2000000 in
theorem g12_count_J73 {X : gX} {p : Program} {l : Launch} {e : Env} {s : State} {m : MethodId} {args : Array Value} {below : List Frame} {meth : Method} {c : Code} (B : gB X p (rm12_count) s m args meth c RX12 cX12_count 6 (rm12_count)) (hS9 : gS X s) (hr : meth.sig.returnType = some .int) (rec15 : Nat → Int32 → Int32 → Int32 → Int32 → Int32 → mMem → Option (Int32 × mMem)) (hrec15 : ∀ (a0 : Nat) (x1 : Int32) (x2 : Int32) (x3 : Int32) (x4 : Int32) (x5 : Int32) (M : mMem), GG X p l e (rm12_count) s m args below meth c (gP X below args s 0 0 (fun r9 : (Int32 × mMem) => (some (.int r9.1), r9.2))) 6 0 0 15 [(0, .ref a0), (1, .int x1), (2, .int x2), (3, .int x3), (4, .int x4), (5, .int x5)] [] M (rec15 a0 x1 x2 x3 x4 x5 M)) (a0 : Nat) (x1 : Int32) (x2 : Int32) (x3 : Int32) (x5 : Int32) (u0 : Int32) (u1 : Int32) (M : mMem) : GG X p l e (rm12_count) s m args below meth c (gP X below args s 0 0 (fun r9 : (Int32 × mMem) => (some (.int r9.1), r9.2))) 6 0 0 73 [(0, .ref a0), (1, .int x1), (2, .int x2), (3, .int x3), (5, .int x5)] [.int u1, .int u0] M (p12_count_J73 rec15 a0 x1 x2 x3 x5 u0 u1 M) := by
  unfold p12_count_J73
  refine g_ior B dX12_count_73 ?_
  refine g_istore (lv' := [(4, .int (u0 ||| u1)), (0, .ref a0), (1, .int x1), (2, .int x2), (3, .int x3), (5, .int x5)]) B dX12_count_74 (by decide) [0, 1, 2, 3, 4, 5] rfl ?_
  refine g_iinc (v := (x5 + 1)) (lv' := [(5, .int (x5 + 1)), (4, .int (u0 ||| u1)), (0, .ref a0), (1, .int x1), (2, .int x2), (3, .int x3)]) B dX12_count_76 5 rfl rfl (by decide) [0, 1, 2, 3, 4, 5] rfl ?_
  refine g_goto B 15 dX12_count_79 (by decide) ?_
  refine g_sub (lv' := [(0, .ref a0), (1, .int x1), (2, .int x2), (3, .int x3), (4, .int (u0 ||| u1)), (5, .int (x5 + 1))]) [2, 3, 4, 5, 1, 0] rfl ?_
  exact hrec15 a0 x1 x2 x3 (u0 ||| u1) (x5 + 1) M
set_option maxRecDepth 20000 in
set_option maxHeartbeats 2000000 in
theorem g12_count_J52 {X : gX} {p : Program} {l : Launch} {e : Env} {s : State} {m : MethodId} {args : Array Value} {below : List Frame} {meth : Method} {c : Code} (B : gB X p (rm12_count) s m args meth c RX12 cX12_count 6 (rm12_count)) (hS9 : gS X s) (hr : meth.sig.returnType = some .int) (rec15 : Nat → Int32 → Int32 → Int32 → Int32 → Int32 → mMem → Option (Int32 × mMem)) (hrec15 : ∀ (a0 : Nat) (x1 : Int32) (x2 : Int32) (x3 : Int32) (x4 : Int32) (x5 : Int32) (M : mMem), GG X p l e (rm12_count) s m args below meth c (gP X below args s 0 0 (fun r9 : (Int32 × mMem) => (some (.int r9.1), r9.2))) 6 0 0 15 [(0, .ref a0), (1, .int x1), (2, .int x2), (3, .int x3), (4, .int x4), (5, .int x5)] [] M (rec15 a0 x1 x2 x3 x4 x5 M)) (a0 : Nat) (x1 : Int32) (x2 : Int32) (x4 : Int32) (x5 : Int32) (u0 : Int32) (u1 : Int32) (M : mMem) : GG X p l e (rm12_count) s m args below meth c (gP X below args s 0 0 (fun r9 : (Int32 × mMem) => (some (.int r9.1), r9.2))) 6 0 0 52 [(0, .ref a0), (1, .int x1), (2, .int x2), (4, .int x4), (5, .int x5)] [.int u1, .int u0] M (p12_count_J52 rec15 a0 x1 x2 x4 x5 u0 u1 M) := by
  unfold p12_count_J52
  refine g_ior B dX12_count_52 ?_
  refine g_istore_n (lv' := [(3, .int (u0 ||| u1)), (0, .ref a0), (1, .int x1), (2, .int x2), (4, .int x4), (5, .int x5)]) B dX12_count_53 (by decide) [0, 1, 2, 3, 4, 5] rfl ?_
  refine g_iload B dX12_count_54 4 rfl ?_
  refine g_aload_n B dX12_count_56 1 rfl ?_
  refine g_iload B dX12_count_57 5 rfl ?_
  refine g_callV_ip [.int x5] (ci := 11) (T0 := TX12) (N := 27) B hS9 mf12_isSingle wd_1850 (gw B wp_62) wd_1848 (by decide) rfl (fun h => (gd_ne h).1) (c12_isSingle X l a0 x5 M) (by decide) (by decide) (by decide) rfl (Nat.le_of_ble_eq_true rfl) dX12_count_59 rfl (fun v_1 => ?_)
  refine g_if_eq B 69 dX12_count_62 (by decide) ?_ ?_
  · refine g_iconst (v := 1) B dX12_count_69 (by decide) ?_
    refine g_iload B dX12_count_70 5 rfl ?_
    refine g_ishl B dX12_count_72 ?_
    refine g_sub (lv' := [(0, .ref a0), (1, .int x1), (2, .int x2), (3, .int (u0 ||| u1)), (5, .int x5)]) [1, 2, 3, 0, 5] rfl ?_
    exact g12_count_J73 B hS9 hr rec15 hrec15 a0 x1 x2 (u0 ||| u1) x5 x4 ((1 : Int32) <<< (x5 &&& 31)) M
  · refine g_iconst (v := 0) B dX12_count_65 (by decide) ?_
    refine g_goto B 73 dX12_count_66 (by decide) ?_
    refine g_sub (lv' := [(0, .ref a0), (1, .int x1), (2, .int x2), (3, .int (u0 ||| u1)), (5, .int x5)]) [1, 2, 3, 0, 5] rfl ?_
    exact g12_count_J73 B hS9 hr rec15 hrec15 a0 x1 x2 (u0 ||| u1) x5 x4 0 M
set_option maxRecDepth 20000 in
set_option maxHeartbeats 2000000 in
theorem g12_count_L15 {X : gX} {p : Program} {l : Launch} {e : Env} {s : State} {m : MethodId} {args : Array Value} {below : List Frame} {meth : Method} {c : Code} (B : gB X p (rm12_count) s m args meth c RX12 cX12_count 6 (rm12_count)) (hS9 : gS X s) (hr : meth.sig.returnType = some .int) (k82 : Nat → Int32 → Int32 → Int32 → Int32 → mMem → Option (Int32 × mMem)) (hk82 : ∀ (a0 : Nat) (x1 : Int32) (x2 : Int32) (x3 : Int32) (x4 : Int32) (M : mMem), GG X p l e (rm12_count) s m args below meth c (gP X below args s 0 0 (fun r9 : (Int32 × mMem) => (some (.int r9.1), r9.2))) 6 0 0 82 [(0, .ref a0), (1, .int x1), (2, .int x2), (3, .int x3), (4, .int x4)] [] M (k82 a0 x1 x2 x3 x4 M)) : ∀ (n : Nat) (a0 : Nat) (x1 : Int32) (x2 : Int32) (x3 : Int32) (x4 : Int32) (x5 : Int32) (M : mMem), GG X p l e (rm12_count) s m args below meth c (gP X below args s 0 0 (fun r9 : (Int32 × mMem) => (some (.int r9.1), r9.2))) 6 0 0 15 [(0, .ref a0), (1, .int x1), (2, .int x2), (3, .int x3), (4, .int x4), (5, .int x5)] [] M (p12_count_L15 k82 n a0 x1 x2 x3 x4 x5 M) := by
  intro n
  induction n with
  | zero => intro a0 x1 x2 x3 x4 x5 M; exact g_none
  | succ n ih =>
    intro a0 x1 x2 x3 x4 x5 M
    rw [p12_count_L15]
    refine g_iload B dX12_count_15 5 rfl ?_
    refine g_aload_n B dX12_count_17 0 rfl ?_
    refine g_callV_ip [] (ci := 11) (T0 := TX12) (N := 27) B hS9 mf12_people wd_1793 (gw B wp_51) wd_1791 (by decide) rfl (fun h => (gd_ne h).1) (c12_people X l a0 M) (by decide) (by decide) (by decide) rfl (Nat.le_of_ble_eq_true rfl) dX12_count_18 rfl (fun v_1 => ?_)
    refine g_icmp_ge B 82 dX12_count_21 (by decide) ?_ ?_
    · refine g_iload_n B dX12_count_24 2 rfl ?_
      refine g_aload_n B dX12_count_25 0 rfl ?_
      refine g_iload B dX12_count_26 5 rfl ?_
      refine g_iconst (v := 1) B dX12_count_28 (by decide) ?_
      refine g_callV_ip [.int x5, .int 1] (ci := 11) (T0 := TX12) (N := 27) B hS9 mf12_of wd_1846 (gw B wp_61) wd_1844 (by decide) rfl (fun h => (gd_ne h).1) (c12_of X l a0 x5 1 M) (by decide) (by decide) (by decide) rfl (Nat.le_of_ble_eq_true rfl) dX12_count_29 rfl (fun v_2 => ?_)
      refine g_iadd B dX12_count_32 ?_
      refine g_istore_n (lv' := [(2, .int (x2 + v_2)), (0, .ref a0), (1, .int x1), (3, .int x3), (4, .int x4), (5, .int x5)]) B dX12_count_33 (by decide) [0, 1, 2, 3, 4, 5] rfl ?_
      refine g_iload_n B dX12_count_34 3 rfl ?_
      refine g_aload_n B dX12_count_35 1 rfl ?_
      refine g_iload B dX12_count_36 5 rfl ?_
      refine g_callV_ip [.int x5] (ci := 11) (T0 := TX12) (N := 27) B hS9 mf12_isBoy wd_2050 (gw B wp_97) wd_2048 (by decide) rfl (fun h => (gd_ne h).1) (c12_isBoy X l a0 x5 M) (by decide) (by decide) (by decide) rfl (Nat.le_of_ble_eq_true rfl) dX12_count_38 rfl (fun v_3 => ?_)
      refine g_if_eq B 51 dX12_count_41 (by decide) ?_ ?_
      · refine g_iconst (v := 0) B dX12_count_51 (by decide) ?_
        refine g_sub (lv' := [(0, .ref a0), (1, .int x1), (2, .int (x2 + v_2)), (4, .int x4), (5, .int x5)]) [1, 2, 0, 4, 5] rfl ?_
        exact g12_count_J52 B hS9 hr (p12_count_L15 k82 n) ih a0 x1 (x2 + v_2) x4 x5 x3 0 M
      · refine g_iconst (v := 1) B dX12_count_44 (by decide) ?_
        refine g_iload B dX12_count_45 5 rfl ?_
        refine g_ishl B dX12_count_47 ?_
        refine g_goto B 52 dX12_count_48 (by decide) ?_
        refine g_sub (lv' := [(0, .ref a0), (1, .int x1), (2, .int (x2 + v_2)), (4, .int x4), (5, .int x5)]) [1, 2, 0, 4, 5] rfl ?_
        exact g12_count_J52 B hS9 hr (p12_count_L15 k82 n) ih a0 x1 (x2 + v_2) x4 x5 x3 ((1 : Int32) <<< (x5 &&& 31)) M
    · refine g_sub (lv' := [(0, .ref a0), (1, .int x1), (2, .int x2), (3, .int x3), (4, .int x4)]) [0, 1, 2, 3, 4] rfl ?_
      exact hk82 a0 x1 x2 x3 x4 M
set_option maxRecDepth 20000 in
set_option maxHeartbeats 2000000 in
theorem g12_count_J208 {X : gX} {p : Program} {l : Launch} {e : Env} {s : State} {m : MethodId} {args : Array Value} {below : List Frame} {meth : Method} {c : Code} (B : gB X p (rm12_count) s m args meth c RX12 cX12_count 6 (rm12_count)) (hS9 : gS X s) (hr : meth.sig.returnType = some .int) (u0 : Int32) (M : mMem) : GG X p l e (rm12_count) s m args below meth c (gP X below args s 0 0 (fun r9 : (Int32 × mMem) => (some (.int r9.1), r9.2))) 6 0 0 208 [] [.int u0] M (p12_count_J208 u0 M) := by
  unfold p12_count_J208
  exact g_ireturn B hr rfl (by decide) (by decide) rfl dX12_count_208
set_option maxRecDepth 20000 in
set_option maxHeartbeats 2000000 in
theorem g12_count_J162 {X : gX} {p : Program} {l : Launch} {e : Env} {s : State} {m : MethodId} {args : Array Value} {below : List Frame} {meth : Method} {c : Code} (B : gB X p (rm12_count) s m args meth c RX12 cX12_count 6 (rm12_count)) (hS9 : gS X s) (hr : meth.sig.returnType = some .int) (u0 : Int32) (M : mMem) : GG X p l e (rm12_count) s m args below meth c (gP X below args s 0 0 (fun r9 : (Int32 × mMem) => (some (.int r9.1), r9.2))) 6 0 0 162 [] [.int u0] M (p12_count_J162 u0 M) := by
  unfold p12_count_J162
  exact g_ireturn B hr rfl (by decide) (by decide) rfl dX12_count_162
set_option maxRecDepth 20000 in
set_option maxHeartbeats 2000000 in
theorem g12_count_J82 {X : gX} {p : Program} {l : Launch} {e : Env} {s : State} {m : MethodId} {args : Array Value} {below : List Frame} {meth : Method} {c : Code} (B : gB X p (rm12_count) s m args meth c RX12 cX12_count 6 (rm12_count)) (hS9 : gS X s) (hr : meth.sig.returnType = some .int) (a0 : Nat) (x1 : Int32) (x2 : Int32) (x3 : Int32) (x4 : Int32) (M : mMem) : GG X p l e (rm12_count) s m args below meth c (gP X below args s 0 0 (fun r9 : (Int32 × mMem) => (some (.int r9.1), r9.2))) 6 0 0 82 [(0, .ref a0), (1, .int x1), (2, .int x2), (3, .int x3), (4, .int x4)] [] M (p12_count_J82 a0 x1 x2 x3 x4 M) := by
  unfold p12_count_J82
  refine g_iload_n B dX12_count_82 1 rfl ?_
  refine g_tableswitch B [2, 3, 4, 5, 6, 7, 8, 9, 10, 11, 12] [140, 188, 188, 188, 188, 163, 168, 170, 172, 175, 183] 188 dX12_count_83 (by decide) (by decide) ?_ ?_
  · refine g_iload_n B dX12_count_188 1 rfl ?_
    refine g_iconst (v := 0) B dX12_count_189 (by decide) ?_
    refine g_bipush (v := 6) B dX12_count_190 (by decide) ?_
    refine g_callS_ip [.int x1, .int 0, .int 6] B hS9 mf12_in wd_1947 wd_1946 (c12_in X l x1 0 6 M) (by decide) (by decide) (by decide) rfl (by decide) dX12_count_192 rfl (fun v_1 => ?_)
    refine g_if_eq B 207 dX12_count_195 (by decide) ?_ ?_
    · refine g_iconst (v := (-1)) B dX12_count_207 (by decide) ?_
      refine g_sub (lv' := []) [] rfl ?_
      exact g12_count_J208 B hS9 hr (-1) M
    · refine g_aload_n B dX12_count_198 0 rfl ?_
      refine g_getR (ci := 11) (T0 := TX12) (N := 27) B (by decide) rfl in_11 (k := 1) (by decide) rfl wd_1642 (fun _ h => h) dX12_count_199 (fun v_2 => ?_)
      refine g_iload_n B dX12_count_202 1 rfl ?_
      refine g_iaload B dX12_count_203 (fun v_3 => ?_)
      refine g_goto B 208 dX12_count_204 (by decide) ?_
      refine g_sub (lv' := []) [] rfl ?_
      exact g12_count_J208 B hS9 hr v_3 M
  · refine ⟨rfl, ?_, ?_, ?_, ?_, ?_, ?_, ?_, ?_, ?_, ?_, ?_, trivial⟩
    · refine g_aload_n B dX12_count_140 0 rfl ?_
      refine g_getR (ci := 11) (T0 := TX12) (N := 27) B (by decide) rfl in_11 (k := 1) (by decide) rfl wd_1642 (fun _ h => h) dX12_count_141 (fun v_4 => ?_)
      refine g_iconst (v := 2) B dX12_count_144 (by decide) ?_
      refine g_iaload B dX12_count_145 (fun v_5 => ?_)
      refine g_iconst (v := 1) B dX12_count_146 (by decide) ?_
      refine g_icmp_ne B 161 dX12_count_147 (by decide) ?_ ?_
      · refine g_aload_n B dX12_count_150 0 rfl ?_
        refine g_getR (ci := 11) (T0 := TX12) (N := 27) B (by decide) rfl in_11 (k := 1) (by decide) rfl wd_1642 (fun _ h => h) dX12_count_151 (fun v_6 => ?_)
        refine g_sipush (v := 445) B dX12_count_154 (by decide) ?_
        refine g_iaload B dX12_count_157 (fun v_7 => ?_)
        refine g_goto B 162 dX12_count_158 (by decide) ?_
        refine g_sub (lv' := []) [] rfl ?_
        exact g12_count_J162 B hS9 hr v_7 M
      · refine g_iconst (v := (-1)) B dX12_count_161 (by decide) ?_
        refine g_sub (lv' := []) [] rfl ?_
        exact g12_count_J162 B hS9 hr (-1) M
    · refine g_iload_n B dX12_count_188 1 rfl ?_
      refine g_iconst (v := 0) B dX12_count_189 (by decide) ?_
      refine g_bipush (v := 6) B dX12_count_190 (by decide) ?_
      refine g_callS_ip [.int x1, .int 0, .int 6] B hS9 mf12_in wd_1947 wd_1946 (c12_in X l x1 0 6 M) (by decide) (by decide) (by decide) rfl (by decide) dX12_count_192 rfl (fun v_8 => ?_)
      refine g_if_eq B 207 dX12_count_195 (by decide) ?_ ?_
      · refine g_iconst (v := (-1)) B dX12_count_207 (by decide) ?_
        refine g_sub (lv' := []) [] rfl ?_
        exact g12_count_J208 B hS9 hr (-1) M
      · refine g_aload_n B dX12_count_198 0 rfl ?_
        refine g_getR (ci := 11) (T0 := TX12) (N := 27) B (by decide) rfl in_11 (k := 1) (by decide) rfl wd_1642 (fun _ h => h) dX12_count_199 (fun v_9 => ?_)
        refine g_iload_n B dX12_count_202 1 rfl ?_
        refine g_iaload B dX12_count_203 (fun v_10 => ?_)
        refine g_goto B 208 dX12_count_204 (by decide) ?_
        refine g_sub (lv' := []) [] rfl ?_
        exact g12_count_J208 B hS9 hr v_10 M
    · refine g_iload_n B dX12_count_188 1 rfl ?_
      refine g_iconst (v := 0) B dX12_count_189 (by decide) ?_
      refine g_bipush (v := 6) B dX12_count_190 (by decide) ?_
      refine g_callS_ip [.int x1, .int 0, .int 6] B hS9 mf12_in wd_1947 wd_1946 (c12_in X l x1 0 6 M) (by decide) (by decide) (by decide) rfl (by decide) dX12_count_192 rfl (fun v_11 => ?_)
      refine g_if_eq B 207 dX12_count_195 (by decide) ?_ ?_
      · refine g_iconst (v := (-1)) B dX12_count_207 (by decide) ?_
        refine g_sub (lv' := []) [] rfl ?_
        exact g12_count_J208 B hS9 hr (-1) M
      · refine g_aload_n B dX12_count_198 0 rfl ?_
        refine g_getR (ci := 11) (T0 := TX12) (N := 27) B (by decide) rfl in_11 (k := 1) (by decide) rfl wd_1642 (fun _ h => h) dX12_count_199 (fun v_12 => ?_)
        refine g_iload_n B dX12_count_202 1 rfl ?_
        refine g_iaload B dX12_count_203 (fun v_13 => ?_)
        refine g_goto B 208 dX12_count_204 (by decide) ?_
        refine g_sub (lv' := []) [] rfl ?_
        exact g12_count_J208 B hS9 hr v_13 M
    · refine g_iload_n B dX12_count_188 1 rfl ?_
      refine g_iconst (v := 0) B dX12_count_189 (by decide) ?_
      refine g_bipush (v := 6) B dX12_count_190 (by decide) ?_
      refine g_callS_ip [.int x1, .int 0, .int 6] B hS9 mf12_in wd_1947 wd_1946 (c12_in X l x1 0 6 M) (by decide) (by decide) (by decide) rfl (by decide) dX12_count_192 rfl (fun v_14 => ?_)
      refine g_if_eq B 207 dX12_count_195 (by decide) ?_ ?_
      · refine g_iconst (v := (-1)) B dX12_count_207 (by decide) ?_
        refine g_sub (lv' := []) [] rfl ?_
        exact g12_count_J208 B hS9 hr (-1) M
      · refine g_aload_n B dX12_count_198 0 rfl ?_
        refine g_getR (ci := 11) (T0 := TX12) (N := 27) B (by decide) rfl in_11 (k := 1) (by decide) rfl wd_1642 (fun _ h => h) dX12_count_199 (fun v_15 => ?_)
        refine g_iload_n B dX12_count_202 1 rfl ?_
        refine g_iaload B dX12_count_203 (fun v_16 => ?_)
        refine g_goto B 208 dX12_count_204 (by decide) ?_
        refine g_sub (lv' := []) [] rfl ?_
        exact g12_count_J208 B hS9 hr v_16 M
    · refine g_iload_n B dX12_count_188 1 rfl ?_
      refine g_iconst (v := 0) B dX12_count_189 (by decide) ?_
      refine g_bipush (v := 6) B dX12_count_190 (by decide) ?_
      refine g_callS_ip [.int x1, .int 0, .int 6] B hS9 mf12_in wd_1947 wd_1946 (c12_in X l x1 0 6 M) (by decide) (by decide) (by decide) rfl (by decide) dX12_count_192 rfl (fun v_17 => ?_)
      refine g_if_eq B 207 dX12_count_195 (by decide) ?_ ?_
      · refine g_iconst (v := (-1)) B dX12_count_207 (by decide) ?_
        refine g_sub (lv' := []) [] rfl ?_
        exact g12_count_J208 B hS9 hr (-1) M
      · refine g_aload_n B dX12_count_198 0 rfl ?_
        refine g_getR (ci := 11) (T0 := TX12) (N := 27) B (by decide) rfl in_11 (k := 1) (by decide) rfl wd_1642 (fun _ h => h) dX12_count_199 (fun v_18 => ?_)
        refine g_iload_n B dX12_count_202 1 rfl ?_
        refine g_iaload B dX12_count_203 (fun v_19 => ?_)
        refine g_goto B 208 dX12_count_204 (by decide) ?_
        refine g_sub (lv' := []) [] rfl ?_
        exact g12_count_J208 B hS9 hr v_19 M
    · refine g_aload_n B dX12_count_163 0 rfl ?_
      refine g_callV_ip [] (ci := 11) (T0 := TX12) (N := 27) B hS9 mf12_agesOfAll wd_2340 (gw B wp_130) wd_2338 (by decide) rfl (fun h => (gd_ne h).1) (c12_agesOfAll X l a0 M) (by decide) (by decide) (by decide) rfl (by decide) dX12_count_164 rfl (fun v_20 => ?_)
      exact g_ireturn B hr rfl (by decide) (by decide) rfl dX12_count_167
    · refine g_iload_n B dX12_count_168 2 rfl ?_
      exact g_ireturn B hr rfl (by decide) (by decide) rfl dX12_count_169
    · refine g_iload_n B dX12_count_170 3 rfl ?_
      exact g_ireturn B hr rfl (by decide) (by decide) rfl dX12_count_171
    · refine g_iload B dX12_count_172 4 rfl ?_
      exact g_ireturn B hr rfl (by decide) (by decide) rfl dX12_count_174
    · refine g_aload_n B dX12_count_175 0 rfl ?_
      refine g_getR (ci := 11) (T0 := TX12) (N := 27) B (by decide) rfl in_11 (k := 1) (by decide) rfl wd_1642 (fun _ h => h) dX12_count_176 (fun v_21 => ?_)
      refine g_bipush (v := 7) B dX12_count_179 (by decide) ?_
      refine g_iaload B dX12_count_181 (fun v_22 => ?_)
      exact g_ireturn B hr rfl (by decide) (by decide) rfl dX12_count_182
    · refine g_aload_n B dX12_count_183 0 rfl ?_
      refine g_getI (ci := 11) (T0 := TX12) (N := 27) B (by decide) rfl in_11 (k := 7) (by decide) rfl wd_1648 (fun _ h => h) dX12_count_184 (fun v_23 => ?_)
      exact g_ireturn B hr rfl (by decide) (by decide) rfl dX12_count_187
set_option maxRecDepth 20000 in
set_option maxHeartbeats 2000000 in
theorem g12_count {X : gX} {p : Program} {l : Launch} {e : Env} {s : State} {m : MethodId} {args : Array Value} {below : List Frame} {meth : Method} {c : Code} (B : gB X p (rm12_count) s m args meth c RX12 cX12_count 6 (rm12_count)) (hS9 : gS X s) (hr : meth.sig.returnType = some .int) (a0 : Nat) (x1 : Int32) (M : mMem) : GG X p l e (rm12_count) s m args below meth c (gP X below args s 0 0 (fun r9 : (Int32 × mMem) => (some (.int r9.1), r9.2))) 6 0 0 0 [(0, .ref a0), (1, .int x1)] [] M (p12_count a0 x1 M) := by
  unfold p12_count
  refine g_gd ?_
  refine g_aload_n B dX12_count_0 0 rfl ?_
  refine g_iconst (v := 0) B dX12_count_1 (by decide) ?_
  refine g_putI (ci := 11) (T0 := TX12) (N := 27) B (by decide) rfl in_11 tyX12 tyX12_ok nmX12 (k := 0) (by decide) wd_1641 (fun _ h => h) rfl rfl (ty := .int) (by decide +kernel) rfl rfl dX12_count_2 (fun M_1 => ?_)
  refine g_iconst (v := 0) B dX12_count_5 (by decide) ?_
  refine g_istore_n (lv' := [(2, .int 0), (0, .ref a0), (1, .int x1)]) B dX12_count_6 (by decide) [0, 1, 2] rfl ?_
  refine g_iconst (v := 0) B dX12_count_7 (by decide) ?_
  refine g_istore_n (lv' := [(3, .int 0), (2, .int 0), (0, .ref a0), (1, .int x1)]) B dX12_count_8 (by decide) [0, 1, 2, 3] rfl ?_
  refine g_iconst (v := 0) B dX12_count_9 (by decide) ?_
  refine g_istore (lv' := [(4, .int 0), (3, .int 0), (2, .int 0), (0, .ref a0), (1, .int x1)]) B dX12_count_10 (by decide) [0, 1, 2, 3, 4] rfl ?_
  refine g_iconst (v := 0) B dX12_count_12 (by decide) ?_
  refine g_istore (lv' := [(5, .int 0), (4, .int 0), (3, .int 0), (2, .int 0), (0, .ref a0), (1, .int x1)]) B dX12_count_13 (by decide) [0, 1, 2, 3, 4, 5] rfl ?_
  refine g_sub (lv' := [(0, .ref a0), (1, .int x1), (2, .int 0), (3, .int 0), (4, .int 0), (5, .int 0)]) [4, 5, 3, 2, 1, 0] rfl ?_
  exact (g12_count_L15 B hS9 hr p12_count_J82 (fun e0 e1 e2 e3 e4 e5 => g12_count_J82 B hS9 hr e0 e1 e2 e3 e4 e5)) gF a0 x1 0 0 0 0 M_1
theorem c12_count (X : gX) (l : Launch) (a0 : Nat) (x1 : Int32) (M : mMem) : Con X l yX12_count cX12_count 6 (some .int) rm12_count (fun r9 : (Int32 × mMem) => (some (.int r9.1), r9.2)) [.ref a0, .int x1] M (p12_count a0 x1 M) := g_con (own := RX12) (by decide +kernel) rfl (Nat.le_of_ble_eq_true rfl) (fun p e s m args below meth c B hS9 hr hn => g12_count B hS9 hr a0 x1 M)
