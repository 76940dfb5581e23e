theorem mf12_part : gMF yX12_part cX12_part 3 (some .int) 1 := ⟨wd_2059, wd_13, ⟨by decide, by decide⟩, by decide +kernel⟩
set_option maxRecDepth 20000 in
set_option maxHeartbeats 2000000 in
theorem g12_part_J31 {X : gX} {p : Program} {l : Launch} {e : Env} {s : State} {m : MethodId} {args : Array Value} {below : List Frame} {meth : Method} {c : Code} (B : gB X p (rm12_part) s m args meth c RX12 cX12_part 3 (rm12_part)) (hS9 : gS X s) (hr : meth.sig.returnType = some .int) (M : mMem) : GG X p l e (rm12_part) s m args below meth c (gP X below args s 0 0 (fun r9 : (Int32 × mMem) => (some (.int r9.1), r9.2))) 3 0 0 31 [] [] M (p12_part_J31 M) := by
  unfold p12_part_J31
  refine g_iconst (v := 0) B dX12_part_31 (by decide) ?_
  exact g_ireturn B hr rfl (by decide) (by decide) rfl dX12_part_32
set_option maxRecDepth 20000 in
set_option maxHeartbeats 2000000 in
theorem g12_part {X : gX} {p : Program} {l : Launch} {e : Env} {s : State} {m : MethodId} {args : Array Value} {below : List Frame} {meth : Method} {c : Code} (B : gB X p (rm12_part) s m args meth c RX12 cX12_part 3 (rm12_part)) (hS9 : gS X s) (hr : meth.sig.returnType = some .int) (a0 : Nat) (x1 : Int32) (M : mMem) : GG X p l e (rm12_part) s m args below meth c (gP X below args s 0 0 (fun r9 : (Int32 × mMem) => (some (.int r9.1), r9.2))) 3 0 0 0 [(0, .ref a0), (1, .int x1)] [] M (p12_part a0 x1 M) := by
  unfold p12_part
  refine g_gd ?_
  refine g_aload_n B dX12_part_0 0 rfl ?_
  refine g_iconst (v := 0) B dX12_part_1 (by decide) ?_
  refine g_putI (ci := 11) (T0 := TX12) (N := 27) B (by decide) rfl in_11 tyX12 tyX12_ok nmX12 (k := 0) (by decide) wd_1641 (fun _ h => h) rfl rfl (ty := .int) (by decide +kernel) rfl rfl dX12_part_2 (fun M_1 => ?_)
  refine g_aload_n B dX12_part_5 0 rfl ?_
  refine g_aload_n B dX12_part_6 0 rfl ?_
  refine g_iload_n B dX12_part_7 1 rfl ?_
  refine g_callV_ip [.int x1] (ci := 11) (T0 := TX12) (N := 27) B hS9 mf12_nobody wd_1944 (gw B wp_79) wd_1942 (by decide) rfl (fun h => (gd_ne h).1) (c12_nobody X l a0 x1 M_1) (by decide) (by decide) (by decide) rfl (Nat.le_of_ble_eq_true rfl) dX12_part_8 rfl (fun v_2 => ?_)
  refine g_iconst (v := 1) B dX12_part_11 (by decide) ?_
  refine g_callV_iw [.int v_2, .int 1] (ci := 11) (T0 := TX12) (N := 27) B hS9 mf12_throwsIf wd_1932 (gw B wp_78) wd_1930 (by decide) rfl (fun h => (gd_ne h).1) (c12_throwsIf X l a0 v_2 1 M_1) (by decide) (by decide) (by decide) rfl (by decide) dX12_part_12 rfl (fun q_3 => ?_)
  refine g_if_ne B 31 dX12_part_15 (by decide) ?_ ?_
  · refine g_aload_n B dX12_part_18 0 rfl ?_
    refine g_aload_n B dX12_part_19 0 rfl ?_
    refine g_iload_n B dX12_part_20 1 rfl ?_
    refine g_callV_ip [.int x1] (ci := 11) (T0 := TX12) (N := 27) B hS9 mf12_isSingle wd_1850 (gw B wp_62) wd_1848 (by decide) rfl (fun h => (gd_ne h).1) (c12_isSingle X l a0 x1 q_3.2) (by decide) (by decide) (by decide) rfl (Nat.le_of_ble_eq_true rfl) dX12_part_21 rfl (fun v_4 => ?_)
    refine g_iconst (v := 2) B dX12_part_24 (by decide) ?_
    refine g_callV_iw [.int v_4, .int 2] (ci := 11) (T0 := TX12) (N := 27) B hS9 mf12_throwsIf wd_1932 (gw B wp_78) wd_1930 (by decide) rfl (fun h => (gd_ne h).1) (c12_throwsIf X l a0 v_4 2 q_3.2) (by decide) (by decide) (by decide) rfl (by decide) dX12_part_25 rfl (fun q_5 => ?_)
    refine g_if_eq B 33 dX12_part_28 (by decide) ?_ ?_
    · refine g_aload_n B dX12_part_33 0 rfl ?_
      refine g_callV_vw [] (ci := 11) (T0 := TX12) (N := 27) B hS9 mf12_remembers wd_2034 (gw B wp_94) wd_2032 (by decide) rfl (fun h => (gd_ne h).1) (c12_remembers X l a0 q_5.2) (by decide) (by decide) (by decide) rfl (by decide) dX12_part_34 rfl (fun q_6 => ?_)
      refine g_aload_n B dX12_part_37 0 rfl ?_
      refine g_iload_n B dX12_part_38 1 rfl ?_
      refine g_iconst (v := 4) B dX12_part_39 (by decide) ?_
      refine g_callV_ip [.int x1, .int 4] (ci := 11) (T0 := TX12) (N := 27) B hS9 mf12_of wd_1846 (gw B wp_61) wd_1844 (by decide) rfl (fun h => (gd_ne h).1) (c12_of X l a0 x1 4 q_6) (by decide) (by decide) (by decide) rfl (by decide) dX12_part_40 rfl (fun v_7 => ?_)
      refine g_istore_n (lv' := [(2, .int v_7), (0, .ref a0), (1, .int x1)]) B dX12_part_43 (by decide) [0, 1, 2] rfl ?_
      refine g_aload_n B dX12_part_44 1 rfl ?_
      refine g_getR (ci := 11) (T0 := TX12) (N := 27) B (by decide) rfl in_11 (k := 1) (by decide) rfl wd_1642 (fun _ h => h) dX12_part_45 (fun v_8 => ?_)
      refine g_iload_n B dX12_part_48 2 rfl ?_
      refine g_iconst (v := 4) B dX12_part_49 (by decide) ?_
      refine g_callS_ip [.int x1, .int 4] B hS9 mf12_at wd_1824 wd_1823 (c12_at X l x1 4 q_6) (by decide) (by decide) (by decide) rfl (Nat.le_of_ble_eq_true rfl) dX12_part_50 rfl (fun v_9 => ?_)
      refine g_iconst (v := (-1)) B dX12_part_53 (by decide) ?_
      refine g_iastore B dX12_part_54 (fun M_10 => ?_)
      refine g_aload_n B dX12_part_55 1 rfl ?_
      refine g_getR (ci := 11) (T0 := TX12) (N := 27) B (by decide) rfl in_11 (k := 1) (by decide) rfl wd_1642 (fun _ h => h) dX12_part_56 (fun v_11 => ?_)
      refine g_iload_n B dX12_part_59 0 rfl ?_
      refine g_iconst (v := 4) B dX12_part_60 (by decide) ?_
      refine g_callS_ip [.int v_7, .int 4] B hS9 mf12_at wd_1824 wd_1823 (c12_at X l v_7 4 M_10) (by decide) (by decide) (by decide) rfl (Nat.le_of_ble_eq_true rfl) dX12_part_61 rfl (fun v_12 => ?_)
      refine g_iconst (v := (-1)) B dX12_part_64 (by decide) ?_
      refine g_iastore B dX12_part_65 (fun M_13 => ?_)
      refine g_iload_n B dX12_part_66 0 rfl ?_
      exact g_ireturn B hr rfl (by decide) (by decide) rfl dX12_part_67
    · refine g_sub (lv' := []) [] rfl ?_
      exact g12_part_J31 B hS9 hr q_5.2
  · refine g_sub (lv' := []) [] rfl ?_
    exact g12_part_J31 B hS9 hr q_3.2
theorem c12_part (X : gX) (l : Launch) (a0 : Nat) (x1 : Int32) (M : mMem) : Con X l yX12_part cX12_part 3 (some .int) rm12_part (fun r9 : (Int32 × mMem) => (some (.int r9.1), r9.2)) [.ref a0, .int x1] M (p12_part a0 x1 M) := g_con (own := RX12) (by decide +kernel) rfl (Nat.le_of_ble_eq_true rfl) (fun p e s m args below meth c B hS9 hr hn => g12_part B hS9 hr a0 x1 M)
theorem mf12_lend : gMF yX12_lend cX12_lend 3 (some .int) 2 := ⟨wd_2063, wd_13, ⟨by decide, by decide⟩, by decide +kernel⟩
set_option maxRecDepth 20000 in
set_option maxHeartbeats 2000000 in
theorem g12_lend_J58 {X : gX} {p : Program} {l : Launch} {e : Env} {s : State} {m : MethodId} {args : Array Value} {below : List Frame} {meth : Method} {c : Code} (B : gB X p (rm12_lend) s m args meth c RX12 cX12_lend 3 (rm12_lend)) (hS9 : gS X s) (hr : meth.sig.returnType = some .int) (M : mMem) : GG X p l e (rm12_lend) s m args below meth c (gP X below args s 0 0 (fun r9 : (Int32 × mMem) => (some (.int r9.1), r9.2))) 3 0 0 58 [] [] M (p12_lend_J58 M) := by
  unfold p12_lend_J58
  refine g_iconst (v := 0) B dX12_lend_58 (by decide) ?_
  exact g_ireturn B hr rfl (by decide) (by decide) rfl dX12_lend_59
set_option maxRecDepth 20000 in
set_option maxHeartbeats 2000000 in
theorem g12_lend_J51 {X : gX} {p : Program} {l : Launch} {e : Env} {s : State} {m : MethodId} {args : Array Value} {below : List Frame} {meth : Method} {c : Code} (B : gB X p (rm12_lend) s m args meth c RX12 cX12_lend 3 (rm12_lend)) (hS9 : gS X s) (hr : meth.sig.returnType = some .int) (a0 : Nat) (x1 : Int32) (x2 : Int32) (b0 : Nat) (u1 : Int32) (M : mMem) : GG X p l e (rm12_lend) s m args below meth c (gP X below args s 0 0 (fun r9 : (Int32 × mMem) => (some (.int r9.1), r9.2))) 3 0 0 51 [(0, .ref a0), (1, .int x1), (2, .int x2)] [.int u1, .ref b0] M (p12_lend_J51 a0 x1 x2 b0 u1 M) := by
  unfold p12_lend_J51
  refine g_iconst (v := 3) B dX12_lend_51 (by decide) ?_
  refine g_callV_iw [.int u1, .int 3] (ci := 11) (T0 := TX12) (N := 27) B hS9 mf12_throwsIf wd_1932 (gw B wp_78) wd_1930 (by decide) rfl (fun h => (gd_ne h).1) (c12_throwsIf X l b0 u1 3 M) (by decide) (by decide) (by decide) rfl (by decide) dX12_lend_52 rfl (fun q_1 => ?_)
  refine g_if_eq B 60 dX12_lend_55 (by decide) ?_ ?_
  · refine g_aload_n B dX12_lend_60 0 rfl ?_
    refine g_callV_vw [] (ci := 11) (T0 := TX12) (N := 27) B hS9 mf12_remembers wd_2034 (gw B wp_94) wd_2032 (by decide) rfl (fun h => (gd_ne h).1) (c12_remembers X l a0 q_1.2) (by decide) (by decide) (by decide) rfl (by decide) dX12_lend_61 rfl (fun q_2 => ?_)
    refine g_aload_n B dX12_lend_64 0 rfl ?_
    refine g_getR (ci := 11) (T0 := TX12) (N := 27) B (by decide) rfl in_11 (k := 1) (by decide) rfl wd_1642 (fun _ h => h) dX12_lend_65 (fun v_3 => ?_)
    refine g_iload_n B dX12_lend_68 1 rfl ?_
    refine g_bipush (v := 7) B dX12_lend_69 (by decide) ?_
    refine g_callS_ip [.int x1, .int 7] B hS9 mf12_at wd_1824 wd_1823 (c12_at X l x1 7 q_2) (by decide) (by decide) (by decide) rfl (Nat.le_of_ble_eq_true rfl) dX12_lend_71 rfl (fun v_4 => ?_)
    refine g_dup2_11 B dX12_lend_74 rfl rfl ?_
    refine g_iaload B dX12_lend_75 (fun v_5 => ?_)
    refine g_iconst (v := 1) B dX12_lend_76 (by decide) ?_
    refine g_isub B dX12_lend_77 ?_
    refine g_iastore B dX12_lend_78 (fun M_6 => ?_)
    refine g_aload_n B dX12_lend_79 0 rfl ?_
    refine g_getR (ci := 11) (T0 := TX12) (N := 27) B (by decide) rfl in_11 (k := 1) (by decide) rfl wd_1642 (fun _ h => h) dX12_lend_80 (fun v_7 => ?_)
    refine g_iload_n B dX12_lend_83 2 rfl ?_
    refine g_bipush (v := 7) B dX12_lend_84 (by decide) ?_
    refine g_callS_ip [.int x2, .int 7] B hS9 mf12_at wd_1824 wd_1823 (c12_at X l x2 7 M_6) (by decide) (by decide) (by decide) rfl (Nat.le_of_ble_eq_true rfl) dX12_lend_86 rfl (fun v_8 => ?_)
    refine g_dup2_11 B dX12_lend_89 rfl rfl ?_
    refine g_iaload B dX12_lend_90 (fun v_9 => ?_)
    refine g_iconst (v := 1) B dX12_lend_91 (by decide) ?_
    refine g_iadd B dX12_lend_92 ?_
    refine g_iastore B dX12_lend_93 (fun M_10 => ?_)
    refine g_aload_n B dX12_lend_94 0 rfl ?_
    refine g_getR (ci := 11) (T0 := TX12) (N := 27) B (by decide) rfl in_11 (k := 1) (by decide) rfl wd_1642 (fun _ h => h) dX12_lend_95 (fun v_11 => ?_)
    refine g_iload_n B dX12_lend_98 1 rfl ?_
    refine g_bipush (v := 9) B dX12_lend_99 (by decide) ?_
    refine g_iload_n B dX12_lend_101 2 rfl ?_
    refine g_iadd B dX12_lend_102 ?_
    refine g_callS_ip [.int x1, .int ((9 : Int32) + x2)] B hS9 mf12_at wd_1824 wd_1823 (c12_at X l x1 ((9 : Int32) + x2) M_10) (by decide) (by decide) (by decide) rfl (Nat.le_of_ble_eq_true rfl) dX12_lend_103 rfl (fun v_12 => ?_)
    refine g_dup2_11 B dX12_lend_106 rfl rfl ?_
    refine g_iaload B dX12_lend_107 (fun v_13 => ?_)
    refine g_iconst (v := 1) B dX12_lend_108 (by decide) ?_
    refine g_iadd B dX12_lend_109 ?_
    refine g_iastore B dX12_lend_110 (fun M_14 => ?_)
    refine g_aload_n B dX12_lend_111 0 rfl ?_
    refine g_iload_n B dX12_lend_112 1 rfl ?_
    refine g_bipush (v := 7) B dX12_lend_113 (by decide) ?_
    refine g_callV_ip [.int x1, .int 7] (ci := 11) (T0 := TX12) (N := 27) B hS9 mf12_of wd_1846 (gw B wp_61) wd_1844 (by decide) rfl (fun h => (gd_ne h).1) (c12_of X l a0 x1 7 M_14) (by decide) (by decide) (by decide) rfl (by decide) dX12_lend_115 rfl (fun v_15 => ?_)
    exact g_ireturn B hr rfl (by decide) (by decide) rfl dX12_lend_118
  · refine g_sub (lv' := []) [] rfl ?_
    exact g12_lend_J58 B hS9 hr q_1.2
set_option maxRecDepth 20000 in
set_option maxHeartbeats 2000000 in
theorem g12_lend_J46 {X : gX} {p : Program} {l : Launch} {e : Env} {s : State} {m : MethodId} {args : Array Value} {below : List Frame} {meth : Method} {c : Code} (B : gB X p (rm12_lend) s m args meth c RX12 cX12_lend 3 (rm12_lend)) (hS9 : gS X s) (hr : meth.sig.returnType = some .int) (a0 : Nat) (x1 : Int32) (x2 : Int32) (b0 : Nat) (M : mMem) : GG X p l e (rm12_lend) s m args below meth c (gP X below args s 0 0 (fun r9 : (Int32 × mMem) => (some (.int r9.1), r9.2))) 3 0 0 46 [(0, .ref a0), (1, .int x1), (2, .int x2)] [.ref b0] M (p12_lend_J46 a0 x1 x2 b0 M) := by
  unfold p12_lend_J46
  refine g_iconst (v := 1) B dX12_lend_46 (by decide) ?_
  refine g_goto B 51 dX12_lend_47 (by decide) ?_
  refine g_sub (lv' := [(0, .ref a0), (1, .int x1), (2, .int x2)]) [0, 1, 2] rfl ?_
  exact g12_lend_J51 B hS9 hr a0 x1 x2 b0 1 M
set_option maxRecDepth 20000 in
set_option maxHeartbeats 2000000 in
theorem g12_lend {X : gX} {p : Program} {l : Launch} {e : Env} {s : State} {m : MethodId} {args : Array Value} {below : List Frame} {meth : Method} {c : Code} (B : gB X p (rm12_lend) s m args meth c RX12 cX12_lend 3 (rm12_lend)) (hS9 : gS X s) (hr : meth.sig.returnType = some .int) (a0 : Nat) (x1 : Int32) (x2 : Int32) (M : mMem) : GG X p l e (rm12_lend) s m args below meth c (gP X below args s 0 0 (fun r9 : (Int32 × mMem) => (some (.int r9.1), r9.2))) 3 0 0 0 [(0, .ref a0), (1, .int x1), (2, .int x2)] [] M (p12_lend a0 x1 x2 M) := by
  unfold p12_lend
  refine g_gd ?_
  refine g_aload_n B dX12_lend_0 0 rfl ?_
  refine g_iload_n B dX12_lend_1 1 rfl ?_
  refine g_iload_n B dX12_lend_2 2 rfl ?_
  refine g_callV_iw [.int x1, .int x2] (ci := 11) (T0 := TX12) (N := 27) B hS9 mf12_noTwo wd_1974 (gw B wp_84) wd_1972 (by decide) rfl (fun h => (gd_ne h).1) (c12_noTwo X l a0 x1 x2 M) (by decide) (by decide) (by decide) rfl (by decide) dX12_lend_3 rfl (fun q_1 => ?_)
  refine g_if_ne B 58 dX12_lend_6 (by decide) ?_ ?_
  · refine g_aload_n B dX12_lend_9 0 rfl ?_
    refine g_aload_n B dX12_lend_10 0 rfl ?_
    refine g_iload_n B dX12_lend_11 1 rfl ?_
    refine g_bipush (v := 7) B dX12_lend_12 (by decide) ?_
    refine g_callV_ip [.int x1, .int 7] (ci := 11) (T0 := TX12) (N := 27) B hS9 mf12_of wd_1846 (gw B wp_61) wd_1844 (by decide) rfl (fun h => (gd_ne h).1) (c12_of X l a0 x1 7 q_1.2) (by decide) (by decide) (by decide) rfl (Nat.le_of_ble_eq_true rfl) dX12_lend_14 rfl (fun v_2 => ?_)
    refine g_if_eq B 46 dX12_lend_17 (by decide) ?_ ?_
    · refine g_sub (lv' := [(0, .ref a0), (1, .int x1), (2, .int x2)]) [0, 1, 2] rfl ?_
      exact g12_lend_J46 B hS9 hr a0 x1 x2 a0 q_1.2
    · refine g_aload_n B dX12_lend_20 0 rfl ?_
      refine g_iload_n B dX12_lend_21 2 rfl ?_
      refine g_bipush (v := 7) B dX12_lend_22 (by decide) ?_
      refine g_callV_ip [.int x2, .int 7] (ci := 11) (T0 := TX12) (N := 27) B hS9 mf12_of wd_1846 (gw B wp_61) wd_1844 (by decide) rfl (fun h => (gd_ne h).1) (c12_of X l a0 x2 7 q_1.2) (by decide) (by decide) (by decide) rfl (Nat.le_of_ble_eq_true rfl) dX12_lend_24 rfl (fun v_3 => ?_)
      refine g_bipush (v := 9) B dX12_lend_27 (by decide) ?_
      refine g_icmp_eq B 46 dX12_lend_29 (by decide) ?_ ?_
      · refine g_sub (lv' := [(0, .ref a0), (1, .int x1), (2, .int x2)]) [0, 1, 2] rfl ?_
        exact g12_lend_J46 B hS9 hr a0 x1 x2 a0 q_1.2
      · refine g_aload_n B dX12_lend_32 0 rfl ?_
        refine g_iload_n B dX12_lend_33 1 rfl ?_
        refine g_bipush (v := 9) B dX12_lend_34 (by decide) ?_
        refine g_iload_n B dX12_lend_36 2 rfl ?_
        refine g_iadd B dX12_lend_37 ?_
        refine g_callV_ip [.int x1, .int ((9 : Int32) + x2)] (ci := 11) (T0 := TX12) (N := 27) B hS9 mf12_of wd_1846 (gw B wp_61) wd_1844 (by decide) rfl (fun h => (gd_ne h).1) (c12_of X l a0 x1 ((9 : Int32) + x2) q_1.2) (by decide) (by decide) (by decide) rfl (Nat.le_of_ble_eq_true rfl) dX12_lend_38 rfl (fun v_4 => ?_)
        refine g_bipush (v := 9) B dX12_lend_41 (by decide) ?_
        refine g_icmp_ne B 50 dX12_lend_43 (by decide) ?_ ?_
        · refine g_sub (lv' := [(0, .ref a0), (1, .int x1), (2, .int x2)]) [0, 1, 2] rfl ?_
          exact g12_lend_J46 B hS9 hr a0 x1 x2 a0 q_1.2
        · refine g_iconst (v := 0) B dX12_lend_50 (by decide) ?_
          refine g_sub (lv' := [(0, .ref a0), (1, .int x1), (2, .int x2)]) [0, 1, 2] rfl ?_
          exact g12_lend_J51 B hS9 hr a0 x1 x2 a0 0 q_1.2
  · refine g_sub (lv' := []) [] rfl ?_
    exact g12_lend_J58 B hS9 hr q_1.2
theorem c12_lend (X : gX) (l : Launch) (a0 : Nat) (x1 : Int32) (x2 : Int32) (M : mMem) : Con X l yX12_lend cX12_lend 3 (some .int) rm12_lend (fun r9 : (Int32 × mMem) => (some (.int r9.1), r9.2)) [.ref a0, .int x1, .int x2] M (p12_lend a0 x1 x2 M) := g_con (own := RX12) (by decide +kernel) rfl (Nat.le_of_ble_eq_true rfl) (fun p e s m args below meth c B hS9 hr hn => g12_lend B hS9 hr a0 x1 x2 M)
theorem mf12_use : gMF yX12_use cX12_use 2 (some .int) 1 := ⟨wd_2067, wd_13, ⟨by decide, by decide⟩, by decide +kernel⟩
set_option maxRecDepth 20000 in
set_option maxHeartbeats 2000000 in
theorem g12_use_J41 {X : gX} {p : Program} {l : Launch} {e : Env} {s : State} {m : MethodId} {args : Array Value} {below : List Frame} {meth : Method} {c : Code} (B : gB X p (rm12_use) s m args meth c RX12 cX12_use 2 (rm12_use)) (hS9 : gS X s) (hr : meth.sig.returnType = some .int) (M : mMem) : GG X p l e (rm12_use) s m args below meth c (gP X below args s 0 0 (fun r9 : (Int32 × mMem) => (some (.int r9.1), r9.2))) 2 0 0 41 [] [] M (p12_use_J41 M) := by
  unfold p12_use_J41
  refine g_iconst (v := 0) B dX12_use_41 (by decide) ?_
  exact g_ireturn B hr rfl (by decide) (by decide) rfl dX12_use_42
set_option maxRecDepth 20000 in
set_option maxHeartbeats 2000000 in
theorem g12_use_J34 {X : gX} {p : Program} {l : Launch} {e : Env} {s : State} {m : MethodId} {args : Array Value} {below : List Frame} {meth : Method} {c : Code} (B : gB X p (rm12_use) s m args meth c RX12 cX12_use 2 (rm12_use)) (hS9 : gS X s) (hr : meth.sig.returnType = some .int) (a0 : Nat) (x1 : Int32) (b0 : Nat) (u1 : Int32) (M : mMem) : GG X p l e (rm12_use) s m args below meth c (gP X below args s 0 0 (fun r9 : (Int32 × mMem) => (some (.int r9.1), r9.2))) 2 0 0 34 [(0, .ref a0), (1, .int x1)] [.int u1, .ref b0] M (p12_use_J34 a0 x1 b0 u1 M) := by
  unfold p12_use_J34
  refine g_iconst (v := 2) B dX12_use_34 (by decide) ?_
  refine g_callV_iw [.int u1, .int 2] (ci := 11) (T0 := TX12) (N := 27) B hS9 mf12_throwsIf wd_1932 (gw B wp_78) wd_1930 (by decide) rfl (fun h => (gd_ne h).1) (c12_throwsIf X l b0 u1 2 M) (by decide) (by decide) (by decide) rfl (by decide) dX12_use_35 rfl (fun q_1 => ?_)
  refine g_if_eq B 43 dX12_use_38 (by decide) ?_ ?_
  · refine g_aload_n B dX12_use_43 0 rfl ?_
    refine g_callV_vw [] (ci := 11) (T0 := TX12) (N := 27) B hS9 mf12_remembers wd_2034 (gw B wp_94) wd_2032 (by decide) rfl (fun h => (gd_ne h).1) (c12_remembers X l a0 q_1.2) (by decide) (by decide) (by decide) rfl (by decide) dX12_use_44 rfl (fun q_2 => ?_)
    refine g_aload_n B dX12_use_47 0 rfl ?_
    refine g_getR (ci := 11) (T0 := TX12) (N := 27) B (by decide) rfl in_11 (k := 1) (by decide) rfl wd_1642 (fun _ h => h) dX12_use_48 (fun v_3 => ?_)
    refine g_iload_n B dX12_use_51 1 rfl ?_
    refine g_bipush (v := 7) B dX12_use_52 (by decide) ?_
    refine g_callS_ip [.int x1, .int 7] B hS9 mf12_at wd_1824 wd_1823 (c12_at X l x1 7 q_2) (by decide) (by decide) (by decide) rfl (Nat.le_of_ble_eq_true rfl) dX12_use_54 rfl (fun v_4 => ?_)
    refine g_dup2_11 B dX12_use_57 rfl rfl ?_
    refine g_iaload B dX12_use_58 (fun v_5 => ?_)
    refine g_iconst (v := 1) B dX12_use_59 (by decide) ?_
    refine g_isub B dX12_use_60 ?_
    refine g_iastore B dX12_use_61 (fun M_6 => ?_)
    refine g_aload_n B dX12_use_62 0 rfl ?_
    refine g_iload_n B dX12_use_63 1 rfl ?_
    refine g_aload_n B dX12_use_64 0 rfl ?_
    refine g_getR (ci := 11) (T0 := TX12) (N := 27) B (by decide) rfl in_11 (k := 1) (by decide) rfl wd_1642 (fun _ h => h) dX12_use_65 (fun v_7 => ?_)
    refine g_bipush (v := 6) B dX12_use_68 (by decide) ?_
    refine g_iaload B dX12_use_70 (fun v_8 => ?_)
    refine g_aload_n B dX12_use_71 0 rfl ?_
    refine g_getR (ci := 11) (T0 := TX12) (N := 27) B (by decide) rfl in_11 (k := 1) (by decide) rfl wd_1642 (fun _ h => h) dX12_use_72 (fun v_9 => ?_)
    refine g_iconst (v := 4) B dX12_use_75 (by decide) ?_
    refine g_iaload B dX12_use_76 (fun v_10 => ?_)
    refine g_irem B dX12_use_77 (fun v_11 => ?_)
    refine g_iconst (v := 1) B dX12_use_78 (by decide) ?_
    refine g_callV_vw [.int x1, .int v_11, .int 1] (ci := 11) (T0 := TX12) (N := 27) B hS9 mf12_grows wd_2022 (gw B wp_92) wd_2020 (by decide) rfl (fun h => (gd_ne h).1) (c12_grows X l a0 x1 v_11 1 M_6) (by decide) (by decide) (by decide) rfl (by decide) dX12_use_79 rfl (fun q_12 => ?_)
    refine g_aload_n B dX12_use_82 0 rfl ?_
    refine g_iload_n B dX12_use_83 1 rfl ?_
    refine g_iload_n B dX12_use_84 1 rfl ?_
    refine g_iconst (v := 1) B dX12_use_85 (by decide) ?_
    refine g_callV_vw [.int x1, .int x1, .int 1] (ci := 11) (T0 := TX12) (N := 27) B hS9 mf12_tells wd_2042 (gw B wp_96) wd_2040 (by decide) rfl (fun h => (gd_ne h).1) (c12_tells X l a0 x1 x1 1 q_12) (by decide) (by decide) (by decide) rfl (by decide) dX12_use_86 rfl (fun q_13 => ?_)
    refine g_aload_n B dX12_use_89 0 rfl ?_
    refine g_iload_n B dX12_use_90 1 rfl ?_
    refine g_iconst (v := 0) B dX12_use_91 (by decide) ?_
    refine g_callV_ip [.int x1, .int 0] (ci := 11) (T0 := TX12) (N := 27) B hS9 mf12_of wd_1846 (gw B wp_61) wd_1844 (by decide) rfl (fun h => (gd_ne h).1) (c12_of X l a0 x1 0 q_13) (by decide) (by decide) (by decide) rfl (by decide) dX12_use_92 rfl (fun v_14 => ?_)
    exact g_ireturn B hr rfl (by decide) (by decide) rfl dX12_use_95
  · refine g_sub (lv' := []) [] rfl ?_
    exact g12_use_J41 B hS9 hr q_1.2
set_option maxRecDepth 20000 in
set_option maxHeartbeats 2000000 in
theorem g12_use {X : gX} {p : Program} {l : Launch} {e : Env} {s : State} {m : MethodId} {args : Array Value} {below : List Frame} {meth : Method} {c : Code} (B : gB X p (rm12_use) s m args meth c RX12 cX12_use 2 (rm12_use)) (hS9 : gS X s) (hr : meth.sig.returnType = some .int) (a0 : Nat) (x1 : Int32) (M : mMem) : GG X p l e (rm12_use) s m args below meth c (gP X below args s 0 0 (fun r9 : (Int32 × mMem) => (some (.int r9.1), r9.2))) 2 0 0 0 [(0, .ref a0), (1, .int x1)] [] M (p12_use a0 x1 M) := by
  unfold p12_use
  refine g_gd ?_
  refine g_aload_n B dX12_use_0 0 rfl ?_
  refine g_iconst (v := 0) B dX12_use_1 (by decide) ?_
  refine g_putI (ci := 11) (T0 := TX12) (N := 27) B (by decide) rfl in_11 tyX12 tyX12_ok nmX12 (k := 0) (by decide) wd_1641 (fun _ h => h) rfl rfl (ty := .int) (by decide +kernel) rfl rfl dX12_use_2 (fun M_1 => ?_)
  refine g_aload_n B dX12_use_5 0 rfl ?_
  refine g_aload_n B dX12_use_6 0 rfl ?_
  refine g_iload_n B dX12_use_7 1 rfl ?_
  refine g_callV_ip [.int x1] (ci := 11) (T0 := TX12) (N := 27) B hS9 mf12_nobody wd_1944 (gw B wp_79) wd_1942 (by decide) rfl (fun h => (gd_ne h).1) (c12_nobody X l a0 x1 M_1) (by decide) (by decide) (by decide) rfl (Nat.le_of_ble_eq_true rfl) dX12_use_8 rfl (fun v_2 => ?_)
  refine g_iconst (v := 1) B dX12_use_11 (by decide) ?_
  refine g_callV_iw [.int v_2, .int 1] (ci := 11) (T0 := TX12) (N := 27) B hS9 mf12_throwsIf wd_1932 (gw B wp_78) wd_1930 (by decide) rfl (fun h => (gd_ne h).1) (c12_throwsIf X l a0 v_2 1 M_1) (by decide) (by decide) (by decide) rfl (by decide) dX12_use_12 rfl (fun q_3 => ?_)
  refine g_if_ne B 41 dX12_use_15 (by decide) ?_ ?_
  · refine g_aload_n B dX12_use_18 0 rfl ?_
    refine g_aload_n B dX12_use_19 0 rfl ?_
    refine g_iload_n B dX12_use_20 1 rfl ?_
    refine g_bipush (v := 7) B dX12_use_21 (by decide) ?_
    refine g_callV_ip [.int x1, .int 7] (ci := 11) (T0 := TX12) (N := 27) B hS9 mf12_of wd_1846 (gw B wp_61) wd_1844 (by decide) rfl (fun h => (gd_ne h).1) (c12_of X l a0 x1 7 q_3.2) (by decide) (by decide) (by decide) rfl (Nat.le_of_ble_eq_true rfl) dX12_use_23 rfl (fun v_4 => ?_)
    refine g_if_ne B 33 dX12_use_26 (by decide) ?_ ?_
    · refine g_iconst (v := 1) B dX12_use_29 (by decide) ?_
      refine g_goto B 34 dX12_use_30 (by decide) ?_
      refine g_sub (lv' := [(0, .ref a0), (1, .int x1)]) [0, 1] rfl ?_
      exact g12_use_J34 B hS9 hr a0 x1 a0 1 q_3.2
    · refine g_iconst (v := 0) B dX12_use_33 (by decide) ?_
      refine g_sub (lv' := [(0, .ref a0), (1, .int x1)]) [0, 1] rfl ?_
      exact g12_use_J34 B hS9 hr a0 x1 a0 0 q_3.2
  · refine g_sub (lv' := []) [] rfl ?_
    exact g12_use_J41 B hS9 hr q_3.2
theorem c12_use (X : gX) (l : Launch) (a0 : Nat) (x1 : Int32) (M : mMem) : Con X l yX12_use cX12_use 2 (some .int) rm12_use (fun r9 : (Int32 × mMem) => (some (.int r9.1), r9.2)) [.ref a0, .int x1] M (p12_use a0 x1 M) := g_con (own := RX12) (by decide +kernel) rfl (Nat.le_of_ble_eq_true rfl) (fun p e s m args below meth c B hS9 hr hn => g12_use B hS9 hr a0 x1 M)
theorem mf12_govern : gMF yX12_govern cX12_govern 6 (some .boolean) 3 := ⟨wd_2071, wd_13, ⟨by decide, by decide⟩, by decide +kernel⟩
set_option maxRecDepth 20000 in
set_option maxHeartbeats 2000000 in
theorem g12_govern_J75 {X : gX} {p : Program} {l : Launch} {e : Env} {s : State} {m : MethodId} {args : Array Value} {below : List Frame} {meth : Method} {c : Code} (B : gB X p (rm12_govern) s m args meth c RX12 cX12_govern 6 (rm12_govern)) (hS9 : gS X s) (hr : meth.sig.returnType = some .boolean) (u0 : Int32) (M : mMem) : GG X p l e (rm12_govern) s m args below meth c (gP X below args s 0 0 (fun r9 : (Int32 × mMem) => (some (.int r9.1), r9.2))) 6 0 0 75 [] [.int u0] M (p12_govern_J75 u0 M) := by
  unfold p12_govern_J75
  exact g_zreturn (f := fun z => (z, M)) B hr (by decide) (by decide) rfl dX12_govern_75
set_option maxRecDepth 20000 in
set_option maxHeartbeats 2000000 in
theorem g12_govern_J63 {X : gX} {p : Program} {l : Launch} {e : Env} {s : State} {m : MethodId} {args : Array Value} {below : List Frame} {meth : Method} {c : Code} (B : gB X p (rm12_govern) s m args meth c RX12 cX12_govern 6 (rm12_govern)) (hS9 : gS X s) (hr : meth.sig.returnType = some .boolean) (x3 : Int32) (x4 : Int32) (b0 : Nat) (u1 : Int32) (u2 : Int32) (M : mMem) : GG X p l e (rm12_govern) s m args below meth c (gP X below args s 0 0 (fun r9 : (Int32 × mMem) => (some (.int r9.1), r9.2))) 6 0 0 63 [(3, .int x3), (4, .int x4)] [.int u2, .int u1, .ref b0] M (p12_govern_J63 x3 x4 b0 u1 u2 M) := by
  unfold p12_govern_J63
  refine g_iastore B dX12_govern_63 (fun M_1 => ?_)
  refine g_iload B dX12_govern_64 1 rfl ?_
  refine g_iload_n B dX12_govern_66 0 rfl ?_
  refine g_icmp_eq B 74 dX12_govern_67 (by decide) ?_ ?_
  · refine g_iconst (v := 0) B dX12_govern_74 (by decide) ?_
    refine g_sub (lv' := []) [] rfl ?_
    exact g12_govern_J75 B hS9 hr 0 M_1
  · refine g_iconst (v := 1) B dX12_govern_70 (by decide) ?_
    refine g_goto B 75 dX12_govern_71 (by decide) ?_
    refine g_sub (lv' := []) [] rfl ?_
    exact g12_govern_J75 B hS9 hr 1 M_1
set_option maxRecDepth 20000 in
set_option maxHeartbeats 2000000 in
theorem g12_govern {X : gX} {p : Program} {l : Launch} {e : Env} {s : State} {m : MethodId} {args : Array Value} {below : List Frame} {meth : Method} {c : Code} (B : gB X p (rm12_govern) s m args meth c RX12 cX12_govern 6 (rm12_govern)) (hS9 : gS X s) (hr : meth.sig.returnType = some .boolean) (a0 : Nat) (x1 : Int32) (x2 : Int32) (x3 : Int32) (M : mMem) : GG X p l e (rm12_govern) s m args below meth c (gP X below args s 0 0 (fun r9 : (Int32 × mMem) => (some (.int r9.1), r9.2))) 6 0 0 0 [(0, .ref a0), (1, .int x1), (2, .int x2), (3, .int x3)] [] M (p12_govern a0 x1 x2 x3 M) := by
  unfold p12_govern
  refine g_gd ?_
  refine g_aload_n B dX12_govern_0 0 rfl ?_
  refine g_iload_n B dX12_govern_1 1 rfl ?_
  refine g_iload_n B dX12_govern_2 2 rfl ?_
  refine g_callV_iw [.int x1, .int x2] (ci := 11) (T0 := TX12) (N := 27) B hS9 mf12_noTwo wd_1974 (gw B wp_84) wd_1972 (by decide) rfl (fun h => (gd_ne h).1) (c12_noTwo X l a0 x1 x2 M) (by decide) (by decide) (by decide) rfl (by decide) dX12_govern_3 rfl (fun q_1 => ?_)
  refine g_if_eq B 11 dX12_govern_6 (by decide) ?_ ?_
  · refine g_aload_n B dX12_govern_11 0 rfl ?_
    refine g_callV_vw [] (ci := 11) (T0 := TX12) (N := 27) B hS9 mf12_remembers wd_2034 (gw B wp_94) wd_2032 (by decide) rfl (fun h => (gd_ne h).1) (c12_remembers X l a0 q_1.2) (by decide) (by decide) (by decide) rfl (by decide) dX12_govern_12 rfl (fun q_2 => ?_)
    refine g_aload_n B dX12_govern_15 0 rfl ?_
    refine g_iload_n B dX12_govern_16 1 rfl ?_
    refine g_iload_n B dX12_govern_17 2 rfl ?_
    refine g_callV_ip [.int x1, .int x2] (ci := 11) (T0 := TX12) (N := 27) B hS9 mf12_governs wd_1955 (gw B wp_81) wd_1953 (by decide) rfl (fun h => (gd_ne h).1) (c12_governs X l a0 x1 x2 q_2) (by decide) (by decide) (by decide) rfl (by decide) dX12_govern_18 rfl (fun v_3 => ?_)
    refine g_istore (lv' := [(4, .int v_3), (0, .ref a0), (1, .int x1), (2, .int x2), (3, .int x3)]) B dX12_govern_21 (by decide) [0, 1, 2, 3, 4] rfl ?_
    refine g_aload_n B dX12_govern_23 1 rfl ?_
    refine g_iload_n B dX12_govern_24 3 rfl ?_
    refine g_bipush (v := 8) B dX12_govern_25 (by decide) ?_
    refine g_callV_ip [.int x2, .int 8] (ci := 11) (T0 := TX12) (N := 27) B hS9 mf12_of wd_1846 (gw B wp_61) wd_1844 (by decide) rfl (fun h => (gd_ne h).1) (c12_of X l a0 x2 8 q_2) (by decide) (by decide) (by decide) rfl (by decide) dX12_govern_27 rfl (fun v_4 => ?_)
    refine g_iconst (v := 1) B dX12_govern_30 (by decide) ?_
    refine g_iload_n B dX12_govern_31 2 rfl ?_
    refine g_ishl B dX12_govern_32 ?_
    refine g_iconst (v := (-1)) B dX12_govern_33 (by decide) ?_
    refine g_ixor B dX12_govern_34 ?_
    refine g_iand B dX12_govern_35 ?_
    refine g_istore (lv' := [(5, .int (v_4 &&& (((1 : Int32) <<< (x1 &&& 31)) ^^^ (-1)))), (4, .int v_3), (0, .ref a0), (1, .int x1), (2, .int x2), (3, .int x3)]) B dX12_govern_36 (by decide) [0, 1, 2, 3, 4, 5] rfl ?_
    refine g_aload_n B dX12_govern_38 2 rfl ?_
    refine g_getR (ci := 11) (T0 := TX12) (N := 27) B (by decide) rfl in_11 (k := 1) (by decide) rfl wd_1642 (fun _ h => h) dX12_govern_39 (fun v_5 => ?_)
    refine g_iload_n B dX12_govern_42 4 rfl ?_
    refine g_bipush (v := 8) B dX12_govern_43 (by decide) ?_
    refine g_callS_ip [.int x2, .int 8] B hS9 mf12_at wd_1824 wd_1823 (c12_at X l x2 8 q_2) (by decide) (by decide) (by decide) rfl (Nat.le_of_ble_eq_true rfl) dX12_govern_45 rfl (fun v_6 => ?_)
    refine g_iload_n B dX12_govern_48 5 rfl ?_
    refine g_if_eq B 61 dX12_govern_49 (by decide) ?_ ?_
    · refine g_iload B dX12_govern_61 0 rfl ?_
      refine g_sub (lv' := [(3, .int x3), (4, .int v_3)]) [5, 1] rfl ?_
      exact g12_govern_J63 B hS9 hr x3 v_3 v_5 v_6 (v_4 &&& (((1 : Int32) <<< (x1 &&& 31)) ^^^ (-1))) q_2
    · refine g_iload B dX12_govern_52 0 rfl ?_
      refine g_iconst (v := 1) B dX12_govern_54 (by decide) ?_
      refine g_iload_n B dX12_govern_55 3 rfl ?_
      refine g_ishl B dX12_govern_56 ?_
      refine g_ior B dX12_govern_57 ?_
      refine g_goto B 63 dX12_govern_58 (by decide) ?_
      refine g_sub (lv' := [(3, .int x3), (4, .int v_3)]) [5, 1] rfl ?_
      exact g12_govern_J63 B hS9 hr x3 v_3 v_5 v_6 ((v_4 &&& (((1 : Int32) <<< (x1 &&& 31)) ^^^ (-1))) ||| ((1 : Int32) <<< (x1 &&& 31))) q_2
  · refine g_iconst (v := 0) B dX12_govern_9 (by decide) ?_
    exact g_ireturn B hr rfl (by decide) (by decide) rfl dX12_govern_10
theorem c12_govern (X : gX) (l : Launch) (a0 : Nat) (x1 : Int32) (x2 : Int32) (x3 : Int32) (M : mMem) : Con X l yX12_govern cX12_govern 6 (some .boolean) rm12_govern (fun r9 : (Int32 × mMem) => (some (.int r9.1), r9.2)) [.ref a0, .int x1, .int x2, .int x3] M (p12_govern a0 x1 x2 x3 M) := g_con (own := RX12) (by decide +kernel) rfl (Nat.le_of_ble_eq_true rfl) (fun p e s m args below meth c B hS9 hr hn => g12_govern B hS9 hr a0 x1 x2 x3 M)
theorem mf12_stern : gMF yX12_stern cX12_stern 4 (some .int) 2 := ⟨wd_2075, wd_13, ⟨by decide, by decide⟩, by decide +kernel⟩
set_option maxRecDepth 20000 in
set_option maxHeartbeats 2000000 in
theorem g12_stern_J41 {X : gX} {p : Program} {l : Launch} {e : Env} {s : State} {m : MethodId} {args : Array Value} {below : List Frame} {meth : Method} {c : Code} (B : gB X p (rm12_stern) s m args meth c RX12 cX12_stern 4 (rm12_stern)) (hS9 : gS X s) (hr : meth.sig.returnType = some .int) (M : mMem) : GG X p l e (rm12_stern) s m args below meth c (gP X below args s 0 0 (fun r9 : (Int32 × mMem) => (some (.int r9.1), r9.2))) 4 0 0 41 [] [] M (p12_stern_J41 M) := by
  unfold p12_stern_J41
  refine g_iconst (v := 0) B dX12_stern_41 (by decide) ?_
  exact g_ireturn B hr rfl (by decide) (by decide) rfl dX12_stern_42
set_option maxRecDepth 20000 in
set_option maxHeartbeats 2000000 in
theorem g12_stern_J34 {X : gX} {p : Program} {l : Launch} {e : Env} {s : State} {m : MethodId} {args : Array Value} {below : List Frame} {meth : Method} {c : Code} (B : gB X p (rm12_stern) s m args meth c RX12 cX12_stern 4 (rm12_stern)) (hS9 : gS X s) (hr : meth.sig.returnType = some .int) (a0 : Nat) (x1 : Int32) (x2 : Int32) (b0 : Nat) (u1 : Int32) (M : mMem) : GG X p l e (rm12_stern) s m args below meth c (gP X below args s 0 0 (fun r9 : (Int32 × mMem) => (some (.int r9.1), r9.2))) 4 0 0 34 [(0, .ref a0), (1, .int x1), (2, .int x2)] [.int u1, .ref b0] M (p12_stern_J34 a0 x1 x2 b0 u1 M) := by
  unfold p12_stern_J34
  refine g_iconst (v := 2) B dX12_stern_34 (by decide) ?_
  refine g_callV_iw [.int u1, .int 2] (ci := 11) (T0 := TX12) (N := 27) B hS9 mf12_throwsIf wd_1932 (gw B wp_78) wd_1930 (by decide) rfl (fun h => (gd_ne h).1) (c12_throwsIf X l b0 u1 2 M) (by decide) (by decide) (by decide) rfl (by decide) dX12_stern_35 rfl (fun q_1 => ?_)
  refine g_if_eq B 43 dX12_stern_38 (by decide) ?_ ?_
  · refine g_aload_n B dX12_stern_43 0 rfl ?_
    refine g_callV_vw [] (ci := 11) (T0 := TX12) (N := 27) B hS9 mf12_remembers wd_2034 (gw B wp_94) wd_2032 (by decide) rfl (fun h => (gd_ne h).1) (c12_remembers X l a0 q_1.2) (by decide) (by decide) (by decide) rfl (by decide) dX12_stern_44 rfl (fun q_2 => ?_)
    refine g_aload_n B dX12_stern_47 0 rfl ?_
    refine g_iload_n B dX12_stern_48 1 rfl ?_
    refine g_bipush (v := 6) B dX12_stern_49 (by decide) ?_
    refine g_callV_ip [.int x1, .int 6] (ci := 11) (T0 := TX12) (N := 27) B hS9 mf12_of wd_1846 (gw B wp_61) wd_1844 (by decide) rfl (fun h => (gd_ne h).1) (c12_of X l a0 x1 6 q_2) (by decide) (by decide) (by decide) rfl (by decide) dX12_stern_51 rfl (fun v_3 => ?_)
    refine g_istore_n (lv' := [(3, .int v_3), (0, .ref a0), (1, .int x1), (2, .int x2)]) B dX12_stern_54 (by decide) [0, 1, 2, 3] rfl ?_
    refine g_aload_n B dX12_stern_55 1 rfl ?_
    refine g_getR (ci := 11) (T0 := TX12) (N := 27) B (by decide) rfl in_11 (k := 1) (by decide) rfl wd_1642 (fun _ h => h) dX12_stern_56 (fun v_4 => ?_)
    refine g_iload_n B dX12_stern_59 2 rfl ?_
    refine g_bipush (v := 6) B dX12_stern_60 (by decide) ?_
    refine g_callS_ip [.int x1, .int 6] B hS9 mf12_at wd_1824 wd_1823 (c12_at X l x1 6 q_2) (by decide) (by decide) (by decide) rfl (Nat.le_of_ble_eq_true rfl) dX12_stern_62 rfl (fun v_5 => ?_)
    refine g_iload_n B dX12_stern_65 3 rfl ?_
    refine g_iastore B dX12_stern_66 (fun M_6 => ?_)
    refine g_iload_n B dX12_stern_67 0 rfl ?_
    exact g_ireturn B hr rfl (by decide) (by decide) rfl dX12_stern_68
  · refine g_sub (lv' := []) [] rfl ?_
    exact g12_stern_J41 B hS9 hr q_1.2
set_option maxRecDepth 20000 in
set_option maxHeartbeats 2000000 in
theorem g12_stern {X : gX} {p : Program} {l : Launch} {e : Env} {s : State} {m : MethodId} {args : Array Value} {below : List Frame} {meth : Method} {c : Code} (B : gB X p (rm12_stern) s m args meth c RX12 cX12_stern 4 (rm12_stern)) (hS9 : gS X s) (hr : meth.sig.returnType = some .int) (a0 : Nat) (x1 : Int32) (x2 : Int32) (M : mMem) : GG X p l e (rm12_stern) s m args below meth c (gP X below args s 0 0 (fun r9 : (Int32 × mMem) => (some (.int r9.1), r9.2))) 4 0 0 0 [(0, .ref a0), (1, .int x1), (2, .int x2)] [] M (p12_stern a0 x1 x2 M) := by
  unfold p12_stern
  refine g_gd ?_
  refine g_aload_n B dX12_stern_0 0 rfl ?_
  refine g_iconst (v := 0) B dX12_stern_1 (by decide) ?_
  refine g_putI (ci := 11) (T0 := TX12) (N := 27) B (by decide) rfl in_11 tyX12 tyX12_ok nmX12 (k := 0) (by decide) wd_1641 (fun _ h => h) rfl rfl (ty := .int) (by decide +kernel) rfl rfl dX12_stern_2 (fun M_1 => ?_)
  refine g_aload_n B dX12_stern_5 0 rfl ?_
  refine g_aload_n B dX12_stern_6 0 rfl ?_
  refine g_iload_n B dX12_stern_7 1 rfl ?_
  refine g_callV_ip [.int x1] (ci := 11) (T0 := TX12) (N := 27) B hS9 mf12_nobody wd_1944 (gw B wp_79) wd_1942 (by decide) rfl (fun h => (gd_ne h).1) (c12_nobody X l a0 x1 M_1) (by decide) (by decide) (by decide) rfl (Nat.le_of_ble_eq_true rfl) dX12_stern_8 rfl (fun v_2 => ?_)
  refine g_iconst (v := 1) B dX12_stern_11 (by decide) ?_
  refine g_callV_iw [.int v_2, .int 1] (ci := 11) (T0 := TX12) (N := 27) B hS9 mf12_throwsIf wd_1932 (gw B wp_78) wd_1930 (by decide) rfl (fun h => (gd_ne h).1) (c12_throwsIf X l a0 v_2 1 M_1) (by decide) (by decide) (by decide) rfl (by decide) dX12_stern_12 rfl (fun q_3 => ?_)
  refine g_if_ne B 41 dX12_stern_15 (by decide) ?_ ?_
  · refine g_aload_n B dX12_stern_18 0 rfl ?_
    refine g_iload_n B dX12_stern_19 2 rfl ?_
    refine g_iconst (v := 0) B dX12_stern_20 (by decide) ?_
    refine g_bipush (v := 100) B dX12_stern_21 (by decide) ?_
    refine g_callS_ip [.int x2, .int 0, .int 100] B hS9 mf12_in wd_1947 wd_1946 (c12_in X l x2 0 100 q_3.2) (by decide) (by decide) (by decide) rfl (Nat.le_of_ble_eq_true rfl) dX12_stern_23 rfl (fun v_4 => ?_)
    refine g_if_ne B 33 dX12_stern_26 (by decide) ?_ ?_
    · refine g_iconst (v := 1) B dX12_stern_29 (by decide) ?_
      refine g_goto B 34 dX12_stern_30 (by decide) ?_
      refine g_sub (lv' := [(0, .ref a0), (1, .int x1), (2, .int x2)]) [0, 1, 2] rfl ?_
      exact g12_stern_J34 B hS9 hr a0 x1 x2 a0 1 q_3.2
    · refine g_iconst (v := 0) B dX12_stern_33 (by decide) ?_
      refine g_sub (lv' := [(0, .ref a0), (1, .int x1), (2, .int x2)]) [0, 1, 2] rfl ?_
      exact g12_stern_J34 B hS9 hr a0 x1 x2 a0 0 q_3.2
  · refine g_sub (lv' := []) [] rfl ?_
    exact g12_stern_J41 B hS9 hr q_3.2
theorem c12_stern (X : gX) (l : Launch) (a0 : Nat) (x1 : Int32) (x2 : Int32) (M : mMem) : Con X l yX12_stern cX12_stern 4 (some .int) rm12_stern (fun r9 : (Int32 × mMem) => (some (.int r9.1), r9.2)) [.ref a0, .int x1, .int x2] M (p12_stern a0 x1 x2 M) := g_con (own := RX12) (by decide +kernel) rfl (Nat.le_of_ble_eq_true rfl) (fun p e s m args below meth c B hS9 hr hn => g12_stern B hS9 hr a0 x1 x2 M)
theorem mf12_oneOf : gMF yX12_oneOf cX12_oneOf 4 (some .int) 2 := ⟨wd_2096, wd_13, ⟨by decide, by decide⟩, by decide +kernel⟩
set_option maxRecDepth 20000 in
set_option maxHeartbeats 2000000 in
theorem g12_oneOf_J30 {X : gX} {p : Program} {l : Launch} {e : Env} {s : State} {m : MethodId} {args : Array Value} {below : List Frame} {meth : Method} {c : Code} (B : gB X p (rm12_oneOf) s m args meth c RX12 cX12_oneOf 4 (rm12_oneOf)) (hS9 : gS X s) (hr : meth.sig.returnType = some .int) {M : mMem} (rec4 : Int32 → Int32 → Int32 → Option Int32) (hrec4 : ∀ (x0 : Int32) (x2 : Int32) (x3 : Int32), GG X p l e (rm12_oneOf) s m args below meth c (gP X below args s 0 0 (fun r9 : Int32 => (some (.int r9), M))) 4 0 0 4 [(0, .int x0), (2, .int x2), (3, .int x3)] [] M (rec4 x0 x2 x3)) (x0 : Int32) (x3 : Int32) (u0 : Int32) (u1 : Int32) : GG X p l e (rm12_oneOf) s m args below meth c (gP X below args s 0 0 (fun r9 : Int32 => (some (.int r9), M))) 4 0 0 30 [(0, .int x0), (3, .int x3)] [.int u1, .int u0] M (p12_oneOf_J30 M rec4 x0 x3 u0 u1) := by
  unfold p12_oneOf_J30
  refine g_isub B dX12_oneOf_30 ?_
  refine g_istore_n (lv' := [(2, .int (u0 - u1)), (0, .int x0), (3, .int x3)]) B dX12_oneOf_31 (by decide) [0, 1, 2] rfl ?_
  refine g_iinc (v := (x3 + 1)) (lv' := [(3, .int (x3 + 1)), (2, .int (u0 - u1)), (0, .int x0)]) B dX12_oneOf_32 2 rfl rfl (by decide) [0, 1, 2] rfl ?_
  refine g_goto B 4 dX12_oneOf_35 (by decide) ?_
  refine g_sub (lv' := [(0, .int x0), (2, .int (u0 - u1)), (3, .int (x3 + 1))]) [2, 1, 0] rfl ?_
  exact hrec4 x0 (u0 - u1) (x3 + 1)
set_option maxRecDepth 20000 in
set_option maxHeartbeats 2000000 in
theorem g12_oneOf_J16 {X : gX} {p : Program} {l : Launch} {e : Env} {s : State} {m : MethodId} {args : Array Value} {below : List Frame} {meth : Method} {c : Code} (B : gB X p (rm12_oneOf) s m args meth c RX12 cX12_oneOf 4 (rm12_oneOf)) (hS9 : gS X s) (hr : meth.sig.returnType = some .int) {M : mMem} (rec4 : Int32 → Int32 → Int32 → Option Int32) (hrec4 : ∀ (x0 : Int32) (x2 : Int32) (x3 : Int32), GG X p l e (rm12_oneOf) s m args below meth c (gP X below args s 0 0 (fun r9 : Int32 => (some (.int r9), M))) 4 0 0 4 [(0, .int x0), (2, .int x2), (3, .int x3)] [] M (rec4 x0 x2 x3)) (x0 : Int32) (x2 : Int32) (x3 : Int32) : GG X p l e (rm12_oneOf) s m args below meth c (gP X below args s 0 0 (fun r9 : Int32 => (some (.int r9), M))) 4 0 0 16 [(0, .int x0), (2, .int x2), (3, .int x3)] [] M (p12_oneOf_J16 M rec4 x0 x2 x3) := by
  unfold p12_oneOf_J16
  refine g_iload_n B dX12_oneOf_16 1 rfl ?_
  refine g_iload_n B dX12_oneOf_17 0 rfl ?_
  refine g_iload_n B dX12_oneOf_18 2 rfl ?_
  refine g_callS_ip [.int x0, .int x3] B hS9 mf12_has wd_1958 wd_1957 (c12_has X l x0 x3 M) (by decide) (by decide) (by decide) rfl (Nat.le_of_ble_eq_true rfl) dX12_oneOf_19 rfl (fun v_1 => ?_)
  refine g_if_eq B 29 dX12_oneOf_22 (by decide) ?_ ?_
  · refine g_iconst (v := 0) B dX12_oneOf_29 (by decide) ?_
    refine g_sub (lv' := [(0, .int x0), (3, .int x3)]) [0, 2] rfl ?_
    exact g12_oneOf_J30 B hS9 hr rec4 hrec4 x0 x3 x2 0
  · refine g_iconst (v := 1) B dX12_oneOf_25 (by decide) ?_
    refine g_goto B 30 dX12_oneOf_26 (by decide) ?_
    refine g_sub (lv' := [(0, .int x0), (3, .int x3)]) [0, 2] rfl ?_
    exact g12_oneOf_J30 B hS9 hr rec4 hrec4 x0 x3 x2 1
set_option maxRecDepth 20000 in
set_option maxHeartbeats 2000000 in
theorem g12_oneOf_L4 {X : gX} {p : Program} {l : Launch} {e : Env} {s : State} {m : MethodId} {args : Array Value} {below : List Frame} {meth : Method} {c : Code} (B : gB X p (rm12_oneOf) s m args meth c RX12 cX12_oneOf 4 (rm12_oneOf)) (hS9 : gS X s) (hr : meth.sig.returnType = some .int) {M : mMem} : ∀ (n : Nat) (x0 : Int32) (x2 : Int32) (x3 : Int32), GG X p l e (rm12_oneOf) s m args below meth c (gP X below args s 0 0 (fun r9 : Int32 => (some (.int r9), M))) 4 0 0 4 [(0, .int x0), (2, .int x2), (3, .int x3)] [] M (p12_oneOf_L4 M n x0 x2 x3) := by
  intro n
  induction n with
  | zero => intro x0 x2 x3; exact g_none
  | succ n ih =>
    intro x0 x2 x3
    rw [p12_oneOf_L4]
    refine g_iload_n B dX12_oneOf_4 0 rfl ?_
    refine g_iload_n B dX12_oneOf_5 2 rfl ?_
    refine g_callS_ip [.int x0, .int x3] B hS9 mf12_has wd_1958 wd_1957 (c12_has X l x0 x3 M) (by decide) (by decide) (by decide) rfl (by decide) dX12_oneOf_6 rfl (fun v_1 => ?_)
    refine g_if_eq B 16 dX12_oneOf_9 (by decide) ?_ ?_
    · refine g_sub (lv' := [(0, .int x0), (2, .int x2), (3, .int x3)]) [0, 1, 2] rfl ?_
      exact g12_oneOf_J16 B hS9 hr (p12_oneOf_L4 M n) ih x0 x2 x3
    · refine g_iload_n B dX12_oneOf_12 1 rfl ?_
      refine g_if_le B 38 dX12_oneOf_13 (by decide) ?_ ?_
      · refine g_sub (lv' := [(0, .int x0), (2, .int x2), (3, .int x3)]) [0, 1, 2] rfl ?_
        exact g12_oneOf_J16 B hS9 hr (p12_oneOf_L4 M n) ih x0 x2 x3
      · refine g_iload_n B dX12_oneOf_38 2 rfl ?_
        exact g_ireturn B hr rfl (by decide) (by decide) rfl dX12_oneOf_39
set_option maxRecDepth 20000 in
set_option maxHeartbeats 2000000 in
theorem g12_oneOf {X : gX} {p : Program} {l : Launch} {e : Env} {s : State} {m : MethodId} {args : Array Value} {below : List Frame} {meth : Method} {c : Code} (B : gB X p (rm12_oneOf) s m args meth c RX12 cX12_oneOf 4 (rm12_oneOf)) (hS9 : gS X s) (hr : meth.sig.returnType = some .int) {M : mMem} (x0 : Int32) (x1 : Int32) : GG X p l e (rm12_oneOf) s m args below meth c (gP X below args s 0 0 (fun r9 : Int32 => (some (.int r9), M))) 4 0 0 0 [(0, .int x0), (1, .int x1)] [] M (p12_oneOf x0 x1 M) := by
  unfold p12_oneOf
  refine g_iload_n B dX12_oneOf_0 1 rfl ?_
  refine g_istore_n (lv' := [(2, .int x1), (0, .int x0), (1, .int x1)]) B dX12_oneOf_1 (by decide) [0, 1, 2] rfl ?_
  refine g_iconst (v := 0) B dX12_oneOf_2 (by decide) ?_
  refine g_istore_n (lv' := [(3, .int 0), (2, .int x1), (0, .int x0), (1, .int x1)]) B dX12_oneOf_3 (by decide) [0, 1, 2, 3] rfl ?_
  refine g_sub (lv' := [(0, .int x0), (2, .int x1), (3, .int 0)]) [2, 1, 0] rfl ?_
  exact (g12_oneOf_L4 B hS9 hr) gF x0 x1 0
theorem c12_oneOf (X : gX) (l : Launch) (x0 : Int32) (x1 : Int32) (M : mMem) : Con X l yX12_oneOf cX12_oneOf 4 (some .int) rm12_oneOf (fun r9 : Int32 => (some (.int r9), M)) [.int x0, .int x1] M (p12_oneOf x0 x1 M) := g_con (own := RX12) (by decide +kernel) rfl (Nat.le_of_ble_eq_true rfl) (fun p e s m args below meth c B hS9 hr hn => g12_oneOf B hS9 hr x0 x1)
theorem mf12_dayEnds : gMF yX12_dayEnds cX12_dayEnds 1 (none) 0 := ⟨wd_2100, wd_13, ⟨by decide, by decide⟩, by decide +kernel⟩
set_option maxRecDepth 20000 in
set_option maxHeartbeats 2000000 in
theorem g12_dayEnds {X : gX} {p : Program} {l : Launch} {e : Env} {s : State} {m : MethodId} {args : Array Value} {below : List Frame} {meth : Method} {c : Code} (B : gB X p (rm12_dayEnds) s m args meth c RX12 cX12_dayEnds 1 (rm12_dayEnds)) (hS9 : gS X s) (hr : meth.sig.returnType = none) (a0 : Nat) (M : mMem) : GG X p l e (rm12_dayEnds) s m args below meth c (gP X below args s 0 0 (fun M9 : mMem => (none, M9))) 1 0 0 0 [(0, .ref a0)] [] M (p12_dayEnds a0 M) := by
  unfold p12_dayEnds
  refine g_gd ?_
  refine g_aload_n B dX12_dayEnds_0 0 rfl ?_
  refine g_getR (ci := 11) (T0 := TX12) (N := 27) B (by decide) rfl in_11 (k := 1) (by decide) rfl wd_1642 (fun _ h => h) dX12_dayEnds_1 (fun v_1 => ?_)
  refine g_iconst (v := 3) B dX12_dayEnds_4 (by decide) ?_
  refine g_sipush (v := 9999) B dX12_dayEnds_5 (by decide) ?_
  refine g_aload_n B dX12_dayEnds_8 0 rfl ?_
  refine g_getR (ci := 11) (T0 := TX12) (N := 27) B (by decide) rfl in_11 (k := 1) (by decide) rfl wd_1642 (fun _ h => h) dX12_dayEnds_9 (fun v_2 => ?_)
  refine g_iconst (v := 3) B dX12_dayEnds_12 (by decide) ?_
  refine g_iaload B dX12_dayEnds_13 (fun v_3 => ?_)
  refine g_iconst (v := 1) B dX12_dayEnds_14 (by decide) ?_
  refine g_iadd B dX12_dayEnds_15 ?_
  refine g_min B wd_2007 wd_538 wd_15 wd_539 (by decide) (Nat.le_of_ble_eq_true rfl) (by decide) dX12_dayEnds_16 ?_
  refine g_iastore B dX12_dayEnds_19 (fun M_4 => ?_)
  exact g_vreturn B hr (by decide) (by decide) rfl dX12_dayEnds_20
theorem c12_dayEnds (X : gX) (l : Launch) (a0 : Nat) (M : mMem) : Con X l yX12_dayEnds cX12_dayEnds 1 (none) rm12_dayEnds (fun M9 : mMem => (none, M9)) [.ref a0] M (p12_dayEnds a0 M) := g_con (own := RX12) (by decide +kernel) rfl (Nat.le_of_ble_eq_true rfl) (fun p e s m args below meth c B hS9 hr hn => g12_dayEnds B hS9 hr a0 M)
theorem mf12_oneDay : gMF yX12_oneDay cX12_oneDay 6 (some .int) 0 := ⟨wd_2087, wd_13, ⟨by decide, by decide⟩, by decide +kernel⟩
set_option maxRecDepth 20000 in
set_option maxHeartbeats 2000000 in
theorem g12_oneDay_J110 {X : gX} {p : Program} {l : Launch} {e : Env} {s : State} {m : MethodId} {args : Array Value} {below : List Frame} {meth : Method} {c : Code} (B : gB X p (rm12_oneDay) s m args meth c RX12 cX12_oneDay 6 (rm12_oneDay)) (hS9 : gS X s) (hr : meth.sig.returnType = some .int) (rec4 : Nat → Int32 → Int32 → mMem → Option (Int32 × mMem)) (hrec4 : ∀ (a0 : Nat) (x1 : Int32) (x2 : Int32) (M : mMem), GG X p l e (rm12_oneDay) s m args below meth c (gP X below args s 0 0 (fun r9 : (Int32 × mMem) => (some (.int r9.1), r9.2))) 6 0 0 4 [(0, .ref a0), (1, .int x1), (2, .int x2)] [] M (rec4 a0 x1 x2 M)) (a0 : Nat) (x1 : Int32) (x2 : Int32) (M : mMem) : GG X p l e (rm12_oneDay) s m args below meth c (gP X below args s 0 0 (fun r9 : (Int32 × mMem) => (some (.int r9.1), r9.2))) 6 0 0 110 [(0, .ref a0), (1, .int x1), (2, .int x2)] [] M (p12_oneDay_J110 rec4 a0 x1 x2 M) := by
  unfold p12_oneDay_J110
  refine g_iinc (v := (x2 + 1)) (lv' := [(2, .int (x2 + 1)), (0, .ref a0), (1, .int x1)]) B dX12_oneDay_110 2 rfl rfl (by decide) [0, 1, 2] rfl ?_
  refine g_goto B 4 dX12_oneDay_113 (by decide) ?_
  refine g_sub (lv' := [(0, .ref a0), (1, .int x1), (2, .int (x2 + 1))]) [1, 2, 0] rfl ?_
  exact hrec4 a0 x1 (x2 + 1) M
set_option maxRecDepth 20000 in
set_option maxHeartbeats 2000000 in
theorem g12_oneDay_J108 {X : gX} {p : Program} {l : Launch} {e : Env} {s : State} {m : MethodId} {args : Array Value} {below : List Frame} {meth : Method} {c : Code} (B : gB X p (rm12_oneDay) s m args meth c RX12 cX12_oneDay 6 (rm12_oneDay)) (hS9 : gS X s) (hr : meth.sig.returnType = some .int) (rec4 : Nat → Int32 → Int32 → mMem → Option (Int32 × mMem)) (hrec4 : ∀ (a0 : Nat) (x1 : Int32) (x2 : Int32) (M : mMem), GG X p l e (rm12_oneDay) s m args below meth c (gP X below args s 0 0 (fun r9 : (Int32 × mMem) => (some (.int r9.1), r9.2))) 6 0 0 4 [(0, .ref a0), (1, .int x1), (2, .int x2)] [] M (rec4 a0 x1 x2 M)) (a0 : Nat) (x2 : Int32) (u0 : Int32) (u1 : Int32) (M : mMem) : GG X p l e (rm12_oneDay) s m args below meth c (gP X below args s 0 0 (fun r9 : (Int32 × mMem) => (some (.int r9.1), r9.2))) 6 0 0 108 [(0, .ref a0), (2, .int x2)] [.int u1, .int u0] M (p12_oneDay_J108 rec4 a0 x2 u0 u1 M) := by
  unfold p12_oneDay_J108
  refine g_iadd B dX12_oneDay_108 ?_
  refine g_istore_n (lv' := [(1, .int (u0 + u1)), (0, .ref a0), (2, .int x2)]) B dX12_oneDay_109 (by decide) [0, 1, 2] rfl ?_
  refine g_sub (lv' := [(0, .ref a0), (1, .int (u0 + u1)), (2, .int x2)]) [1, 0, 2] rfl ?_
  exact g12_oneDay_J110 B hS9 hr rec4 hrec4 a0 (u0 + u1) x2 M
set_option maxRecDepth 20000 in
set_option maxHeartbeats 2000000 in
theorem g12_oneDay_J94 {X : gX} {p : Program} {l : Launch} {e : Env} {s : State} {m : MethodId} {args : Array Value} {below : List Frame} {meth : Method} {c : Code} (B : gB X p (rm12_oneDay) s m args meth c RX12 cX12_oneDay 6 (rm12_oneDay)) (hS9 : gS X s) (hr : meth.sig.returnType = some .int) (rec4 : Nat → Int32 → Int32 → mMem → Option (Int32 × mMem)) (hrec4 : ∀ (a0 : Nat) (x1 : Int32) (x2 : Int32) (M : mMem), GG X p l e (rm12_oneDay) s m args below meth c (gP X below args s 0 0 (fun r9 : (Int32 × mMem) => (some (.int r9.1), r9.2))) 6 0 0 4 [(0, .ref a0), (1, .int x1), (2, .int x2)] [] M (rec4 a0 x1 x2 M)) (a0 : Nat) (x1 : Int32) (x2 : Int32) (x5 : Int32) (b0 : Nat) (u1 : Int32) (u2 : Int32) (u3 : Int32) (M : mMem) : GG X p l e (rm12_oneDay) s m args below meth c (gP X below args s 0 0 (fun r9 : (Int32 × mMem) => (some (.int r9.1), r9.2))) 6 0 0 94 [(0, .ref a0), (1, .int x1), (2, .int x2), (5, .int x5)] [.int u3, .int u2, .int u1, .ref b0] M (p12_oneDay_J94 rec4 a0 x1 x2 x5 b0 u1 u2 u3 M) := by
  unfold p12_oneDay_J94
  refine g_callV_vw [.int u1, .int u2, .int u3] (ci := 11) (T0 := TX12) (N := 27) B hS9 mf12_says wd_2038 (gw B wp_95) wd_2036 (by decide) rfl (fun h => (gd_ne h).1) (c12_says X l b0 u1 u2 u3 M) (by decide) (by decide) (by decide) rfl (by decide) dX12_oneDay_94 rfl (fun q_1 => ?_)
  refine g_iload_n B dX12_oneDay_97 1 rfl ?_
  refine g_iload B dX12_oneDay_98 3 rfl ?_
  refine g_if_eq B 107 dX12_oneDay_100 (by decide) ?_ ?_
  · refine g_iconst (v := 0) B dX12_oneDay_107 (by decide) ?_
    refine g_sub (lv' := [(0, .ref a0), (2, .int x2)]) [0, 2] rfl ?_
    exact g12_oneDay_J108 B hS9 hr rec4 hrec4 a0 x2 x1 0 q_1
  · refine g_iconst (v := 1) B dX12_oneDay_103 (by decide) ?_
    refine g_goto B 108 dX12_oneDay_104 (by decide) ?_
    refine g_sub (lv' := [(0, .ref a0), (2, .int x2)]) [0, 2] rfl ?_
    exact g12_oneDay_J108 B hS9 hr rec4 hrec4 a0 x2 x1 1 q_1
set_option maxRecDepth 20000 in
set_option maxHeartbeats 2000000 in
theorem g12_oneDay_J78 {X : gX} {p : Program} {l : Launch} {e : Env} {s : State} {m : MethodId} {args : Array Value} {below : List Frame} {meth : Method} {c : Code} (B : gB X p (rm12_oneDay) s m args meth c RX12 cX12_oneDay 6 (rm12_oneDay)) (hS9 : gS X s) (hr : meth.sig.returnType = some .int) (rec4 : Nat → Int32 → Int32 → mMem → Option (Int32 × mMem)) (hrec4 : ∀ (a0 : Nat) (x1 : Int32) (x2 : Int32) (M : mMem), GG X p l e (rm12_oneDay) s m args below meth c (gP X below args s 0 0 (fun r9 : (Int32 × mMem) => (some (.int r9.1), r9.2))) 6 0 0 4 [(0, .ref a0), (1, .int x1), (2, .int x2)] [] M (rec4 a0 x1 x2 M)) (a0 : Nat) (x1 : Int32) (x2 : Int32) (x4 : Int32) (u0 : Int32) (M : mMem) : GG X p l e (rm12_oneDay) s m args below meth c (gP X below args s 0 0 (fun r9 : (Int32 × mMem) => (some (.int r9.1), r9.2))) 6 0 0 78 [(0, .ref a0), (1, .int x1), (2, .int x2), (4, .int x4)] [.int u0] M (p12_oneDay_J78 rec4 a0 x1 x2 x4 u0 M) := by
  unfold p12_oneDay_J78
  refine g_istore (lv' := [(5, .int u0), (0, .ref a0), (1, .int x1), (2, .int x2), (4, .int x4)]) B dX12_oneDay_78 (by decide) [0, 1, 2, 3, 4] rfl ?_
  refine g_aload_n B dX12_oneDay_80 1 rfl ?_
  refine g_iload B dX12_oneDay_81 4 rfl ?_
  refine g_iload_n B dX12_oneDay_83 3 rfl ?_
  refine g_iload B dX12_oneDay_84 0 rfl ?_
  refine g_if_ne B 93 dX12_oneDay_86 (by decide) ?_ ?_
  · refine g_iconst (v := 1) B dX12_oneDay_89 (by decide) ?_
    refine g_goto B 94 dX12_oneDay_90 (by decide) ?_
    refine g_sub (lv' := [(0, .ref a0), (1, .int x1), (2, .int x2), (5, .int u0)]) [1, 2, 3, 0] rfl ?_
    exact g12_oneDay_J94 B hS9 hr rec4 hrec4 a0 x1 x2 u0 a0 x4 x2 1 M
  · refine g_iconst (v := 0) B dX12_oneDay_93 (by decide) ?_
    refine g_sub (lv' := [(0, .ref a0), (1, .int x1), (2, .int x2), (5, .int u0)]) [1, 2, 3, 0] rfl ?_
    exact g12_oneDay_J94 B hS9 hr rec4 hrec4 a0 x1 x2 u0 a0 x4 x2 0 M
set_option maxRecDepth 20000 in
set_option maxHeartbeats 2000000 in
theorem g12_oneDay_L4 {X : gX} {p : Program} {l : Launch} {e : Env} {s : State} {m : MethodId} {args : Array Value} {below : List Frame} {meth : Method} {c : Code} (B : gB X p (rm12_oneDay) s m args meth c RX12 cX12_oneDay 6 (rm12_oneDay)) (hS9 : gS X s) (hr : meth.sig.returnType = some .int) : ∀ (n : Nat) (a0 : Nat) (x1 : Int32) (x2 : Int32) (M : mMem), GG X p l e (rm12_oneDay) s m args below meth c (gP X below args s 0 0 (fun r9 : (Int32 × mMem) => (some (.int r9.1), r9.2))) 6 0 0 4 [(0, .ref a0), (1, .int x1), (2, .int x2)] [] M (p12_oneDay_L4 n a0 x1 x2 M) := by
  intro n
  induction n with
  | zero => intro a0 x1 x2 M; exact g_none
  | succ n ih =>
    intro a0 x1 x2 M
    rw [p12_oneDay_L4]
    refine g_iload_n B dX12_oneDay_4 2 rfl ?_
    refine g_aload_n B dX12_oneDay_5 0 rfl ?_
    refine g_callV_ip [] (ci := 11) (T0 := TX12) (N := 27) B hS9 mf12_people wd_1793 (gw B wp_51) wd_1791 (by decide) rfl (fun h => (gd_ne h).1) (c12_people X l a0 M) (by decide) (by decide) (by decide) rfl (Nat.le_of_ble_eq_true rfl) dX12_oneDay_6 rfl (fun v_1 => ?_)
    refine g_icmp_ge B 116 dX12_oneDay_9 (by decide) ?_ ?_
    · refine g_aload_n B dX12_oneDay_12 0 rfl ?_
      refine g_iload_n B dX12_oneDay_13 2 rfl ?_
      refine g_bipush (v := 8) B dX12_oneDay_14 (by decide) ?_
      refine g_callV_ip [.int x2, .int 8] (ci := 11) (T0 := TX12) (N := 27) B hS9 mf12_of wd_1846 (gw B wp_61) wd_1844 (by decide) rfl (fun h => (gd_ne h).1) (c12_of X l a0 x2 8 M) (by decide) (by decide) (by decide) rfl (by decide) dX12_oneDay_16 rfl (fun v_3 => ?_)
      refine g_istore_n (lv' := [(3, .int v_3), (0, .ref a0), (1, .int x1), (2, .int x2)]) B dX12_oneDay_19 (by decide) [0, 1, 2, 3] rfl ?_
      refine g_iload_n B dX12_oneDay_20 0 rfl ?_
      refine g_if_eq B 110 dX12_oneDay_21 (by decide) ?_ ?_
      · refine g_sub (lv' := [(0, .ref a0), (1, .int x1), (2, .int x2)]) [1, 2, 3] rfl ?_
        exact g12_oneDay_J110 B hS9 hr (p12_oneDay_L4 n) ih a0 x1 x2 M
      · refine g_aload_n B dX12_oneDay_24 1 rfl ?_
        refine g_bipush (v := 100) B dX12_oneDay_25 (by decide) ?_
        refine g_callV_iw [.int 100] (ci := 11) (T0 := TX12) (N := 27) B hS9 mf12_drawn wd_2090 (gw B wp_100) wd_2088 (by decide) rfl (fun h => (gd_ne h).1) (c12_drawn X l a0 100 M) (by decide) (by decide) (by decide) rfl (by decide) dX12_oneDay_27 rfl (fun q_4 => ?_)
        refine g_aload_n B dX12_oneDay_30 1 rfl ?_
        refine g_iload_n B dX12_oneDay_31 3 rfl ?_
        refine g_iconst (v := 5) B dX12_oneDay_32 (by decide) ?_
        refine g_callV_ip [.int x2, .int 5] (ci := 11) (T0 := TX12) (N := 27) B hS9 mf12_of wd_1846 (gw B wp_61) wd_1844 (by decide) rfl (fun h => (gd_ne h).1) (c12_of X l a0 x2 5 q_4.2) (by decide) (by decide) (by decide) rfl (Nat.le_of_ble_eq_true rfl) dX12_oneDay_33 rfl (fun v_5 => ?_)
        refine g_icmp_lt B 42 dX12_oneDay_36 (by decide) ?_ ?_
        · refine g_iload_n B dX12_oneDay_42 0 rfl ?_
          refine g_aload_n B dX12_oneDay_43 1 rfl ?_
          refine g_iload_n B dX12_oneDay_44 0 rfl ?_
          refine g_callS_ip [.int v_3] B hS9 mfJ6_bitCount wd_1272 wd_2093 (cJ6_bitCount X l v_3 q_4.2) (by decide) (by decide) (by decide) rfl (Nat.le_of_ble_eq_true rfl) dX12_oneDay_45 rfl (fun v_6 => ?_)
          refine g_callV_iw [.int v_6] (ci := 11) (T0 := TX12) (N := 27) B hS9 mf12_drawn wd_2090 (gw B wp_100) wd_2088 (by decide) rfl (fun h => (gd_ne h).1) (c12_drawn X l a0 v_6 q_4.2) (by decide) (by decide) (by decide) rfl (Nat.le_of_ble_eq_true rfl) dX12_oneDay_48 rfl (fun q_7 => ?_)
          refine g_callS_ip [.int v_3, .int q_7.1] B hS9 mf12_oneOf wd_2095 wd_2094 (c12_oneOf X l v_3 q_7.1 q_7.2) (by decide) (by decide) (by decide) rfl (by decide) dX12_oneDay_51 rfl (fun v_8 => ?_)
          refine g_istore (lv' := [(4, .int v_8), (3, .int v_3), (0, .ref a0), (1, .int x1), (2, .int x2)]) B dX12_oneDay_54 (by decide) [0, 1, 2, 3, 4] rfl ?_
          refine g_aload_n B dX12_oneDay_56 2 rfl ?_
          refine g_bipush (v := 100) B dX12_oneDay_57 (by decide) ?_
          refine g_callV_iw [.int 100] (ci := 11) (T0 := TX12) (N := 27) B hS9 mf12_drawn wd_2090 (gw B wp_100) wd_2088 (by decide) rfl (fun h => (gd_ne h).1) (c12_drawn X l a0 100 q_7.2) (by decide) (by decide) (by decide) rfl (by decide) dX12_oneDay_59 rfl (fun q_9 => ?_)
          refine g_aload_n B dX12_oneDay_62 2 rfl ?_
          refine g_iload B dX12_oneDay_63 0 rfl ?_
          refine g_bipush (v := 6) B dX12_oneDay_65 (by decide) ?_
          refine g_callV_ip [.int v_8, .int 6] (ci := 11) (T0 := TX12) (N := 27) B hS9 mf12_of wd_1846 (gw B wp_61) wd_1844 (by decide) rfl (fun h => (gd_ne h).1) (c12_of X l a0 v_8 6 q_9.2) (by decide) (by decide) (by decide) rfl (Nat.le_of_ble_eq_true rfl) dX12_oneDay_67 rfl (fun v_10 => ?_)
          refine g_icmp_ge B 77 dX12_oneDay_70 (by decide) ?_ ?_
          · refine g_iconst (v := 1) B dX12_oneDay_73 (by decide) ?_
            refine g_goto B 78 dX12_oneDay_74 (by decide) ?_
            refine g_sub (lv' := [(0, .ref a0), (1, .int x1), (2, .int x2), (4, .int v_8)]) [2, 3, 4, 0] rfl ?_
            exact g12_oneDay_J78 B hS9 hr (p12_oneDay_L4 n) ih a0 x1 x2 v_8 1 q_9.2
          · refine g_iconst (v := 0) B dX12_oneDay_77 (by decide) ?_
            refine g_sub (lv' := [(0, .ref a0), (1, .int x1), (2, .int x2), (4, .int v_8)]) [2, 3, 4, 0] rfl ?_
            exact g12_oneDay_J78 B hS9 hr (p12_oneDay_L4 n) ih a0 x1 x2 v_8 0 q_9.2
        · refine g_goto B 110 dX12_oneDay_39 (by decide) ?_
          refine g_sub (lv' := [(0, .ref a0), (1, .int x1), (2, .int x2)]) [1, 2, 3] rfl ?_
          exact g12_oneDay_J110 B hS9 hr (p12_oneDay_L4 n) ih a0 x1 x2 q_4.2
    · refine g_aload_n B dX12_oneDay_116 0 rfl ?_
      refine g_callV_vw [] (ci := 11) (T0 := TX12) (N := 27) B hS9 mf12_dayEnds wd_2099 (gw B wp_101) wd_2097 (by decide) rfl (fun h => (gd_ne h).1) (c12_dayEnds X l a0 M) (by decide) (by decide) (by decide) rfl (by decide) dX12_oneDay_117 rfl (fun q_2 => ?_)
      refine g_iload_n B dX12_oneDay_120 1 rfl ?_
      exact g_ireturn B hr rfl (by decide) (by decide) rfl dX12_oneDay_121
set_option maxRecDepth 20000 in
set_option maxHeartbeats 2000000 in
theorem g12_oneDay {X : gX} {p : Program} {l : Launch} {e : Env} {s : State} {m : MethodId} {args : Array Value} {below : List Frame} {meth : Method} {c : Code} (B : gB X p (rm12_oneDay) s m args meth c RX12 cX12_oneDay 6 (rm12_oneDay)) (hS9 : gS X s) (hr : meth.sig.returnType = some .int) (a0 : Nat) (M : mMem) : GG X p l e (rm12_oneDay) s m args below meth c (gP X below args s 0 0 (fun r9 : (Int32 × mMem) => (some (.int r9.1), r9.2))) 6 0 0 0 [(0, .ref a0)] [] M (p12_oneDay a0 M) := by
  unfold p12_oneDay
  refine g_gd ?_
  refine g_iconst (v := 0) B dX12_oneDay_0 (by decide) ?_
  refine g_istore_n (lv' := [(1, .int 0), (0, .ref a0)]) B dX12_oneDay_1 (by decide) [0, 1] rfl ?_
  refine g_iconst (v := 0) B dX12_oneDay_2 (by decide) ?_
  refine g_istore_n (lv' := [(2, .int 0), (1, .int 0), (0, .ref a0)]) B dX12_oneDay_3 (by decide) [0, 1, 2] rfl ?_
  refine g_sub (lv' := [(0, .ref a0), (1, .int 0), (2, .int 0)]) [2, 1, 0] rfl ?_
  exact (g12_oneDay_L4 B hS9 hr) gF a0 0 0 M
theorem c12_oneDay (X : gX) (l : Launch) (a0 : Nat) (M : mMem) : Con X l yX12_oneDay cX12_oneDay 6 (some .int) rm12_oneDay (fun r9 : (Int32 × mMem) => (some (.int r9.1), r9.2)) [.ref a0] M (p12_oneDay a0 M) := g_con (own := RX12) (by decide +kernel) rfl (Nat.le_of_ble_eq_true rfl) (fun p e s m args below meth c B hS9 hr hn => g12_oneDay B hS9 hr a0 M)
theorem mf12_goesOn : gMF yX12_goesOn cX12_goesOn 4 (some .int) 1 := ⟨wd_2083, wd_13, ⟨by decide, by decide⟩, by decide +kernel⟩
set_option maxRecDepth 20000 in
set_option maxHeartbeats 2000000 in
theorem g12_goesOn_L4 {X : gX} {p : Program} {l : Launch} {e : Env} {s : State} {m : MethodId} {args : Array Value} {below : List Frame} {meth : Method} {c : Code} (B : gB X p (rm12_goesOn) s m args meth c RX12 cX12_goesOn 4 (rm12_goesOn)) (hS9 : gS X s) (hr : meth.sig.returnType = some .int) : ∀ (n : Nat) (a0 : Nat) (x1 : Int32) (x2 : Int32) (x3 : Int32) (M : mMem), GG X p l e (rm12_goesOn) s m args below meth c (gP X below args s 0 0 (fun r9 : (Int32 × mMem) => (some (.int r9.1), r9.2))) 4 0 0 4 [(0, .ref a0), (1, .int x1), (2, .int x2), (3, .int x3)] [] M (p12_goesOn_L4 n a0 x1 x2 x3 M) := by
  intro n
  induction n with
  | zero => intro a0 x1 x2 x3 M; exact g_none
  | succ n ih =>
    intro a0 x1 x2 x3 M
    rw [p12_goesOn_L4]
    refine g_iload_n B dX12_goesOn_4 3 rfl ?_
    refine g_iload_n B dX12_goesOn_5 1 rfl ?_
    refine g_icmp_ge B 22 dX12_goesOn_6 (by decide) ?_ ?_
    · refine g_iload_n B dX12_goesOn_9 2 rfl ?_
      refine g_aload_n B dX12_goesOn_10 0 rfl ?_
      refine g_callV_iw [] (ci := 11) (T0 := TX12) (N := 27) B hS9 mf12_oneDay wd_2086 (gw B wp_99) wd_2084 (by decide) rfl (fun h => (gd_ne h).1) (c12_oneDay X l a0 M) (by decide) (by decide) (by decide) rfl (Nat.le_of_ble_eq_true rfl) dX12_goesOn_11 rfl (fun q_1 => ?_)
      refine g_iadd B dX12_goesOn_14 ?_
      refine g_istore_n (lv' := [(2, .int (x2 + q_1.1)), (0, .ref a0), (1, .int x1), (3, .int x3)]) B dX12_goesOn_15 (by decide) [0, 1, 2, 3] rfl ?_
      refine g_iinc (v := (x3 + 1)) (lv' := [(3, .int (x3 + 1)), (2, .int (x2 + q_1.1)), (0, .ref a0), (1, .int x1)]) B dX12_goesOn_16 3 rfl rfl (by decide) [0, 1, 2, 3] rfl ?_
      refine g_goto B 4 dX12_goesOn_19 (by decide) ?_
      refine g_sub (lv' := [(0, .ref a0), (1, .int x1), (2, .int (x2 + q_1.1)), (3, .int (x3 + 1))]) [2, 3, 1, 0] rfl ?_
      exact ih a0 x1 (x2 + q_1.1) (x3 + 1) q_1.2
    · refine g_iload_n B dX12_goesOn_22 2 rfl ?_
      exact g_ireturn B hr rfl (by decide) (by decide) rfl dX12_goesOn_23
set_option maxRecDepth 20000 in
set_option maxHeartbeats 2000000 in
theorem g12_goesOn {X : gX} {p : Program} {l : Launch} {e : Env} {s : State} {m : MethodId} {args : Array Value} {below : List Frame} {meth : Method} {c : Code} (B : gB X p (rm12_goesOn) s m args meth c RX12 cX12_goesOn 4 (rm12_goesOn)) (hS9 : gS X s) (hr : meth.sig.returnType = some .int) (a0 : Nat) (x1 : Int32) (M : mMem) : GG X p l e (rm12_goesOn) s m args below meth c (gP X below args s 0 0 (fun r9 : (Int32 × mMem) => (some (.int r9.1), r9.2))) 4 0 0 0 [(0, .ref a0), (1, .int x1)] [] M (p12_goesOn a0 x1 M) := by
  unfold p12_goesOn
  refine g_gd ?_
  refine g_iconst (v := 0) B dX12_goesOn_0 (by decide) ?_
  refine g_istore_n (lv' := [(2, .int 0), (0, .ref a0), (1, .int x1)]) B dX12_goesOn_1 (by decide) [0, 1, 2] rfl ?_
  refine g_iconst (v := 0) B dX12_goesOn_2 (by decide) ?_
  refine g_istore_n (lv' := [(3, .int 0), (2, .int 0), (0, .ref a0), (1, .int x1)]) B dX12_goesOn_3 (by decide) [0, 1, 2, 3] rfl ?_
  refine g_sub (lv' := [(0, .ref a0), (1, .int x1), (2, .int 0), (3, .int 0)]) [2, 3, 1, 0] rfl ?_
  exact (g12_goesOn_L4 B hS9 hr) gF a0 x1 0 0 M
theorem c12_goesOn (X : gX) (l : Launch) (a0 : Nat) (x1 : Int32) (M : mMem) : Con X l yX12_goesOn cX12_goesOn 4 (some .int) rm12_goesOn (fun r9 : (Int32 × mMem) => (some (.int r9.1), r9.2)) [.ref a0, .int x1] M (p12_goesOn a0 x1 M) := g_con (own := RX12) (by decide +kernel) rfl (Nat.le_of_ble_eq_true rfl) (fun p e s m args below meth c B hS9 hr hn => g12_goesOn B hS9 hr a0 x1 M)
theorem mf12_dayOf : gMF yX12_dayOf cX12_dayOf 3 (none) 1 := ⟨wd_2112, wd_13, ⟨by decide, by decide⟩, by decide +kernel⟩
set_option maxRecDepth 20000 in
set_option maxHeartbeats 2000000 in
theorem g12_dayOf_J37 {X : gX} {p : Program} {l : Launch} {e : Env} {s : State} {m : MethodId} {args : Array Value} {below : List Frame} {meth : Method} {c : Code} (B : gB X p (rm12_dayOf) s m args meth c RX12 cX12_dayOf 3 (rm12_dayOf)) (hS9 : gS X s) (hr : meth.sig.returnType = none) (rec2 : Nat → Int32 → Int32 → mMem → Option mMem) (hrec2 : ∀ (a0 : Nat) (x1 : Int32) (x2 : Int32) (M : mMem), GG X p l e (rm12_dayOf) s m args below meth c (gP X below args s 0 0 (fun M9 : mMem => (none, M9))) 3 0 0 2 [(0, .ref a0), (1, .int x1), (2, .int x2)] [] M (rec2 a0 x1 x2 M)) (a0 : Nat) (x1 : Int32) (x2 : Int32) (M : mMem) : GG X p l e (rm12_dayOf) s m args below meth c (gP X below args s 0 0 (fun M9 : mMem => (none, M9))) 3 0 0 37 [(0, .ref a0), (1, .int x1), (2, .int x2)] [] M (p12_dayOf_J37 rec2 a0 x1 x2 M) := by
  unfold p12_dayOf_J37
  refine g_iinc (v := (x2 + 1)) (lv' := [(2, .int (x2 + 1)), (0, .ref a0), (1, .int x1)]) B dX12_dayOf_37 2 rfl rfl (by decide) [0, 1, 2] rfl ?_
  refine g_goto B 2 dX12_dayOf_40 (by decide) ?_
  refine g_sub (lv' := [(0, .ref a0), (1, .int x1), (2, .int (x2 + 1))]) [1, 2, 0] rfl ?_
  exact hrec2 a0 x1 (x2 + 1) M
set_option maxRecDepth 20000 in
set_option maxHeartbeats 2000000 in
theorem g12_dayOf_L2 {X : gX} {p : Program} {l : Launch} {e : Env} {s : State} {m : MethodId} {args : Array Value} {below : List Frame} {meth : Method} {c : Code} (B : gB X p (rm12_dayOf) s m args meth c RX12 cX12_dayOf 3 (rm12_dayOf)) (hS9 : gS X s) (hr : meth.sig.returnType = none) : ∀ (n : Nat) (a0 : Nat) (x1 : Int32) (x2 : Int32) (M : mMem), GG X p l e (rm12_dayOf) s m args below meth c (gP X below args s 0 0 (fun M9 : mMem => (none, M9))) 3 0 0 2 [(0, .ref a0), (1, .int x1), (2, .int x2)] [] M (p12_dayOf_L2 n a0 x1 x2 M) := by
  intro n
  induction n with
  | zero => intro a0 x1 x2 M; exact g_none
  | succ n ih =>
    intro a0 x1 x2 M
    rw [p12_dayOf_L2]
    refine g_iload_n B dX12_dayOf_2 2 rfl ?_
    refine g_aload_n B dX12_dayOf_3 0 rfl ?_
    refine g_callV_ip [] (ci := 11) (T0 := TX12) (N := 27) B hS9 mf12_people wd_1793 (gw B wp_51) wd_1791 (by decide) rfl (fun h => (gd_ne h).1) (c12_people X l a0 M) (by decide) (by decide) (by decide) rfl (Nat.le_of_ble_eq_true rfl) dX12_dayOf_4 rfl (fun v_1 => ?_)
    refine g_icmp_ge B 43 dX12_dayOf_7 (by decide) ?_ ?_
    · refine g_aload_n B dX12_dayOf_10 0 rfl ?_
      refine g_iload_n B dX12_dayOf_11 2 rfl ?_
      refine g_bipush (v := 8) B dX12_dayOf_12 (by decide) ?_
      refine g_callV_ip [.int x2, .int 8] (ci := 11) (T0 := TX12) (N := 27) B hS9 mf12_of wd_1846 (gw B wp_61) wd_1844 (by decide) rfl (fun h => (gd_ne h).1) (c12_of X l a0 x2 8 M) (by decide) (by decide) (by decide) rfl (by decide) dX12_dayOf_14 rfl (fun v_3 => ?_)
      refine g_if_eq B 37 dX12_dayOf_17 (by decide) ?_ ?_
      · refine g_sub (lv' := [(0, .ref a0), (1, .int x1), (2, .int x2)]) [0, 1, 2] rfl ?_
        exact g12_dayOf_J37 B hS9 hr (p12_dayOf_L2 n) ih a0 x1 x2 M
      · refine g_aload_n B dX12_dayOf_20 0 rfl ?_
        refine g_aload_n B dX12_dayOf_21 0 rfl ?_
        refine g_iload_n B dX12_dayOf_22 2 rfl ?_
        refine g_bipush (v := 8) B dX12_dayOf_23 (by decide) ?_
        refine g_callV_ip [.int x2, .int 8] (ci := 11) (T0 := TX12) (N := 27) B hS9 mf12_of wd_1846 (gw B wp_61) wd_1844 (by decide) rfl (fun h => (gd_ne h).1) (c12_of X l a0 x2 8 M) (by decide) (by decide) (by decide) rfl (Nat.le_of_ble_eq_true rfl) dX12_dayOf_25 rfl (fun v_4 => ?_)
        refine g_iconst (v := 0) B dX12_dayOf_28 (by decide) ?_
        refine g_callS_ip [.int v_4, .int 0] B hS9 mf12_oneOf wd_2095 wd_2094 (c12_oneOf X l v_4 0 M) (by decide) (by decide) (by decide) rfl (Nat.le_of_ble_eq_true rfl) dX12_dayOf_29 rfl (fun v_5 => ?_)
        refine g_iload_n B dX12_dayOf_32 2 rfl ?_
        refine g_iload_n B dX12_dayOf_33 1 rfl ?_
        refine g_callV_vw [.int v_5, .int x2, .int x1] (ci := 11) (T0 := TX12) (N := 27) B hS9 mf12_hears wd_2018 (gw B wp_91) wd_2016 (by decide) rfl (fun h => (gd_ne h).1) (c12_hears X l a0 v_5 x2 x1 M) (by decide) (by decide) (by decide) rfl (by decide) dX12_dayOf_34 rfl (fun q_6 => ?_)
        refine g_sub (lv' := [(0, .ref a0), (1, .int x1), (2, .int x2)]) [0, 1, 2] rfl ?_
        exact g12_dayOf_J37 B hS9 hr (p12_dayOf_L2 n) ih a0 x1 x2 q_6
    · refine g_aload_n B dX12_dayOf_43 0 rfl ?_
      refine g_callV_vw [] (ci := 11) (T0 := TX12) (N := 27) B hS9 mf12_dayEnds wd_2099 (gw B wp_101) wd_2097 (by decide) rfl (fun h => (gd_ne h).1) (c12_dayEnds X l a0 M) (by decide) (by decide) (by decide) rfl (by decide) dX12_dayOf_44 rfl (fun q_2 => ?_)
      exact g_vreturn B hr (by decide) (by decide) rfl dX12_dayOf_47
set_option maxRecDepth 20000 in
set_option maxHeartbeats 2000000 in
theorem g12_dayOf {X : gX} {p : Program} {l : Launch} {e : Env} {s : State} {m : MethodId} {args : Array Value} {below : List Frame} {meth : Method} {c : Code} (B : gB X p (rm12_dayOf) s m args meth c RX12 cX12_dayOf 3 (rm12_dayOf)) (hS9 : gS X s) (hr : meth.sig.returnType = none) (a0 : Nat) (x1 : Int32) (M : mMem) : GG X p l e (rm12_dayOf) s m args below meth c (gP X below args s 0 0 (fun M9 : mMem => (none, M9))) 3 0 0 0 [(0, .ref a0), (1, .int x1)] [] M (p12_dayOf a0 x1 M) := by
  unfold p12_dayOf
  refine g_gd ?_
  refine g_iconst (v := 0) B dX12_dayOf_0 (by decide) ?_
  refine g_istore_n (lv' := [(2, .int 0), (0, .ref a0), (1, .int x1)]) B dX12_dayOf_1 (by decide) [0, 1, 2] rfl ?_
  refine g_sub (lv' := [(0, .ref a0), (1, .int x1), (2, .int 0)]) [1, 2, 0] rfl ?_
  exact (g12_dayOf_L2 B hS9 hr) gF a0 x1 0 M
theorem c12_dayOf (X : gX) (l : Launch) (a0 : Nat) (x1 : Int32) (M : mMem) : Con X l yX12_dayOf cX12_dayOf 3 (none) rm12_dayOf (fun M9 : mMem => (none, M9)) [.ref a0, .int x1] M (p12_dayOf a0 x1 M) := g_con (own := RX12) (by decide +kernel) rfl (Nat.le_of_ble_eq_true rfl) (fun p e s m args below meth c B hS9 hr hn => g12_dayOf B hS9 hr a0 x1 M)
theorem mf12_days : gMF yX12_days cX12_days 2 (some .int) 1 := ⟨wd_2079, wd_13, ⟨by decide, by decide⟩, by decide +kernel⟩
set_option maxRecDepth 20000 in
set_option maxHeartbeats 2000000 in
theorem g12_days_J21 {X : gX} {p : Program} {l : Launch} {e : Env} {s : State} {m : MethodId} {args : Array Value} {below : List Frame} {meth : Method} {c : Code} (B : gB X p (rm12_days) s m args meth c RX12 cX12_days 2 (rm12_days)) (hS9 : gS X s) (hr : meth.sig.returnType = some .int) (a0 : Nat) (x1 : Int32) (b0 : Nat) (u1 : Int32) (M : mMem) : GG X p l e (rm12_days) s m args below meth c (gP X below args s 0 0 (fun r9 : (Int32 × mMem) => (some (.int r9.1), r9.2))) 2 0 0 21 [(0, .ref a0), (1, .int x1)] [.int u1, .ref b0] M (p12_days_J21 a0 x1 b0 u1 M) := by
  unfold p12_days_J21
  refine g_iconst (v := 1) B dX12_days_21 (by decide) ?_
  refine g_callV_iw [.int u1, .int 1] (ci := 11) (T0 := TX12) (N := 27) B hS9 mf12_throwsIf wd_1932 (gw B wp_78) wd_1930 (by decide) rfl (fun h => (gd_ne h).1) (c12_throwsIf X l b0 u1 1 M) (by decide) (by decide) (by decide) rfl (by decide) dX12_days_22 rfl (fun q_1 => ?_)
  refine g_if_eq B 30 dX12_days_25 (by decide) ?_ ?_
  · refine g_aload_n B dX12_days_30 0 rfl ?_
    refine g_callV_vw [] (ci := 11) (T0 := TX12) (N := 27) B hS9 mf12_remembers wd_2034 (gw B wp_94) wd_2032 (by decide) rfl (fun h => (gd_ne h).1) (c12_remembers X l a0 q_1.2) (by decide) (by decide) (by decide) rfl (by decide) dX12_days_31 rfl (fun q_2 => ?_)
    refine g_aload_n B dX12_days_34 0 rfl ?_
    refine g_iload_n B dX12_days_35 1 rfl ?_
    refine g_callV_iw [.int x1] (ci := 11) (T0 := TX12) (N := 27) B hS9 mf12_goesOn wd_2082 (gw B wp_98) wd_2080 (by decide) rfl (fun h => (gd_ne h).1) (c12_goesOn X l a0 x1 q_2) (by decide) (by decide) (by decide) rfl (by decide) dX12_days_36 rfl (fun q_3 => ?_)
    exact g_ireturn B hr rfl (by decide) (by decide) rfl dX12_days_39
  · refine g_iconst (v := 0) B dX12_days_28 (by decide) ?_
    exact g_ireturn B hr rfl (by decide) (by decide) rfl dX12_days_29
set_option maxRecDepth 20000 in
set_option maxHeartbeats 2000000 in
theorem g12_days {X : gX} {p : Program} {l : Launch} {e : Env} {s : State} {m : MethodId} {args : Array Value} {below : List Frame} {meth : Method} {c : Code} (B : gB X p (rm12_days) s m args meth c RX12 cX12_days 2 (rm12_days)) (hS9 : gS X s) (hr : meth.sig.returnType = some .int) (a0 : Nat) (x1 : Int32) (M : mMem) : GG X p l e (rm12_days) s m args below meth c (gP X below args s 0 0 (fun r9 : (Int32 × mMem) => (some (.int r9.1), r9.2))) 2 0 0 0 [(0, .ref a0), (1, .int x1)] [] M (p12_days a0 x1 M) := by
  unfold p12_days
  refine g_gd ?_
  refine g_aload_n B dX12_days_0 0 rfl ?_
  refine g_iconst (v := 0) B dX12_days_1 (by decide) ?_
  refine g_putI (ci := 11) (T0 := TX12) (N := 27) B (by decide) rfl in_11 tyX12 tyX12_ok nmX12 (k := 0) (by decide) wd_1641 (fun _ h => h) rfl rfl (ty := .int) (by decide +kernel) rfl rfl dX12_days_2 (fun M_1 => ?_)
  refine g_aload_n B dX12_days_5 0 rfl ?_
  refine g_iload_n B dX12_days_6 1 rfl ?_
  refine g_iconst (v := 1) B dX12_days_7 (by decide) ?_
  refine g_bipush (v := 100) B dX12_days_8 (by decide) ?_
  refine g_callS_ip [.int x1, .int 1, .int 100] B hS9 mf12_in wd_1947 wd_1946 (c12_in X l x1 1 100 M_1) (by decide) (by decide) (by decide) rfl (Nat.le_of_ble_eq_true rfl) dX12_days_10 rfl (fun v_2 => ?_)
  refine g_if_ne B 20 dX12_days_13 (by decide) ?_ ?_
  · refine g_iconst (v := 1) B dX12_days_16 (by decide) ?_
    refine g_goto B 21 dX12_days_17 (by decide) ?_
    refine g_sub (lv' := [(0, .ref a0), (1, .int x1)]) [0, 1] rfl ?_
    exact g12_days_J21 B hS9 hr a0 x1 a0 1 M_1
  · refine g_iconst (v := 0) B dX12_days_20 (by decide) ?_
    refine g_sub (lv' := [(0, .ref a0), (1, .int x1)]) [0, 1] rfl ?_
    exact g12_days_J21 B hS9 hr a0 x1 a0 0 M_1
theorem c12_days (X : gX) (l : Launch) (a0 : Nat) (x1 : Int32) (M : mMem) : Con X l yX12_days cX12_days 2 (some .int) rm12_days (fun r9 : (Int32 × mMem) => (some (.int r9.1), r9.2)) [.ref a0, .int x1] M (p12_days a0 x1 M) := g_con (own := RX12) (by decide +kernel) rfl (Nat.le_of_ble_eq_true rfl) (fun p e s m args below meth c B hS9 hr hn => g12_days B hS9 hr a0 x1 M)
theorem mf12_cribOnes : gMF yX12_cribOnes cX12_cribOnes 3 (some .int) 0 := ⟨wd_2108, wd_13, ⟨by decide, by decide⟩, by decide +kernel⟩
set_option maxRecDepth 20000 in
set_option maxHeartbeats 2000000 in
theorem g12_cribOnes_J35 {X : gX} {p : Program} {l : Launch} {e : Env} {s : State} {m : MethodId} {args : Array Value} {below : List Frame} {meth : Method} {c : Code} (B : gB X p (rm12_cribOnes) s m args meth c RX12 cX12_cribOnes 3 (rm12_cribOnes)) (hS9 : gS X s) (hr : meth.sig.returnType = some .int) {M : mMem} (rec4 : Nat → Int32 → Int32 → Option Int32) (hrec4 : ∀ (a0 : Nat) (x1 : Int32) (x2 : Int32), GG X p l e (rm12_cribOnes) s m args below meth c (gP X below args s 0 0 (fun r9 : Int32 => (some (.int r9), M))) 3 0 0 4 [(0, .ref a0), (1, .int x1), (2, .int x2)] [] M (rec4 a0 x1 x2)) (a0 : Nat) (x2 : Int32) (u0 : Int32) (u1 : Int32) : GG X p l e (rm12_cribOnes) s m args below meth c (gP X below args s 0 0 (fun r9 : Int32 => (some (.int r9), M))) 3 0 0 35 [(0, .ref a0), (2, .int x2)] [.int u1, .int u0] M (p12_cribOnes_J35 M rec4 a0 x2 u0 u1) := by
  unfold p12_cribOnes_J35
  refine g_ior B dX12_cribOnes_35 ?_
  refine g_istore_n (lv' := [(1, .int (u0 ||| u1)), (0, .ref a0), (2, .int x2)]) B dX12_cribOnes_36 (by decide) [0, 1, 2] rfl ?_
  refine g_iinc (v := (x2 + 1)) (lv' := [(2, .int (x2 + 1)), (1, .int (u0 ||| u1)), (0, .ref a0)]) B dX12_cribOnes_37 2 rfl rfl (by decide) [0, 1, 2] rfl ?_
  refine g_goto B 4 dX12_cribOnes_40 (by decide) ?_
  refine g_sub (lv' := [(0, .ref a0), (1, .int (u0 ||| u1)), (2, .int (x2 + 1))]) [2, 1, 0] rfl ?_
  exact hrec4 a0 (u0 ||| u1) (x2 + 1)
set_option maxRecDepth 20000 in
set_option maxHeartbeats 2000000 in
theorem g12_cribOnes_L4 {X : gX} {p : Program} {l : Launch} {e : Env} {s : State} {m : MethodId} {args : Array Value} {below : List Frame} {meth : Method} {c : Code} (B : gB X p (rm12_cribOnes) s m args meth c RX12 cX12_cribOnes 3 (rm12_cribOnes)) (hS9 : gS X s) (hr : meth.sig.returnType = some .int) {M : mMem} : ∀ (n : Nat) (a0 : Nat) (x1 : Int32) (x2 : Int32), GG X p l e (rm12_cribOnes) s m args below meth c (gP X below args s 0 0 (fun r9 : Int32 => (some (.int r9), M))) 3 0 0 4 [(0, .ref a0), (1, .int x1), (2, .int x2)] [] M (p12_cribOnes_L4 M n a0 x1 x2) := by
  intro n
  induction n with
  | zero => intro a0 x1 x2; exact g_none
  | succ n ih =>
    intro a0 x1 x2
    rw [p12_cribOnes_L4]
    refine g_iload_n B dX12_cribOnes_4 2 rfl ?_
    refine g_aload_n B dX12_cribOnes_5 0 rfl ?_
    refine g_callV_ip [] (ci := 11) (T0 := TX12) (N := 27) B hS9 mf12_people wd_1793 (gw B wp_51) wd_1791 (by decide) rfl (fun h => (gd_ne h).1) (c12_people X l a0 M) (by decide) (by decide) (by decide) rfl (Nat.le_of_ble_eq_true rfl) dX12_cribOnes_6 rfl (fun v_1 => ?_)
    refine g_icmp_ge B 43 dX12_cribOnes_9 (by decide) ?_ ?_
    · refine g_iload_n B dX12_cribOnes_12 1 rfl ?_
      refine g_aload_n B dX12_cribOnes_13 0 rfl ?_
      refine g_iload_n B dX12_cribOnes_14 2 rfl ?_
      refine g_iconst (v := 0) B dX12_cribOnes_15 (by decide) ?_
      refine g_callV_ip [.int x2, .int 0] (ci := 11) (T0 := TX12) (N := 27) B hS9 mf12_of wd_1846 (gw B wp_61) wd_1844 (by decide) rfl (fun h => (gd_ne h).1) (c12_of X l a0 x2 0 M) (by decide) (by decide) (by decide) rfl (Nat.le_of_ble_eq_true rfl) dX12_cribOnes_16 rfl (fun v_2 => ?_)
      refine g_aload_n B dX12_cribOnes_19 0 rfl ?_
      refine g_getR (ci := 11) (T0 := TX12) (N := 27) B (by decide) rfl in_11 (k := 1) (by decide) rfl wd_1642 (fun _ h => h) dX12_cribOnes_20 (fun v_3 => ?_)
      refine g_iconst (v := 5) B dX12_cribOnes_23 (by decide) ?_
      refine g_iaload B dX12_cribOnes_24 (fun v_4 => ?_)
      refine g_icmp_ge B 34 dX12_cribOnes_25 (by decide) ?_ ?_
      · refine g_iconst (v := 1) B dX12_cribOnes_28 (by decide) ?_
        refine g_iload_n B dX12_cribOnes_29 2 rfl ?_
        refine g_ishl B dX12_cribOnes_30 ?_
        refine g_goto B 35 dX12_cribOnes_31 (by decide) ?_
        refine g_sub (lv' := [(0, .ref a0), (2, .int x2)]) [0, 2] rfl ?_
        exact g12_cribOnes_J35 B hS9 hr (p12_cribOnes_L4 M n) ih a0 x2 x1 ((1 : Int32) <<< (x2 &&& 31))
      · refine g_iconst (v := 0) B dX12_cribOnes_34 (by decide) ?_
        refine g_sub (lv' := [(0, .ref a0), (2, .int x2)]) [0, 2] rfl ?_
        exact g12_cribOnes_J35 B hS9 hr (p12_cribOnes_L4 M n) ih a0 x2 x1 0
    · refine g_iload_n B dX12_cribOnes_43 1 rfl ?_
      exact g_ireturn B hr rfl (by decide) (by decide) rfl dX12_cribOnes_44
set_option maxRecDepth 20000 in
set_option maxHeartbeats 2000000 in
theorem g12_cribOnes {X : gX} {p : Program} {l : Launch} {e : Env} {s : State} {m : MethodId} {args : Array Value} {below : List Frame} {meth : Method} {c : Code} (B : gB X p (rm12_cribOnes) s m args meth c RX12 cX12_cribOnes 3 (rm12_cribOnes)) (hS9 : gS X s) (hr : meth.sig.returnType = some .int) {M : mMem} (a0 : Nat) : GG X p l e (rm12_cribOnes) s m args below meth c (gP X below args s 0 0 (fun r9 : Int32 => (some (.int r9), M))) 3 0 0 0 [(0, .ref a0)] [] M (p12_cribOnes a0 M) := by
  unfold p12_cribOnes
  refine g_gd ?_
  refine g_iconst (v := 0) B dX12_cribOnes_0 (by decide) ?_
  refine g_istore_n (lv' := [(1, .int 0), (0, .ref a0)]) B dX12_cribOnes_1 (by decide) [0, 1] rfl ?_
  refine g_iconst (v := 0) B dX12_cribOnes_2 (by decide) ?_
  refine g_istore_n (lv' := [(2, .int 0), (1, .int 0), (0, .ref a0)]) B dX12_cribOnes_3 (by decide) [0, 1, 2] rfl ?_
  refine g_sub (lv' := [(0, .ref a0), (1, .int 0), (2, .int 0)]) [2, 1, 0] rfl ?_
  exact (g12_cribOnes_L4 B hS9 hr) gF a0 0 0
theorem c12_cribOnes (X : gX) (l : Launch) (a0 : Nat) (M : mMem) : Con X l yX12_cribOnes cX12_cribOnes 3 (some .int) rm12_cribOnes (fun r9 : Int32 => (some (.int r9), M)) [.ref a0] M (p12_cribOnes a0 M) := g_con (own := RX12) (by decide +kernel) rfl (Nat.le_of_ble_eq_true rfl) (fun p e s m args below meth c B hS9 hr hn => g12_cribOnes B hS9 hr a0)
theorem mf12_cradle : gMF yX12_cradle cX12_cradle 6 (some .int) 2 := ⟨wd_2104, wd_13, ⟨by decide, by decide⟩, by decide +kernel⟩
set_option maxRecDepth 20000 in
set_option maxHeartbeats 2000000 in
theorem g12_cradle_J64 {X : gX} {p : Program} {l : Launch} {e : Env} {s : State} {m : MethodId} {args : Array Value} {below : List Frame} {meth : Method} {c : Code} (B : gB X p (rm12_cradle) s m args meth c RX12 cX12_cradle 6 (rm12_cradle)) (hS9 : gS X s) (hr : meth.sig.returnType = some .int) (a0 : Nat) (x3 : Int32) (M : mMem) : GG X p l e (rm12_cradle) s m args below meth c (gP X below args s 0 0 (fun r9 : (Int32 × mMem) => (some (.int r9.1), r9.2))) 6 0 0 64 [(0, .ref a0), (3, .int x3)] [] M (p12_cradle_J64 a0 x3 M) := by
  unfold p12_cradle_J64
  refine g_aload_n B dX12_cradle_64 0 rfl ?_
  refine g_callV_vw [] (ci := 11) (T0 := TX12) (N := 27) B hS9 mf12_bringsBack wd_2026 (gw B wp_93) wd_2024 (by decide) rfl (fun h => (gd_ne h).1) (c12_bringsBack X l a0 M) (by decide) (by decide) (by decide) rfl (by decide) dX12_cradle_65 rfl (fun q_1 => ?_)
  refine g_iload_n B dX12_cradle_68 1 rfl ?_
  exact g_ireturn B hr rfl (by decide) (by decide) rfl dX12_cradle_69
set_option maxRecDepth 20000 in
set_option maxHeartbeats 2000000 in
theorem g12_cradle_J53 {X : gX} {p : Program} {l : Launch} {e : Env} {s : State} {m : MethodId} {args : Array Value} {below : List Frame} {meth : Method} {c : Code} (B : gB X p (rm12_cradle) s m args meth c RX12 cX12_cradle 6 (rm12_cradle)) (hS9 : gS X s) (hr : meth.sig.returnType = some .int) (rec14 : Nat → Int32 → Int32 → Int32 → Int32 → mMem → Option (Int32 × mMem)) (hrec14 : ∀ (a0 : Nat) (x1 : Int32) (x2 : Int32) (x3 : Int32) (x4 : Int32) (M : mMem), GG X p l e (rm12_cradle) s m args below meth c (gP X below args s 0 0 (fun r9 : (Int32 × mMem) => (some (.int r9.1), r9.2))) 6 0 0 14 [(0, .ref a0), (1, .int x1), (2, .int x2), (3, .int x3), (4, .int x4)] [] M (rec14 a0 x1 x2 x3 x4 M)) (a0 : Nat) (x1 : Int32) (x2 : Int32) (x3 : Int32) (x4 : Int32) (M : mMem) : GG X p l e (rm12_cradle) s m args below meth c (gP X below args s 0 0 (fun r9 : (Int32 × mMem) => (some (.int r9.1), r9.2))) 6 0 0 53 [(0, .ref a0), (1, .int x1), (2, .int x2), (3, .int x3), (4, .int x4)] [] M (p12_cradle_J53 rec14 a0 x1 x2 x3 x4 M) := by
  unfold p12_cradle_J53
  refine g_aload_n B dX12_cradle_53 0 rfl ?_
  refine g_iload_n B dX12_cradle_54 1 rfl ?_
  refine g_callV_vw [.int x1] (ci := 11) (T0 := TX12) (N := 27) B hS9 mf12_dayOf wd_2111 (gw B wp_103) wd_2109 (by decide) rfl (fun h => (gd_ne h).1) (c12_dayOf X l a0 x1 M) (by decide) (by decide) (by decide) rfl (by decide) dX12_cradle_55 rfl (fun q_1 => ?_)
  refine g_iinc (v := (x4 + 1)) (lv' := [(4, .int (x4 + 1)), (0, .ref a0), (1, .int x1), (2, .int x2), (3, .int x3)]) B dX12_cradle_58 4 rfl rfl (by decide) [0, 1, 2, 3, 4] rfl ?_
  refine g_goto B 14 dX12_cradle_61 (by decide) ?_
  refine g_sub (lv' := [(0, .ref a0), (1, .int x1), (2, .int x2), (3, .int x3), (4, .int (x4 + 1))]) [1, 2, 3, 4, 0] rfl ?_
  exact hrec14 a0 x1 x2 x3 (x4 + 1) q_1
set_option maxRecDepth 20000 in
set_option maxHeartbeats 2000000 in
theorem g12_cradle_J52 {X : gX} {p : Program} {l : Launch} {e : Env} {s : State} {m : MethodId} {args : Array Value} {below : List Frame} {meth : Method} {c : Code} (B : gB X p (rm12_cradle) s m args meth c RX12 cX12_cradle 6 (rm12_cradle)) (hS9 : gS X s) (hr : meth.sig.returnType = some .int) (rec14 : Nat → Int32 → Int32 → Int32 → Int32 → mMem → Option (Int32 × mMem)) (hrec14 : ∀ (a0 : Nat) (x1 : Int32) (x2 : Int32) (x3 : Int32) (x4 : Int32) (M : mMem), GG X p l e (rm12_cradle) s m args below meth c (gP X below args s 0 0 (fun r9 : (Int32 × mMem) => (some (.int r9.1), r9.2))) 6 0 0 14 [(0, .ref a0), (1, .int x1), (2, .int x2), (3, .int x3), (4, .int x4)] [] M (rec14 a0 x1 x2 x3 x4 M)) (a0 : Nat) (x1 : Int32) (x2 : Int32) (x4 : Int32) (u0 : Int32) (M : mMem) : GG X p l e (rm12_cradle) s m args below meth c (gP X below args s 0 0 (fun r9 : (Int32 × mMem) => (some (.int r9.1), r9.2))) 6 0 0 52 [(0, .ref a0), (1, .int x1), (2, .int x2), (4, .int x4)] [.int u0] M (p12_cradle_J52 rec14 a0 x1 x2 x4 u0 M) := by
  unfold p12_cradle_J52
  refine g_istore_n (lv' := [(3, .int u0), (0, .ref a0), (1, .int x1), (2, .int x2), (4, .int x4)]) B dX12_cradle_52 (by decide) [0, 1, 2, 3, 4] rfl ?_
  refine g_sub (lv' := [(0, .ref a0), (1, .int x1), (2, .int x2), (3, .int u0), (4, .int x4)]) [1, 2, 3, 0, 4] rfl ?_
  exact g12_cradle_J53 B hS9 hr rec14 hrec14 a0 x1 x2 u0 x4 M
set_option maxRecDepth 20000 in
set_option maxHeartbeats 2000000 in
theorem g12_cradle_L14 {X : gX} {p : Program} {l : Launch} {e : Env} {s : State} {m : MethodId} {args : Array Value} {below : List Frame} {meth : Method} {c : Code} (B : gB X p (rm12_cradle) s m args meth c RX12 cX12_cradle 6 (rm12_cradle)) (hS9 : gS X s) (hr : meth.sig.returnType = some .int) : ∀ (n : Nat) (a0 : Nat) (x1 : Int32) (x2 : Int32) (x3 : Int32) (x4 : Int32) (M : mMem), GG X p l e (rm12_cradle) s m args below meth c (gP X below args s 0 0 (fun r9 : (Int32 × mMem) => (some (.int r9.1), r9.2))) 6 0 0 14 [(0, .ref a0), (1, .int x1), (2, .int x2), (3, .int x3), (4, .int x4)] [] M (p12_cradle_L14 n a0 x1 x2 x3 x4 M) := by
  intro n
  induction n with
  | zero => intro a0 x1 x2 x3 x4 M; exact g_none
  | succ n ih =>
    intro a0 x1 x2 x3 x4 M
    rw [p12_cradle_L14]
    refine g_iload B dX12_cradle_14 4 rfl ?_
    refine g_bipush (v := 100) B dX12_cradle_16 (by decide) ?_
    refine g_icmp_gt B 64 dX12_cradle_18 (by decide) ?_ ?_
    · refine g_sub (lv' := [(0, .ref a0), (3, .int x3)]) [0, 3] rfl ?_
      exact g12_cradle_J64 B hS9 hr a0 x3 M
    · refine g_iload_n B dX12_cradle_21 3 rfl ?_
      refine g_iconst (v := (-1)) B dX12_cradle_22 (by decide) ?_
      refine g_icmp_ne B 64 dX12_cradle_23 (by decide) ?_ ?_
      · refine g_aload_n B dX12_cradle_26 0 rfl ?_
        refine g_callV_ip [] (ci := 11) (T0 := TX12) (N := 27) B hS9 mf12_cribOnes wd_2107 (gw B wp_102) wd_2105 (by decide) rfl (fun h => (gd_ne h).1) (c12_cribOnes X l a0 M) (by decide) (by decide) (by decide) rfl (by decide) dX12_cradle_27 rfl (fun v_1 => ?_)
        refine g_istore (lv' := [(5, .int v_1), (0, .ref a0), (1, .int x1), (2, .int x2), (3, .int x3), (4, .int x4)]) B dX12_cradle_30 (by decide) [0, 1, 2, 3, 4, 5] rfl ?_
        refine g_iload B dX12_cradle_32 0 rfl ?_
        refine g_if_eq B 53 dX12_cradle_34 (by decide) ?_ ?_
        · refine g_sub (lv' := [(0, .ref a0), (1, .int x1), (2, .int x2), (3, .int x3), (4, .int x4)]) [1, 2, 3, 4, 5] rfl ?_
          exact g12_cradle_J53 B hS9 hr (p12_cradle_L14 n) ih a0 x1 x2 x3 x4 M
        · refine g_iload_n B dX12_cradle_37 3 rfl ?_
          refine g_if_eq B 50 dX12_cradle_38 (by decide) ?_ ?_
          · refine g_iload B dX12_cradle_50 5 rfl ?_
            refine g_sub (lv' := [(0, .ref a0), (1, .int x1), (2, .int x2), (4, .int x4)]) [1, 2, 3, 5] rfl ?_
            exact g12_cradle_J52 B hS9 hr (p12_cradle_L14 n) ih a0 x1 x2 x4 x4 M
          · refine g_iload B dX12_cradle_41 0 rfl ?_
            refine g_iconst (v := 0) B dX12_cradle_43 (by decide) ?_
            refine g_callS_ip [.int v_1, .int 0] B hS9 mf12_oneOf wd_2095 wd_2094 (c12_oneOf X l v_1 0 M) (by decide) (by decide) (by decide) rfl (by decide) dX12_cradle_44 rfl (fun v_2 => ?_)
            refine g_goto B 52 dX12_cradle_47 (by decide) ?_
            refine g_sub (lv' := [(0, .ref a0), (1, .int x1), (2, .int x2), (4, .int x4)]) [1, 2, 3, 5] rfl ?_
            exact g12_cradle_J52 B hS9 hr (p12_cradle_L14 n) ih a0 x1 x2 x4 v_2 M
      · refine g_sub (lv' := [(0, .ref a0), (3, .int x3)]) [0, 3] rfl ?_
        exact g12_cradle_J64 B hS9 hr a0 x3 M
set_option maxRecDepth 20000 in
set_option maxHeartbeats 2000000 in
theorem g12_cradle {X : gX} {p : Program} {l : Launch} {e : Env} {s : State} {m : MethodId} {args : Array Value} {below : List Frame} {meth : Method} {c : Code} (B : gB X p (rm12_cradle) s m args meth c RX12 cX12_cradle 6 (rm12_cradle)) (hS9 : gS X s) (hr : meth.sig.returnType = some .int) (a0 : Nat) (x1 : Int32) (x2 : Int32) (M : mMem) : GG X p l e (rm12_cradle) s m args below meth c (gP X below args s 0 0 (fun r9 : (Int32 × mMem) => (some (.int r9.1), r9.2))) 6 0 0 0 [(0, .ref a0), (1, .int x1), (2, .int x2)] [] M (p12_cradle a0 x1 x2 M) := by
  unfold p12_cradle
  refine g_gd ?_
  refine g_aload_n B dX12_cradle_0 0 rfl ?_
  refine g_iconst (v := 0) B dX12_cradle_1 (by decide) ?_
  refine g_putI (ci := 11) (T0 := TX12) (N := 27) B (by decide) rfl in_11 tyX12 tyX12_ok nmX12 (k := 0) (by decide) wd_1641 (fun _ h => h) rfl rfl (ty := .int) (by decide +kernel) rfl rfl dX12_cradle_2 (fun M_1 => ?_)
  refine g_iconst (v := (-1)) B dX12_cradle_5 (by decide) ?_
  refine g_istore_n (lv' := [(3, .int (-1)), (0, .ref a0), (1, .int x1), (2, .int x2)]) B dX12_cradle_6 (by decide) [0, 1, 2, 3] rfl ?_
  refine g_aload_n B dX12_cradle_7 1 rfl ?_
  refine g_callV_vw [] (ci := 11) (T0 := TX12) (N := 27) B hS9 mf12_keepsAll wd_2014 (gw B wp_90) wd_2012 (by decide) rfl (fun h => (gd_ne h).1) (c12_keepsAll X l a0 M_1) (by decide) (by decide) (by decide) rfl (by decide) dX12_cradle_8 rfl (fun q_2 => ?_)
  refine g_iconst (v := 0) B dX12_cradle_11 (by decide) ?_
  refine g_istore (lv' := [(4, .int 0), (3, .int (-1)), (0, .ref a0), (1, .int x1), (2, .int x2)]) B dX12_cradle_12 (by decide) [0, 1, 2, 3, 4] rfl ?_
  refine g_sub (lv' := [(0, .ref a0), (1, .int x1), (2, .int x2), (3, .int (-1)), (4, .int 0)]) [2, 3, 4, 1, 0] rfl ?_
  exact (g12_cradle_L14 B hS9 hr) gF a0 x1 x2 (-1) 0 q_2
theorem c12_cradle (X : gX) (l : Launch) (a0 : Nat) (x1 : Int32) (x2 : Int32) (M : mMem) : Con X l yX12_cradle cX12_cradle 6 (some .int) rm12_cradle (fun r9 : (Int32 × mMem) => (some (.int r9.1), r9.2)) [.ref a0, .int x1, .int x2] M (p12_cradle a0 x1 x2 M) := g_con (own := RX12) (by decide +kernel) rfl (Nat.le_of_ble_eq_true rfl) (fun p e s m args below meth c B hS9 hr hn => g12_cradle B hS9 hr a0 x1 x2 M)
theorem mf12_agesAsKept : gMF yX12_agesAsKept cX12_agesAsKept 3 (some .boolean) 0 := ⟨wd_2120, wd_13, ⟨by decide, by decide⟩, by decide +kernel⟩
set_option maxRecDepth 20000 in
set_option maxHeartbeats 2000000 in
theorem g12_agesAsKept_J40 {X : gX} {p : Program} {l : Launch} {e : Env} {s : State} {m : MethodId} {args : Array Value} {below : List Frame} {meth : Method} {c : Code} (B : gB X p (rm12_agesAsKept) s m args meth c RX12 cX12_agesAsKept 3 (rm12_agesAsKept)) (hS9 : gS X s) (hr : meth.sig.returnType = some .boolean) {M : mMem} (rec4 : Nat → Int32 → Int32 → Option Int32) (hrec4 : ∀ (a0 : Nat) (x1 : Int32) (x2 : Int32), GG X p l e (rm12_agesAsKept) s m args below meth c (gP X below args s 0 0 (fun r9 : Int32 => (some (.int r9), M))) 3 0 0 4 [(0, .ref a0), (1, .int x1), (2, .int x2)] [] M (rec4 a0 x1 x2)) (a0 : Nat) (x2 : Int32) (u0 : Int32) : GG X p l e (rm12_agesAsKept) s m args below meth c (gP X below args s 0 0 (fun r9 : Int32 => (some (.int r9), M))) 3 0 0 40 [(0, .ref a0), (2, .int x2)] [.int u0] M (p12_agesAsKept_J40 M rec4 a0 x2 u0) := by
  unfold p12_agesAsKept_J40
  refine g_istore_n (lv' := [(1, .int u0), (0, .ref a0), (2, .int x2)]) B dX12_agesAsKept_40 (by decide) [0, 1, 2] rfl ?_
  refine g_iinc (v := (x2 + 1)) (lv' := [(2, .int (x2 + 1)), (1, .int u0), (0, .ref a0)]) B dX12_agesAsKept_41 2 rfl rfl (by decide) [0, 1, 2] rfl ?_
  refine g_goto B 4 dX12_agesAsKept_44 (by decide) ?_
  refine g_sub (lv' := [(0, .ref a0), (1, .int u0), (2, .int (x2 + 1))]) [2, 1, 0] rfl ?_
  exact hrec4 a0 u0 (x2 + 1)
set_option maxRecDepth 20000 in
set_option maxHeartbeats 2000000 in
theorem g12_agesAsKept_J39 {X : gX} {p : Program} {l : Launch} {e : Env} {s : State} {m : MethodId} {args : Array Value} {below : List Frame} {meth : Method} {c : Code} (B : gB X p (rm12_agesAsKept) s m args meth c RX12 cX12_agesAsKept 3 (rm12_agesAsKept)) (hS9 : gS X s) (hr : meth.sig.returnType = some .boolean) {M : mMem} (rec4 : Nat → Int32 → Int32 → Option Int32) (hrec4 : ∀ (a0 : Nat) (x1 : Int32) (x2 : Int32), GG X p l e (rm12_agesAsKept) s m args below meth c (gP X below args s 0 0 (fun r9 : Int32 => (some (.int r9), M))) 3 0 0 4 [(0, .ref a0), (1, .int x1), (2, .int x2)] [] M (rec4 a0 x1 x2)) (a0 : Nat) (x2 : Int32) : GG X p l e (rm12_agesAsKept) s m args below meth c (gP X below args s 0 0 (fun r9 : Int32 => (some (.int r9), M))) 3 0 0 39 [(0, .ref a0), (2, .int x2)] [] M (p12_agesAsKept_J39 M rec4 a0 x2) := by
  unfold p12_agesAsKept_J39
  refine g_iconst (v := 0) B dX12_agesAsKept_39 (by decide) ?_
  refine g_sub (lv' := [(0, .ref a0), (2, .int x2)]) [0, 1] rfl ?_
  exact g12_agesAsKept_J40 B hS9 hr rec4 hrec4 a0 x2 0
set_option maxRecDepth 20000 in
set_option maxHeartbeats 2000000 in
theorem g12_agesAsKept_L4 {X : gX} {p : Program} {l : Launch} {e : Env} {s : State} {m : MethodId} {args : Array Value} {below : List Frame} {meth : Method} {c : Code} (B : gB X p (rm12_agesAsKept) s m args meth c RX12 cX12_agesAsKept 3 (rm12_agesAsKept)) (hS9 : gS X s) (hr : meth.sig.returnType = some .boolean) {M : mMem} : ∀ (n : Nat) (a0 : Nat) (x1 : Int32) (x2 : Int32), GG X p l e (rm12_agesAsKept) s m args below meth c (gP X below args s 0 0 (fun r9 : Int32 => (some (.int r9), M))) 3 0 0 4 [(0, .ref a0), (1, .int x1), (2, .int x2)] [] M (p12_agesAsKept_L4 M n a0 x1 x2) := by
  intro n
  induction n with
  | zero => intro a0 x1 x2; exact g_none
  | succ n ih =>
    intro a0 x1 x2
    rw [p12_agesAsKept_L4]
    refine g_iload_n B dX12_agesAsKept_4 2 rfl ?_
    refine g_aload_n B dX12_agesAsKept_5 0 rfl ?_
    refine g_callV_ip [] (ci := 11) (T0 := TX12) (N := 27) B hS9 mf12_people wd_1793 (gw B wp_51) wd_1791 (by decide) rfl (fun h => (gd_ne h).1) (c12_people X l a0 M) (by decide) (by decide) (by decide) rfl (Nat.le_of_ble_eq_true rfl) dX12_agesAsKept_6 rfl (fun v_1 => ?_)
    refine g_icmp_ge B 47 dX12_agesAsKept_9 (by decide) ?_ ?_
    · refine g_iload_n B dX12_agesAsKept_12 1 rfl ?_
      refine g_if_eq B 39 dX12_agesAsKept_13 (by decide) ?_ ?_
      · refine g_sub (lv' := [(0, .ref a0), (2, .int x2)]) [0, 2] rfl ?_
        exact g12_agesAsKept_J39 B hS9 hr (p12_agesAsKept_L4 M n) ih a0 x2
      · refine g_aload_n B dX12_agesAsKept_16 0 rfl ?_
        refine g_iload_n B dX12_agesAsKept_17 2 rfl ?_
        refine g_iconst (v := 0) B dX12_agesAsKept_18 (by decide) ?_
        refine g_callV_ip [.int x2, .int 0] (ci := 11) (T0 := TX12) (N := 27) B hS9 mf12_of wd_1846 (gw B wp_61) wd_1844 (by decide) rfl (fun h => (gd_ne h).1) (c12_of X l a0 x2 0 M) (by decide) (by decide) (by decide) rfl (by decide) dX12_agesAsKept_19 rfl (fun v_2 => ?_)
        refine g_aload_n B dX12_agesAsKept_22 0 rfl ?_
        refine g_getR (ci := 11) (T0 := TX12) (N := 27) B (by decide) rfl in_11 (k := 4) (by decide) rfl wd_1645 (fun _ h => h) dX12_agesAsKept_23 (fun v_3 => ?_)
        refine g_iload_n B dX12_agesAsKept_26 2 rfl ?_
        refine g_iconst (v := 0) B dX12_agesAsKept_27 (by decide) ?_
        refine g_callS_ip [.int x2, .int 0] B hS9 mf12_at wd_1824 wd_1823 (c12_at X l x2 0 M) (by decide) (by decide) (by decide) rfl (Nat.le_of_ble_eq_true rfl) dX12_agesAsKept_28 rfl (fun v_4 => ?_)
        refine g_iaload B dX12_agesAsKept_31 (fun v_5 => ?_)
        refine g_icmp_ne B 39 dX12_agesAsKept_32 (by decide) ?_ ?_
        · refine g_iconst (v := 1) B dX12_agesAsKept_35 (by decide) ?_
          refine g_goto B 40 dX12_agesAsKept_36 (by decide) ?_
          refine g_sub (lv' := [(0, .ref a0), (2, .int x2)]) [0, 2] rfl ?_
          exact g12_agesAsKept_J40 B hS9 hr (p12_agesAsKept_L4 M n) ih a0 x2 1
        · refine g_sub (lv' := [(0, .ref a0), (2, .int x2)]) [0, 2] rfl ?_
          exact g12_agesAsKept_J39 B hS9 hr (p12_agesAsKept_L4 M n) ih a0 x2
    · refine g_iload_n B dX12_agesAsKept_47 1 rfl ?_
      exact g_zreturn (f := fun z => z) B hr (by decide) (by decide) rfl dX12_agesAsKept_48
set_option maxRecDepth 20000 in
set_option maxHeartbeats 2000000 in
theorem g12_agesAsKept {X : gX} {p : Program} {l : Launch} {e : Env} {s : State} {m : MethodId} {args : Array Value} {below : List Frame} {meth : Method} {c : Code} (B : gB X p (rm12_agesAsKept) s m args meth c RX12 cX12_agesAsKept 3 (rm12_agesAsKept)) (hS9 : gS X s) (hr : meth.sig.returnType = some .boolean) {M : mMem} (a0 : Nat) : GG X p l e (rm12_agesAsKept) s m args below meth c (gP X below args s 0 0 (fun r9 : Int32 => (some (.int r9), M))) 3 0 0 0 [(0, .ref a0)] [] M (p12_agesAsKept a0 M) := by
  unfold p12_agesAsKept
  refine g_gd ?_
  refine g_iconst (v := 1) B dX12_agesAsKept_0 (by decide) ?_
  refine g_istore_n (lv' := [(1, .int 1), (0, .ref a0)]) B dX12_agesAsKept_1 (by decide) [0, 1] rfl ?_
  refine g_iconst (v := 0) B dX12_agesAsKept_2 (by decide) ?_
  refine g_istore_n (lv' := [(2, .int 0), (1, .int 1), (0, .ref a0)]) B dX12_agesAsKept_3 (by decide) [0, 1, 2] rfl ?_
  refine g_sub (lv' := [(0, .ref a0), (1, .int 1), (2, .int 0)]) [2, 1, 0] rfl ?_
  exact (g12_agesAsKept_L4 B hS9 hr) gF a0 1 0
theorem c12_agesAsKept (X : gX) (l : Launch) (a0 : Nat) (M : mMem) : Con X l yX12_agesAsKept cX12_agesAsKept 3 (some .boolean) rm12_agesAsKept (fun r9 : Int32 => (some (.int r9), M)) [.ref a0] M (p12_agesAsKept a0 M) := g_con (own := RX12) (by decide +kernel) rfl (Nat.le_of_ble_eq_true rfl) (fun p e s m args below meth c B hS9 hr hn => g12_agesAsKept B hS9 hr a0)
theorem mf12_again : gMF yX12_again cX12_again 4 (some .int) 1 := ⟨wd_2116, wd_13, ⟨by decide, by decide⟩, by decide +kernel⟩
set_option maxRecDepth 20000 in
set_option maxHeartbeats 2000000 in
theorem g12_again_J48 {X : gX} {p : Program} {l : Launch} {e : Env} {s : State} {m : MethodId} {args : Array Value} {below : List Frame} {meth : Method} {c : Code} (B : gB X p (rm12_again) s m args meth c RX12 cX12_again 4 (rm12_again)) (hS9 : gS X s) (hr : meth.sig.returnType = some .int) (a0 : Nat) (x2 : Int32) (M : mMem) : GG X p l e (rm12_again) s m args below meth c (gP X below args s 0 0 (fun r9 : (Int32 × mMem) => (some (.int r9.1), r9.2))) 4 0 0 48 [(0, .ref a0), (2, .int x2)] [] M (p12_again_J48 a0 x2 M) := by
  unfold p12_again_J48
  refine g_aload_n B dX12_again_48 0 rfl ?_
  refine g_callV_vw [] (ci := 11) (T0 := TX12) (N := 27) B hS9 mf12_bringsBack wd_2026 (gw B wp_93) wd_2024 (by decide) rfl (fun h => (gd_ne h).1) (c12_bringsBack X l a0 M) (by decide) (by decide) (by decide) rfl (by decide) dX12_again_49 rfl (fun q_1 => ?_)
  refine g_iload_n B dX12_again_52 1 rfl ?_
  exact g_ireturn B hr rfl (by decide) (by decide) rfl dX12_again_53
set_option maxRecDepth 20000 in
set_option maxHeartbeats 2000000 in
theorem g12_again_J41 {X : gX} {p : Program} {l : Launch} {e : Env} {s : State} {m : MethodId} {args : Array Value} {below : List Frame} {meth : Method} {c : Code} (B : gB X p (rm12_again) s m args meth c RX12 cX12_again 4 (rm12_again)) (hS9 : gS X s) (hr : meth.sig.returnType = some .int) (rec13 : Nat → Int32 → Int32 → Int32 → mMem → Option (Int32 × mMem)) (hrec13 : ∀ (a0 : Nat) (x1 : Int32) (x2 : Int32) (x3 : Int32) (M : mMem), GG X p l e (rm12_again) s m args below meth c (gP X below args s 0 0 (fun r9 : (Int32 × mMem) => (some (.int r9.1), r9.2))) 4 0 0 13 [(0, .ref a0), (1, .int x1), (2, .int x2), (3, .int x3)] [] M (rec13 a0 x1 x2 x3 M)) (a0 : Nat) (x1 : Int32) (x3 : Int32) (u0 : Int32) (M : mMem) : GG X p l e (rm12_again) s m args below meth c (gP X below args s 0 0 (fun r9 : (Int32 × mMem) => (some (.int r9.1), r9.2))) 4 0 0 41 [(0, .ref a0), (1, .int x1), (3, .int x3)] [.int u0] M (p12_again_J41 rec13 a0 x1 x3 u0 M) := by
  unfold p12_again_J41
  refine g_istore_n (lv' := [(2, .int u0), (0, .ref a0), (1, .int x1), (3, .int x3)]) B dX12_again_41 (by decide) [0, 1, 2, 3] rfl ?_
  refine g_iinc (v := (x3 + 1)) (lv' := [(3, .int (x3 + 1)), (2, .int u0), (0, .ref a0), (1, .int x1)]) B dX12_again_42 3 rfl rfl (by decide) [0, 1, 2, 3] rfl ?_
  refine g_goto B 13 dX12_again_45 (by decide) ?_
  refine g_sub (lv' := [(0, .ref a0), (1, .int x1), (2, .int u0), (3, .int (x3 + 1))]) [2, 3, 1, 0] rfl ?_
  exact hrec13 a0 x1 u0 (x3 + 1) M
set_option maxRecDepth 20000 in
set_option maxHeartbeats 2000000 in
theorem g12_again_L13 {X : gX} {p : Program} {l : Launch} {e : Env} {s : State} {m : MethodId} {args : Array Value} {below : List Frame} {meth : Method} {c : Code} (B : gB X p (rm12_again) s m args meth c RX12 cX12_again 4 (rm12_again)) (hS9 : gS X s) (hr : meth.sig.returnType = some .int) : ∀ (n : Nat) (a0 : Nat) (x1 : Int32) (x2 : Int32) (x3 : Int32) (M : mMem), GG X p l e (rm12_again) s m args below meth c (gP X below args s 0 0 (fun r9 : (Int32 × mMem) => (some (.int r9.1), r9.2))) 4 0 0 13 [(0, .ref a0), (1, .int x1), (2, .int x2), (3, .int x3)] [] M (p12_again_L13 n a0 x1 x2 x3 M) := by
  intro n
  induction n with
  | zero => intro a0 x1 x2 x3 M; exact g_none
  | succ n ih =>
    intro a0 x1 x2 x3 M
    rw [p12_again_L13]
    refine g_iload_n B dX12_again_13 3 rfl ?_
    refine g_bipush (v := 100) B dX12_again_14 (by decide) ?_
    refine g_icmp_gt B 48 dX12_again_16 (by decide) ?_ ?_
    · refine g_sub (lv' := [(0, .ref a0), (2, .int x2)]) [0, 2] rfl ?_
      exact g12_again_J48 B hS9 hr a0 x2 M
    · refine g_iload_n B dX12_again_19 2 rfl ?_
      refine g_iconst (v := (-1)) B dX12_again_20 (by decide) ?_
      refine g_icmp_ne B 48 dX12_again_21 (by decide) ?_ ?_
      · refine g_aload_n B dX12_again_24 0 rfl ?_
        refine g_iload_n B dX12_again_25 1 rfl ?_
        refine g_callV_vw [.int x1] (ci := 11) (T0 := TX12) (N := 27) B hS9 mf12_dayOf wd_2111 (gw B wp_103) wd_2109 (by decide) rfl (fun h => (gd_ne h).1) (c12_dayOf X l a0 x1 M) (by decide) (by decide) (by decide) rfl (by decide) dX12_again_26 rfl (fun q_1 => ?_)
        refine g_aload_n B dX12_again_29 0 rfl ?_
        refine g_callV_ip [] (ci := 11) (T0 := TX12) (N := 27) B hS9 mf12_agesAsKept wd_2119 (gw B wp_104) wd_2117 (by decide) rfl (fun h => (gd_ne h).1) (c12_agesAsKept X l a0 q_1) (by decide) (by decide) (by decide) rfl (by decide) dX12_again_30 rfl (fun v_2 => ?_)
        refine g_if_eq B 40 dX12_again_33 (by decide) ?_ ?_
        · refine g_iconst (v := (-1)) B dX12_again_40 (by decide) ?_
          refine g_sub (lv' := [(0, .ref a0), (1, .int x1), (3, .int x3)]) [0, 1, 3] rfl ?_
          exact g12_again_J41 B hS9 hr (p12_again_L13 n) ih a0 x1 x3 (-1) q_1
        · refine g_iload_n B dX12_again_36 3 rfl ?_
          refine g_goto B 41 dX12_again_37 (by decide) ?_
          refine g_sub (lv' := [(0, .ref a0), (1, .int x1), (3, .int x3)]) [0, 1, 3] rfl ?_
          exact g12_again_J41 B hS9 hr (p12_again_L13 n) ih a0 x1 x3 x3 q_1
      · refine g_sub (lv' := [(0, .ref a0), (2, .int x2)]) [0, 2] rfl ?_
        exact g12_again_J48 B hS9 hr a0 x2 M
set_option maxRecDepth 20000 in
set_option maxHeartbeats 2000000 in
theorem g12_again {X : gX} {p : Program} {l : Launch} {e : Env} {s : State} {m : MethodId} {args : Array Value} {below : List Frame} {meth : Method} {c : Code} (B : gB X p (rm12_again) s m args meth c RX12 cX12_again 4 (rm12_again)) (hS9 : gS X s) (hr : meth.sig.returnType = some .int) (a0 : Nat) (x1 : Int32) (M : mMem) : GG X p l e (rm12_again) s m args below meth c (gP X below args s 0 0 (fun r9 : (Int32 × mMem) => (some (.int r9.1), r9.2))) 4 0 0 0 [(0, .ref a0), (1, .int x1)] [] M (p12_again a0 x1 M) := by
  unfold p12_again
  refine g_gd ?_
  refine g_aload_n B dX12_again_0 0 rfl ?_
  refine g_iconst (v := 0) B dX12_again_1 (by decide) ?_
  refine g_putI (ci := 11) (T0 := TX12) (N := 27) B (by decide) rfl in_11 tyX12 tyX12_ok nmX12 (k := 0) (by decide) wd_1641 (fun _ h => h) rfl rfl (ty := .int) (by decide +kernel) rfl rfl dX12_again_2 (fun M_1 => ?_)
  refine g_iconst (v := (-1)) B dX12_again_5 (by decide) ?_
  refine g_istore_n (lv' := [(2, .int (-1)), (0, .ref a0), (1, .int x1)]) B dX12_again_6 (by decide) [0, 1, 2] rfl ?_
  refine g_aload_n B dX12_again_7 1 rfl ?_
  refine g_callV_vw [] (ci := 11) (T0 := TX12) (N := 27) B hS9 mf12_keepsAll wd_2014 (gw B wp_90) wd_2012 (by decide) rfl (fun h => (gd_ne h).1) (c12_keepsAll X l a0 M_1) (by decide) (by decide) (by decide) rfl (by decide) dX12_again_8 rfl (fun q_2 => ?_)
  refine g_iconst (v := 1) B dX12_again_11 (by decide) ?_
  refine g_istore_n (lv' := [(3, .int 1), (2, .int (-1)), (0, .ref a0), (1, .int x1)]) B dX12_again_12 (by decide) [0, 1, 2, 3] rfl ?_
  refine g_sub (lv' := [(0, .ref a0), (1, .int x1), (2, .int (-1)), (3, .int 1)]) [2, 3, 1, 0] rfl ?_
  exact (g12_again_L13 B hS9 hr) gF a0 x1 (-1) 1 q_2
theorem c12_again (X : gX) (l : Launch) (a0 : Nat) (x1 : Int32) (M : mMem) : Con X l yX12_again cX12_again 4 (some .int) rm12_again (fun r9 : (Int32 × mMem) => (some (.int r9.1), r9.2)) [.ref a0, .int x1] M (p12_again a0 x1 M) := g_con (own := RX12) (by decide +kernel) rfl (Nat.le_of_ble_eq_true rfl) (fun p e s m args below meth c B hS9 hr hn => g12_again B hS9 hr a0 x1 M)
theorem mf12_over : gMF yX12_over cX12_over 4 (some .int) 1 := ⟨wd_2124, wd_13, ⟨by decide, by decide⟩, by decide +kernel⟩
set_option maxRecDepth 20000 in
set_option maxHeartbeats 2000000 in
theorem g12_over_J75 {X : gX} {p : Program} {l : Launch} {e : Env} {s : State} {m : MethodId} {args : Array Value} {below : List Frame} {meth : Method} {c : Code} (B : gB X p (rm12_over) s m args meth c RX12 cX12_over 4 (rm12_over)) (hS9 : gS X s) (hr : meth.sig.returnType = some .int) (a0 : Nat) (x2 : Int32) (M : mMem) : GG X p l e (rm12_over) s m args below meth c (gP X below args s 0 0 (fun r9 : (Int32 × mMem) => (some (.int r9.1), r9.2))) 4 0 0 75 [(0, .ref a0), (2, .int x2)] [] M (p12_over_J75 a0 x2 M) := by
  unfold p12_over_J75
  refine g_aload_n B dX12_over_75 0 rfl ?_
  refine g_callV_vw [] (ci := 11) (T0 := TX12) (N := 27) B hS9 mf12_bringsBack wd_2026 (gw B wp_93) wd_2024 (by decide) rfl (fun h => (gd_ne h).1) (c12_bringsBack X l a0 M) (by decide) (by decide) (by decide) rfl (by decide) dX12_over_76 rfl (fun q_1 => ?_)
  refine g_iload_n B dX12_over_79 1 rfl ?_
  exact g_ireturn B hr rfl (by decide) (by decide) rfl dX12_over_80
set_option maxRecDepth 20000 in
set_option maxHeartbeats 2000000 in
theorem g12_over_J63 {X : gX} {p : Program} {l : Launch} {e : Env} {s : State} {m : MethodId} {args : Array Value} {below : List Frame} {meth : Method} {c : Code} (B : gB X p (rm12_over) s m args meth c RX12 cX12_over 4 (rm12_over)) (hS9 : gS X s) (hr : meth.sig.returnType = some .int) (rec28 : Nat → Int32 → Int32 → Int32 → mMem → Option (Int32 × mMem)) (hrec28 : ∀ (a0 : Nat) (x1 : Int32) (x2 : Int32) (x3 : Int32) (M : mMem), GG X p l e (rm12_over) s m args below meth c (gP X below args s 0 0 (fun r9 : (Int32 × mMem) => (some (.int r9.1), r9.2))) 4 0 0 28 [(0, .ref a0), (1, .int x1), (2, .int x2), (3, .int x3)] [] M (rec28 a0 x1 x2 x3 M)) (a0 : Nat) (x1 : Int32) (x3 : Int32) (u0 : Int32) (M : mMem) : GG X p l e (rm12_over) s m args below meth c (gP X below args s 0 0 (fun r9 : (Int32 × mMem) => (some (.int r9.1), r9.2))) 4 0 0 63 [(0, .ref a0), (1, .int x1), (3, .int x3)] [.int u0] M (p12_over_J63 rec28 a0 x1 x3 u0 M) := by
  unfold p12_over_J63
  refine g_istore_n (lv' := [(2, .int u0), (0, .ref a0), (1, .int x1), (3, .int x3)]) B dX12_over_63 (by decide) [0, 1, 2, 3] rfl ?_
  refine g_aload_n B dX12_over_64 1 rfl ?_
  refine g_iconst (v := 0) B dX12_over_65 (by decide) ?_
  refine g_callV_vw [.int 0] (ci := 11) (T0 := TX12) (N := 27) B hS9 mf12_dayOf wd_2111 (gw B wp_103) wd_2109 (by decide) rfl (fun h => (gd_ne h).1) (c12_dayOf X l a0 0 M) (by decide) (by decide) (by decide) rfl (by decide) dX12_over_66 rfl (fun q_1 => ?_)
  refine g_iinc (v := (x3 + 1)) (lv' := [(3, .int (x3 + 1)), (2, .int u0), (0, .ref a0), (1, .int x1)]) B dX12_over_69 3 rfl rfl (by decide) [0, 1, 2, 3] rfl ?_
  refine g_goto B 28 dX12_over_72 (by decide) ?_
  refine g_sub (lv' := [(0, .ref a0), (1, .int x1), (2, .int u0), (3, .int (x3 + 1))]) [2, 3, 1, 0] rfl ?_
  exact hrec28 a0 x1 u0 (x3 + 1) q_1
set_option maxRecDepth 20000 in
set_option maxHeartbeats 2000000 in
theorem g12_over_L28 {X : gX} {p : Program} {l : Launch} {e : Env} {s : State} {m : MethodId} {args : Array Value} {below : List Frame} {meth : Method} {c : Code} (B : gB X p (rm12_over) s m args meth c RX12 cX12_over 4 (rm12_over)) (hS9 : gS X s) (hr : meth.sig.returnType = some .int) : ∀ (n : Nat) (a0 : Nat) (x1 : Int32) (x2 : Int32) (x3 : Int32) (M : mMem), GG X p l e (rm12_over) s m args below meth c (gP X below args s 0 0 (fun r9 : (Int32 × mMem) => (some (.int r9.1), r9.2))) 4 0 0 28 [(0, .ref a0), (1, .int x1), (2, .int x2), (3, .int x3)] [] M (p12_over_L28 n a0 x1 x2 x3 M) := by
  intro n
  induction n with
  | zero => intro a0 x1 x2 x3 M; exact g_none
  | succ n ih =>
    intro a0 x1 x2 x3 M
    rw [p12_over_L28]
    refine g_iload_n B dX12_over_28 3 rfl ?_
    refine g_bipush (v := 100) B dX12_over_29 (by decide) ?_
    refine g_icmp_gt B 75 dX12_over_31 (by decide) ?_ ?_
    · refine g_sub (lv' := [(0, .ref a0), (2, .int x2)]) [0, 2] rfl ?_
      exact g12_over_J75 B hS9 hr a0 x2 M
    · refine g_iload_n B dX12_over_34 2 rfl ?_
      refine g_iconst (v := (-1)) B dX12_over_35 (by decide) ?_
      refine g_icmp_ne B 75 dX12_over_36 (by decide) ?_ ?_
      · refine g_aload_n B dX12_over_39 0 rfl ?_
        refine g_iload_n B dX12_over_40 1 rfl ?_
        refine g_iconst (v := 1) B dX12_over_41 (by decide) ?_
        refine g_callV_ip [.int x1, .int 1] (ci := 11) (T0 := TX12) (N := 27) B hS9 mf12_of wd_1846 (gw B wp_61) wd_1844 (by decide) rfl (fun h => (gd_ne h).1) (c12_of X l a0 x1 1 M) (by decide) (by decide) (by decide) rfl (by decide) dX12_over_42 rfl (fun v_1 => ?_)
        refine g_aload_n B dX12_over_45 0 rfl ?_
        refine g_getR (ci := 11) (T0 := TX12) (N := 27) B (by decide) rfl in_11 (k := 4) (by decide) rfl wd_1645 (fun _ h => h) dX12_over_46 (fun v_2 => ?_)
        refine g_iload_n B dX12_over_49 1 rfl ?_
        refine g_iconst (v := 1) B dX12_over_50 (by decide) ?_
        refine g_callS_ip [.int x1, .int 1] B hS9 mf12_at wd_1824 wd_1823 (c12_at X l x1 1 M) (by decide) (by decide) (by decide) rfl (Nat.le_of_ble_eq_true rfl) dX12_over_51 rfl (fun v_3 => ?_)
        refine g_iaload B dX12_over_54 (fun v_4 => ?_)
        refine g_icmp_le B 62 dX12_over_55 (by decide) ?_ ?_
        · refine g_iload_n B dX12_over_58 3 rfl ?_
          refine g_goto B 63 dX12_over_59 (by decide) ?_
          refine g_sub (lv' := [(0, .ref a0), (1, .int x1), (3, .int x3)]) [0, 1, 3] rfl ?_
          exact g12_over_J63 B hS9 hr (p12_over_L28 n) ih a0 x1 x3 x3 M
        · refine g_iconst (v := (-1)) B dX12_over_62 (by decide) ?_
          refine g_sub (lv' := [(0, .ref a0), (1, .int x1), (3, .int x3)]) [0, 1, 3] rfl ?_
          exact g12_over_J63 B hS9 hr (p12_over_L28 n) ih a0 x1 x3 (-1) M
      · refine g_sub (lv' := [(0, .ref a0), (2, .int x2)]) [0, 2] rfl ?_
        exact g12_over_J75 B hS9 hr a0 x2 M
set_option maxRecDepth 20000 in
set_option maxHeartbeats 2000000 in
theorem g12_over {X : gX} {p : Program} {l : Launch} {e : Env} {s : State} {m : MethodId} {args : Array Value} {below : List Frame} {meth : Method} {c : Code} (B : gB X p (rm12_over) s m args meth c RX12 cX12_over 4 (rm12_over)) (hS9 : gS X s) (hr : meth.sig.returnType = some .int) (a0 : Nat) (x1 : Int32) (M : mMem) : GG X p l e (rm12_over) s m args below meth c (gP X below args s 0 0 (fun r9 : (Int32 × mMem) => (some (.int r9.1), r9.2))) 4 0 0 0 [(0, .ref a0), (1, .int x1)] [] M (p12_over a0 x1 M) := by
  unfold p12_over
  refine g_gd ?_
  refine g_aload_n B dX12_over_0 0 rfl ?_
  refine g_iconst (v := 0) B dX12_over_1 (by decide) ?_
  refine g_putI (ci := 11) (T0 := TX12) (N := 27) B (by decide) rfl in_11 tyX12 tyX12_ok nmX12 (k := 0) (by decide) wd_1641 (fun _ h => h) rfl rfl (ty := .int) (by decide +kernel) rfl rfl dX12_over_2 (fun M_1 => ?_)
  refine g_aload_n B dX12_over_5 0 rfl ?_
  refine g_aload_n B dX12_over_6 0 rfl ?_
  refine g_iload_n B dX12_over_7 1 rfl ?_
  refine g_callV_ip [.int x1] (ci := 11) (T0 := TX12) (N := 27) B hS9 mf12_nobody wd_1944 (gw B wp_79) wd_1942 (by decide) rfl (fun h => (gd_ne h).1) (c12_nobody X l a0 x1 M_1) (by decide) (by decide) (by decide) rfl (Nat.le_of_ble_eq_true rfl) dX12_over_8 rfl (fun v_2 => ?_)
  refine g_iconst (v := 1) B dX12_over_11 (by decide) ?_
  refine g_callV_iw [.int v_2, .int 1] (ci := 11) (T0 := TX12) (N := 27) B hS9 mf12_throwsIf wd_1932 (gw B wp_78) wd_1930 (by decide) rfl (fun h => (gd_ne h).1) (c12_throwsIf X l a0 v_2 1 M_1) (by decide) (by decide) (by decide) rfl (by decide) dX12_over_12 rfl (fun q_3 => ?_)
  refine g_if_eq B 20 dX12_over_15 (by decide) ?_ ?_
  · refine g_iconst (v := (-1)) B dX12_over_20 (by decide) ?_
    refine g_istore_n (lv' := [(2, .int (-1)), (0, .ref a0), (1, .int x1)]) B dX12_over_21 (by decide) [0, 1, 2] rfl ?_
    refine g_aload_n B dX12_over_22 1 rfl ?_
    refine g_callV_vw [] (ci := 11) (T0 := TX12) (N := 27) B hS9 mf12_keepsAll wd_2014 (gw B wp_90) wd_2012 (by decide) rfl (fun h => (gd_ne h).1) (c12_keepsAll X l a0 q_3.2) (by decide) (by decide) (by decide) rfl (by decide) dX12_over_23 rfl (fun q_4 => ?_)
    refine g_iconst (v := 0) B dX12_over_26 (by decide) ?_
    refine g_istore_n (lv' := [(3, .int 0), (2, .int (-1)), (0, .ref a0), (1, .int x1)]) B dX12_over_27 (by decide) [0, 1, 2, 3] rfl ?_
    refine g_sub (lv' := [(0, .ref a0), (1, .int x1), (2, .int (-1)), (3, .int 0)]) [2, 3, 1, 0] rfl ?_
    exact (g12_over_L28 B hS9 hr) gF a0 x1 (-1) 0 q_4
  · refine g_iconst (v := 0) B dX12_over_18 (by decide) ?_
    exact g_ireturn B hr rfl (by decide) (by decide) rfl dX12_over_19
theorem c12_over (X : gX) (l : Launch) (a0 : Nat) (x1 : Int32) (M : mMem) : Con X l yX12_over cX12_over 4 (some .int) rm12_over (fun r9 : (Int32 × mMem) => (some (.int r9.1), r9.2)) [.ref a0, .int x1] M (p12_over a0 x1 M) := g_con (own := RX12) (by decide +kernel) rfl (Nat.le_of_ble_eq_true rfl) (fun p e s m args below meth c B hS9 hr hn => g12_over B hS9 hr a0 x1 M)
theorem mf12_ahead : gMF yX12_ahead cX12_ahead 5 (some .int) 3 := ⟨wd_2128, wd_13, ⟨by decide, by decide⟩, by decide +kernel⟩
set_option maxRecDepth 20000 in
set_option maxHeartbeats 2000000 in
theorem g12_ahead_J41 {X : gX} {p : Program} {l : Launch} {e : Env} {s : State} {m : MethodId} {args : Array Value} {below : List Frame} {meth : Method} {c : Code} (B : gB X p (rm12_ahead) s m args meth c RX12 cX12_ahead 5 (rm12_ahead)) (hS9 : gS X s) (hr : meth.sig.returnType = some .int) (M : mMem) : GG X p l e (rm12_ahead) s m args below meth c (gP X below args s 0 0 (fun r9 : (Int32 × mMem) => (some (.int r9.1), r9.2))) 5 0 0 41 [] [] M (p12_ahead_J41 M) := by
  unfold p12_ahead_J41
  refine g_iconst (v := 0) B dX12_ahead_41 (by decide) ?_
  exact g_ireturn B hr rfl (by decide) (by decide) rfl dX12_ahead_42
set_option maxRecDepth 20000 in
set_option maxHeartbeats 2000000 in
theorem g12_ahead_L50 {X : gX} {p : Program} {l : Launch} {e : Env} {s : State} {m : MethodId} {args : Array Value} {below : List Frame} {meth : Method} {c : Code} (B : gB X p (rm12_ahead) s m args meth c RX12 cX12_ahead 5 (rm12_ahead)) (hS9 : gS X s) (hr : meth.sig.returnType = some .int) : ∀ (n : Nat) (a0 : Nat) (x1 : Int32) (x2 : Int32) (x3 : Int32) (x4 : Int32) (M : mMem), GG X p l e (rm12_ahead) s m args below meth c (gP X below args s 0 0 (fun r9 : (Int32 × mMem) => (some (.int r9.1), r9.2))) 5 0 0 50 [(0, .ref a0), (1, .int x1), (2, .int x2), (3, .int x3), (4, .int x4)] [] M (p12_ahead_L50 n a0 x1 x2 x3 x4 M) := by
  intro n
  induction n with
  | zero => intro a0 x1 x2 x3 x4 M; exact g_none
  | succ n ih =>
    intro a0 x1 x2 x3 x4 M
    rw [p12_ahead_L50]
    refine g_iload B dX12_ahead_50 4 rfl ?_
    refine g_iload_n B dX12_ahead_52 2 rfl ?_
    refine g_icmp_ge B 67 dX12_ahead_53 (by decide) ?_ ?_
    · refine g_aload_n B dX12_ahead_56 0 rfl ?_
      refine g_iload_n B dX12_ahead_57 3 rfl ?_
      refine g_callV_vw [.int x3] (ci := 11) (T0 := TX12) (N := 27) B hS9 mf12_dayOf wd_2111 (gw B wp_103) wd_2109 (by decide) rfl (fun h => (gd_ne h).1) (c12_dayOf X l a0 x3 M) (by decide) (by decide) (by decide) rfl (by decide) dX12_ahead_58 rfl (fun q_3 => ?_)
      refine g_iinc (v := (x4 + 1)) (lv' := [(4, .int (x4 + 1)), (0, .ref a0), (1, .int x1), (2, .int x2), (3, .int x3)]) B dX12_ahead_61 4 rfl rfl (by decide) [0, 1, 2, 3, 4] rfl ?_
      refine g_goto B 50 dX12_ahead_64 (by decide) ?_
      refine g_sub (lv' := [(0, .ref a0), (1, .int x1), (2, .int x2), (3, .int x3), (4, .int (x4 + 1))]) [1, 2, 3, 4, 0] rfl ?_
      exact ih a0 x1 x2 x3 (x4 + 1) q_3
    · refine g_aload_n B dX12_ahead_67 0 rfl ?_
      refine g_iload_n B dX12_ahead_68 1 rfl ?_
      refine g_iconst (v := 0) B dX12_ahead_69 (by decide) ?_
      refine g_callV_ip [.int x1, .int 0] (ci := 11) (T0 := TX12) (N := 27) B hS9 mf12_of wd_1846 (gw B wp_61) wd_1844 (by decide) rfl (fun h => (gd_ne h).1) (c12_of X l a0 x1 0 M) (by decide) (by decide) (by decide) rfl (by decide) dX12_ahead_70 rfl (fun v_1 => ?_)
      refine g_istore (lv' := [(4, .int v_1), (0, .ref a0), (1, .int x1), (2, .int x2), (3, .int x3)]) B dX12_ahead_73 (by decide) [0, 1, 2, 3, 4] rfl ?_
      refine g_aload_n B dX12_ahead_75 1 rfl ?_
      refine g_callV_vw [] (ci := 11) (T0 := TX12) (N := 27) B hS9 mf12_bringsBack wd_2026 (gw B wp_93) wd_2024 (by decide) rfl (fun h => (gd_ne h).1) (c12_bringsBack X l a0 M) (by decide) (by decide) (by decide) rfl (by decide) dX12_ahead_76 rfl (fun q_2 => ?_)
      refine g_iload B dX12_ahead_79 0 rfl ?_
      exact g_ireturn B hr rfl (by decide) (by decide) rfl dX12_ahead_81
set_option maxRecDepth 20000 in
set_option maxHeartbeats 2000000 in
theorem g12_ahead_J34 {X : gX} {p : Program} {l : Launch} {e : Env} {s : State} {m : MethodId} {args : Array Value} {below : List Frame} {meth : Method} {c : Code} (B : gB X p (rm12_ahead) s m args meth c RX12 cX12_ahead 5 (rm12_ahead)) (hS9 : gS X s) (hr : meth.sig.returnType = some .int) (a0 : Nat) (x1 : Int32) (x2 : Int32) (x3 : Int32) (b0 : Nat) (u1 : Int32) (M : mMem) : GG X p l e (rm12_ahead) s m args below meth c (gP X below args s 0 0 (fun r9 : (Int32 × mMem) => (some (.int r9.1), r9.2))) 5 0 0 34 [(0, .ref a0), (1, .int x1), (2, .int x2), (3, .int x3)] [.int u1, .ref b0] M (p12_ahead_J34 a0 x1 x2 x3 b0 u1 M) := by
  unfold p12_ahead_J34
  refine g_iconst (v := 2) B dX12_ahead_34 (by decide) ?_
  refine g_callV_iw [.int u1, .int 2] (ci := 11) (T0 := TX12) (N := 27) B hS9 mf12_throwsIf wd_1932 (gw B wp_78) wd_1930 (by decide) rfl (fun h => (gd_ne h).1) (c12_throwsIf X l b0 u1 2 M) (by decide) (by decide) (by decide) rfl (by decide) dX12_ahead_35 rfl (fun q_1 => ?_)
  refine g_if_eq B 43 dX12_ahead_38 (by decide) ?_ ?_
  · refine g_aload_n B dX12_ahead_43 0 rfl ?_
    refine g_callV_vw [] (ci := 11) (T0 := TX12) (N := 27) B hS9 mf12_keepsAll wd_2014 (gw B wp_90) wd_2012 (by decide) rfl (fun h => (gd_ne h).1) (c12_keepsAll X l a0 q_1.2) (by decide) (by decide) (by decide) rfl (by decide) dX12_ahead_44 rfl (fun q_2 => ?_)
    refine g_iconst (v := 0) B dX12_ahead_47 (by decide) ?_
    refine g_istore (lv' := [(4, .int 0), (0, .ref a0), (1, .int x1), (2, .int x2), (3, .int x3)]) B dX12_ahead_48 (by decide) [0, 1, 2, 3, 4] rfl ?_
    refine g_sub (lv' := [(0, .ref a0), (1, .int x1), (2, .int x2), (3, .int x3), (4, .int 0)]) [1, 2, 3, 4, 0] rfl ?_
    exact (g12_ahead_L50 B hS9 hr) gF a0 x1 x2 x3 0 q_2
  · refine g_sub (lv' := []) [] rfl ?_
    exact g12_ahead_J41 B hS9 hr q_1.2
set_option maxRecDepth 20000 in
set_option maxHeartbeats 2000000 in
theorem g12_ahead {X : gX} {p : Program} {l : Launch} {e : Env} {s : State} {m : MethodId} {args : Array Value} {below : List Frame} {meth : Method} {c : Code} (B : gB X p (rm12_ahead) s m args meth c RX12 cX12_ahead 5 (rm12_ahead)) (hS9 : gS X s) (hr : meth.sig.returnType = some .int) (a0 : Nat) (x1 : Int32) (x2 : Int32) (x3 : Int32) (M : mMem) : GG X p l e (rm12_ahead) s m args below meth c (gP X below args s 0 0 (fun r9 : (Int32 × mMem) => (some (.int r9.1), r9.2))) 5 0 0 0 [(0, .ref a0), (1, .int x1), (2, .int x2), (3, .int x3)] [] M (p12_ahead a0 x1 x2 x3 M) := by
  unfold p12_ahead
  refine g_gd ?_
  refine g_aload_n B dX12_ahead_0 0 rfl ?_
  refine g_iconst (v := 0) B dX12_ahead_1 (by decide) ?_
  refine g_putI (ci := 11) (T0 := TX12) (N := 27) B (by decide) rfl in_11 tyX12 tyX12_ok nmX12 (k := 0) (by decide) wd_1641 (fun _ h => h) rfl rfl (ty := .int) (by decide +kernel) rfl rfl dX12_ahead_2 (fun M_1 => ?_)
  refine g_aload_n B dX12_ahead_5 0 rfl ?_
  refine g_aload_n B dX12_ahead_6 0 rfl ?_
  refine g_iload_n B dX12_ahead_7 1 rfl ?_
  refine g_callV_ip [.int x1] (ci := 11) (T0 := TX12) (N := 27) B hS9 mf12_nobody wd_1944 (gw B wp_79) wd_1942 (by decide) rfl (fun h => (gd_ne h).1) (c12_nobody X l a0 x1 M_1) (by decide) (by decide) (by decide) rfl (Nat.le_of_ble_eq_true rfl) dX12_ahead_8 rfl (fun v_2 => ?_)
  refine g_iconst (v := 1) B dX12_ahead_11 (by decide) ?_
  refine g_callV_iw [.int v_2, .int 1] (ci := 11) (T0 := TX12) (N := 27) B hS9 mf12_throwsIf wd_1932 (gw B wp_78) wd_1930 (by decide) rfl (fun h => (gd_ne h).1) (c12_throwsIf X l a0 v_2 1 M_1) (by decide) (by decide) (by decide) rfl (by decide) dX12_ahead_12 rfl (fun q_3 => ?_)
  refine g_if_ne B 41 dX12_ahead_15 (by decide) ?_ ?_
  · refine g_aload_n B dX12_ahead_18 0 rfl ?_
    refine g_iload_n B dX12_ahead_19 2 rfl ?_
    refine g_iconst (v := 0) B dX12_ahead_20 (by decide) ?_
    refine g_bipush (v := 100) B dX12_ahead_21 (by decide) ?_
    refine g_callS_ip [.int x2, .int 0, .int 100] B hS9 mf12_in wd_1947 wd_1946 (c12_in X l x2 0 100 q_3.2) (by decide) (by decide) (by decide) rfl (Nat.le_of_ble_eq_true rfl) dX12_ahead_23 rfl (fun v_4 => ?_)
    refine g_if_ne B 33 dX12_ahead_26 (by decide) ?_ ?_
    · refine g_iconst (v := 1) B dX12_ahead_29 (by decide) ?_
      refine g_goto B 34 dX12_ahead_30 (by decide) ?_
      refine g_sub (lv' := [(0, .ref a0), (1, .int x1), (2, .int x2), (3, .int x3)]) [0, 1, 2, 3] rfl ?_
      exact g12_ahead_J34 B hS9 hr a0 x1 x2 x3 a0 1 q_3.2
    · refine g_iconst (v := 0) B dX12_ahead_33 (by decide) ?_
      refine g_sub (lv' := [(0, .ref a0), (1, .int x1), (2, .int x2), (3, .int x3)]) [0, 1, 2, 3] rfl ?_
      exact g12_ahead_J34 B hS9 hr a0 x1 x2 x3 a0 0 q_3.2
  · refine g_sub (lv' := []) [] rfl ?_
    exact g12_ahead_J41 B hS9 hr q_3.2
theorem c12_ahead (X : gX) (l : Launch) (a0 : Nat) (x1 : Int32) (x2 : Int32) (x3 : Int32) (M : mMem) : Con X l yX12_ahead cX12_ahead 5 (some .int) rm12_ahead (fun r9 : (Int32 × mMem) => (some (.int r9.1), r9.2)) [.ref a0, .int x1, .int x2, .int x3] M (p12_ahead a0 x1 x2 x3 M) := g_con (own := RX12) (by decide +kernel) rfl (Nat.le_of_ble_eq_true rfl) (fun p e s m args below meth c B hS9 hr hn => g12_ahead B hS9 hr a0 x1 x2 x3 M)
theorem mf12_mild : gMF yX12_mild cX12_mild 6 (some .int) 1 := ⟨wd_2132, wd_13, ⟨by decide, by decide⟩, by decide +kernel⟩
set_option maxRecDepth 20000 in
set_option maxHeartbeats 2000000 in
theorem g12_mild_J119 {X : gX} {p : Program} {l : Launch} {e : Env} {s : State} {m : MethodId} {args : Array Value} {below : List Frame} {meth : Method} {c : Code} (B : gB X p (rm12_mild) s m args meth c RX12 cX12_mild 6 (rm12_mild)) (hS9 : gS X s) (hr : meth.sig.returnType = some .int) (x2 : Int32) (M : mMem) : GG X p l e (rm12_mild) s m args below meth c (gP X below args s 0 0 (fun r9 : (Int32 × mMem) => (some (.int r9.1), r9.2))) 6 0 0 119 [(2, .int x2)] [] M (p12_mild_J119 x2 M) := by
  unfold p12_mild_J119
  refine g_iload_n B dX12_mild_119 0 rfl ?_
  exact g_ireturn B hr rfl (by decide) (by decide) rfl dX12_mild_120
set_option maxRecDepth 20000 in
set_option maxHeartbeats 2000000 in
theorem g12_mild_J90 {X : gX} {p : Program} {l : Launch} {e : Env} {s : State} {m : MethodId} {args : Array Value} {below : List Frame} {meth : Method} {c : Code} (B : gB X p (rm12_mild) s m args meth c RX12 cX12_mild 6 (rm12_mild)) (hS9 : gS X s) (hr : meth.sig.returnType = some .int) (rec62 : Nat → Int32 → Int32 → Int32 → Int32 → mMem → Option (Int32 × mMem)) (hrec62 : ∀ (a0 : Nat) (x1 : Int32) (x3 : Int32) (x4 : Int32) (x5 : Int32) (M : mMem), GG X p l e (rm12_mild) s m args below meth c (gP X below args s 0 0 (fun r9 : (Int32 × mMem) => (some (.int r9.1), r9.2))) 6 0 0 62 [(0, .ref a0), (1, .int x1), (3, .int x3), (4, .int x4), (5, .int x5)] [] M (rec62 a0 x1 x3 x4 x5 M)) (a0 : Nat) (x1 : Int32) (x3 : Int32) (x5 : Int32) (u0 : Int32) (M : mMem) : GG X p l e (rm12_mild) s m args below meth c (gP X below args s 0 0 (fun r9 : (Int32 × mMem) => (some (.int r9.1), r9.2))) 6 0 0 90 [(0, .ref a0), (1, .int x1), (3, .int x3), (5, .int x5)] [.int u0] M (p12_mild_J90 rec62 a0 x1 x3 x5 u0 M) := by
  unfold p12_mild_J90
  refine g_istore (lv' := [(4, .int u0), (0, .ref a0), (1, .int x1), (3, .int x3), (5, .int x5)]) B dX12_mild_90 (by decide) [0, 1, 2, 3, 4] rfl ?_
  refine g_iinc (v := (x5 + 1)) (lv' := [(5, .int (x5 + 1)), (4, .int u0), (0, .ref a0), (1, .int x1), (3, .int x3)]) B dX12_mild_92 4 rfl rfl (by decide) [0, 1, 2, 3, 4] rfl ?_
  refine g_goto B 62 dX12_mild_95 (by decide) ?_
  refine g_sub (lv' := [(0, .ref a0), (1, .int x1), (3, .int x3), (4, .int u0), (5, .int (x5 + 1))]) [2, 3, 4, 1, 0] rfl ?_
  exact hrec62 a0 x1 x3 u0 (x5 + 1) M
set_option maxRecDepth 20000 in
set_option maxHeartbeats 2000000 in
theorem g12_mild_L62 {X : gX} {p : Program} {l : Launch} {e : Env} {s : State} {m : MethodId} {args : Array Value} {below : List Frame} {meth : Method} {c : Code} (B : gB X p (rm12_mild) s m args meth c RX12 cX12_mild 6 (rm12_mild)) (hS9 : gS X s) (hr : meth.sig.returnType = some .int) (k98 : Nat → Int32 → Int32 → Int32 → mMem → Option (Int32 × mMem)) (hk98 : ∀ (a0 : Nat) (x1 : Int32) (x3 : Int32) (x4 : Int32) (M : mMem), GG X p l e (rm12_mild) s m args below meth c (gP X below args s 0 0 (fun r9 : (Int32 × mMem) => (some (.int r9.1), r9.2))) 6 0 0 98 [(0, .ref a0), (1, .int x1), (3, .int x3), (4, .int x4)] [] M (k98 a0 x1 x3 x4 M)) : ∀ (n : Nat) (a0 : Nat) (x1 : Int32) (x3 : Int32) (x4 : Int32) (x5 : Int32) (M : mMem), GG X p l e (rm12_mild) s m args below meth c (gP X below args s 0 0 (fun r9 : (Int32 × mMem) => (some (.int r9.1), r9.2))) 6 0 0 62 [(0, .ref a0), (1, .int x1), (3, .int x3), (4, .int x4), (5, .int x5)] [] M (p12_mild_L62 k98 n a0 x1 x3 x4 x5 M) := by
  intro n
  induction n with
  | zero => intro a0 x1 x3 x4 x5 M; exact g_none
  | succ n ih =>
    intro a0 x1 x3 x4 x5 M
    rw [p12_mild_L62]
    refine g_iload B dX12_mild_62 4 rfl ?_
    refine g_iload_n B dX12_mild_64 1 rfl ?_
    refine g_icmp_ge B 98 dX12_mild_65 (by decide) ?_ ?_
    · refine g_iload B dX12_mild_68 3 rfl ?_
      refine g_if_eq B 98 dX12_mild_70 (by decide) ?_ ?_
      · refine g_sub (lv' := [(0, .ref a0), (1, .int x1), (3, .int x3), (4, .int x4)]) [0, 1, 2, 3] rfl ?_
        exact hk98 a0 x1 x3 x4 M
      · refine g_aload_n B dX12_mild_73 0 rfl ?_
        refine g_iconst (v := 0) B dX12_mild_74 (by decide) ?_
        refine g_callV_vw [.int 0] (ci := 11) (T0 := TX12) (N := 27) B hS9 mf12_dayOf wd_2111 (gw B wp_103) wd_2109 (by decide) rfl (fun h => (gd_ne h).1) (c12_dayOf X l a0 0 M) (by decide) (by decide) (by decide) rfl (by decide) dX12_mild_75 rfl (fun q_1 => ?_)
        refine g_aload_n B dX12_mild_78 0 rfl ?_
        refine g_callV_ip [] (ci := 11) (T0 := TX12) (N := 27) B hS9 mf12_cribOnes wd_2107 (gw B wp_102) wd_2105 (by decide) rfl (fun h => (gd_ne h).1) (c12_cribOnes X l a0 q_1) (by decide) (by decide) (by decide) rfl (by decide) dX12_mild_79 rfl (fun v_2 => ?_)
        refine g_if_ne B 89 dX12_mild_82 (by decide) ?_ ?_
        · refine g_iconst (v := 1) B dX12_mild_85 (by decide) ?_
          refine g_goto B 90 dX12_mild_86 (by decide) ?_
          refine g_sub (lv' := [(0, .ref a0), (1, .int x1), (3, .int x3), (5, .int x5)]) [0, 1, 2, 4] rfl ?_
          exact g12_mild_J90 B hS9 hr (p12_mild_L62 k98 n) ih a0 x1 x3 x5 1 q_1
        · refine g_iconst (v := 0) B dX12_mild_89 (by decide) ?_
          refine g_sub (lv' := [(0, .ref a0), (1, .int x1), (3, .int x3), (5, .int x5)]) [0, 1, 2, 4] rfl ?_
          exact g12_mild_J90 B hS9 hr (p12_mild_L62 k98 n) ih a0 x1 x3 x5 0 q_1
    · refine g_sub (lv' := [(0, .ref a0), (1, .int x1), (3, .int x3), (4, .int x4)]) [0, 1, 2, 3] rfl ?_
      exact hk98 a0 x1 x3 x4 M
set_option maxRecDepth 20000 in
set_option maxHeartbeats 2000000 in
theorem g12_mild_J112 {X : gX} {p : Program} {l : Launch} {e : Env} {s : State} {m : MethodId} {args : Array Value} {below : List Frame} {meth : Method} {c : Code} (B : gB X p (rm12_mild) s m args meth c RX12 cX12_mild 6 (rm12_mild)) (hS9 : gS X s) (hr : meth.sig.returnType = some .int) (rec39 : Nat → Int32 → Int32 → Int32 → mMem → Option (Int32 × mMem)) (hrec39 : ∀ (a0 : Nat) (x1 : Int32) (x2 : Int32) (x3 : Int32) (M : mMem), GG X p l e (rm12_mild) s m args below meth c (gP X below args s 0 0 (fun r9 : (Int32 × mMem) => (some (.int r9.1), r9.2))) 6 0 0 39 [(0, .ref a0), (1, .int x1), (2, .int x2), (3, .int x3)] [] M (rec39 a0 x1 x2 x3 M)) (a0 : Nat) (x1 : Int32) (x3 : Int32) (u0 : Int32) (M : mMem) : GG X p l e (rm12_mild) s m args below meth c (gP X below args s 0 0 (fun r9 : (Int32 × mMem) => (some (.int r9.1), r9.2))) 6 0 0 112 [(0, .ref a0), (1, .int x1), (3, .int x3)] [.int u0] M (p12_mild_J112 rec39 a0 x1 x3 u0 M) := by
  unfold p12_mild_J112
  refine g_istore_n (lv' := [(2, .int u0), (0, .ref a0), (1, .int x1), (3, .int x3)]) B dX12_mild_112 (by decide) [0, 1, 2, 3] rfl ?_
  refine g_iinc (v := (x3 + (-1))) (lv' := [(3, .int (x3 + (-1))), (2, .int u0), (0, .ref a0), (1, .int x1)]) B dX12_mild_113 3 rfl rfl (by decide) [0, 1, 2, 3] rfl ?_
  refine g_goto B 39 dX12_mild_116 (by decide) ?_
  refine g_sub (lv' := [(0, .ref a0), (1, .int x1), (2, .int u0), (3, .int (x3 + (-1)))]) [2, 3, 1, 0] rfl ?_
  exact hrec39 a0 x1 u0 (x3 + (-1)) M
set_option maxRecDepth 20000 in
set_option maxHeartbeats 2000000 in
theorem g12_mild_J98 {X : gX} {p : Program} {l : Launch} {e : Env} {s : State} {m : MethodId} {args : Array Value} {below : List Frame} {meth : Method} {c : Code} (B : gB X p (rm12_mild) s m args meth c RX12 cX12_mild 6 (rm12_mild)) (hS9 : gS X s) (hr : meth.sig.returnType = some .int) (rec39 : Nat → Int32 → Int32 → Int32 → mMem → Option (Int32 × mMem)) (hrec39 : ∀ (a0 : Nat) (x1 : Int32) (x2 : Int32) (x3 : Int32) (M : mMem), GG X p l e (rm12_mild) s m args below meth c (gP X below args s 0 0 (fun r9 : (Int32 × mMem) => (some (.int r9.1), r9.2))) 6 0 0 39 [(0, .ref a0), (1, .int x1), (2, .int x2), (3, .int x3)] [] M (rec39 a0 x1 x2 x3 M)) (a0 : Nat) (x1 : Int32) (x3 : Int32) (x4 : Int32) (M : mMem) : GG X p l e (rm12_mild) s m args below meth c (gP X below args s 0 0 (fun r9 : (Int32 × mMem) => (some (.int r9.1), r9.2))) 6 0 0 98 [(0, .ref a0), (1, .int x1), (3, .int x3), (4, .int x4)] [] M (p12_mild_J98 rec39 a0 x1 x3 x4 M) := by
  unfold p12_mild_J98
  refine g_aload_n B dX12_mild_98 0 rfl ?_
  refine g_callV_vw [] (ci := 11) (T0 := TX12) (N := 27) B hS9 mf12_bringsBack wd_2026 (gw B wp_93) wd_2024 (by decide) rfl (fun h => (gd_ne h).1) (c12_bringsBack X l a0 M) (by decide) (by decide) (by decide) rfl (by decide) dX12_mild_99 rfl (fun q_1 => ?_)
  refine g_iload B dX12_mild_102 3 rfl ?_
  refine g_if_eq B 111 dX12_mild_104 (by decide) ?_ ?_
  · refine g_iconst (v := (-1)) B dX12_mild_111 (by decide) ?_
    refine g_sub (lv' := [(0, .ref a0), (1, .int x1), (3, .int x3)]) [0, 1, 2] rfl ?_
    exact g12_mild_J112 B hS9 hr rec39 hrec39 a0 x1 x3 (-1) q_1
  · refine g_iload_n B dX12_mild_107 2 rfl ?_
    refine g_goto B 112 dX12_mild_108 (by decide) ?_
    refine g_sub (lv' := [(0, .ref a0), (1, .int x1), (3, .int x3)]) [0, 1, 2] rfl ?_
    exact g12_mild_J112 B hS9 hr rec39 hrec39 a0 x1 x3 x3 q_1
set_option maxRecDepth 20000 in
set_option maxHeartbeats 2000000 in
theorem g12_mild_L39 {X : gX} {p : Program} {l : Launch} {e : Env} {s : State} {m : MethodId} {args : Array Value} {below : List Frame} {meth : Method} {c : Code} (B : gB X p (rm12_mild) s m args meth c RX12 cX12_mild 6 (rm12_mild)) (hS9 : gS X s) (hr : meth.sig.returnType = some .int) : ∀ (n : Nat) (a0 : Nat) (x1 : Int32) (x2 : Int32) (x3 : Int32) (M : mMem), GG X p l e (rm12_mild) s m args below meth c (gP X below args s 0 0 (fun r9 : (Int32 × mMem) => (some (.int r9.1), r9.2))) 6 0 0 39 [(0, .ref a0), (1, .int x1), (2, .int x2), (3, .int x3)] [] M (p12_mild_L39 n a0 x1 x2 x3 M) := by
  intro n
  induction n with
  | zero => intro a0 x1 x2 x3 M; exact g_none
  | succ n ih =>
    intro a0 x1 x2 x3 M
    rw [p12_mild_L39]
    refine g_iload_n B dX12_mild_39 3 rfl ?_
    refine g_if_lt B 119 dX12_mild_40 (by decide) ?_ ?_
    · refine g_sub (lv' := [(2, .int x2)]) [2] rfl ?_
      exact g12_mild_J119 B hS9 hr x2 M
    · refine g_iload_n B dX12_mild_43 2 rfl ?_
      refine g_iconst (v := (-1)) B dX12_mild_44 (by decide) ?_
      refine g_icmp_ne B 119 dX12_mild_45 (by decide) ?_ ?_
      · refine g_aload_n B dX12_mild_48 0 rfl ?_
        refine g_getR (ci := 11) (T0 := TX12) (N := 27) B (by decide) rfl in_11 (k := 1) (by decide) rfl wd_1642 (fun _ h => h) dX12_mild_49 (fun v_1 => ?_)
        refine g_bipush (v := 6) B dX12_mild_52 (by decide) ?_
        refine g_iload_n B dX12_mild_54 3 rfl ?_
        refine g_iastore B dX12_mild_55 (fun M_2 => ?_)
        refine g_iconst (v := 1) B dX12_mild_56 (by decide) ?_
        refine g_istore (lv' := [(4, .int 1), (0, .ref a0), (1, .int x1), (2, .int x2), (3, .int x3)]) B dX12_mild_57 (by decide) [0, 1, 2, 3, 4] rfl ?_
        refine g_iconst (v := 0) B dX12_mild_59 (by decide) ?_
        refine g_istore (lv' := [(5, .int 0), (4, .int 1), (0, .ref a0), (1, .int x1), (2, .int x2), (3, .int x3)]) B dX12_mild_60 (by decide) [0, 1, 2, 3, 4, 5] rfl ?_
        refine g_sub (lv' := [(0, .ref a0), (1, .int x1), (3, .int x3), (4, .int 1), (5, .int 0)]) [2, 3, 5, 1, 0] rfl ?_
        exact (g12_mild_L62 B hS9 hr (p12_mild_J98 (p12_mild_L39 n)) (fun e0 e1 e2 e3 e4 => g12_mild_J98 B hS9 hr (p12_mild_L39 n) ih e0 e1 e2 e3 e4)) gF a0 x1 x3 1 0 M_2
      · refine g_sub (lv' := [(2, .int x2)]) [2] rfl ?_
        exact g12_mild_J119 B hS9 hr x2 M
set_option maxRecDepth 20000 in
set_option maxHeartbeats 2000000 in
theorem g12_mild_J21 {X : gX} {p : Program} {l : Launch} {e : Env} {s : State} {m : MethodId} {args : Array Value} {below : List Frame} {meth : Method} {c : Code} (B : gB X p (rm12_mild) s m args meth c RX12 cX12_mild 6 (rm12_mild)) (hS9 : gS X s) (hr : meth.sig.returnType = some .int) (a0 : Nat) (x1 : Int32) (b0 : Nat) (u1 : Int32) (M : mMem) : GG X p l e (rm12_mild) s m args below meth c (gP X below args s 0 0 (fun r9 : (Int32 × mMem) => (some (.int r9.1), r9.2))) 6 0 0 21 [(0, .ref a0), (1, .int x1)] [.int u1, .ref b0] M (p12_mild_J21 a0 x1 b0 u1 M) := by
  unfold p12_mild_J21
  refine g_iconst (v := 1) B dX12_mild_21 (by decide) ?_
  refine g_callV_iw [.int u1, .int 1] (ci := 11) (T0 := TX12) (N := 27) B hS9 mf12_throwsIf wd_1932 (gw B wp_78) wd_1930 (by decide) rfl (fun h => (gd_ne h).1) (c12_throwsIf X l b0 u1 1 M) (by decide) (by decide) (by decide) rfl (by decide) dX12_mild_22 rfl (fun q_1 => ?_)
  refine g_if_eq B 30 dX12_mild_25 (by decide) ?_ ?_
  · refine g_iconst (v := (-1)) B dX12_mild_30 (by decide) ?_
    refine g_istore_n (lv' := [(2, .int (-1)), (0, .ref a0), (1, .int x1)]) B dX12_mild_31 (by decide) [0, 1, 2] rfl ?_
    refine g_aload_n B dX12_mild_32 1 rfl ?_
    refine g_callV_vw [] (ci := 11) (T0 := TX12) (N := 27) B hS9 mf12_keepsAll wd_2014 (gw B wp_90) wd_2012 (by decide) rfl (fun h => (gd_ne h).1) (c12_keepsAll X l a0 q_1.2) (by decide) (by decide) (by decide) rfl (by decide) dX12_mild_33 rfl (fun q_2 => ?_)
    refine g_bipush (v := 20) B dX12_mild_36 (by decide) ?_
    refine g_istore_n (lv' := [(3, .int 20), (2, .int (-1)), (0, .ref a0), (1, .int x1)]) B dX12_mild_38 (by decide) [0, 1, 2, 3] rfl ?_
    refine g_sub (lv' := [(0, .ref a0), (1, .int x1), (2, .int (-1)), (3, .int 20)]) [2, 3, 1, 0] rfl ?_
    exact (g12_mild_L39 B hS9 hr) gF a0 x1 (-1) 20 q_2
  · refine g_iconst (v := 0) B dX12_mild_28 (by decide) ?_
    exact g_ireturn B hr rfl (by decide) (by decide) rfl dX12_mild_29
set_option maxRecDepth 20000 in
set_option maxHeartbeats 2000000 in
theorem g12_mild {X : gX} {p : Program} {l : Launch} {e : Env} {s : State} {m : MethodId} {args : Array Value} {below : List Frame} {meth : Method} {c : Code} (B : gB X p (rm12_mild) s m args meth c RX12 cX12_mild 6 (rm12_mild)) (hS9 : gS X s) (hr : meth.sig.returnType = some .int) (a0 : Nat) (x1 : Int32) (M : mMem) : GG X p l e (rm12_mild) s m args below meth c (gP X below args s 0 0 (fun r9 : (Int32 × mMem) => (some (.int r9.1), r9.2))) 6 0 0 0 [(0, .ref a0), (1, .int x1)] [] M (p12_mild a0 x1 M) := by
  unfold p12_mild
  refine g_gd ?_
  refine g_aload_n B dX12_mild_0 0 rfl ?_
  refine g_iconst (v := 0) B dX12_mild_1 (by decide) ?_
  refine g_putI (ci := 11) (T0 := TX12) (N := 27) B (by decide) rfl in_11 tyX12 tyX12_ok nmX12 (k := 0) (by decide) wd_1641 (fun _ h => h) rfl rfl (ty := .int) (by decide +kernel) rfl rfl dX12_mild_2 (fun M_1 => ?_)
  refine g_aload_n B dX12_mild_5 0 rfl ?_
  refine g_iload_n B dX12_mild_6 1 rfl ?_
  refine g_iconst (v := 0) B dX12_mild_7 (by decide) ?_
  refine g_bipush (v := 60) B dX12_mild_8 (by decide) ?_
  refine g_callS_ip [.int x1, .int 0, .int 60] B hS9 mf12_in wd_1947 wd_1946 (c12_in X l x1 0 60 M_1) (by decide) (by decide) (by decide) rfl (Nat.le_of_ble_eq_true rfl) dX12_mild_10 rfl (fun v_2 => ?_)
  refine g_if_ne B 20 dX12_mild_13 (by decide) ?_ ?_
  · refine g_iconst (v := 1) B dX12_mild_16 (by decide) ?_
    refine g_goto B 21 dX12_mild_17 (by decide) ?_
    refine g_sub (lv' := [(0, .ref a0), (1, .int x1)]) [0, 1] rfl ?_
    exact g12_mild_J21 B hS9 hr a0 x1 a0 1 M_1
  · refine g_iconst (v := 0) B dX12_mild_20 (by decide) ?_
    refine g_sub (lv' := [(0, .ref a0), (1, .int x1)]) [0, 1] rfl ?_
    exact g12_mild_J21 B hS9 hr a0 x1 a0 0 M_1
theorem c12_mild (X : gX) (l : Launch) (a0 : Nat) (x1 : Int32) (M : mMem) : Con X l yX12_mild cX12_mild 6 (some .int) rm12_mild (fun r9 : (Int32 × mMem) => (some (.int r9.1), r9.2)) [.ref a0, .int x1] M (p12_mild a0 x1 M) := g_con (own := RX12) (by decide +kernel) rfl (Nat.le_of_ble_eq_true rfl) (fun p e s m args below meth c B hS9 hr hn => g12_mild B hS9 hr a0 x1 M)
theorem mf12_finds : gMF yX12_finds cX12_finds 4 (none) 3 := ⟨wd_2152, wd_13, ⟨by decide, by decide⟩, by decide +kernel⟩
set_option maxRecDepth 20000 in
set_option maxHeartbeats 2000000 in
theorem g12_finds_J73 {X : gX} {p : Program} {l : Launch} {e : Env} {s : State} {m : MethodId} {args : Array Value} {below : List Frame} {meth : Method} {c : Code} (B : gB X p (rm12_finds) s m args meth c RX12 cX12_finds 4 (rm12_finds)) (hS9 : gS X s) (hr : meth.sig.returnType = none) (M : mMem) : GG X p l e (rm12_finds) s m args below meth c (gP X below args s 0 0 (fun M9 : mMem => (none, M9))) 4 0 0 73 [] [] M (p12_finds_J73 M) := by
  unfold p12_finds_J73
  exact g_vreturn B hr (by decide) (by decide) rfl dX12_finds_73
set_option maxRecDepth 20000 in
set_option maxHeartbeats 2000000 in
theorem g12_finds {X : gX} {p : Program} {l : Launch} {e : Env} {s : State} {m : MethodId} {args : Array Value} {below : List Frame} {meth : Method} {c : Code} (B : gB X p (rm12_finds) s m args meth c RX12 cX12_finds 4 (rm12_finds)) (hS9 : gS X s) (hr : meth.sig.returnType = none) (a0 : Nat) (x1 : Int32) (x2 : Int32) (x3 : Int32) (M : mMem) : GG X p l e (rm12_finds) s m args below meth c (gP X below args s 0 0 (fun M9 : mMem => (none, M9))) 4 0 0 0 [(0, .ref a0), (1, .int x1), (2, .int x2), (3, .int x3)] [] M (p12_finds a0 x1 x2 x3 M) := by
  unfold p12_finds
  refine g_gd ?_
  refine g_aload_n B dX12_finds_0 0 rfl ?_
  refine g_getR (ci := 11) (T0 := TX12) (N := 27) B (by decide) rfl in_11 (k := 18) (by decide) rfl wd_1659 (fun _ h => h) dX12_finds_1 (fun v_1 => ?_)
  refine g_iload_n B dX12_finds_4 1 rfl ?_
  refine g_iaload B dX12_finds_5 (fun v_2 => ?_)
  refine g_iconst (v := (-1)) B dX12_finds_6 (by decide) ?_
  refine g_icmp_ne B 47 dX12_finds_7 (by decide) ?_ ?_
  · refine g_aload_n B dX12_finds_10 0 rfl ?_
    refine g_getR (ci := 11) (T0 := TX12) (N := 27) B (by decide) rfl in_11 (k := 18) (by decide) rfl wd_1659 (fun _ h => h) dX12_finds_11 (fun v_9 => ?_)
    refine g_iload_n B dX12_finds_14 1 rfl ?_
    refine g_iload_n B dX12_finds_15 2 rfl ?_
    refine g_iastore B dX12_finds_16 (fun M_10 => ?_)
    refine g_aload_n B dX12_finds_17 0 rfl ?_
    refine g_getR (ci := 11) (T0 := TX12) (N := 27) B (by decide) rfl in_11 (k := 19) (by decide) rfl wd_1660 (fun _ h => h) dX12_finds_18 (fun v_11 => ?_)
    refine g_iload_n B dX12_finds_21 1 rfl ?_
    refine g_iload_n B dX12_finds_22 3 rfl ?_
    refine g_iastore B dX12_finds_23 (fun M_12 => ?_)
    refine g_aload_n B dX12_finds_24 0 rfl ?_
    refine g_getR (ci := 11) (T0 := TX12) (N := 27) B (by decide) rfl in_11 (k := 20) (by decide) rfl wd_1661 (fun _ h => h) dX12_finds_25 (fun v_13 => ?_)
    refine g_aload_n B dX12_finds_28 0 rfl ?_
    refine g_getI (ci := 11) (T0 := TX12) (N := 27) B (by decide) rfl in_11 (k := 21) (by decide) rfl wd_1662 (fun _ h => h) dX12_finds_29 (fun v_14 => ?_)
    refine g_iload_n B dX12_finds_32 1 rfl ?_
    refine g_iastore B dX12_finds_33 (fun M_15 => ?_)
    refine g_aload_n B dX12_finds_34 0 rfl ?_
    refine g_dup B dX12_finds_35 rfl ?_
    refine g_getI (ci := 11) (T0 := TX12) (N := 27) B (by decide) rfl in_11 (k := 21) (by decide) rfl wd_1662 (fun _ h => h) dX12_finds_36 (fun v_16 => ?_)
    refine g_iconst (v := 1) B dX12_finds_39 (by decide) ?_
    refine g_iadd B dX12_finds_40 ?_
    refine g_putI (ci := 11) (T0 := TX12) (N := 27) B (by decide) rfl in_11 tyX12 tyX12_ok nmX12 (k := 21) (by decide) wd_1662 (fun _ h => h) rfl rfl (ty := .int) (by decide +kernel) rfl rfl dX12_finds_41 (fun M_17 => ?_)
    refine g_goto B 73 dX12_finds_44 (by decide) ?_
    refine g_sub (lv' := []) [] rfl ?_
    exact g12_finds_J73 B hS9 hr M_17
  · refine g_aload_n B dX12_finds_47 0 rfl ?_
    refine g_getR (ci := 11) (T0 := TX12) (N := 27) B (by decide) rfl in_11 (k := 18) (by decide) rfl wd_1659 (fun _ h => h) dX12_finds_48 (fun v_3 => ?_)
    refine g_iload_n B dX12_finds_51 1 rfl ?_
    refine g_iaload B dX12_finds_52 (fun v_4 => ?_)
    refine g_iload_n B dX12_finds_53 2 rfl ?_
    refine g_icmp_ne B 73 dX12_finds_54 (by decide) ?_ ?_
    · refine g_aload_n B dX12_finds_57 0 rfl ?_
      refine g_getR (ci := 11) (T0 := TX12) (N := 27) B (by decide) rfl in_11 (k := 19) (by decide) rfl wd_1660 (fun _ h => h) dX12_finds_58 (fun v_5 => ?_)
      refine g_iload_n B dX12_finds_61 1 rfl ?_
      refine g_aload_n B dX12_finds_62 0 rfl ?_
      refine g_getR (ci := 11) (T0 := TX12) (N := 27) B (by decide) rfl in_11 (k := 19) (by decide) rfl wd_1660 (fun _ h => h) dX12_finds_63 (fun v_6 => ?_)
      refine g_iload_n B dX12_finds_66 1 rfl ?_
      refine g_iaload B dX12_finds_67 (fun v_7 => ?_)
      refine g_iload_n B dX12_finds_68 3 rfl ?_
      refine g_min B wd_2007 wd_538 wd_15 wd_539 (by decide) (Nat.le_of_ble_eq_true rfl) (by decide) dX12_finds_69 ?_
      refine g_iastore B dX12_finds_72 (fun M_8 => ?_)
      refine g_sub (lv' := []) [] rfl ?_
      exact g12_finds_J73 B hS9 hr M_8
    · refine g_sub (lv' := []) [] rfl ?_
      exact g12_finds_J73 B hS9 hr M
theorem c12_finds (X : gX) (l : Launch) (a0 : Nat) (x1 : Int32) (x2 : Int32) (x3 : Int32) (M : mMem) : Con X l yX12_finds cX12_finds 4 (none) rm12_finds (fun M9 : mMem => (none, M9)) [.ref a0, .int x1, .int x2, .int x3] M (p12_finds a0 x1 x2 x3 M) := g_con (own := RX12) (by decide +kernel) rfl (Nat.le_of_ble_eq_true rfl) (fun p e s m args below meth c B hS9 hr hn => g12_finds B hS9 hr a0 x1 x2 x3 M)
theorem mf12_fromAge : gMF yX12_fromAge cX12_fromAge 7 (some .int) 3 := ⟨wd_2156, wd_13, ⟨by decide, by decide⟩, by decide +kernel⟩
set_option maxRecDepth 20000 in
set_option maxHeartbeats 2000000 in
theorem g12_fromAge_J44 {X : gX} {p : Program} {l : Launch} {e : Env} {s : State} {m : MethodId} {args : Array Value} {below : List Frame} {meth : Method} {c : Code} (B : gB X p (rm12_fromAge) s m args meth c RX12 cX12_fromAge 7 (rm12_fromAge)) (hS9 : gS X s) (hr : meth.sig.returnType = some .int) (a0 : Nat) (x1 : Int32) (x4 : Int32) (x5 : Int32) (b0 : Nat) (u1 : Int32) (u2 : Int32) (u3 : Int32) (M : mMem) : GG X p l e (rm12_fromAge) s m args below meth c (gP X below args s 0 0 (fun r9 : (Int32 × mMem) => (some (.int r9.1), r9.2))) 7 0 0 44 [(0, .ref a0), (1, .int x1), (4, .int x4), (5, .int x5)] [.int u3, .int u2, .int u1, .ref b0] M (p12_fromAge_J44 a0 x1 x4 x5 b0 u1 u2 u3 M) := by
  unfold p12_fromAge_J44
  refine g_callV_vw [.int u1, .int u2, .int u3] (ci := 11) (T0 := TX12) (N := 27) B hS9 mf12_hears wd_2018 (gw B wp_91) wd_2016 (by decide) rfl (fun h => (gd_ne h).1) (c12_hears X l b0 u1 u2 u3 M) (by decide) (by decide) (by decide) rfl (by decide) dX12_fromAge_44 rfl (fun q_1 => ?_)
  refine g_aload_n B dX12_fromAge_47 0 rfl ?_
  refine g_iload_n B dX12_fromAge_48 1 rfl ?_
  refine g_iconst (v := 0) B dX12_fromAge_49 (by decide) ?_
  refine g_callV_ip [.int x1, .int 0] (ci := 11) (T0 := TX12) (N := 27) B hS9 mf12_of wd_1846 (gw B wp_61) wd_1844 (by decide) rfl (fun h => (gd_ne h).1) (c12_of X l a0 x1 0 q_1) (by decide) (by decide) (by decide) rfl (by decide) dX12_fromAge_50 rfl (fun v_2 => ?_)
  refine g_istore (lv' := [(6, .int v_2), (0, .ref a0), (1, .int x1), (4, .int x4), (5, .int x5)]) B dX12_fromAge_53 (by decide) [0, 1, 2, 3, 4] rfl ?_
  refine g_aload_n B dX12_fromAge_55 1 rfl ?_
  refine g_getR (ci := 11) (T0 := TX12) (N := 27) B (by decide) rfl in_11 (k := 1) (by decide) rfl wd_1642 (fun _ h => h) dX12_fromAge_56 (fun v_3 => ?_)
  refine g_iload_n B dX12_fromAge_59 2 rfl ?_
  refine g_iconst (v := 0) B dX12_fromAge_60 (by decide) ?_
  refine g_callS_ip [.int x1, .int 0] B hS9 mf12_at wd_1824 wd_1823 (c12_at X l x1 0 q_1) (by decide) (by decide) (by decide) rfl (Nat.le_of_ble_eq_true rfl) dX12_fromAge_61 rfl (fun v_4 => ?_)
  refine g_iload B dX12_fromAge_64 3 rfl ?_
  refine g_iastore B dX12_fromAge_66 (fun M_5 => ?_)
  refine g_aload_n B dX12_fromAge_67 1 rfl ?_
  refine g_getR (ci := 11) (T0 := TX12) (N := 27) B (by decide) rfl in_11 (k := 1) (by decide) rfl wd_1642 (fun _ h => h) dX12_fromAge_68 (fun v_6 => ?_)
  refine g_iload_n B dX12_fromAge_71 2 rfl ?_
  refine g_iconst (v := 1) B dX12_fromAge_72 (by decide) ?_
  refine g_callS_ip [.int x1, .int 1] B hS9 mf12_at wd_1824 wd_1823 (c12_at X l x1 1 M_5) (by decide) (by decide) (by decide) rfl (Nat.le_of_ble_eq_true rfl) dX12_fromAge_73 rfl (fun v_7 => ?_)
  refine g_iload B dX12_fromAge_76 4 rfl ?_
  refine g_iastore B dX12_fromAge_78 (fun M_8 => ?_)
  refine g_iload B dX12_fromAge_79 0 rfl ?_
  exact g_ireturn B hr rfl (by decide) (by decide) rfl dX12_fromAge_81
set_option maxRecDepth 20000 in
set_option maxHeartbeats 2000000 in
theorem g12_fromAge {X : gX} {p : Program} {l : Launch} {e : Env} {s : State} {m : MethodId} {args : Array Value} {below : List Frame} {meth : Method} {c : Code} (B : gB X p (rm12_fromAge) s m args meth c RX12 cX12_fromAge 7 (rm12_fromAge)) (hS9 : gS X s) (hr : meth.sig.returnType = some .int) (a0 : Nat) (x1 : Int32) (x2 : Int32) (x3 : Int32) (M : mMem) : GG X p l e (rm12_fromAge) s m args below meth c (gP X below args s 0 0 (fun r9 : (Int32 × mMem) => (some (.int r9.1), r9.2))) 7 0 0 0 [(0, .ref a0), (1, .int x1), (2, .int x2), (3, .int x3)] [] M (p12_fromAge a0 x1 x2 x3 M) := by
  unfold p12_fromAge
  refine g_gd ?_
  refine g_aload_n B dX12_fromAge_0 0 rfl ?_
  refine g_iload_n B dX12_fromAge_1 1 rfl ?_
  refine g_iconst (v := 0) B dX12_fromAge_2 (by decide) ?_
  refine g_callV_ip [.int x1, .int 0] (ci := 11) (T0 := TX12) (N := 27) B hS9 mf12_of wd_1846 (gw B wp_61) wd_1844 (by decide) rfl (fun h => (gd_ne h).1) (c12_of X l a0 x1 0 M) (by decide) (by decide) (by decide) rfl (by decide) dX12_fromAge_3 rfl (fun v_1 => ?_)
  refine g_istore (lv' := [(4, .int v_1), (0, .ref a0), (1, .int x1), (2, .int x2), (3, .int x3)]) B dX12_fromAge_6 (by decide) [0, 1, 2, 3, 4] rfl ?_
  refine g_aload_n B dX12_fromAge_8 1 rfl ?_
  refine g_iload_n B dX12_fromAge_9 2 rfl ?_
  refine g_iconst (v := 1) B dX12_fromAge_10 (by decide) ?_
  refine g_callV_ip [.int x1, .int 1] (ci := 11) (T0 := TX12) (N := 27) B hS9 mf12_of wd_1846 (gw B wp_61) wd_1844 (by decide) rfl (fun h => (gd_ne h).1) (c12_of X l a0 x1 1 M) (by decide) (by decide) (by decide) rfl (by decide) dX12_fromAge_11 rfl (fun v_2 => ?_)
  refine g_istore (lv' := [(5, .int v_2), (4, .int v_1), (0, .ref a0), (1, .int x1), (2, .int x2), (3, .int x3)]) B dX12_fromAge_14 (by decide) [0, 1, 2, 3, 4, 5] rfl ?_
  refine g_aload_n B dX12_fromAge_16 2 rfl ?_
  refine g_getR (ci := 11) (T0 := TX12) (N := 27) B (by decide) rfl in_11 (k := 1) (by decide) rfl wd_1642 (fun _ h => h) dX12_fromAge_17 (fun v_3 => ?_)
  refine g_iload_n B dX12_fromAge_20 3 rfl ?_
  refine g_iconst (v := 0) B dX12_fromAge_21 (by decide) ?_
  refine g_callS_ip [.int x1, .int 0] B hS9 mf12_at wd_1824 wd_1823 (c12_at X l x1 0 M) (by decide) (by decide) (by decide) rfl (Nat.le_of_ble_eq_true rfl) dX12_fromAge_22 rfl (fun v_4 => ?_)
  refine g_iload_n B dX12_fromAge_25 4 rfl ?_
  refine g_iastore B dX12_fromAge_26 (fun M_5 => ?_)
  refine g_aload_n B dX12_fromAge_27 2 rfl ?_
  refine g_iload_n B dX12_fromAge_28 5 rfl ?_
  refine g_iconst (v := 2) B dX12_fromAge_29 (by decide) ?_
  refine g_idiv B dX12_fromAge_30 (fun v_6 => ?_)
  refine g_iload_n B dX12_fromAge_31 3 rfl ?_
  refine g_iload_n B dX12_fromAge_32 5 rfl ?_
  refine g_iconst (v := 2) B dX12_fromAge_33 (by decide) ?_
  refine g_irem B dX12_fromAge_34 (fun v_7 => ?_)
  refine g_iconst (v := 1) B dX12_fromAge_35 (by decide) ?_
  refine g_icmp_ne B 43 dX12_fromAge_36 (by decide) ?_ ?_
  · refine g_iconst (v := 1) B dX12_fromAge_39 (by decide) ?_
    refine g_goto B 44 dX12_fromAge_40 (by decide) ?_
    refine g_sub (lv' := [(0, .ref a0), (1, .int x1), (4, .int v_1), (5, .int v_2)]) [2, 3, 1, 0] rfl ?_
    exact g12_fromAge_J44 B hS9 hr a0 x1 v_1 v_2 a0 v_6 x1 1 M_5
  · refine g_iconst (v := 0) B dX12_fromAge_43 (by decide) ?_
    refine g_sub (lv' := [(0, .ref a0), (1, .int x1), (4, .int v_1), (5, .int v_2)]) [2, 3, 1, 0] rfl ?_
    exact g12_fromAge_J44 B hS9 hr a0 x1 v_1 v_2 a0 v_6 x1 0 M_5
theorem c12_fromAge (X : gX) (l : Launch) (a0 : Nat) (x1 : Int32) (x2 : Int32) (x3 : Int32) (M : mMem) : Con X l yX12_fromAge cX12_fromAge 7 (some .int) rm12_fromAge (fun r9 : (Int32 × mMem) => (some (.int r9.1), r9.2)) [.ref a0, .int x1, .int x2, .int x3] M (p12_fromAge a0 x1 x2 x3 M) := g_con (own := RX12) (by decide +kernel) rfl (Nat.le_of_ble_eq_true rfl) (fun p e s m args below meth c B hS9 hr hn => g12_fromAge B hS9 hr a0 x1 x2 x3 M)
theorem mf12_looksRound : gMF yX12_looksRound cX12_looksRound 6 (none) 2 := ⟨wd_2148, wd_13, ⟨by decide, by decide⟩, by decide +kernel⟩
set_option maxRecDepth 20000 in
set_option maxHeartbeats 2000000 in
theorem g12_looksRound_L2 {X : gX} {p : Program} {l : Launch} {e : Env} {s : State} {m : MethodId} {args : Array Value} {below : List Frame} {meth : Method} {c : Code} (B : gB X p (rm12_looksRound) s m args meth c RX12 cX12_looksRound 6 (rm12_looksRound)) (hS9 : gS X s) (hr : meth.sig.returnType = none) (k21 : Nat → Int32 → Int32 → mMem → Option mMem) (hk21 : ∀ (a0 : Nat) (x1 : Int32) (x2 : Int32) (M : mMem), GG X p l e (rm12_looksRound) s m args below meth c (gP X below args s 0 0 (fun M9 : mMem => (none, M9))) 6 0 0 21 [(0, .ref a0), (1, .int x1), (2, .int x2)] [] M (k21 a0 x1 x2 M)) : ∀ (n : Nat) (a0 : Nat) (x1 : Int32) (x2 : Int32) (x3 : Int32) (M : mMem), GG X p l e (rm12_looksRound) s m args below meth c (gP X below args s 0 0 (fun M9 : mMem => (none, M9))) 6 0 0 2 [(0, .ref a0), (1, .int x1), (2, .int x2), (3, .int x3)] [] M (p12_looksRound_L2 k21 n a0 x1 x2 x3 M) := by
  intro n
  induction n with
  | zero => intro a0 x1 x2 x3 M; exact g_none
  | succ n ih =>
    intro a0 x1 x2 x3 M
    rw [p12_looksRound_L2]
    refine g_iload_n B dX12_looksRound_2 3 rfl ?_
    refine g_bipush (v := 99) B dX12_looksRound_3 (by decide) ?_
    refine g_icmp_ge B 21 dX12_looksRound_5 (by decide) ?_ ?_
    · refine g_aload_n B dX12_looksRound_8 0 rfl ?_
      refine g_getR (ci := 11) (T0 := TX12) (N := 27) B (by decide) rfl in_11 (k := 18) (by decide) rfl wd_1659 (fun _ h => h) dX12_looksRound_9 (fun v_1 => ?_)
      refine g_iload_n B dX12_looksRound_12 3 rfl ?_
      refine g_iconst (v := (-1)) B dX12_looksRound_13 (by decide) ?_
      refine g_iastore B dX12_looksRound_14 (fun M_2 => ?_)
      refine g_iinc (v := (x3 + 1)) (lv' := [(3, .int (x3 + 1)), (0, .ref a0), (1, .int x1), (2, .int x2)]) B dX12_looksRound_15 3 rfl rfl (by decide) [0, 1, 2, 3] rfl ?_
      refine g_goto B 2 dX12_looksRound_18 (by decide) ?_
      refine g_sub (lv' := [(0, .ref a0), (1, .int x1), (2, .int x2), (3, .int (x3 + 1))]) [1, 2, 3, 0] rfl ?_
      exact ih a0 x1 x2 (x3 + 1) M_2
    · refine g_sub (lv' := [(0, .ref a0), (1, .int x1), (2, .int x2)]) [0, 1, 2] rfl ?_
      exact hk21 a0 x1 x2 M
set_option maxRecDepth 20000 in
set_option maxHeartbeats 2000000 in
theorem g12_looksRound_J156 {X : gX} {p : Program} {l : Launch} {e : Env} {s : State} {m : MethodId} {args : Array Value} {below : List Frame} {meth : Method} {c : Code} (B : gB X p (rm12_looksRound) s m args meth c RX12 cX12_looksRound 6 (rm12_looksRound)) (hS9 : gS X s) (hr : meth.sig.returnType = none) (M : mMem) : GG X p l e (rm12_looksRound) s m args below meth c (gP X below args s 0 0 (fun M9 : mMem => (none, M9))) 6 0 0 156 [] [] M (p12_looksRound_J156 M) := by
  unfold p12_looksRound_J156
  exact g_vreturn B hr (by decide) (by decide) rfl dX12_looksRound_156
set_option maxRecDepth 20000 in
set_option maxHeartbeats 2000000 in
theorem g12_looksRound_J144 {X : gX} {p : Program} {l : Launch} {e : Env} {s : State} {m : MethodId} {args : Array Value} {below : List Frame} {meth : Method} {c : Code} (B : gB X p (rm12_looksRound) s m args meth c RX12 cX12_looksRound 6 (rm12_looksRound)) (hS9 : gS X s) (hr : meth.sig.returnType = none) (rec74 : Nat → Int32 → Int32 → Int32 → Int32 → Int32 → mMem → Option mMem) (hrec74 : ∀ (a0 : Nat) (x1 : Int32) (x2 : Int32) (x3 : Int32) (x4 : Int32) (x5 : Int32) (M : mMem), GG X p l e (rm12_looksRound) s m args below meth c (gP X below args s 0 0 (fun M9 : mMem => (none, M9))) 6 0 0 74 [(0, .ref a0), (1, .int x1), (2, .int x2), (3, .int x3), (4, .int x4), (5, .int x5)] [] M (rec74 a0 x1 x2 x3 x4 x5 M)) (a0 : Nat) (x1 : Int32) (x2 : Int32) (x3 : Int32) (x4 : Int32) (x5 : Int32) (M : mMem) : GG X p l e (rm12_looksRound) s m args below meth c (gP X below args s 0 0 (fun M9 : mMem => (none, M9))) 6 0 0 144 [(0, .ref a0), (1, .int x1), (2, .int x2), (3, .int x3), (4, .int x4), (5, .int x5)] [] M (p12_looksRound_J144 rec74 a0 x1 x2 x3 x4 x5 M) := by
  unfold p12_looksRound_J144
  refine g_iinc (v := (x5 + 1)) (lv' := [(5, .int (x5 + 1)), (0, .ref a0), (1, .int x1), (2, .int x2), (3, .int x3), (4, .int x4)]) B dX12_looksRound_144 5 rfl rfl (by decide) [0, 1, 2, 3, 4, 5] rfl ?_
  refine g_goto B 74 dX12_looksRound_147 (by decide) ?_
  refine g_sub (lv' := [(0, .ref a0), (1, .int x1), (2, .int x2), (3, .int x3), (4, .int x4), (5, .int (x5 + 1))]) [1, 2, 3, 4, 5, 0] rfl ?_
  exact hrec74 a0 x1 x2 x3 x4 (x5 + 1) M
set_option maxRecDepth 20000 in
set_option maxHeartbeats 2000000 in
theorem g12_looksRound_J141 {X : gX} {p : Program} {l : Launch} {e : Env} {s : State} {m : MethodId} {args : Array Value} {below : List Frame} {meth : Method} {c : Code} (B : gB X p (rm12_looksRound) s m args meth c RX12 cX12_looksRound 6 (rm12_looksRound)) (hS9 : gS X s) (hr : meth.sig.returnType = none) (rec74 : Nat → Int32 → Int32 → Int32 → Int32 → Int32 → mMem → Option mMem) (hrec74 : ∀ (a0 : Nat) (x1 : Int32) (x2 : Int32) (x3 : Int32) (x4 : Int32) (x5 : Int32) (M : mMem), GG X p l e (rm12_looksRound) s m args below meth c (gP X below args s 0 0 (fun M9 : mMem => (none, M9))) 6 0 0 74 [(0, .ref a0), (1, .int x1), (2, .int x2), (3, .int x3), (4, .int x4), (5, .int x5)] [] M (rec74 a0 x1 x2 x3 x4 x5 M)) (a0 : Nat) (x1 : Int32) (x2 : Int32) (x3 : Int32) (x4 : Int32) (x5 : Int32) (b0 : Nat) (u1 : Int32) (u2 : Int32) (u3 : Int32) (M : mMem) : GG X p l e (rm12_looksRound) s m args below meth c (gP X below args s 0 0 (fun M9 : mMem => (none, M9))) 6 0 0 141 [(0, .ref a0), (1, .int x1), (2, .int x2), (3, .int x3), (4, .int x4), (5, .int x5)] [.int u3, .int u2, .int u1, .ref b0] M (p12_looksRound_J141 rec74 a0 x1 x2 x3 x4 x5 b0 u1 u2 u3 M) := by
  unfold p12_looksRound_J141
  refine g_callV_vw [.int u1, .int u2, .int u3] (ci := 11) (T0 := TX12) (N := 27) B hS9 mf12_finds wd_2151 (gw B wp_108) wd_2149 (by decide) rfl (fun h => (gd_ne h).1) (c12_finds X l b0 u1 u2 u3 M) (by decide) (by decide) (by decide) rfl (by decide) dX12_looksRound_141 rfl (fun q_1 => ?_)
  refine g_sub (lv' := [(0, .ref a0), (1, .int x1), (2, .int x2), (3, .int x3), (4, .int x4), (5, .int x5)]) [0, 1, 2, 3, 4, 5] rfl ?_
  exact g12_looksRound_J144 B hS9 hr rec74 hrec74 a0 x1 x2 x3 x4 x5 q_1
set_option maxRecDepth 20000 in
set_option maxHeartbeats 2000000 in
theorem g12_looksRound_L74 {X : gX} {p : Program} {l : Launch} {e : Env} {s : State} {m : MethodId} {args : Array Value} {below : List Frame} {meth : Method} {c : Code} (B : gB X p (rm12_looksRound) s m args meth c RX12 cX12_looksRound 6 (rm12_looksRound)) (hS9 : gS X s) (hr : meth.sig.returnType = none) (k150 : Nat → Int32 → Int32 → Int32 → mMem → Option mMem) (hk150 : ∀ (a0 : Nat) (x1 : Int32) (x2 : Int32) (x3 : Int32) (M : mMem), GG X p l e (rm12_looksRound) s m args below meth c (gP X below args s 0 0 (fun M9 : mMem => (none, M9))) 6 0 0 150 [(0, .ref a0), (1, .int x1), (2, .int x2), (3, .int x3)] [] M (k150 a0 x1 x2 x3 M)) : ∀ (n : Nat) (a0 : Nat) (x1 : Int32) (x2 : Int32) (x3 : Int32) (x4 : Int32) (x5 : Int32) (M : mMem), GG X p l e (rm12_looksRound) s m args below meth c (gP X below args s 0 0 (fun M9 : mMem => (none, M9))) 6 0 0 74 [(0, .ref a0), (1, .int x1), (2, .int x2), (3, .int x3), (4, .int x4), (5, .int x5)] [] M (p12_looksRound_L74 k150 n a0 x1 x2 x3 x4 x5 M) := by
  intro n
  induction n with
  | zero => intro a0 x1 x2 x3 x4 x5 M; exact g_none
  | succ n ih =>
    intro a0 x1 x2 x3 x4 x5 M
    rw [p12_looksRound_L74]
    refine g_iload B dX12_looksRound_74 5 rfl ?_
    refine g_iconst (v := 2) B dX12_looksRound_76 (by decide) ?_
    refine g_aload_n B dX12_looksRound_77 0 rfl ?_
    refine g_callV_ip [] (ci := 11) (T0 := TX12) (N := 27) B hS9 mf12_people wd_1793 (gw B wp_51) wd_1791 (by decide) rfl (fun h => (gd_ne h).1) (c12_people X l a0 M) (by decide) (by decide) (by decide) rfl (Nat.le_of_ble_eq_true rfl) dX12_looksRound_78 rfl (fun v_1 => ?_)
    refine g_imul B dX12_looksRound_81 ?_
    refine g_icmp_ge B 150 dX12_looksRound_82 (by decide) ?_ ?_
    · refine g_aload_n B dX12_looksRound_85 0 rfl ?_
      refine g_iload B dX12_looksRound_86 5 rfl ?_
      refine g_iconst (v := 2) B dX12_looksRound_88 (by decide) ?_
      refine g_idiv B dX12_looksRound_89 (fun v_2 => ?_)
      refine g_iload_n B dX12_looksRound_90 1 rfl ?_
      refine g_callV_ip [.int v_2, .int x1] (ci := 11) (T0 := TX12) (N := 27) B hS9 mf12_governs wd_1955 (gw B wp_81) wd_1953 (by decide) rfl (fun h => (gd_ne h).1) (c12_governs X l a0 v_2 x1 M) (by decide) (by decide) (by decide) rfl (by decide) dX12_looksRound_91 rfl (fun v_3 => ?_)
      refine g_if_ne B 100 dX12_looksRound_94 (by decide) ?_ ?_
      · refine g_goto B 144 dX12_looksRound_97 (by decide) ?_
        refine g_sub (lv' := [(0, .ref a0), (1, .int x1), (2, .int x2), (3, .int x3), (4, .int x4), (5, .int x5)]) [0, 1, 2, 3, 4, 5] rfl ?_
        exact g12_looksRound_J144 B hS9 hr (p12_looksRound_L74 k150 n) ih a0 x1 x2 x3 x4 x5 M
      · refine g_aload_n B dX12_looksRound_100 0 rfl ?_
        refine g_aload_n B dX12_looksRound_101 0 rfl ?_
        refine g_iload_n B dX12_looksRound_102 1 rfl ?_
        refine g_iload B dX12_looksRound_103 4 rfl ?_
        refine g_iload B dX12_looksRound_105 5 rfl ?_
        refine g_callV_iw [.int x1, .int x4, .int x5] (ci := 11) (T0 := TX12) (N := 27) B hS9 mf12_fromAge wd_2155 (gw B wp_109) wd_2153 (by decide) rfl (fun h => (gd_ne h).1) (c12_fromAge X l a0 x1 x4 x5 M) (by decide) (by decide) (by decide) rfl (Nat.le_of_ble_eq_true rfl) dX12_looksRound_107 rfl (fun q_4 => ?_)
        refine g_aload_n B dX12_looksRound_110 0 rfl ?_
        refine g_getR (ci := 11) (T0 := TX12) (N := 27) B (by decide) rfl in_11 (k := 18) (by decide) rfl wd_1659 (fun _ h => h) dX12_looksRound_111 (fun v_5 => ?_)
        refine g_iload B dX12_looksRound_114 4 rfl ?_
        refine g_iaload B dX12_looksRound_116 (fun v_6 => ?_)
        refine g_iconst (v := 1) B dX12_looksRound_117 (by decide) ?_
        refine g_iadd B dX12_looksRound_118 ?_
        refine g_aload_n B dX12_looksRound_119 0 rfl ?_
        refine g_getR (ci := 11) (T0 := TX12) (N := 27) B (by decide) rfl in_11 (k := 18) (by decide) rfl wd_1659 (fun _ h => h) dX12_looksRound_120 (fun v_7 => ?_)
        refine g_iload B dX12_looksRound_123 4 rfl ?_
        refine g_iaload B dX12_looksRound_125 (fun v_8 => ?_)
        refine g_if_ne B 134 dX12_looksRound_126 (by decide) ?_ ?_
        · refine g_iload B dX12_looksRound_129 5 rfl ?_
          refine g_goto B 141 dX12_looksRound_131 (by decide) ?_
          refine g_sub (lv' := [(0, .ref a0), (1, .int x1), (2, .int x2), (3, .int x3), (4, .int x4), (5, .int x5)]) [0, 1, 2, 3, 4, 5] rfl ?_
          exact g12_looksRound_J141 B hS9 hr (p12_looksRound_L74 k150 n) ih a0 x1 x2 x3 x4 x5 a0 q_4.1 (v_6 + 1) x5 q_4.2
        · refine g_aload_n B dX12_looksRound_134 0 rfl ?_
          refine g_getR (ci := 11) (T0 := TX12) (N := 27) B (by decide) rfl in_11 (k := 19) (by decide) rfl wd_1660 (fun _ h => h) dX12_looksRound_135 (fun v_9 => ?_)
          refine g_iload B dX12_looksRound_138 4 rfl ?_
          refine g_iaload B dX12_looksRound_140 (fun v_10 => ?_)
          refine g_sub (lv' := [(0, .ref a0), (1, .int x1), (2, .int x2), (3, .int x3), (4, .int x4), (5, .int x5)]) [0, 1, 2, 3, 4, 5] rfl ?_
          exact g12_looksRound_J141 B hS9 hr (p12_looksRound_L74 k150 n) ih a0 x1 x2 x3 x4 x5 a0 q_4.1 (v_6 + 1) v_10 q_4.2
    · refine g_sub (lv' := [(0, .ref a0), (1, .int x1), (2, .int x2), (3, .int x3)]) [0, 1, 2, 3] rfl ?_
      exact hk150 a0 x1 x2 x3 M
set_option maxRecDepth 20000 in
set_option maxHeartbeats 2000000 in
theorem g12_looksRound_J150 {X : gX} {p : Program} {l : Launch} {e : Env} {s : State} {m : MethodId} {args : Array Value} {below : List Frame} {meth : Method} {c : Code} (B : gB X p (rm12_looksRound) s m args meth c RX12 cX12_looksRound 6 (rm12_looksRound)) (hS9 : gS X s) (hr : meth.sig.returnType = none) (rec40 : Nat → Int32 → Int32 → Int32 → mMem → Option mMem) (hrec40 : ∀ (a0 : Nat) (x1 : Int32) (x2 : Int32) (x3 : Int32) (M : mMem), GG X p l e (rm12_looksRound) s m args below meth c (gP X below args s 0 0 (fun M9 : mMem => (none, M9))) 6 0 0 40 [(0, .ref a0), (1, .int x1), (2, .int x2), (3, .int x3)] [] M (rec40 a0 x1 x2 x3 M)) (a0 : Nat) (x1 : Int32) (x2 : Int32) (x3 : Int32) (M : mMem) : GG X p l e (rm12_looksRound) s m args below meth c (gP X below args s 0 0 (fun M9 : mMem => (none, M9))) 6 0 0 150 [(0, .ref a0), (1, .int x1), (2, .int x2), (3, .int x3)] [] M (p12_looksRound_J150 rec40 a0 x1 x2 x3 M) := by
  unfold p12_looksRound_J150
  refine g_iinc (v := (x3 + 1)) (lv' := [(3, .int (x3 + 1)), (0, .ref a0), (1, .int x1), (2, .int x2)]) B dX12_looksRound_150 3 rfl rfl (by decide) [0, 1, 2, 3] rfl ?_
  refine g_goto B 40 dX12_looksRound_153 (by decide) ?_
  refine g_sub (lv' := [(0, .ref a0), (1, .int x1), (2, .int x2), (3, .int (x3 + 1))]) [1, 2, 3, 0] rfl ?_
  exact hrec40 a0 x1 x2 (x3 + 1) M
set_option maxRecDepth 20000 in
set_option maxHeartbeats 2000000 in
theorem g12_looksRound_L40 {X : gX} {p : Program} {l : Launch} {e : Env} {s : State} {m : MethodId} {args : Array Value} {below : List Frame} {meth : Method} {c : Code} (B : gB X p (rm12_looksRound) s m args meth c RX12 cX12_looksRound 6 (rm12_looksRound)) (hS9 : gS X s) (hr : meth.sig.returnType = none) : ∀ (n : Nat) (a0 : Nat) (x1 : Int32) (x2 : Int32) (x3 : Int32) (M : mMem), GG X p l e (rm12_looksRound) s m args below meth c (gP X below args s 0 0 (fun M9 : mMem => (none, M9))) 6 0 0 40 [(0, .ref a0), (1, .int x1), (2, .int x2), (3, .int x3)] [] M (p12_looksRound_L40 n a0 x1 x2 x3 M) := by
  intro n
  induction n with
  | zero => intro a0 x1 x2 x3 M; exact g_none
  | succ n ih =>
    intro a0 x1 x2 x3 M
    rw [p12_looksRound_L40]
    refine g_iload_n B dX12_looksRound_40 3 rfl ?_
    refine g_aload_n B dX12_looksRound_41 0 rfl ?_
    refine g_getI (ci := 11) (T0 := TX12) (N := 27) B (by decide) rfl in_11 (k := 21) (by decide) rfl wd_1662 (fun _ h => h) dX12_looksRound_42 (fun v_1 => ?_)
    refine g_icmp_ge B 156 dX12_looksRound_45 (by decide) ?_ ?_
    · refine g_aload_n B dX12_looksRound_48 0 rfl ?_
      refine g_getR (ci := 11) (T0 := TX12) (N := 27) B (by decide) rfl in_11 (k := 18) (by decide) rfl wd_1659 (fun _ h => h) dX12_looksRound_49 (fun v_2 => ?_)
      refine g_aload_n B dX12_looksRound_52 0 rfl ?_
      refine g_getR (ci := 11) (T0 := TX12) (N := 27) B (by decide) rfl in_11 (k := 20) (by decide) rfl wd_1661 (fun _ h => h) dX12_looksRound_53 (fun v_3 => ?_)
      refine g_iload_n B dX12_looksRound_56 3 rfl ?_
      refine g_iaload B dX12_looksRound_57 (fun v_4 => ?_)
      refine g_iaload B dX12_looksRound_58 (fun v_5 => ?_)
      refine g_iload_n B dX12_looksRound_59 2 rfl ?_
      refine g_icmp_ge B 156 dX12_looksRound_60 (by decide) ?_ ?_
      · refine g_aload_n B dX12_looksRound_63 0 rfl ?_
        refine g_getR (ci := 11) (T0 := TX12) (N := 27) B (by decide) rfl in_11 (k := 20) (by decide) rfl wd_1661 (fun _ h => h) dX12_looksRound_64 (fun v_6 => ?_)
        refine g_iload_n B dX12_looksRound_67 3 rfl ?_
        refine g_iaload B dX12_looksRound_68 (fun v_7 => ?_)
        refine g_istore (lv' := [(4, .int v_7), (0, .ref a0), (1, .int x1), (2, .int x2), (3, .int x3)]) B dX12_looksRound_69 (by decide) [0, 1, 2, 3, 4] rfl ?_
        refine g_iconst (v := 0) B dX12_looksRound_71 (by decide) ?_
        refine g_istore (lv' := [(5, .int 0), (4, .int v_7), (0, .ref a0), (1, .int x1), (2, .int x2), (3, .int x3)]) B dX12_looksRound_72 (by decide) [0, 1, 2, 3, 4, 5] rfl ?_
        refine g_sub (lv' := [(0, .ref a0), (1, .int x1), (2, .int x2), (3, .int x3), (4, .int v_7), (5, .int 0)]) [2, 3, 4, 5, 1, 0] rfl ?_
        exact (g12_looksRound_L74 B hS9 hr (p12_looksRound_J150 (p12_looksRound_L40 n)) (fun e0 e1 e2 e3 e4 => g12_looksRound_J150 B hS9 hr (p12_looksRound_L40 n) ih e0 e1 e2 e3 e4)) gF a0 x1 x2 x3 v_7 0 M
      · refine g_sub (lv' := []) [] rfl ?_
        exact g12_looksRound_J156 B hS9 hr M
    · refine g_sub (lv' := []) [] rfl ?_
      exact g12_looksRound_J156 B hS9 hr M
set_option maxRecDepth 20000 in
set_option maxHeartbeats 2000000 in
theorem g12_looksRound_J21 {X : gX} {p : Program} {l : Launch} {e : Env} {s : State} {m : MethodId} {args : Array Value} {below : List Frame} {meth : Method} {c : Code} (B : gB X p (rm12_looksRound) s m args meth c RX12 cX12_looksRound 6 (rm12_looksRound)) (hS9 : gS X s) (hr : meth.sig.returnType = none) (a0 : Nat) (x1 : Int32) (x2 : Int32) (M : mMem) : GG X p l e (rm12_looksRound) s m args below meth c (gP X below args s 0 0 (fun M9 : mMem => (none, M9))) 6 0 0 21 [(0, .ref a0), (1, .int x1), (2, .int x2)] [] M (p12_looksRound_J21 a0 x1 x2 M) := by
  unfold p12_looksRound_J21
  refine g_aload_n B dX12_looksRound_21 0 rfl ?_
  refine g_iconst (v := 0) B dX12_looksRound_22 (by decide) ?_
  refine g_putI (ci := 11) (T0 := TX12) (N := 27) B (by decide) rfl in_11 tyX12 tyX12_ok nmX12 (k := 21) (by decide) wd_1662 (fun _ h => h) rfl rfl (ty := .int) (by decide +kernel) rfl rfl dX12_looksRound_23 (fun M_1 => ?_)
  refine g_aload_n B dX12_looksRound_26 0 rfl ?_
  refine g_aload_n B dX12_looksRound_27 0 rfl ?_
  refine g_iload_n B dX12_looksRound_28 1 rfl ?_
  refine g_iconst (v := 0) B dX12_looksRound_29 (by decide) ?_
  refine g_callV_ip [.int x1, .int 0] (ci := 11) (T0 := TX12) (N := 27) B hS9 mf12_of wd_1846 (gw B wp_61) wd_1844 (by decide) rfl (fun h => (gd_ne h).1) (c12_of X l a0 x1 0 M_1) (by decide) (by decide) (by decide) rfl (Nat.le_of_ble_eq_true rfl) dX12_looksRound_30 rfl (fun v_2 => ?_)
  refine g_iconst (v := 0) B dX12_looksRound_33 (by decide) ?_
  refine g_iconst (v := (-1)) B dX12_looksRound_34 (by decide) ?_
  refine g_callV_vw [.int v_2, .int 0, .int (-1)] (ci := 11) (T0 := TX12) (N := 27) B hS9 mf12_finds wd_2151 (gw B wp_108) wd_2149 (by decide) rfl (fun h => (gd_ne h).1) (c12_finds X l a0 v_2 0 (-1) M_1) (by decide) (by decide) (by decide) rfl (by decide) dX12_looksRound_35 rfl (fun q_3 => ?_)
  refine g_iconst (v := 0) B dX12_looksRound_38 (by decide) ?_
  refine g_istore_n (lv' := [(3, .int 0), (0, .ref a0), (1, .int x1), (2, .int x2)]) B dX12_looksRound_39 (by decide) [0, 1, 2, 3] rfl ?_
  refine g_sub (lv' := [(0, .ref a0), (1, .int x1), (2, .int x2), (3, .int 0)]) [1, 2, 3, 0] rfl ?_
  exact (g12_looksRound_L40 B hS9 hr) gF a0 x1 x2 0 q_3
set_option maxRecDepth 20000 in
set_option maxHeartbeats 2000000 in
theorem g12_looksRound {X : gX} {p : Program} {l : Launch} {e : Env} {s : State} {m : MethodId} {args : Array Value} {below : List Frame} {meth : Method} {c : Code} (B : gB X p (rm12_looksRound) s m args meth c RX12 cX12_looksRound 6 (rm12_looksRound)) (hS9 : gS X s) (hr : meth.sig.returnType = none) (a0 : Nat) (x1 : Int32) (x2 : Int32) (M : mMem) : GG X p l e (rm12_looksRound) s m args below meth c (gP X below args s 0 0 (fun M9 : mMem => (none, M9))) 6 0 0 0 [(0, .ref a0), (1, .int x1), (2, .int x2)] [] M (p12_looksRound a0 x1 x2 M) := by
  unfold p12_looksRound
  refine g_gd ?_
  refine g_iconst (v := 0) B dX12_looksRound_0 (by decide) ?_
  refine g_istore_n (lv' := [(3, .int 0), (0, .ref a0), (1, .int x1), (2, .int x2)]) B dX12_looksRound_1 (by decide) [0, 1, 2, 3] rfl ?_
  refine g_sub (lv' := [(0, .ref a0), (1, .int x1), (2, .int x2), (3, .int 0)]) [1, 2, 3, 0] rfl ?_
  exact (g12_looksRound_L2 B hS9 hr p12_looksRound_J21 (fun e0 e1 e2 e3 => g12_looksRound_J21 B hS9 hr e0 e1 e2 e3)) gF a0 x1 x2 0 M
theorem c12_looksRound (X : gX) (l : Launch) (a0 : Nat) (x1 : Int32) (x2 : Int32) (M : mMem) : Con X l yX12_looksRound cX12_looksRound 6 (none) rm12_looksRound (fun M9 : mMem => (none, M9)) [.ref a0, .int x1, .int x2] M (p12_looksRound a0 x1 x2 M) := g_con (own := RX12) (by decide +kernel) rfl (Nat.le_of_ble_eq_true rfl) (fun p e s m args below meth c B hS9 hr hn => g12_looksRound B hS9 hr a0 x1 x2 M)
theorem mf12_noAge : gMF yX12_noAge cX12_noAge 2 (some .boolean) 1 := ⟨wd_2140, wd_13, ⟨by decide, by decide⟩, by decide +kernel⟩
set_option maxRecDepth 20000 in
set_option maxHeartbeats 2000000 in
theorem g12_noAge_J21 {X : gX} {p : Program} {l : Launch} {e : Env} {s : State} {m : MethodId} {args : Array Value} {below : List Frame} {meth : Method} {c : Code} (B : gB X p (rm12_noAge) s m args meth c RX12 cX12_noAge 2 (rm12_noAge)) (hS9 : gS X s) (hr : meth.sig.returnType = some .boolean) {M : mMem} (u0 : Int32) : GG X p l e (rm12_noAge) s m args below meth c (gP X below args s 0 0 (fun r9 : Int32 => (some (.int r9), M))) 2 0 0 21 [] [.int u0] M (p12_noAge_J21 M u0) := by
  unfold p12_noAge_J21
  exact g_zreturn (f := fun z => z) B hr (by decide) (by decide) rfl dX12_noAge_21
set_option maxRecDepth 20000 in
set_option maxHeartbeats 2000000 in
theorem g12_noAge {X : gX} {p : Program} {l : Launch} {e : Env} {s : State} {m : MethodId} {args : Array Value} {below : List Frame} {meth : Method} {c : Code} (B : gB X p (rm12_noAge) s m args meth c RX12 cX12_noAge 2 (rm12_noAge)) (hS9 : gS X s) (hr : meth.sig.returnType = some .boolean) {M : mMem} (a0 : Nat) (x1 : Int32) : GG X p l e (rm12_noAge) s m args below meth c (gP X below args s 0 0 (fun r9 : Int32 => (some (.int r9), M))) 2 0 0 0 [(0, .ref a0), (1, .int x1)] [] M (p12_noAge a0 x1 M) := by
  unfold p12_noAge
  refine g_gd ?_
  refine g_iload_n B dX12_noAge_0 1 rfl ?_
  refine g_iconst (v := 0) B dX12_noAge_1 (by decide) ?_
  refine g_aload_n B dX12_noAge_2 0 rfl ?_
  refine g_getR (ci := 11) (T0 := TX12) (N := 27) B (by decide) rfl in_11 (k := 1) (by decide) rfl wd_1642 (fun _ h => h) dX12_noAge_3 (fun v_1 => ?_)
  refine g_iconst (v := 4) B dX12_noAge_6 (by decide) ?_
  refine g_iaload B dX12_noAge_7 (fun v_2 => ?_)
  refine g_iconst (v := 1) B dX12_noAge_8 (by decide) ?_
  refine g_isub B dX12_noAge_9 ?_
  refine g_callS_ip [.int x1, .int 0, .int (v_2 - 1)] B hS9 mf12_in wd_1947 wd_1946 (c12_in X l x1 0 (v_2 - 1) M) (by decide) (by decide) (by decide) rfl (by decide) dX12_noAge_10 rfl (fun v_3 => ?_)
  refine g_if_ne B 20 dX12_noAge_13 (by decide) ?_ ?_
  · refine g_iconst (v := 1) B dX12_noAge_16 (by decide) ?_
    refine g_goto B 21 dX12_noAge_17 (by decide) ?_
    refine g_sub (lv' := []) [] rfl ?_
    exact g12_noAge_J21 B hS9 hr 1
  · refine g_iconst (v := 0) B dX12_noAge_20 (by decide) ?_
    refine g_sub (lv' := []) [] rfl ?_
    exact g12_noAge_J21 B hS9 hr 0
theorem c12_noAge (X : gX) (l : Launch) (a0 : Nat) (x1 : Int32) (M : mMem) : Con X l yX12_noAge cX12_noAge 2 (some .boolean) rm12_noAge (fun r9 : Int32 => (some (.int r9), M)) [.ref a0, .int x1] M (p12_noAge a0 x1 M) := g_con (own := RX12) (by decide +kernel) rfl (Nat.le_of_ble_eq_true rfl) (fun p e s m args below meth c B hS9 hr hn => g12_noAge B hS9 hr a0 x1)
