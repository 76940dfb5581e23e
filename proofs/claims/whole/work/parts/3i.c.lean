theorem mf12_law : gMF yX12_law cX12_law 3 (some .int) 0 := ⟨wd_1937, wd_13, ⟨by decide, by decide⟩, by decide +kernel⟩
set_option maxRecDepth 20000 in
set_option maxHeartbeats 2000000 in
theorem g12_law_L52 {X : gX} {p : Program} {l : Launch} {e : Env} {s : State} {m : MethodId} {args : Array Value} {below : List Frame} {meth : Method} {c : Code} (B : gB X p (rm12_law) s m args meth c RX12 cX12_law 3 (rm12_law)) (hS9 : gS X s) (hr : meth.sig.returnType = some .int) : ∀ (n : Nat) (a0 : Nat) (x1 : Int32) (x2 : Int32) (M : mMem), GG X p l e (rm12_law) s m args below meth c (gP X below args s 0 0 (fun r9 : (Int32 × mMem) => (some (.int r9.1), r9.2))) 3 0 0 52 [(0, .ref a0), (1, .int x1), (2, .int x2)] [] M (p12_law_L52 n a0 x1 x2 M) := by
  intro n
  induction n with
  | zero => intro a0 x1 x2 M; exact g_none
  | succ n ih =>
    intro a0 x1 x2 M
    rw [p12_law_L52]
    refine g_iload_n B dX12_law_52 2 rfl ?_
    refine g_sipush (v := 849) B dX12_law_53 (by decide) ?_
    refine g_icmp_ge B 85 dX12_law_56 (by decide) ?_ ?_
    · refine g_aload_n B dX12_law_59 0 rfl ?_
      refine g_getR (ci := 11) (T0 := TX12) (N := 27) B (by decide) rfl in_11 (k := 1) (by decide) rfl wd_1642 (fun _ h => h) dX12_law_60 (fun v_4 => ?_)
      refine g_sipush (v := 445) B dX12_law_63 (by decide) ?_
      refine g_iload_n B dX12_law_66 2 rfl ?_
      refine g_iadd B dX12_law_67 ?_
      refine g_aload_n B dX12_law_68 0 rfl ?_
      refine g_getR (ci := 11) (T0 := TX12) (N := 27) B (by decide) rfl in_11 (k := 1) (by decide) rfl wd_1642 (fun _ h => h) dX12_law_69 (fun v_5 => ?_)
      refine g_sipush (v := 1294) B dX12_law_72 (by decide) ?_
      refine g_iload_n B dX12_law_75 2 rfl ?_
      refine g_iadd B dX12_law_76 ?_
      refine g_iaload B dX12_law_77 (fun v_6 => ?_)
      refine g_iastore B dX12_law_78 (fun M_7 => ?_)
      refine g_iinc (v := (x2 + 1)) (lv' := [(2, .int (x2 + 1)), (0, .ref a0), (1, .int x1)]) B dX12_law_79 2 rfl rfl (by decide) [0, 1, 2] rfl ?_
      refine g_goto B 52 dX12_law_82 (by decide) ?_
      refine g_sub (lv' := [(0, .ref a0), (1, .int x1), (2, .int (x2 + 1))]) [1, 2, 0] rfl ?_
      exact ih a0 x1 (x2 + 1) M_7
    · refine g_aload_n B dX12_law_85 0 rfl ?_
      refine g_getR (ci := 11) (T0 := TX12) (N := 27) B (by decide) rfl in_11 (k := 1) (by decide) rfl wd_1642 (fun _ h => h) dX12_law_86 (fun v_1 => ?_)
      refine g_iconst (v := 2) B dX12_law_89 (by decide) ?_
      refine g_iconst (v := 1) B dX12_law_90 (by decide) ?_
      refine g_iastore B dX12_law_91 (fun M_2 => ?_)
      refine g_aload_n B dX12_law_92 0 rfl ?_
      refine g_iconst (v := 0) B dX12_law_93 (by decide) ?_
      refine g_putI (ci := 11) (T0 := TX12) (N := 27) B (by decide) rfl in_11 tyX12 tyX12_ok nmX12 (k := 7) (by decide) wd_1648 (fun _ h => h) rfl rfl (ty := .int) (by decide +kernel) rfl rfl dX12_law_94 (fun M_3 => ?_)
      refine g_iload_n B dX12_law_97 1 rfl ?_
      exact g_ireturn B hr rfl (by decide) (by decide) rfl dX12_law_98
set_option maxRecDepth 20000 in
set_option maxHeartbeats 2000000 in
theorem g12_law_J32 {X : gX} {p : Program} {l : Launch} {e : Env} {s : State} {m : MethodId} {args : Array Value} {below : List Frame} {meth : Method} {c : Code} (B : gB X p (rm12_law) s m args meth c RX12 cX12_law 3 (rm12_law)) (hS9 : gS X s) (hr : meth.sig.returnType = some .int) (a0 : Nat) (x1 : Int32) (b0 : Nat) (u1 : Int32) (M : mMem) : GG X p l e (rm12_law) s m args below meth c (gP X below args s 0 0 (fun r9 : (Int32 × mMem) => (some (.int r9.1), r9.2))) 3 0 0 32 [(0, .ref a0), (1, .int x1)] [.int u1, .ref b0] M (p12_law_J32 a0 x1 b0 u1 M) := by
  unfold p12_law_J32
  refine g_iconst (v := 1) B dX12_law_32 (by decide) ?_
  refine g_callV_iw [.int u1, .int 1] (ci := 11) (T0 := TX12) (N := 27) B hS9 mf12_throwsIf wd_1932 (gw B wp_78) wd_1930 (by decide) rfl (fun h => (gd_ne h).1) (c12_throwsIf X l b0 u1 1 M) (by decide) (by decide) (by decide) rfl (by decide) dX12_law_33 rfl (fun q_1 => ?_)
  refine g_if_eq B 41 dX12_law_36 (by decide) ?_ ?_
  · refine g_aload_n B dX12_law_41 0 rfl ?_
    refine g_getR (ci := 11) (T0 := TX12) (N := 27) B (by decide) rfl in_11 (k := 1) (by decide) rfl wd_1642 (fun _ h => h) dX12_law_42 (fun v_2 => ?_)
    refine g_sipush (v := 1294) B dX12_law_45 (by decide) ?_
    refine g_iload_n B dX12_law_48 1 rfl ?_
    refine g_iastore B dX12_law_49 (fun M_3 => ?_)
    refine g_iconst (v := 0) B dX12_law_50 (by decide) ?_
    refine g_istore_n (lv' := [(2, .int 0), (0, .ref a0), (1, .int x1)]) B dX12_law_51 (by decide) [0, 1, 2] rfl ?_
    refine g_sub (lv' := [(0, .ref a0), (1, .int x1), (2, .int 0)]) [1, 2, 0] rfl ?_
    exact (g12_law_L52 B hS9 hr) gF a0 x1 0 M_3
  · refine g_iconst (v := 0) B dX12_law_39 (by decide) ?_
    exact g_ireturn B hr rfl (by decide) (by decide) rfl dX12_law_40
set_option maxRecDepth 20000 in
set_option maxHeartbeats 2000000 in
theorem g12_law_J19 {X : gX} {p : Program} {l : Launch} {e : Env} {s : State} {m : MethodId} {args : Array Value} {below : List Frame} {meth : Method} {c : Code} (B : gB X p (rm12_law) s m args meth c RX12 cX12_law 3 (rm12_law)) (hS9 : gS X s) (hr : meth.sig.returnType = some .int) (a0 : Nat) (x1 : Int32) (b0 : Nat) (u1 : Int32) (M : mMem) : GG X p l e (rm12_law) s m args below meth c (gP X below args s 0 0 (fun r9 : (Int32 × mMem) => (some (.int r9.1), r9.2))) 3 0 0 19 [(0, .ref a0), (1, .int x1)] [.int u1, .ref b0] M (p12_law_J19 a0 x1 b0 u1 M) := by
  unfold p12_law_J19
  refine g_putI (ci := 11) (T0 := TX12) (N := 27) B (by decide) rfl in_11 tyX12 tyX12_ok nmX12 (k := 14) (by decide) wd_1655 (fun _ h => h) rfl rfl (ty := .int) (by decide +kernel) rfl rfl dX12_law_19 (fun M_1 => ?_)
  refine g_aload_n B dX12_law_22 0 rfl ?_
  refine g_iload_n B dX12_law_23 1 rfl ?_
  refine g_if_ge B 31 dX12_law_24 (by decide) ?_ ?_
  · refine g_iconst (v := 1) B dX12_law_27 (by decide) ?_
    refine g_goto B 32 dX12_law_28 (by decide) ?_
    refine g_sub (lv' := [(0, .ref a0), (1, .int x1)]) [0, 1] rfl ?_
    exact g12_law_J32 B hS9 hr a0 x1 a0 1 M_1
  · refine g_iconst (v := 0) B dX12_law_31 (by decide) ?_
    refine g_sub (lv' := [(0, .ref a0), (1, .int x1)]) [0, 1] rfl ?_
    exact g12_law_J32 B hS9 hr a0 x1 a0 0 M_1
set_option maxRecDepth 20000 in
set_option maxHeartbeats 2000000 in
theorem g12_law {X : gX} {p : Program} {l : Launch} {e : Env} {s : State} {m : MethodId} {args : Array Value} {below : List Frame} {meth : Method} {c : Code} (B : gB X p (rm12_law) s m args meth c RX12 cX12_law 3 (rm12_law)) (hS9 : gS X s) (hr : meth.sig.returnType = some .int) (a0 : Nat) (M : mMem) : GG X p l e (rm12_law) s m args below meth c (gP X below args s 0 0 (fun r9 : (Int32 × mMem) => (some (.int r9.1), r9.2))) 3 0 0 0 [(0, .ref a0)] [] M (p12_law a0 M) := by
  unfold p12_law
  refine g_gd ?_
  refine g_aload_n B dX12_law_0 0 rfl ?_
  refine g_iconst (v := 0) B dX12_law_1 (by decide) ?_
  refine g_callV_iw [.int 0] (ci := 11) (T0 := TX12) (N := 27) B hS9 mf12_readAll wd_1754 (gw B wp_42) wd_1752 (by decide) rfl (fun h => (gd_ne h).1) (c12_readAll X l a0 0 M) (by decide) (by decide) (by decide) rfl (by decide) dX12_law_2 rfl (fun q_1 => ?_)
  refine g_istore_n (lv' := [(1, .int q_1.1), (0, .ref a0)]) B dX12_law_5 (by decide) [0, 1] rfl ?_
  refine g_aload_n B dX12_law_6 1 rfl ?_
  refine g_iload_n B dX12_law_7 0 rfl ?_
  refine g_if_ge B 18 dX12_law_8 (by decide) ?_ ?_
  · refine g_aload_n B dX12_law_11 1 rfl ?_
    refine g_getI (ci := 11) (T0 := TX12) (N := 27) B (by decide) rfl in_11 (k := 12) (by decide) rfl wd_1653 (fun _ h => h) dX12_law_12 (fun v_2 => ?_)
    refine g_goto B 19 dX12_law_15 (by decide) ?_
    refine g_sub (lv' := [(0, .ref a0), (1, .int q_1.1)]) [1, 0] rfl ?_
    exact g12_law_J19 B hS9 hr a0 q_1.1 a0 v_2 q_1.2
  · refine g_iconst (v := (-1)) B dX12_law_18 (by decide) ?_
    refine g_sub (lv' := [(0, .ref a0), (1, .int q_1.1)]) [1, 0] rfl ?_
    exact g12_law_J19 B hS9 hr a0 q_1.1 a0 (-1) q_1.2
theorem c12_law (X : gX) (l : Launch) (a0 : Nat) (M : mMem) : Con X l yX12_law cX12_law 3 (some .int) rm12_law (fun r9 : (Int32 × mMem) => (some (.int r9.1), r9.2)) [.ref a0] M (p12_law a0 M) := g_con (own := RX12) (by decide +kernel) rfl (Nat.le_of_ble_eq_true rfl) (fun p e s m args below meth c B hS9 hr hn => g12_law B hS9 hr a0 M)
theorem mf12_factOf : gMF yX12_factOf cX12_factOf 5 (some .int) 4 := ⟨wd_1995, wd_13, ⟨by decide, by decide⟩, by decide +kernel⟩
set_option maxRecDepth 20000 in
set_option maxHeartbeats 2000000 in
theorem g12_factOf_J105 {X : gX} {p : Program} {l : Launch} {e : Env} {s : State} {m : MethodId} {args : Array Value} {below : List Frame} {meth : Method} {c : Code} (B : gB X p (rm12_factOf) s m args meth c RX12 cX12_factOf 5 (rm12_factOf)) (hS9 : gS X s) (hr : meth.sig.returnType = some .int) {M : mMem} (u0 : Int32) : GG X p l e (rm12_factOf) s m args below meth c (gP X below args s 0 0 (fun r9 : Int32 => (some (.int r9), M))) 5 0 0 105 [] [.int u0] M (p12_factOf_J105 M u0) := by
  unfold p12_factOf_J105
  exact g_ireturn B hr rfl (by decide) (by decide) rfl dX12_factOf_105
set_option maxRecDepth 20000 in
set_option maxHeartbeats 2000000 in
theorem g12_factOf_J121 {X : gX} {p : Program} {l : Launch} {e : Env} {s : State} {m : MethodId} {args : Array Value} {below : List Frame} {meth : Method} {c : Code} (B : gB X p (rm12_factOf) s m args meth c RX12 cX12_factOf 5 (rm12_factOf)) (hS9 : gS X s) (hr : meth.sig.returnType = some .int) {M : mMem} (u0 : Int32) : GG X p l e (rm12_factOf) s m args below meth c (gP X below args s 0 0 (fun r9 : Int32 => (some (.int r9), M))) 5 0 0 121 [] [.int u0] M (p12_factOf_J121 M u0) := by
  unfold p12_factOf_J121
  exact g_ireturn B hr rfl (by decide) (by decide) rfl dX12_factOf_121
set_option maxRecDepth 20000 in
set_option maxHeartbeats 2000000 in
theorem g12_factOf_J143 {X : gX} {p : Program} {l : Launch} {e : Env} {s : State} {m : MethodId} {args : Array Value} {below : List Frame} {meth : Method} {c : Code} (B : gB X p (rm12_factOf) s m args meth c RX12 cX12_factOf 5 (rm12_factOf)) (hS9 : gS X s) (hr : meth.sig.returnType = some .int) {M : mMem} (u0 : Int32) : GG X p l e (rm12_factOf) s m args below meth c (gP X below args s 0 0 (fun r9 : Int32 => (some (.int r9), M))) 5 0 0 143 [] [.int u0] M (p12_factOf_J143 M u0) := by
  unfold p12_factOf_J143
  exact g_ireturn B hr rfl (by decide) (by decide) rfl dX12_factOf_143
set_option maxRecDepth 20000 in
set_option maxHeartbeats 2000000 in
theorem g12_factOf {X : gX} {p : Program} {l : Launch} {e : Env} {s : State} {m : MethodId} {args : Array Value} {below : List Frame} {meth : Method} {c : Code} (B : gB X p (rm12_factOf) s m args meth c RX12 cX12_factOf 5 (rm12_factOf)) (hS9 : gS X s) (hr : meth.sig.returnType = some .int) {M : mMem} (a0 : Nat) (x1 : Int32) (x2 : Int32) (x3 : Int32) (x4 : Int32) : GG X p l e (rm12_factOf) s m args below meth c (gP X below args s 0 0 (fun r9 : Int32 => (some (.int r9), M))) 5 0 0 0 [(0, .ref a0), (1, .int x1), (2, .int x2), (3, .int x3), (4, .int x4)] [] M (p12_factOf a0 x1 x2 x3 x4 M) := by
  unfold p12_factOf
  refine g_gd ?_
  refine g_iload_n B dX12_factOf_0 1 rfl ?_
  refine g_tableswitch B [0, 1, 2, 3, 4, 5, 6, 7, 8] [52, 54, 57, 65, 72, 84, 91, 106, 122] 144 dX12_factOf_1 (by decide) (by decide) ?_ ?_
  · refine g_iload_n B dX12_factOf_144 2 rfl ?_
    exact g_ireturn B hr rfl (by decide) (by decide) rfl dX12_factOf_145
  · refine ⟨rfl, ?_, ?_, ?_, ?_, ?_, ?_, ?_, ?_, ?_, trivial⟩
    · refine g_iload_n B dX12_factOf_52 3 rfl ?_
      exact g_ireturn B hr rfl (by decide) (by decide) rfl dX12_factOf_53
    · refine g_iload B dX12_factOf_54 4 rfl ?_
      exact g_ireturn B hr rfl (by decide) (by decide) rfl dX12_factOf_56
    · refine g_aload_n B dX12_factOf_57 0 rfl ?_
      refine g_iload B dX12_factOf_58 4 rfl ?_
      refine g_iconst (v := 0) B dX12_factOf_60 (by decide) ?_
      refine g_callV_ip [.int x4, .int 0] (ci := 11) (T0 := TX12) (N := 27) B hS9 mf12_of wd_1846 (gw B wp_61) wd_1844 (by decide) rfl (fun h => (gd_ne h).1) (c12_of X l a0 x4 0 M) (by decide) (by decide) (by decide) rfl (by decide) dX12_factOf_61 rfl (fun v_1 => ?_)
      exact g_ireturn B hr rfl (by decide) (by decide) rfl dX12_factOf_64
    · refine g_aload_n B dX12_factOf_65 0 rfl ?_
      refine g_iload_n B dX12_factOf_66 3 rfl ?_
      refine g_iconst (v := 0) B dX12_factOf_67 (by decide) ?_
      refine g_callV_ip [.int x3, .int 0] (ci := 11) (T0 := TX12) (N := 27) B hS9 mf12_of wd_1846 (gw B wp_61) wd_1844 (by decide) rfl (fun h => (gd_ne h).1) (c12_of X l a0 x3 0 M) (by decide) (by decide) (by decide) rfl (by decide) dX12_factOf_68 rfl (fun v_2 => ?_)
      exact g_ireturn B hr rfl (by decide) (by decide) rfl dX12_factOf_71
    · refine g_iconst (v := 0) B dX12_factOf_72 (by decide) ?_
      refine g_aload_n B dX12_factOf_73 0 rfl ?_
      refine g_iload B dX12_factOf_74 4 rfl ?_
      refine g_iconst (v := 1) B dX12_factOf_76 (by decide) ?_
      refine g_callV_ip [.int x4, .int 1] (ci := 11) (T0 := TX12) (N := 27) B hS9 mf12_of wd_1846 (gw B wp_61) wd_1844 (by decide) rfl (fun h => (gd_ne h).1) (c12_of X l a0 x4 1 M) (by decide) (by decide) (by decide) rfl (Nat.le_of_ble_eq_true rfl) dX12_factOf_77 rfl (fun v_3 => ?_)
      refine g_max B wd_1869 wd_516 wd_15 wd_517 (by decide) (Nat.le_of_ble_eq_true rfl) (by decide) dX12_factOf_80 ?_
      exact g_ireturn B hr rfl (by decide) (by decide) rfl dX12_factOf_83
    · refine g_aload_n B dX12_factOf_84 0 rfl ?_
      refine g_getR (ci := 11) (T0 := TX12) (N := 27) B (by decide) rfl in_11 (k := 1) (by decide) rfl wd_1642 (fun _ h => h) dX12_factOf_85 (fun v_4 => ?_)
      refine g_iconst (v := 3) B dX12_factOf_88 (by decide) ?_
      refine g_iaload B dX12_factOf_89 (fun v_5 => ?_)
      exact g_ireturn B hr rfl (by decide) (by decide) rfl dX12_factOf_90
    · refine g_aload_n B dX12_factOf_91 0 rfl ?_
      refine g_iload B dX12_factOf_92 4 rfl ?_
      refine g_callV_ip [.int x4] (ci := 11) (T0 := TX12) (N := 27) B hS9 mf12_isSingle wd_1850 (gw B wp_62) wd_1848 (by decide) rfl (fun h => (gd_ne h).1) (c12_isSingle X l a0 x4 M) (by decide) (by decide) (by decide) rfl (by decide) dX12_factOf_94 rfl (fun v_6 => ?_)
      refine g_if_eq B 104 dX12_factOf_97 (by decide) ?_ ?_
      · refine g_iconst (v := 1) B dX12_factOf_104 (by decide) ?_
        refine g_sub (lv' := []) [] rfl ?_
        exact g12_factOf_J105 B hS9 hr 1
      · refine g_iconst (v := 0) B dX12_factOf_100 (by decide) ?_
        refine g_goto B 105 dX12_factOf_101 (by decide) ?_
        refine g_sub (lv' := []) [] rfl ?_
        exact g12_factOf_J105 B hS9 hr 0
    · refine g_aload_n B dX12_factOf_106 0 rfl ?_
      refine g_iload_n B dX12_factOf_107 3 rfl ?_
      refine g_iload B dX12_factOf_108 4 rfl ?_
      refine g_callV_ip [.int x3, .int x4] (ci := 11) (T0 := TX12) (N := 27) B hS9 mf12_isParent wd_1858 (gw B wp_64) wd_1856 (by decide) rfl (fun h => (gd_ne h).1) (c12_isParent X l a0 x3 x4 M) (by decide) (by decide) (by decide) rfl (by decide) dX12_factOf_110 rfl (fun v_7 => ?_)
      refine g_if_eq B 120 dX12_factOf_113 (by decide) ?_ ?_
      · refine g_iconst (v := 0) B dX12_factOf_120 (by decide) ?_
        refine g_sub (lv' := []) [] rfl ?_
        exact g12_factOf_J121 B hS9 hr 0
      · refine g_iconst (v := 1) B dX12_factOf_116 (by decide) ?_
        refine g_goto B 121 dX12_factOf_117 (by decide) ?_
        refine g_sub (lv' := []) [] rfl ?_
        exact g12_factOf_J121 B hS9 hr 1
    · refine g_aload_n B dX12_factOf_122 0 rfl ?_
      refine g_iload B dX12_factOf_123 4 rfl ?_
      refine g_iconst (v := 0) B dX12_factOf_125 (by decide) ?_
      refine g_callV_ip [.int x4, .int 0] (ci := 11) (T0 := TX12) (N := 27) B hS9 mf12_of wd_1846 (gw B wp_61) wd_1844 (by decide) rfl (fun h => (gd_ne h).1) (c12_of X l a0 x4 0 M) (by decide) (by decide) (by decide) rfl (by decide) dX12_factOf_126 rfl (fun v_8 => ?_)
      refine g_aload_n B dX12_factOf_129 0 rfl ?_
      refine g_getR (ci := 11) (T0 := TX12) (N := 27) B (by decide) rfl in_11 (k := 1) (by decide) rfl wd_1642 (fun _ h => h) dX12_factOf_130 (fun v_9 => ?_)
      refine g_iconst (v := 5) B dX12_factOf_133 (by decide) ?_
      refine g_iaload B dX12_factOf_134 (fun v_10 => ?_)
      refine g_icmp_ge B 142 dX12_factOf_135 (by decide) ?_ ?_
      · refine g_iconst (v := 1) B dX12_factOf_138 (by decide) ?_
        refine g_goto B 143 dX12_factOf_139 (by decide) ?_
        refine g_sub (lv' := []) [] rfl ?_
        exact g12_factOf_J143 B hS9 hr 1
      · refine g_iconst (v := 0) B dX12_factOf_142 (by decide) ?_
        refine g_sub (lv' := []) [] rfl ?_
        exact g12_factOf_J143 B hS9 hr 0
theorem c12_factOf (X : gX) (l : Launch) (a0 : Nat) (x1 : Int32) (x2 : Int32) (x3 : Int32) (x4 : Int32) (M : mMem) : Con X l yX12_factOf cX12_factOf 5 (some .int) rm12_factOf (fun r9 : Int32 => (some (.int r9), M)) [.ref a0, .int x1, .int x2, .int x3, .int x4] M (p12_factOf a0 x1 x2 x3 x4 M) := g_con (own := RX12) (by decide +kernel) rfl (Nat.le_of_ble_eq_true rfl) (fun p e s m args below meth c B hS9 hr hn => g12_factOf B hS9 hr a0 x1 x2 x3 x4)
theorem mf12_holdsLine : gMF yX12_holdsLine cX12_holdsLine 11 (some .boolean) 3 := ⟨wd_1991, wd_13, ⟨by decide, by decide⟩, by decide +kernel⟩
set_option maxRecDepth 20000 in
set_option maxHeartbeats 2000000 in
theorem g12_holdsLine_J265 {X : gX} {p : Program} {l : Launch} {e : Env} {s : State} {m : MethodId} {args : Array Value} {below : List Frame} {meth : Method} {c : Code} (B : gB X p (rm12_holdsLine) s m args meth c RX12 cX12_holdsLine 11 (rm12_holdsLine)) (hS9 : gS X s) (hr : meth.sig.returnType = some .boolean) (rec23 : Nat → Int32 → Int32 → Int32 → Int32 → Int32 → mMem → Option (Int32 × mMem)) (hrec23 : ∀ (a0 : Nat) (x2 : Int32) (x3 : Int32) (x4 : Int32) (x5 : Int32) (x6 : Int32) (M : mMem), GG X p l e (rm12_holdsLine) s m args below meth c (gP X below args s 0 0 (fun r9 : (Int32 × mMem) => (some (.int r9.1), r9.2))) 11 0 0 23 [(0, .ref a0), (2, .int x2), (3, .int x3), (4, .int x4), (5, .int x5), (6, .int x6)] [] M (rec23 a0 x2 x3 x4 x5 x6 M)) (a0 : Nat) (x2 : Int32) (x3 : Int32) (x4 : Int32) (x5 : Int32) (x6 : Int32) (M : mMem) : GG X p l e (rm12_holdsLine) s m args below meth c (gP X below args s 0 0 (fun r9 : (Int32 × mMem) => (some (.int r9.1), r9.2))) 11 0 0 265 [(0, .ref a0), (2, .int x2), (3, .int x3), (4, .int x4), (5, .int x5), (6, .int x6)] [] M (p12_holdsLine_J265 rec23 a0 x2 x3 x4 x5 x6 M) := by
  unfold p12_holdsLine_J265
  refine g_iinc (v := (x6 + 1)) (lv' := [(6, .int (x6 + 1)), (0, .ref a0), (2, .int x2), (3, .int x3), (4, .int x4), (5, .int x5)]) B dX12_holdsLine_265 5 rfl rfl (by decide) [0, 1, 2, 3, 4, 5] rfl ?_
  refine g_goto B 23 dX12_holdsLine_268 (by decide) ?_
  refine g_sub (lv' := [(0, .ref a0), (2, .int x2), (3, .int x3), (4, .int x4), (5, .int x5), (6, .int (x6 + 1))]) [1, 2, 3, 4, 5, 0] rfl ?_
  exact hrec23 a0 x2 x3 x4 x5 (x6 + 1) M
set_option maxRecDepth 20000 in
set_option maxHeartbeats 2000000 in
theorem g12_holdsLine_J264 {X : gX} {p : Program} {l : Launch} {e : Env} {s : State} {m : MethodId} {args : Array Value} {below : List Frame} {meth : Method} {c : Code} (B : gB X p (rm12_holdsLine) s m args meth c RX12 cX12_holdsLine 11 (rm12_holdsLine)) (hS9 : gS X s) (hr : meth.sig.returnType = some .boolean) (rec23 : Nat → Int32 → Int32 → Int32 → Int32 → Int32 → mMem → Option (Int32 × mMem)) (hrec23 : ∀ (a0 : Nat) (x2 : Int32) (x3 : Int32) (x4 : Int32) (x5 : Int32) (x6 : Int32) (M : mMem), GG X p l e (rm12_holdsLine) s m args below meth c (gP X below args s 0 0 (fun r9 : (Int32 × mMem) => (some (.int r9.1), r9.2))) 11 0 0 23 [(0, .ref a0), (2, .int x2), (3, .int x3), (4, .int x4), (5, .int x5), (6, .int x6)] [] M (rec23 a0 x2 x3 x4 x5 x6 M)) (a0 : Nat) (x2 : Int32) (x3 : Int32) (x4 : Int32) (x5 : Int32) (x6 : Int32) (b0 : Nat) (u1 : Int32) (u2 : Int32) (M : mMem) : GG X p l e (rm12_holdsLine) s m args below meth c (gP X below args s 0 0 (fun r9 : (Int32 × mMem) => (some (.int r9.1), r9.2))) 11 0 0 264 [(0, .ref a0), (2, .int x2), (3, .int x3), (4, .int x4), (5, .int x5), (6, .int x6)] [.int u2, .int u1, .ref b0] M (p12_holdsLine_J264 rec23 a0 x2 x3 x4 x5 x6 b0 u1 u2 M) := by
  unfold p12_holdsLine_J264
  refine g_iastore B dX12_holdsLine_264 (fun M_1 => ?_)
  refine g_sub (lv' := [(0, .ref a0), (2, .int x2), (3, .int x3), (4, .int x4), (5, .int x5), (6, .int x6)]) [0, 1, 2, 3, 4, 5] rfl ?_
  exact g12_holdsLine_J265 B hS9 hr rec23 hrec23 a0 x2 x3 x4 x5 x6 M_1
set_option maxRecDepth 20000 in
set_option maxHeartbeats 2000000 in
theorem g12_holdsLine_J229 {X : gX} {p : Program} {l : Launch} {e : Env} {s : State} {m : MethodId} {args : Array Value} {below : List Frame} {meth : Method} {c : Code} (B : gB X p (rm12_holdsLine) s m args meth c RX12 cX12_holdsLine 11 (rm12_holdsLine)) (hS9 : gS X s) (hr : meth.sig.returnType = some .boolean) (rec23 : Nat → Int32 → Int32 → Int32 → Int32 → Int32 → mMem → Option (Int32 × mMem)) (hrec23 : ∀ (a0 : Nat) (x2 : Int32) (x3 : Int32) (x4 : Int32) (x5 : Int32) (x6 : Int32) (M : mMem), GG X p l e (rm12_holdsLine) s m args below meth c (gP X below args s 0 0 (fun r9 : (Int32 × mMem) => (some (.int r9.1), r9.2))) 11 0 0 23 [(0, .ref a0), (2, .int x2), (3, .int x3), (4, .int x4), (5, .int x5), (6, .int x6)] [] M (rec23 a0 x2 x3 x4 x5 x6 M)) (a0 : Nat) (x2 : Int32) (x3 : Int32) (x4 : Int32) (x5 : Int32) (x6 : Int32) (x7 : Int32) (x8 : Int32) (x9 : Int32) (u0 : Int32) (M : mMem) : GG X p l e (rm12_holdsLine) s m args below meth c (gP X below args s 0 0 (fun r9 : (Int32 × mMem) => (some (.int r9.1), r9.2))) 11 0 0 229 [(0, .ref a0), (2, .int x2), (3, .int x3), (4, .int x4), (5, .int x5), (6, .int x6), (7, .int x7), (8, .int x8), (9, .int x9)] [.int u0] M (p12_holdsLine_J229 rec23 a0 x2 x3 x4 x5 x6 x7 x8 x9 u0 M) := by
  unfold p12_holdsLine_J229
  refine g_istore (lv' := [(10, .int u0), (0, .ref a0), (2, .int x2), (3, .int x3), (4, .int x4), (5, .int x5), (6, .int x6), (7, .int x7), (8, .int x8), (9, .int x9)]) B dX12_holdsLine_229 (by decide) [0, 1, 2, 3, 4, 5, 6, 7, 8, 9] rfl ?_
  refine g_aload_n B dX12_holdsLine_231 1 rfl ?_
  refine g_getR (ci := 11) (T0 := TX12) (N := 27) B (by decide) rfl in_11 (k := 17) (by decide) rfl wd_1658 (fun _ h => h) dX12_holdsLine_232 (fun v_1 => ?_)
  refine g_iload B dX12_holdsLine_235 4 rfl ?_
  refine g_iconst (v := 1) B dX12_holdsLine_237 (by decide) ?_
  refine g_isub B dX12_holdsLine_238 ?_
  refine g_iload B dX12_holdsLine_239 7 rfl ?_
  refine g_bipush (v := 10) B dX12_holdsLine_241 (by decide) ?_
  refine g_icmp_ne B 254 dX12_holdsLine_243 (by decide) ?_ ?_
  · refine g_iload B dX12_holdsLine_246 8 rfl ?_
    refine g_iload B dX12_holdsLine_248 9 rfl ?_
    refine g_iadd B dX12_holdsLine_250 ?_
    refine g_goto B 264 dX12_holdsLine_251 (by decide) ?_
    refine g_sub (lv' := [(0, .ref a0), (2, .int x2), (3, .int x3), (4, .int x4), (5, .int x5), (6, .int x6)]) [1, 2, 3, 4, 5, 6] rfl ?_
    exact g12_holdsLine_J264 B hS9 hr rec23 hrec23 a0 x2 x3 x4 x5 x6 v_1 (x4 - 1) (x8 + x9) M
  · refine g_iload B dX12_holdsLine_254 0 rfl ?_
    refine g_if_eq B 263 dX12_holdsLine_256 (by decide) ?_ ?_
    · refine g_iconst (v := 0) B dX12_holdsLine_263 (by decide) ?_
      refine g_sub (lv' := [(0, .ref a0), (2, .int x2), (3, .int x3), (4, .int x4), (5, .int x5), (6, .int x6)]) [1, 2, 3, 4, 5, 6] rfl ?_
      exact g12_holdsLine_J264 B hS9 hr rec23 hrec23 a0 x2 x3 x4 x5 x6 v_1 (x4 - 1) 0 M
    · refine g_iconst (v := 1) B dX12_holdsLine_259 (by decide) ?_
      refine g_goto B 264 dX12_holdsLine_260 (by decide) ?_
      refine g_sub (lv' := [(0, .ref a0), (2, .int x2), (3, .int x3), (4, .int x4), (5, .int x5), (6, .int x6)]) [1, 2, 3, 4, 5, 6] rfl ?_
      exact g12_holdsLine_J264 B hS9 hr rec23 hrec23 a0 x2 x3 x4 x5 x6 v_1 (x4 - 1) 1 M
set_option maxRecDepth 20000 in
set_option maxHeartbeats 2000000 in
theorem g12_holdsLine_L23 {X : gX} {p : Program} {l : Launch} {e : Env} {s : State} {m : MethodId} {args : Array Value} {below : List Frame} {meth : Method} {c : Code} (B : gB X p (rm12_holdsLine) s m args meth c RX12 cX12_holdsLine 11 (rm12_holdsLine)) (hS9 : gS X s) (hr : meth.sig.returnType = some .boolean) (k271 : Nat → Int32 → mMem → Option (Int32 × mMem)) (hk271 : ∀ (a0 : Nat) (x4 : Int32) (M : mMem), GG X p l e (rm12_holdsLine) s m args below meth c (gP X below args s 0 0 (fun r9 : (Int32 × mMem) => (some (.int r9.1), r9.2))) 11 0 0 271 [(0, .ref a0), (4, .int x4)] [] M (k271 a0 x4 M)) : ∀ (n : Nat) (a0 : Nat) (x2 : Int32) (x3 : Int32) (x4 : Int32) (x5 : Int32) (x6 : Int32) (M : mMem), GG X p l e (rm12_holdsLine) s m args below meth c (gP X below args s 0 0 (fun r9 : (Int32 × mMem) => (some (.int r9.1), r9.2))) 11 0 0 23 [(0, .ref a0), (2, .int x2), (3, .int x3), (4, .int x4), (5, .int x5), (6, .int x6)] [] M (p12_holdsLine_L23 k271 n a0 x2 x3 x4 x5 x6 M) := by
  intro n
  induction n with
  | zero => intro a0 x2 x3 x4 x5 x6 M; exact g_none
  | succ n ih =>
    intro a0 x2 x3 x4 x5 x6 M
    rw [p12_holdsLine_L23]
    refine g_iload B dX12_holdsLine_23 5 rfl ?_
    refine g_aload_n B dX12_holdsLine_25 0 rfl ?_
    refine g_getR (ci := 11) (T0 := TX12) (N := 27) B (by decide) rfl in_11 (k := 1) (by decide) rfl wd_1642 (fun _ h => h) dX12_holdsLine_26 (fun v_1 => ?_)
    refine g_iload B dX12_holdsLine_29 4 rfl ?_
    refine g_iconst (v := 3) B dX12_holdsLine_31 (by decide) ?_
    refine g_iadd B dX12_holdsLine_32 ?_
    refine g_iaload B dX12_holdsLine_33 (fun v_2 => ?_)
    refine g_icmp_ge B 271 dX12_holdsLine_34 (by decide) ?_ ?_
    · refine g_aload_n B dX12_holdsLine_37 0 rfl ?_
      refine g_getR (ci := 11) (T0 := TX12) (N := 27) B (by decide) rfl in_11 (k := 1) (by decide) rfl wd_1642 (fun _ h => h) dX12_holdsLine_38 (fun v_3 => ?_)
      refine g_sipush (v := 494) B dX12_holdsLine_41 (by decide) ?_
      refine g_iconst (v := 2) B dX12_holdsLine_44 (by decide) ?_
      refine g_iload B dX12_holdsLine_45 5 rfl ?_
      refine g_imul B dX12_holdsLine_47 ?_
      refine g_iadd B dX12_holdsLine_48 ?_
      refine g_iaload B dX12_holdsLine_49 (fun v_4 => ?_)
      refine g_istore (lv' := [(7, .int v_4), (0, .ref a0), (2, .int x2), (3, .int x3), (4, .int x4), (5, .int x5), (6, .int x6)]) B dX12_holdsLine_50 (by decide) [0, 1, 2, 3, 4, 5, 6] rfl ?_
      refine g_iload B dX12_holdsLine_52 0 rfl ?_
      refine g_bipush (v := 9) B dX12_holdsLine_54 (by decide) ?_
      refine g_icmp_gt B 95 dX12_holdsLine_56 (by decide) ?_ ?_
      · refine g_iload B dX12_holdsLine_95 0 rfl ?_
        refine g_bipush (v := 13) B dX12_holdsLine_97 (by decide) ?_
        refine g_icmp_ne B 125 dX12_holdsLine_99 (by decide) ?_ ?_
        · refine g_aload_n B dX12_holdsLine_102 1 rfl ?_
          refine g_getR (ci := 11) (T0 := TX12) (N := 27) B (by decide) rfl in_11 (k := 17) (by decide) rfl wd_1658 (fun _ h => h) dX12_holdsLine_103 (fun v_9 => ?_)
          refine g_iload B dX12_holdsLine_106 4 rfl ?_
          refine g_iconst (v := 1) B dX12_holdsLine_108 (by decide) ?_
          refine g_isub B dX12_holdsLine_109 ?_
          refine g_iconst (v := 1) B dX12_holdsLine_110 (by decide) ?_
          refine g_aload_n B dX12_holdsLine_111 1 rfl ?_
          refine g_getR (ci := 11) (T0 := TX12) (N := 27) B (by decide) rfl in_11 (k := 17) (by decide) rfl wd_1658 (fun _ h => h) dX12_holdsLine_112 (fun v_10 => ?_)
          refine g_iload B dX12_holdsLine_115 4 rfl ?_
          refine g_iconst (v := 1) B dX12_holdsLine_117 (by decide) ?_
          refine g_isub B dX12_holdsLine_118 ?_
          refine g_iaload B dX12_holdsLine_119 (fun v_11 => ?_)
          refine g_isub B dX12_holdsLine_120 ?_
          refine g_iastore B dX12_holdsLine_121 (fun M_12 => ?_)
          refine g_goto B 265 dX12_holdsLine_122 (by decide) ?_
          refine g_sub (lv' := [(0, .ref a0), (2, .int x2), (3, .int x3), (4, .int x4), (5, .int x5), (6, .int x6)]) [1, 2, 3, 4, 5, 6] rfl ?_
          exact g12_holdsLine_J265 B hS9 hr (p12_holdsLine_L23 k271 n) ih a0 x2 x3 x4 x5 x6 M_12
        · refine g_iinc (v := (x4 + (-1))) (lv' := [(4, .int (x4 + (-1))), (7, .int v_4), (0, .ref a0), (2, .int x2), (3, .int x3), (5, .int x5), (6, .int x6)]) B dX12_holdsLine_125 4 rfl rfl (by decide) [0, 1, 2, 3, 4, 5, 6] rfl ?_
          refine g_aload_n B dX12_holdsLine_128 2 rfl ?_
          refine g_getR (ci := 11) (T0 := TX12) (N := 27) B (by decide) rfl in_11 (k := 17) (by decide) rfl wd_1658 (fun _ h => h) dX12_holdsLine_129 (fun v_5 => ?_)
          refine g_iload B dX12_holdsLine_132 0 rfl ?_
          refine g_iconst (v := 1) B dX12_holdsLine_134 (by decide) ?_
          refine g_isub B dX12_holdsLine_135 ?_
          refine g_iaload B dX12_holdsLine_136 (fun v_6 => ?_)
          refine g_istore (lv' := [(8, .int v_6), (4, .int (x4 + (-1))), (7, .int v_4), (0, .ref a0), (2, .int x2), (3, .int x3), (5, .int x5), (6, .int x6)]) B dX12_holdsLine_137 (by decide) [0, 1, 2, 3, 4, 5, 6, 7] rfl ?_
          refine g_aload_n B dX12_holdsLine_139 3 rfl ?_
          refine g_getR (ci := 11) (T0 := TX12) (N := 27) B (by decide) rfl in_11 (k := 17) (by decide) rfl wd_1658 (fun _ h => h) dX12_holdsLine_140 (fun v_7 => ?_)
          refine g_iload B dX12_holdsLine_143 1 rfl ?_
          refine g_iaload B dX12_holdsLine_145 (fun v_8 => ?_)
          refine g_istore (lv' := [(9, .int v_8), (8, .int v_6), (4, .int (x4 + (-1))), (7, .int v_4), (0, .ref a0), (2, .int x2), (3, .int x3), (5, .int x5), (6, .int x6)]) B dX12_holdsLine_146 (by decide) [0, 1, 2, 3, 4, 5, 6, 7, 8] rfl ?_
          refine g_iload B dX12_holdsLine_148 3 rfl ?_
          refine g_bipush (v := 11) B dX12_holdsLine_150 (by decide) ?_
          refine g_icmp_ne B 170 dX12_holdsLine_152 (by decide) ?_ ?_
          · refine g_iload B dX12_holdsLine_155 1 rfl ?_
            refine g_iload B dX12_holdsLine_157 0 rfl ?_
            refine g_icmp_ge B 166 dX12_holdsLine_159 (by decide) ?_ ?_
            · refine g_iconst (v := 1) B dX12_holdsLine_162 (by decide) ?_
              refine g_goto B 229 dX12_holdsLine_163 (by decide) ?_
              refine g_sub (lv' := [(0, .ref a0), (2, .int x2), (3, .int x3), (4, .int (x4 + (-1))), (5, .int x5), (6, .int x6), (7, .int v_4), (8, .int v_6), (9, .int v_8)]) [4, 5, 6, 2, 7, 8, 3, 1, 0] rfl ?_
              exact g12_holdsLine_J229 B hS9 hr (p12_holdsLine_L23 k271 n) ih a0 x2 x3 (x4 + (-1)) x5 x6 v_4 v_6 v_8 1 M
            · refine g_iconst (v := 0) B dX12_holdsLine_166 (by decide) ?_
              refine g_goto B 229 dX12_holdsLine_167 (by decide) ?_
              refine g_sub (lv' := [(0, .ref a0), (2, .int x2), (3, .int x3), (4, .int (x4 + (-1))), (5, .int x5), (6, .int x6), (7, .int v_4), (8, .int v_6), (9, .int v_8)]) [4, 5, 6, 2, 7, 8, 3, 1, 0] rfl ?_
              exact g12_holdsLine_J229 B hS9 hr (p12_holdsLine_L23 k271 n) ih a0 x2 x3 (x4 + (-1)) x5 x6 v_4 v_6 v_8 0 M
          · refine g_iload B dX12_holdsLine_170 3 rfl ?_
            refine g_bipush (v := 12) B dX12_holdsLine_172 (by decide) ?_
            refine g_icmp_ne B 192 dX12_holdsLine_174 (by decide) ?_ ?_
            · refine g_iload B dX12_holdsLine_177 1 rfl ?_
              refine g_iload B dX12_holdsLine_179 0 rfl ?_
              refine g_icmp_le B 188 dX12_holdsLine_181 (by decide) ?_ ?_
              · refine g_iconst (v := 1) B dX12_holdsLine_184 (by decide) ?_
                refine g_goto B 229 dX12_holdsLine_185 (by decide) ?_
                refine g_sub (lv' := [(0, .ref a0), (2, .int x2), (3, .int x3), (4, .int (x4 + (-1))), (5, .int x5), (6, .int x6), (7, .int v_4), (8, .int v_6), (9, .int v_8)]) [4, 5, 6, 2, 7, 8, 3, 1, 0] rfl ?_
                exact g12_holdsLine_J229 B hS9 hr (p12_holdsLine_L23 k271 n) ih a0 x2 x3 (x4 + (-1)) x5 x6 v_4 v_6 v_8 1 M
              · refine g_iconst (v := 0) B dX12_holdsLine_188 (by decide) ?_
                refine g_goto B 229 dX12_holdsLine_189 (by decide) ?_
                refine g_sub (lv' := [(0, .ref a0), (2, .int x2), (3, .int x3), (4, .int (x4 + (-1))), (5, .int x5), (6, .int x6), (7, .int v_4), (8, .int v_6), (9, .int v_8)]) [4, 5, 6, 2, 7, 8, 3, 1, 0] rfl ?_
                exact g12_holdsLine_J229 B hS9 hr (p12_holdsLine_L23 k271 n) ih a0 x2 x3 (x4 + (-1)) x5 x6 v_4 v_6 v_8 0 M
            · refine g_iload B dX12_holdsLine_192 3 rfl ?_
              refine g_bipush (v := 14) B dX12_holdsLine_194 (by decide) ?_
              refine g_icmp_ne B 216 dX12_holdsLine_196 (by decide) ?_ ?_
              · refine g_iload B dX12_holdsLine_199 1 rfl ?_
                refine g_iload B dX12_holdsLine_201 0 rfl ?_
                refine g_iadd B dX12_holdsLine_203 ?_
                refine g_iconst (v := 2) B dX12_holdsLine_204 (by decide) ?_
                refine g_icmp_ne B 212 dX12_holdsLine_205 (by decide) ?_ ?_
                · refine g_iconst (v := 1) B dX12_holdsLine_208 (by decide) ?_
                  refine g_goto B 229 dX12_holdsLine_209 (by decide) ?_
                  refine g_sub (lv' := [(0, .ref a0), (2, .int x2), (3, .int x3), (4, .int (x4 + (-1))), (5, .int x5), (6, .int x6), (7, .int v_4), (8, .int v_6), (9, .int v_8)]) [4, 5, 6, 2, 7, 8, 3, 1, 0] rfl ?_
                  exact g12_holdsLine_J229 B hS9 hr (p12_holdsLine_L23 k271 n) ih a0 x2 x3 (x4 + (-1)) x5 x6 v_4 v_6 v_8 1 M
                · refine g_iconst (v := 0) B dX12_holdsLine_212 (by decide) ?_
                  refine g_goto B 229 dX12_holdsLine_213 (by decide) ?_
                  refine g_sub (lv' := [(0, .ref a0), (2, .int x2), (3, .int x3), (4, .int (x4 + (-1))), (5, .int x5), (6, .int x6), (7, .int v_4), (8, .int v_6), (9, .int v_8)]) [4, 5, 6, 2, 7, 8, 3, 1, 0] rfl ?_
                  exact g12_holdsLine_J229 B hS9 hr (p12_holdsLine_L23 k271 n) ih a0 x2 x3 (x4 + (-1)) x5 x6 v_4 v_6 v_8 0 M
              · refine g_iload B dX12_holdsLine_216 1 rfl ?_
                refine g_iload B dX12_holdsLine_218 0 rfl ?_
                refine g_iadd B dX12_holdsLine_220 ?_
                refine g_if_le B 228 dX12_holdsLine_221 (by decide) ?_ ?_
                · refine g_iconst (v := 1) B dX12_holdsLine_224 (by decide) ?_
                  refine g_goto B 229 dX12_holdsLine_225 (by decide) ?_
                  refine g_sub (lv' := [(0, .ref a0), (2, .int x2), (3, .int x3), (4, .int (x4 + (-1))), (5, .int x5), (6, .int x6), (7, .int v_4), (8, .int v_6), (9, .int v_8)]) [4, 5, 6, 2, 7, 8, 3, 1, 0] rfl ?_
                  exact g12_holdsLine_J229 B hS9 hr (p12_holdsLine_L23 k271 n) ih a0 x2 x3 (x4 + (-1)) x5 x6 v_4 v_6 v_8 1 M
                · refine g_iconst (v := 0) B dX12_holdsLine_228 (by decide) ?_
                  refine g_sub (lv' := [(0, .ref a0), (2, .int x2), (3, .int x3), (4, .int (x4 + (-1))), (5, .int x5), (6, .int x6), (7, .int v_4), (8, .int v_6), (9, .int v_8)]) [4, 5, 6, 2, 7, 8, 3, 1, 0] rfl ?_
                  exact g12_holdsLine_J229 B hS9 hr (p12_holdsLine_L23 k271 n) ih a0 x2 x3 (x4 + (-1)) x5 x6 v_4 v_6 v_8 0 M
      · refine g_aload_n B dX12_holdsLine_59 1 rfl ?_
        refine g_getR (ci := 11) (T0 := TX12) (N := 27) B (by decide) rfl in_11 (k := 17) (by decide) rfl wd_1658 (fun _ h => h) dX12_holdsLine_60 (fun v_13 => ?_)
        refine g_iload B dX12_holdsLine_63 4 rfl ?_
        refine g_aload_n B dX12_holdsLine_65 1 rfl ?_
        refine g_iload B dX12_holdsLine_66 0 rfl ?_
        refine g_aload_n B dX12_holdsLine_68 1 rfl ?_
        refine g_getR (ci := 11) (T0 := TX12) (N := 27) B (by decide) rfl in_11 (k := 1) (by decide) rfl wd_1642 (fun _ h => h) dX12_holdsLine_69 (fun v_14 => ?_)
        refine g_sipush (v := 494) B dX12_holdsLine_72 (by decide) ?_
        refine g_iconst (v := 2) B dX12_holdsLine_75 (by decide) ?_
        refine g_iload B dX12_holdsLine_76 6 rfl ?_
        refine g_imul B dX12_holdsLine_78 ?_
        refine g_iadd B dX12_holdsLine_79 ?_
        refine g_iconst (v := 1) B dX12_holdsLine_80 (by decide) ?_
        refine g_iadd B dX12_holdsLine_81 ?_
        refine g_iaload B dX12_holdsLine_82 (fun v_15 => ?_)
        refine g_iload_n B dX12_holdsLine_83 2 rfl ?_
        refine g_iload_n B dX12_holdsLine_84 3 rfl ?_
        refine g_callV_ip [.int v_4, .int v_15, .int x2, .int x3] (ci := 11) (T0 := TX12) (N := 27) B hS9 mf12_factOf wd_1994 (gw B wp_88) wd_1992 (by decide) rfl (fun h => (gd_ne h).1) (c12_factOf X l a0 v_4 v_15 x2 x3 M) (by decide) (by decide) (by decide) rfl (Nat.le_of_ble_eq_true rfl) dX12_holdsLine_85 rfl (fun v_16 => ?_)
        refine g_iastore B dX12_holdsLine_88 (fun M_17 => ?_)
        refine g_iinc (v := (x4 + 1)) (lv' := [(4, .int (x4 + 1)), (7, .int v_4), (0, .ref a0), (2, .int x2), (3, .int x3), (5, .int x5), (6, .int x6)]) B dX12_holdsLine_89 4 rfl rfl (by decide) [0, 1, 2, 3, 4, 5, 6] rfl ?_
        refine g_goto B 265 dX12_holdsLine_92 (by decide) ?_
        refine g_sub (lv' := [(0, .ref a0), (2, .int x2), (3, .int x3), (4, .int (x4 + 1)), (5, .int x5), (6, .int x6)]) [2, 3, 4, 0, 5, 6] rfl ?_
        exact g12_holdsLine_J265 B hS9 hr (p12_holdsLine_L23 k271 n) ih a0 x2 x3 (x4 + 1) x5 x6 M_17
    · refine g_sub (lv' := [(0, .ref a0), (4, .int x4)]) [0, 3] rfl ?_
      exact hk271 a0 x4 M
set_option maxRecDepth 20000 in
set_option maxHeartbeats 2000000 in
theorem g12_holdsLine_J291 {X : gX} {p : Program} {l : Launch} {e : Env} {s : State} {m : MethodId} {args : Array Value} {below : List Frame} {meth : Method} {c : Code} (B : gB X p (rm12_holdsLine) s m args meth c RX12 cX12_holdsLine 11 (rm12_holdsLine)) (hS9 : gS X s) (hr : meth.sig.returnType = some .boolean) (u0 : Int32) (M : mMem) : GG X p l e (rm12_holdsLine) s m args below meth c (gP X below args s 0 0 (fun r9 : (Int32 × mMem) => (some (.int r9.1), r9.2))) 11 0 0 291 [] [.int u0] M (p12_holdsLine_J291 u0 M) := by
  unfold p12_holdsLine_J291
  exact g_zreturn (f := fun z => (z, M)) B hr (by decide) (by decide) rfl dX12_holdsLine_291
set_option maxRecDepth 20000 in
set_option maxHeartbeats 2000000 in
theorem g12_holdsLine_J286 {X : gX} {p : Program} {l : Launch} {e : Env} {s : State} {m : MethodId} {args : Array Value} {below : List Frame} {meth : Method} {c : Code} (B : gB X p (rm12_holdsLine) s m args meth c RX12 cX12_holdsLine 11 (rm12_holdsLine)) (hS9 : gS X s) (hr : meth.sig.returnType = some .boolean) (M : mMem) : GG X p l e (rm12_holdsLine) s m args below meth c (gP X below args s 0 0 (fun r9 : (Int32 × mMem) => (some (.int r9.1), r9.2))) 11 0 0 286 [] [] M (p12_holdsLine_J286 M) := by
  unfold p12_holdsLine_J286
  refine g_iconst (v := 1) B dX12_holdsLine_286 (by decide) ?_
  refine g_goto B 291 dX12_holdsLine_287 (by decide) ?_
  refine g_sub (lv' := []) [] rfl ?_
  exact g12_holdsLine_J291 B hS9 hr 1 M
set_option maxRecDepth 20000 in
set_option maxHeartbeats 2000000 in
theorem g12_holdsLine_J271 {X : gX} {p : Program} {l : Launch} {e : Env} {s : State} {m : MethodId} {args : Array Value} {below : List Frame} {meth : Method} {c : Code} (B : gB X p (rm12_holdsLine) s m args meth c RX12 cX12_holdsLine 11 (rm12_holdsLine)) (hS9 : gS X s) (hr : meth.sig.returnType = some .boolean) (a0 : Nat) (x4 : Int32) (M : mMem) : GG X p l e (rm12_holdsLine) s m args below meth c (gP X below args s 0 0 (fun r9 : (Int32 × mMem) => (some (.int r9.1), r9.2))) 11 0 0 271 [(0, .ref a0), (4, .int x4)] [] M (p12_holdsLine_J271 a0 x4 M) := by
  unfold p12_holdsLine_J271
  refine g_iload B dX12_holdsLine_271 1 rfl ?_
  refine g_if_eq B 286 dX12_holdsLine_273 (by decide) ?_ ?_
  · refine g_sub (lv' := []) [] rfl ?_
    exact g12_holdsLine_J286 B hS9 hr M
  · refine g_aload_n B dX12_holdsLine_276 0 rfl ?_
    refine g_getR (ci := 11) (T0 := TX12) (N := 27) B (by decide) rfl in_11 (k := 17) (by decide) rfl wd_1658 (fun _ h => h) dX12_holdsLine_277 (fun v_1 => ?_)
    refine g_iconst (v := 0) B dX12_holdsLine_280 (by decide) ?_
    refine g_iaload B dX12_holdsLine_281 (fun v_2 => ?_)
    refine g_iconst (v := 1) B dX12_holdsLine_282 (by decide) ?_
    refine g_icmp_ne B 290 dX12_holdsLine_283 (by decide) ?_ ?_
    · refine g_sub (lv' := []) [] rfl ?_
      exact g12_holdsLine_J286 B hS9 hr M
    · refine g_iconst (v := 0) B dX12_holdsLine_290 (by decide) ?_
      refine g_sub (lv' := []) [] rfl ?_
      exact g12_holdsLine_J291 B hS9 hr 0 M
set_option maxRecDepth 20000 in
set_option maxHeartbeats 2000000 in
theorem g12_holdsLine {X : gX} {p : Program} {l : Launch} {e : Env} {s : State} {m : MethodId} {args : Array Value} {below : List Frame} {meth : Method} {c : Code} (B : gB X p (rm12_holdsLine) s m args meth c RX12 cX12_holdsLine 11 (rm12_holdsLine)) (hS9 : gS X s) (hr : meth.sig.returnType = some .boolean) (a0 : Nat) (x1 : Int32) (x2 : Int32) (x3 : Int32) (M : mMem) : GG X p l e (rm12_holdsLine) s m args below meth c (gP X below args s 0 0 (fun r9 : (Int32 × mMem) => (some (.int r9.1), r9.2))) 11 0 0 0 [(0, .ref a0), (1, .int x1), (2, .int x2), (3, .int x3)] [] M (p12_holdsLine a0 x1 x2 x3 M) := by
  unfold p12_holdsLine
  refine g_gd ?_
  refine g_iconst (v := 0) B dX12_holdsLine_0 (by decide) ?_
  refine g_istore (lv' := [(4, .int 0), (0, .ref a0), (1, .int x1), (2, .int x2), (3, .int x3)]) B dX12_holdsLine_1 (by decide) [0, 1, 2, 3, 4] rfl ?_
  refine g_sipush (v := 446) B dX12_holdsLine_3 (by decide) ?_
  refine g_iconst (v := 4) B dX12_holdsLine_6 (by decide) ?_
  refine g_iload_n B dX12_holdsLine_7 2 rfl ?_
  refine g_imul B dX12_holdsLine_8 ?_
  refine g_iadd B dX12_holdsLine_9 ?_
  refine g_istore (lv' := [(5, .int ((446 : Int32) + ((4 : Int32) * x1))), (4, .int 0), (0, .ref a0), (1, .int x1), (2, .int x2), (3, .int x3)]) B dX12_holdsLine_10 (by decide) [0, 1, 2, 3, 4, 5] rfl ?_
  refine g_aload_n B dX12_holdsLine_12 2 rfl ?_
  refine g_getR (ci := 11) (T0 := TX12) (N := 27) B (by decide) rfl in_11 (k := 1) (by decide) rfl wd_1642 (fun _ h => h) dX12_holdsLine_13 (fun v_1 => ?_)
  refine g_iload B dX12_holdsLine_16 0 rfl ?_
  refine g_iconst (v := 2) B dX12_holdsLine_18 (by decide) ?_
  refine g_iadd B dX12_holdsLine_19 ?_
  refine g_iaload B dX12_holdsLine_20 (fun v_2 => ?_)
  refine g_istore (lv' := [(6, .int v_2), (5, .int ((446 : Int32) + ((4 : Int32) * x1))), (4, .int 0), (0, .ref a0), (1, .int x1), (2, .int x2), (3, .int x3)]) B dX12_holdsLine_21 (by decide) [0, 1, 2, 3, 4, 5, 6] rfl ?_
  refine g_sub (lv' := [(0, .ref a0), (2, .int x2), (3, .int x3), (4, .int 0), (5, .int ((446 : Int32) + ((4 : Int32) * x1))), (6, .int v_2)]) [3, 5, 6, 2, 1, 0] rfl ?_
  exact (g12_holdsLine_L23 B hS9 hr p12_holdsLine_J271 (fun e0 e1 e2 => g12_holdsLine_J271 B hS9 hr e0 e1 e2)) gF a0 x2 x3 0 ((446 : Int32) + ((4 : Int32) * x1)) v_2 M
theorem c12_holdsLine (X : gX) (l : Launch) (a0 : Nat) (x1 : Int32) (x2 : Int32) (x3 : Int32) (M : mMem) : Con X l yX12_holdsLine cX12_holdsLine 11 (some .boolean) rm12_holdsLine (fun r9 : (Int32 × mMem) => (some (.int r9.1), r9.2)) [.ref a0, .int x1, .int x2, .int x3] M (p12_holdsLine a0 x1 x2 x3 M) := g_con (own := RX12) (by decide +kernel) rfl (Nat.le_of_ble_eq_true rfl) (fun p e s m args below meth c B hS9 hr hn => g12_holdsLine B hS9 hr a0 x1 x2 x3 M)
theorem mf12_sumOf : gMF yX12_sumOf cX12_sumOf 6 (some .int) 3 := ⟨wd_1987, wd_13, ⟨by decide, by decide⟩, by decide +kernel⟩
set_option maxRecDepth 20000 in
set_option maxHeartbeats 2000000 in
theorem g12_sumOf_J83 {X : gX} {p : Program} {l : Launch} {e : Env} {s : State} {m : MethodId} {args : Array Value} {below : List Frame} {meth : Method} {c : Code} (B : gB X p (rm12_sumOf) s m args meth c RX12 cX12_sumOf 6 (rm12_sumOf)) (hS9 : gS X s) (hr : meth.sig.returnType = some .int) (x4 : Int32) (M : mMem) : GG X p l e (rm12_sumOf) s m args below meth c (gP X below args s 0 0 (fun r9 : (Int32 × mMem) => (some (.int r9.1), r9.2))) 6 0 0 83 [(4, .int x4)] [] M (p12_sumOf_J83 x4 M) := by
  unfold p12_sumOf_J83
  refine g_iload B dX12_sumOf_83 0 rfl ?_
  exact g_ireturn B hr rfl (by decide) (by decide) rfl dX12_sumOf_85
set_option maxRecDepth 20000 in
set_option maxHeartbeats 2000000 in
theorem g12_sumOf_J77 {X : gX} {p : Program} {l : Launch} {e : Env} {s : State} {m : MethodId} {args : Array Value} {below : List Frame} {meth : Method} {c : Code} (B : gB X p (rm12_sumOf) s m args meth c RX12 cX12_sumOf 6 (rm12_sumOf)) (hS9 : gS X s) (hr : meth.sig.returnType = some .int) (rec6 : Nat → Int32 → Int32 → Int32 → Int32 → Int32 → mMem → Option (Int32 × mMem)) (hrec6 : ∀ (a0 : Nat) (x1 : Int32) (x2 : Int32) (x3 : Int32) (x4 : Int32) (x5 : Int32) (M : mMem), GG X p l e (rm12_sumOf) s m args below meth c (gP X below args s 0 0 (fun r9 : (Int32 × mMem) => (some (.int r9.1), r9.2))) 6 0 0 6 [(0, .ref a0), (1, .int x1), (2, .int x2), (3, .int x3), (4, .int x4), (5, .int x5)] [] M (rec6 a0 x1 x2 x3 x4 x5 M)) (a0 : Nat) (x1 : Int32) (x2 : Int32) (x3 : Int32) (x4 : Int32) (x5 : Int32) (M : mMem) : GG X p l e (rm12_sumOf) s m args below meth c (gP X below args s 0 0 (fun r9 : (Int32 × mMem) => (some (.int r9.1), r9.2))) 6 0 0 77 [(0, .ref a0), (1, .int x1), (2, .int x2), (3, .int x3), (4, .int x4), (5, .int x5)] [] M (p12_sumOf_J77 rec6 a0 x1 x2 x3 x4 x5 M) := by
  unfold p12_sumOf_J77
  refine g_iinc (v := (x5 + 1)) (lv' := [(5, .int (x5 + 1)), (0, .ref a0), (1, .int x1), (2, .int x2), (3, .int x3), (4, .int x4)]) B dX12_sumOf_77 5 rfl rfl (by decide) [0, 1, 2, 3, 4, 5] rfl ?_
  refine g_goto B 6 dX12_sumOf_80 (by decide) ?_
  refine g_sub (lv' := [(0, .ref a0), (1, .int x1), (2, .int x2), (3, .int x3), (4, .int x4), (5, .int (x5 + 1))]) [1, 2, 3, 4, 5, 0] rfl ?_
  exact hrec6 a0 x1 x2 x3 x4 (x5 + 1) M
set_option maxRecDepth 20000 in
set_option maxHeartbeats 2000000 in
theorem g12_sumOf_L6 {X : gX} {p : Program} {l : Launch} {e : Env} {s : State} {m : MethodId} {args : Array Value} {below : List Frame} {meth : Method} {c : Code} (B : gB X p (rm12_sumOf) s m args meth c RX12 cX12_sumOf 6 (rm12_sumOf)) (hS9 : gS X s) (hr : meth.sig.returnType = some .int) : ∀ (n : Nat) (a0 : Nat) (x1 : Int32) (x2 : Int32) (x3 : Int32) (x4 : Int32) (x5 : Int32) (M : mMem), GG X p l e (rm12_sumOf) s m args below meth c (gP X below args s 0 0 (fun r9 : (Int32 × mMem) => (some (.int r9.1), r9.2))) 6 0 0 6 [(0, .ref a0), (1, .int x1), (2, .int x2), (3, .int x3), (4, .int x4), (5, .int x5)] [] M (p12_sumOf_L6 n a0 x1 x2 x3 x4 x5 M) := by
  intro n
  induction n with
  | zero => intro a0 x1 x2 x3 x4 x5 M; exact g_none
  | succ n ih =>
    intro a0 x1 x2 x3 x4 x5 M
    rw [p12_sumOf_L6]
    refine g_aload_n B dX12_sumOf_6 0 rfl ?_
    refine g_getR (ci := 11) (T0 := TX12) (N := 27) B (by decide) rfl in_11 (k := 1) (by decide) rfl wd_1642 (fun _ h => h) dX12_sumOf_7 (fun v_1 => ?_)
    refine g_iconst (v := 2) B dX12_sumOf_10 (by decide) ?_
    refine g_iaload B dX12_sumOf_11 (fun v_2 => ?_)
    refine g_iconst (v := 1) B dX12_sumOf_12 (by decide) ?_
    refine g_icmp_ne B 83 dX12_sumOf_13 (by decide) ?_ ?_
    · refine g_iload B dX12_sumOf_16 5 rfl ?_
      refine g_aload_n B dX12_sumOf_18 0 rfl ?_
      refine g_getR (ci := 11) (T0 := TX12) (N := 27) B (by decide) rfl in_11 (k := 1) (by decide) rfl wd_1642 (fun _ h => h) dX12_sumOf_19 (fun v_3 => ?_)
      refine g_sipush (v := 445) B dX12_sumOf_22 (by decide) ?_
      refine g_iaload B dX12_sumOf_25 (fun v_4 => ?_)
      refine g_icmp_ge B 83 dX12_sumOf_26 (by decide) ?_ ?_
      · refine g_aload_n B dX12_sumOf_29 0 rfl ?_
        refine g_getR (ci := 11) (T0 := TX12) (N := 27) B (by decide) rfl in_11 (k := 1) (by decide) rfl wd_1642 (fun _ h => h) dX12_sumOf_30 (fun v_5 => ?_)
        refine g_sipush (v := 446) B dX12_sumOf_33 (by decide) ?_
        refine g_iconst (v := 4) B dX12_sumOf_36 (by decide) ?_
        refine g_iload B dX12_sumOf_37 5 rfl ?_
        refine g_imul B dX12_sumOf_39 ?_
        refine g_iadd B dX12_sumOf_40 ?_
        refine g_iaload B dX12_sumOf_41 (fun v_6 => ?_)
        refine g_iload_n B dX12_sumOf_42 1 rfl ?_
        refine g_icmp_ne B 77 dX12_sumOf_43 (by decide) ?_ ?_
        · refine g_aload_n B dX12_sumOf_46 0 rfl ?_
          refine g_iload B dX12_sumOf_47 5 rfl ?_
          refine g_iload_n B dX12_sumOf_49 2 rfl ?_
          refine g_iload_n B dX12_sumOf_50 3 rfl ?_
          refine g_callV_iw [.int x5, .int x2, .int x3] (ci := 11) (T0 := TX12) (N := 27) B hS9 mf12_holdsLine wd_1990 (gw B wp_87) wd_1988 (by decide) rfl (fun h => (gd_ne h).1) (c12_holdsLine X l a0 x5 x2 x3 M) (by decide) (by decide) (by decide) rfl (by decide) dX12_sumOf_51 rfl (fun q_7 => ?_)
          refine g_if_eq B 77 dX12_sumOf_54 (by decide) ?_ ?_
          · refine g_sub (lv' := [(0, .ref a0), (1, .int x1), (2, .int x2), (3, .int x3), (4, .int x4), (5, .int x5)]) [0, 1, 2, 3, 4, 5] rfl ?_
            exact g12_sumOf_J77 B hS9 hr (p12_sumOf_L6 n) ih a0 x1 x2 x3 x4 x5 q_7.2
          · refine g_iload B dX12_sumOf_57 4 rfl ?_
            refine g_aload_n B dX12_sumOf_59 0 rfl ?_
            refine g_getR (ci := 11) (T0 := TX12) (N := 27) B (by decide) rfl in_11 (k := 1) (by decide) rfl wd_1642 (fun _ h => h) dX12_sumOf_60 (fun v_8 => ?_)
            refine g_sipush (v := 446) B dX12_sumOf_63 (by decide) ?_
            refine g_iconst (v := 4) B dX12_sumOf_66 (by decide) ?_
            refine g_iload B dX12_sumOf_67 5 rfl ?_
            refine g_imul B dX12_sumOf_69 ?_
            refine g_iadd B dX12_sumOf_70 ?_
            refine g_iconst (v := 1) B dX12_sumOf_71 (by decide) ?_
            refine g_iadd B dX12_sumOf_72 ?_
            refine g_iaload B dX12_sumOf_73 (fun v_9 => ?_)
            refine g_iadd B dX12_sumOf_74 ?_
            refine g_istore (lv' := [(4, .int (x4 + v_9)), (0, .ref a0), (1, .int x1), (2, .int x2), (3, .int x3), (5, .int x5)]) B dX12_sumOf_75 (by decide) [0, 1, 2, 3, 4, 5] rfl ?_
            refine g_sub (lv' := [(0, .ref a0), (1, .int x1), (2, .int x2), (3, .int x3), (4, .int (x4 + v_9)), (5, .int x5)]) [1, 2, 3, 4, 0, 5] rfl ?_
            exact g12_sumOf_J77 B hS9 hr (p12_sumOf_L6 n) ih a0 x1 x2 x3 (x4 + v_9) x5 q_7.2
        · refine g_sub (lv' := [(0, .ref a0), (1, .int x1), (2, .int x2), (3, .int x3), (4, .int x4), (5, .int x5)]) [0, 1, 2, 3, 4, 5] rfl ?_
          exact g12_sumOf_J77 B hS9 hr (p12_sumOf_L6 n) ih a0 x1 x2 x3 x4 x5 M
      · refine g_sub (lv' := [(4, .int x4)]) [4] rfl ?_
        exact g12_sumOf_J83 B hS9 hr x4 M
    · refine g_sub (lv' := [(4, .int x4)]) [4] rfl ?_
      exact g12_sumOf_J83 B hS9 hr x4 M
set_option maxRecDepth 20000 in
set_option maxHeartbeats 2000000 in
theorem g12_sumOf {X : gX} {p : Program} {l : Launch} {e : Env} {s : State} {m : MethodId} {args : Array Value} {below : List Frame} {meth : Method} {c : Code} (B : gB X p (rm12_sumOf) s m args meth c RX12 cX12_sumOf 6 (rm12_sumOf)) (hS9 : gS X s) (hr : meth.sig.returnType = some .int) (a0 : Nat) (x1 : Int32) (x2 : Int32) (x3 : Int32) (M : mMem) : GG X p l e (rm12_sumOf) s m args below meth c (gP X below args s 0 0 (fun r9 : (Int32 × mMem) => (some (.int r9.1), r9.2))) 6 0 0 0 [(0, .ref a0), (1, .int x1), (2, .int x2), (3, .int x3)] [] M (p12_sumOf a0 x1 x2 x3 M) := by
  unfold p12_sumOf
  refine g_gd ?_
  refine g_iconst (v := 0) B dX12_sumOf_0 (by decide) ?_
  refine g_istore (lv' := [(4, .int 0), (0, .ref a0), (1, .int x1), (2, .int x2), (3, .int x3)]) B dX12_sumOf_1 (by decide) [0, 1, 2, 3, 4] rfl ?_
  refine g_iconst (v := 0) B dX12_sumOf_3 (by decide) ?_
  refine g_istore (lv' := [(5, .int 0), (4, .int 0), (0, .ref a0), (1, .int x1), (2, .int x2), (3, .int x3)]) B dX12_sumOf_4 (by decide) [0, 1, 2, 3, 4, 5] rfl ?_
  refine g_sub (lv' := [(0, .ref a0), (1, .int x1), (2, .int x2), (3, .int x3), (4, .int 0), (5, .int 0)]) [2, 3, 4, 5, 1, 0] rfl ?_
  exact (g12_sumOf_L6 B hS9 hr) gF a0 x1 x2 x3 0 0 M
theorem c12_sumOf (X : gX) (l : Launch) (a0 : Nat) (x1 : Int32) (x2 : Int32) (x3 : Int32) (M : mMem) : Con X l yX12_sumOf cX12_sumOf 6 (some .int) rm12_sumOf (fun r9 : (Int32 × mMem) => (some (.int r9.1), r9.2)) [.ref a0, .int x1, .int x2, .int x3] M (p12_sumOf a0 x1 x2 x3 M) := g_con (own := RX12) (by decide +kernel) rfl (Nat.le_of_ble_eq_true rfl) (fun p e s m args below meth c B hS9 hr hn => g12_sumOf B hS9 hr a0 x1 x2 x3 M)
theorem mf12_weighsOf : gMF yX12_weighsOf cX12_weighsOf 4 (some .int) 3 := ⟨wd_1983, wd_13, ⟨by decide, by decide⟩, by decide +kernel⟩
set_option maxRecDepth 20000 in
set_option maxHeartbeats 2000000 in
theorem g12_weighsOf_J29 {X : gX} {p : Program} {l : Launch} {e : Env} {s : State} {m : MethodId} {args : Array Value} {below : List Frame} {meth : Method} {c : Code} (B : gB X p (rm12_weighsOf) s m args meth c RX12 cX12_weighsOf 4 (rm12_weighsOf)) (hS9 : gS X s) (hr : meth.sig.returnType = some .int) (a0 : Nat) (x1 : Int32) (x2 : Int32) (u0 : Int32) (b1 : Nat) (u2 : Int32) (M : mMem) : GG X p l e (rm12_weighsOf) s m args below meth c (gP X below args s 0 0 (fun r9 : (Int32 × mMem) => (some (.int r9.1), r9.2))) 4 0 0 29 [(0, .ref a0), (1, .int x1), (2, .int x2)] [.int u2, .ref b1, .int u0] M (p12_weighsOf_J29 a0 x1 x2 u0 b1 u2 M) := by
  unfold p12_weighsOf_J29
  refine g_iload_n B dX12_weighsOf_29 1 rfl ?_
  refine g_iload_n B dX12_weighsOf_30 2 rfl ?_
  refine g_callV_iw [.int u2, .int x1, .int x2] (ci := 11) (T0 := TX12) (N := 27) B hS9 mf12_sumOf wd_1986 (gw B wp_86) wd_1984 (by decide) rfl (fun h => (gd_ne h).1) (c12_sumOf X l b1 u2 x1 x2 M) (by decide) (by decide) (by decide) rfl (Nat.le_of_ble_eq_true rfl) dX12_weighsOf_31 rfl (fun q_1 => ?_)
  refine g_iadd B dX12_weighsOf_34 ?_
  refine g_aload_n B dX12_weighsOf_35 0 rfl ?_
  refine g_getR (ci := 11) (T0 := TX12) (N := 27) B (by decide) rfl in_11 (k := 1) (by decide) rfl wd_1642 (fun _ h => h) dX12_weighsOf_36 (fun v_2 => ?_)
  refine g_iconst (v := 4) B dX12_weighsOf_39 (by decide) ?_
  refine g_iaload B dX12_weighsOf_40 (fun v_3 => ?_)
  refine g_irem B dX12_weighsOf_41 (fun v_4 => ?_)
  exact g_ireturn B hr rfl (by decide) (by decide) rfl dX12_weighsOf_42
set_option maxRecDepth 20000 in
set_option maxHeartbeats 2000000 in
theorem g12_weighsOf {X : gX} {p : Program} {l : Launch} {e : Env} {s : State} {m : MethodId} {args : Array Value} {below : List Frame} {meth : Method} {c : Code} (B : gB X p (rm12_weighsOf) s m args meth c RX12 cX12_weighsOf 4 (rm12_weighsOf)) (hS9 : gS X s) (hr : meth.sig.returnType = some .int) (a0 : Nat) (x1 : Int32) (x2 : Int32) (x3 : Int32) (M : mMem) : GG X p l e (rm12_weighsOf) s m args below meth c (gP X below args s 0 0 (fun r9 : (Int32 × mMem) => (some (.int r9.1), r9.2))) 4 0 0 0 [(0, .ref a0), (1, .int x1), (2, .int x2), (3, .int x3)] [] M (p12_weighsOf a0 x1 x2 x3 M) := by
  unfold p12_weighsOf
  refine g_gd ?_
  refine g_aload_n B dX12_weighsOf_0 0 rfl ?_
  refine g_iconst (v := 2) B dX12_weighsOf_1 (by decide) ?_
  refine g_iload_n B dX12_weighsOf_2 1 rfl ?_
  refine g_iload_n B dX12_weighsOf_3 2 rfl ?_
  refine g_callV_iw [.int 2, .int x1, .int x2] (ci := 11) (T0 := TX12) (N := 27) B hS9 mf12_sumOf wd_1986 (gw B wp_86) wd_1984 (by decide) rfl (fun h => (gd_ne h).1) (c12_sumOf X l a0 2 x1 x2 M) (by decide) (by decide) (by decide) rfl (by decide) dX12_weighsOf_4 rfl (fun q_1 => ?_)
  refine g_if_le B 12 dX12_weighsOf_7 (by decide) ?_ ?_
  · refine g_iconst (v := 0) B dX12_weighsOf_10 (by decide) ?_
    exact g_ireturn B hr rfl (by decide) (by decide) rfl dX12_weighsOf_11
  · refine g_aload_n B dX12_weighsOf_12 0 rfl ?_
    refine g_getR (ci := 11) (T0 := TX12) (N := 27) B (by decide) rfl in_11 (k := 1) (by decide) rfl wd_1642 (fun _ h => h) dX12_weighsOf_13 (fun v_2 => ?_)
    refine g_bipush (v := 6) B dX12_weighsOf_16 (by decide) ?_
    refine g_iaload B dX12_weighsOf_18 (fun v_3 => ?_)
    refine g_aload_n B dX12_weighsOf_19 0 rfl ?_
    refine g_iload_n B dX12_weighsOf_20 3 rfl ?_
    refine g_if_eq B 28 dX12_weighsOf_21 (by decide) ?_ ?_
    · refine g_iconst (v := 0) B dX12_weighsOf_28 (by decide) ?_
      refine g_sub (lv' := [(0, .ref a0), (1, .int x1), (2, .int x2)]) [0, 1, 2] rfl ?_
      exact g12_weighsOf_J29 B hS9 hr a0 x1 x2 v_3 a0 0 q_1.2
    · refine g_iconst (v := 1) B dX12_weighsOf_24 (by decide) ?_
      refine g_goto B 29 dX12_weighsOf_25 (by decide) ?_
      refine g_sub (lv' := [(0, .ref a0), (1, .int x1), (2, .int x2)]) [0, 1, 2] rfl ?_
      exact g12_weighsOf_J29 B hS9 hr a0 x1 x2 v_3 a0 1 q_1.2
theorem c12_weighsOf (X : gX) (l : Launch) (a0 : Nat) (x1 : Int32) (x2 : Int32) (x3 : Int32) (M : mMem) : Con X l yX12_weighsOf cX12_weighsOf 4 (some .int) rm12_weighsOf (fun r9 : (Int32 × mMem) => (some (.int r9.1), r9.2)) [.ref a0, .int x1, .int x2, .int x3] M (p12_weighsOf a0 x1 x2 x3 M) := g_con (own := RX12) (by decide +kernel) rfl (Nat.le_of_ble_eq_true rfl) (fun p e s m args below meth c B hS9 hr hn => g12_weighsOf B hS9 hr a0 x1 x2 x3 M)
theorem mf12_grows : gMF yX12_grows cX12_grows 5 (none) 3 := ⟨wd_2023, wd_13, ⟨by decide, by decide⟩, by decide +kernel⟩
set_option maxRecDepth 20000 in
set_option maxHeartbeats 2000000 in
theorem g12_grows_J81 {X : gX} {p : Program} {l : Launch} {e : Env} {s : State} {m : MethodId} {args : Array Value} {below : List Frame} {meth : Method} {c : Code} (B : gB X p (rm12_grows) s m args meth c RX12 cX12_grows 5 (rm12_grows)) (hS9 : gS X s) (hr : meth.sig.returnType = none) (a0 : Nat) (x1 : Int32) (x4 : Int32) (M : mMem) : GG X p l e (rm12_grows) s m args below meth c (gP X below args s 0 0 (fun M9 : mMem => (none, M9))) 5 0 0 81 [(0, .ref a0), (1, .int x1), (4, .int x4)] [] M (p12_grows_J81 a0 x1 x4 M) := by
  unfold p12_grows_J81
  refine g_aload_n B dX12_grows_81 0 rfl ?_
  refine g_getR (ci := 11) (T0 := TX12) (N := 27) B (by decide) rfl in_11 (k := 1) (by decide) rfl wd_1642 (fun _ h => h) dX12_grows_82 (fun v_1 => ?_)
  refine g_iload_n B dX12_grows_85 1 rfl ?_
  refine g_iconst (v := 0) B dX12_grows_86 (by decide) ?_
  refine g_callS_ip [.int x1, .int 0] B hS9 mf12_at wd_1824 wd_1823 (c12_at X l x1 0 M) (by decide) (by decide) (by decide) rfl (Nat.le_of_ble_eq_true rfl) dX12_grows_87 rfl (fun v_2 => ?_)
  refine g_iload B dX12_grows_90 2 rfl ?_
  refine g_aload_n B dX12_grows_92 0 rfl ?_
  refine g_getR (ci := 11) (T0 := TX12) (N := 27) B (by decide) rfl in_11 (k := 1) (by decide) rfl wd_1642 (fun _ h => h) dX12_grows_93 (fun v_3 => ?_)
  refine g_iconst (v := 4) B dX12_grows_96 (by decide) ?_
  refine g_iaload B dX12_grows_97 (fun v_4 => ?_)
  refine g_iadd B dX12_grows_98 ?_
  refine g_aload_n B dX12_grows_99 0 rfl ?_
  refine g_getR (ci := 11) (T0 := TX12) (N := 27) B (by decide) rfl in_11 (k := 1) (by decide) rfl wd_1642 (fun _ h => h) dX12_grows_100 (fun v_5 => ?_)
  refine g_iconst (v := 4) B dX12_grows_103 (by decide) ?_
  refine g_iaload B dX12_grows_104 (fun v_6 => ?_)
  refine g_irem B dX12_grows_105 (fun v_7 => ?_)
  refine g_iastore B dX12_grows_106 (fun M_8 => ?_)
  exact g_vreturn B hr (by decide) (by decide) rfl dX12_grows_107
set_option maxRecDepth 20000 in
set_option maxHeartbeats 2000000 in
theorem g12_grows_J47 {X : gX} {p : Program} {l : Launch} {e : Env} {s : State} {m : MethodId} {args : Array Value} {below : List Frame} {meth : Method} {c : Code} (B : gB X p (rm12_grows) s m args meth c RX12 cX12_grows 5 (rm12_grows)) (hS9 : gS X s) (hr : meth.sig.returnType = none) (a0 : Nat) (x1 : Int32) (x4 : Int32) (M : mMem) : GG X p l e (rm12_grows) s m args below meth c (gP X below args s 0 0 (fun M9 : mMem => (none, M9))) 5 0 0 47 [(0, .ref a0), (1, .int x1), (4, .int x4)] [] M (p12_grows_J47 a0 x1 x4 M) := by
  unfold p12_grows_J47
  refine g_iload B dX12_grows_47 2 rfl ?_
  refine g_aload_n B dX12_grows_49 0 rfl ?_
  refine g_getR (ci := 11) (T0 := TX12) (N := 27) B (by decide) rfl in_11 (k := 1) (by decide) rfl wd_1642 (fun _ h => h) dX12_grows_50 (fun v_1 => ?_)
  refine g_iconst (v := 4) B dX12_grows_53 (by decide) ?_
  refine g_iaload B dX12_grows_54 (fun v_2 => ?_)
  refine g_icmp_lt B 81 dX12_grows_55 (by decide) ?_ ?_
  · refine g_sub (lv' := [(0, .ref a0), (1, .int x1), (4, .int x4)]) [0, 1, 2] rfl ?_
    exact g12_grows_J81 B hS9 hr a0 x1 x4 M
  · refine g_aload_n B dX12_grows_58 0 rfl ?_
    refine g_getR (ci := 11) (T0 := TX12) (N := 27) B (by decide) rfl in_11 (k := 1) (by decide) rfl wd_1642 (fun _ h => h) dX12_grows_59 (fun v_3 => ?_)
    refine g_iload_n B dX12_grows_62 1 rfl ?_
    refine g_iconst (v := 1) B dX12_grows_63 (by decide) ?_
    refine g_callS_ip [.int x1, .int 1] B hS9 mf12_at wd_1824 wd_1823 (c12_at X l x1 1 M) (by decide) (by decide) (by decide) rfl (Nat.le_of_ble_eq_true rfl) dX12_grows_64 rfl (fun v_4 => ?_)
    refine g_bipush (v := (-99)) B dX12_grows_67 (by decide) ?_
    refine g_aload_n B dX12_grows_69 0 rfl ?_
    refine g_iload_n B dX12_grows_70 1 rfl ?_
    refine g_iconst (v := 1) B dX12_grows_71 (by decide) ?_
    refine g_callV_ip [.int x1, .int 1] (ci := 11) (T0 := TX12) (N := 27) B hS9 mf12_of wd_1846 (gw B wp_61) wd_1844 (by decide) rfl (fun h => (gd_ne h).1) (c12_of X l a0 x1 1 M) (by decide) (by decide) (by decide) rfl (Nat.le_of_ble_eq_true rfl) dX12_grows_72 rfl (fun v_5 => ?_)
    refine g_iconst (v := 1) B dX12_grows_75 (by decide) ?_
    refine g_isub B dX12_grows_76 ?_
    refine g_max B wd_1869 wd_516 wd_15 wd_517 (by decide) (Nat.le_of_ble_eq_true rfl) (by decide) dX12_grows_77 ?_
    refine g_iastore B dX12_grows_80 (fun M_6 => ?_)
    refine g_sub (lv' := [(0, .ref a0), (1, .int x1), (4, .int x4)]) [0, 1, 2] rfl ?_
    exact g12_grows_J81 B hS9 hr a0 x1 x4 M_6
set_option maxRecDepth 20000 in
set_option maxHeartbeats 2000000 in
theorem g12_grows_J16 {X : gX} {p : Program} {l : Launch} {e : Env} {s : State} {m : MethodId} {args : Array Value} {below : List Frame} {meth : Method} {c : Code} (B : gB X p (rm12_grows) s m args meth c RX12 cX12_grows 5 (rm12_grows)) (hS9 : gS X s) (hr : meth.sig.returnType = none) (a0 : Nat) (x1 : Int32) (u0 : Int32) (u1 : Int32) (M : mMem) : GG X p l e (rm12_grows) s m args below meth c (gP X below args s 0 0 (fun M9 : mMem => (none, M9))) 5 0 0 16 [(0, .ref a0), (1, .int x1)] [.int u1, .int u0] M (p12_grows_J16 a0 x1 u0 u1 M) := by
  unfold p12_grows_J16
  refine g_iadd B dX12_grows_16 ?_
  refine g_istore (lv' := [(4, .int (u0 + u1)), (0, .ref a0), (1, .int x1)]) B dX12_grows_17 (by decide) [0, 1, 2] rfl ?_
  refine g_iload B dX12_grows_19 0 rfl ?_
  refine g_if_ge B 47 dX12_grows_21 (by decide) ?_ ?_
  · refine g_aload_n B dX12_grows_24 1 rfl ?_
    refine g_getR (ci := 11) (T0 := TX12) (N := 27) B (by decide) rfl in_11 (k := 1) (by decide) rfl wd_1642 (fun _ h => h) dX12_grows_25 (fun v_1 => ?_)
    refine g_iload_n B dX12_grows_28 2 rfl ?_
    refine g_iconst (v := 1) B dX12_grows_29 (by decide) ?_
    refine g_callS_ip [.int x1, .int 1] B hS9 mf12_at wd_1824 wd_1823 (c12_at X l x1 1 M) (by decide) (by decide) (by decide) rfl (Nat.le_of_ble_eq_true rfl) dX12_grows_30 rfl (fun v_2 => ?_)
    refine g_bipush (v := 99) B dX12_grows_33 (by decide) ?_
    refine g_aload_n B dX12_grows_35 1 rfl ?_
    refine g_iload_n B dX12_grows_36 2 rfl ?_
    refine g_iconst (v := 1) B dX12_grows_37 (by decide) ?_
    refine g_callV_ip [.int x1, .int 1] (ci := 11) (T0 := TX12) (N := 27) B hS9 mf12_of wd_1846 (gw B wp_61) wd_1844 (by decide) rfl (fun h => (gd_ne h).1) (c12_of X l a0 x1 1 M) (by decide) (by decide) (by decide) rfl (Nat.le_of_ble_eq_true rfl) dX12_grows_38 rfl (fun v_3 => ?_)
    refine g_iconst (v := 1) B dX12_grows_41 (by decide) ?_
    refine g_iadd B dX12_grows_42 ?_
    refine g_min B wd_2007 wd_538 wd_15 wd_539 (by decide) (Nat.le_of_ble_eq_true rfl) (by decide) dX12_grows_43 ?_
    refine g_iastore B dX12_grows_46 (fun M_4 => ?_)
    refine g_sub (lv' := [(0, .ref a0), (1, .int x1), (4, .int (u0 + u1))]) [1, 2, 0] rfl ?_
    exact g12_grows_J47 B hS9 hr a0 x1 (u0 + u1) M_4
  · refine g_sub (lv' := [(0, .ref a0), (1, .int x1), (4, .int (u0 + u1))]) [1, 2, 0] rfl ?_
    exact g12_grows_J47 B hS9 hr a0 x1 (u0 + u1) M
set_option maxRecDepth 20000 in
set_option maxHeartbeats 2000000 in
theorem g12_grows {X : gX} {p : Program} {l : Launch} {e : Env} {s : State} {m : MethodId} {args : Array Value} {below : List Frame} {meth : Method} {c : Code} (B : gB X p (rm12_grows) s m args meth c RX12 cX12_grows 5 (rm12_grows)) (hS9 : gS X s) (hr : meth.sig.returnType = none) (a0 : Nat) (x1 : Int32) (x2 : Int32) (x3 : Int32) (M : mMem) : GG X p l e (rm12_grows) s m args below meth c (gP X below args s 0 0 (fun M9 : mMem => (none, M9))) 5 0 0 0 [(0, .ref a0), (1, .int x1), (2, .int x2), (3, .int x3)] [] M (p12_grows a0 x1 x2 x3 M) := by
  unfold p12_grows
  refine g_gd ?_
  refine g_aload_n B dX12_grows_0 0 rfl ?_
  refine g_iload_n B dX12_grows_1 1 rfl ?_
  refine g_iconst (v := 0) B dX12_grows_2 (by decide) ?_
  refine g_callV_ip [.int x1, .int 0] (ci := 11) (T0 := TX12) (N := 27) B hS9 mf12_of wd_1846 (gw B wp_61) wd_1844 (by decide) rfl (fun h => (gd_ne h).1) (c12_of X l a0 x1 0 M) (by decide) (by decide) (by decide) rfl (by decide) dX12_grows_3 rfl (fun v_1 => ?_)
  refine g_iload_n B dX12_grows_6 3 rfl ?_
  refine g_if_eq B 14 dX12_grows_7 (by decide) ?_ ?_
  · refine g_iload_n B dX12_grows_14 2 rfl ?_
    refine g_ineg B dX12_grows_15 ?_
    refine g_sub (lv' := [(0, .ref a0), (1, .int x1)]) [0, 1] rfl ?_
    exact g12_grows_J16 B hS9 hr a0 x1 v_1 (-x2) M
  · refine g_iload_n B dX12_grows_10 2 rfl ?_
    refine g_goto B 16 dX12_grows_11 (by decide) ?_
    refine g_sub (lv' := [(0, .ref a0), (1, .int x1)]) [0, 1] rfl ?_
    exact g12_grows_J16 B hS9 hr a0 x1 v_1 x2 M
theorem c12_grows (X : gX) (l : Launch) (a0 : Nat) (x1 : Int32) (x2 : Int32) (x3 : Int32) (M : mMem) : Con X l yX12_grows cX12_grows 5 (none) rm12_grows (fun M9 : mMem => (none, M9)) [.ref a0, .int x1, .int x2, .int x3] M (p12_grows a0 x1 x2 x3 M) := g_con (own := RX12) (by decide +kernel) rfl (Nat.le_of_ble_eq_true rfl) (fun p e s m args below meth c B hS9 hr hn => g12_grows B hS9 hr a0 x1 x2 x3 M)
theorem mf12_hears : gMF yX12_hears cX12_hears 4 (none) 3 := ⟨wd_2019, wd_13, ⟨by decide, by decide⟩, by decide +kernel⟩
set_option maxRecDepth 20000 in
set_option maxHeartbeats 2000000 in
theorem g12_hears {X : gX} {p : Program} {l : Launch} {e : Env} {s : State} {m : MethodId} {args : Array Value} {below : List Frame} {meth : Method} {c : Code} (B : gB X p (rm12_hears) s m args meth c RX12 cX12_hears 4 (rm12_hears)) (hS9 : gS X s) (hr : meth.sig.returnType = none) (a0 : Nat) (x1 : Int32) (x2 : Int32) (x3 : Int32) (M : mMem) : GG X p l e (rm12_hears) s m args below meth c (gP X below args s 0 0 (fun M9 : mMem => (none, M9))) 4 0 0 0 [(0, .ref a0), (1, .int x1), (2, .int x2), (3, .int x3)] [] M (p12_hears a0 x1 x2 x3 M) := by
  unfold p12_hears
  refine g_gd ?_
  refine g_aload_n B dX12_hears_0 0 rfl ?_
  refine g_iload_n B dX12_hears_1 2 rfl ?_
  refine g_aload_n B dX12_hears_2 0 rfl ?_
  refine g_iload_n B dX12_hears_3 1 rfl ?_
  refine g_iload_n B dX12_hears_4 2 rfl ?_
  refine g_iload_n B dX12_hears_5 3 rfl ?_
  refine g_callV_iw [.int x1, .int x2, .int x3] (ci := 11) (T0 := TX12) (N := 27) B hS9 mf12_weighsOf wd_1982 (gw B wp_85) wd_1980 (by decide) rfl (fun h => (gd_ne h).1) (c12_weighsOf X l a0 x1 x2 x3 M) (by decide) (by decide) (by decide) rfl (Nat.le_of_ble_eq_true rfl) dX12_hears_6 rfl (fun q_1 => ?_)
  refine g_iload_n B dX12_hears_9 3 rfl ?_
  refine g_callV_vw [.int x2, .int q_1.1, .int x3] (ci := 11) (T0 := TX12) (N := 27) B hS9 mf12_grows wd_2022 (gw B wp_92) wd_2020 (by decide) rfl (fun h => (gd_ne h).1) (c12_grows X l a0 x2 q_1.1 x3 q_1.2) (by decide) (by decide) (by decide) rfl (by decide) dX12_hears_10 rfl (fun q_2 => ?_)
  exact g_vreturn B hr (by decide) (by decide) rfl dX12_hears_13
theorem c12_hears (X : gX) (l : Launch) (a0 : Nat) (x1 : Int32) (x2 : Int32) (x3 : Int32) (M : mMem) : Con X l yX12_hears cX12_hears 4 (none) rm12_hears (fun M9 : mMem => (none, M9)) [.ref a0, .int x1, .int x2, .int x3] M (p12_hears a0 x1 x2 x3 M) := g_con (own := RX12) (by decide +kernel) rfl (Nat.le_of_ble_eq_true rfl) (fun p e s m args below meth c B hS9 hr hn => g12_hears B hS9 hr a0 x1 x2 x3 M)
theorem mf12_tells : gMF yX12_tells cX12_tells 5 (none) 3 := ⟨wd_2043, wd_13, ⟨by decide, by decide⟩, by decide +kernel⟩
set_option maxRecDepth 20000 in
set_option maxHeartbeats 2000000 in
theorem g12_tells_L5 {X : gX} {p : Program} {l : Launch} {e : Env} {s : State} {m : MethodId} {args : Array Value} {below : List Frame} {meth : Method} {c : Code} (B : gB X p (rm12_tells) s m args meth c RX12 cX12_tells 5 (rm12_tells)) (hS9 : gS X s) (hr : meth.sig.returnType = none) (k41 : Nat → Int32 → Int32 → Int32 → mMem → Option mMem) (hk41 : ∀ (a0 : Nat) (x1 : Int32) (x2 : Int32) (x3 : Int32) (M : mMem), GG X p l e (rm12_tells) s m args below meth c (gP X below args s 0 0 (fun M9 : mMem => (none, M9))) 5 0 0 41 [(0, .ref a0), (1, .int x1), (2, .int x2), (3, .int x3)] [] M (k41 a0 x1 x2 x3 M)) : ∀ (n : Nat) (a0 : Nat) (x1 : Int32) (x2 : Int32) (x3 : Int32) (x4 : Int32) (M : mMem), GG X p l e (rm12_tells) s m args below meth c (gP X below args s 0 0 (fun M9 : mMem => (none, M9))) 5 0 0 5 [(0, .ref a0), (1, .int x1), (2, .int x2), (3, .int x3), (4, .int x4)] [] M (p12_tells_L5 k41 n a0 x1 x2 x3 x4 M) := by
  intro n
  induction n with
  | zero => intro a0 x1 x2 x3 x4 M; exact g_none
  | succ n ih =>
    intro a0 x1 x2 x3 x4 M
    rw [p12_tells_L5]
    refine g_iload B dX12_tells_5 4 rfl ?_
    refine g_iconst (v := 5) B dX12_tells_7 (by decide) ?_
    refine g_icmp_lt B 41 dX12_tells_8 (by decide) ?_ ?_
    · refine g_sub (lv' := [(0, .ref a0), (1, .int x1), (2, .int x2), (3, .int x3)]) [0, 1, 2, 3] rfl ?_
      exact hk41 a0 x1 x2 x3 M
    · refine g_aload_n B dX12_tells_11 0 rfl ?_
      refine g_getR (ci := 11) (T0 := TX12) (N := 27) B (by decide) rfl in_11 (k := 1) (by decide) rfl wd_1642 (fun _ h => h) dX12_tells_12 (fun v_1 => ?_)
      refine g_sipush (v := 145) B dX12_tells_15 (by decide) ?_
      refine g_iload B dX12_tells_18 4 rfl ?_
      refine g_iadd B dX12_tells_20 ?_
      refine g_aload_n B dX12_tells_21 0 rfl ?_
      refine g_getR (ci := 11) (T0 := TX12) (N := 27) B (by decide) rfl in_11 (k := 1) (by decide) rfl wd_1642 (fun _ h => h) dX12_tells_22 (fun v_2 => ?_)
      refine g_sipush (v := 145) B dX12_tells_25 (by decide) ?_
      refine g_iload B dX12_tells_28 4 rfl ?_
      refine g_iadd B dX12_tells_30 ?_
      refine g_iconst (v := 5) B dX12_tells_31 (by decide) ?_
      refine g_isub B dX12_tells_32 ?_
      refine g_iaload B dX12_tells_33 (fun v_3 => ?_)
      refine g_iastore B dX12_tells_34 (fun M_4 => ?_)
      refine g_iinc (v := (x4 + (-1))) (lv' := [(4, .int (x4 + (-1))), (0, .ref a0), (1, .int x1), (2, .int x2), (3, .int x3)]) B dX12_tells_35 4 rfl rfl (by decide) [0, 1, 2, 3, 4] rfl ?_
      refine g_goto B 5 dX12_tells_38 (by decide) ?_
      refine g_sub (lv' := [(0, .ref a0), (1, .int x1), (2, .int x2), (3, .int x3), (4, .int (x4 + (-1)))]) [1, 2, 3, 4, 0] rfl ?_
      exact ih a0 x1 x2 x3 (x4 + (-1)) M_4
set_option maxRecDepth 20000 in
set_option maxHeartbeats 2000000 in
theorem g12_tells_J89 {X : gX} {p : Program} {l : Launch} {e : Env} {s : State} {m : MethodId} {args : Array Value} {below : List Frame} {meth : Method} {c : Code} (B : gB X p (rm12_tells) s m args meth c RX12 cX12_tells 5 (rm12_tells)) (hS9 : gS X s) (hr : meth.sig.returnType = none) (a0 : Nat) (x2 : Int32) (b0 : Nat) (u1 : Int32) (u2 : Int32) (M : mMem) : GG X p l e (rm12_tells) s m args below meth c (gP X below args s 0 0 (fun M9 : mMem => (none, M9))) 5 0 0 89 [(0, .ref a0), (2, .int x2)] [.int u2, .int u1, .ref b0] M (p12_tells_J89 a0 x2 b0 u1 u2 M) := by
  unfold p12_tells_J89
  refine g_iastore B dX12_tells_89 (fun M_1 => ?_)
  refine g_aload_n B dX12_tells_90 0 rfl ?_
  refine g_getR (ci := 11) (T0 := TX12) (N := 27) B (by decide) rfl in_11 (k := 1) (by decide) rfl wd_1642 (fun _ h => h) dX12_tells_91 (fun v_2 => ?_)
  refine g_sipush (v := 149) B dX12_tells_94 (by decide) ?_
  refine g_aload_n B dX12_tells_97 0 rfl ?_
  refine g_iload_n B dX12_tells_98 1 rfl ?_
  refine g_iconst (v := 0) B dX12_tells_99 (by decide) ?_
  refine g_callV_ip [.int x2, .int 0] (ci := 11) (T0 := TX12) (N := 27) B hS9 mf12_of wd_1846 (gw B wp_61) wd_1844 (by decide) rfl (fun h => (gd_ne h).1) (c12_of X l a0 x2 0 M_1) (by decide) (by decide) (by decide) rfl (Nat.le_of_ble_eq_true rfl) dX12_tells_100 rfl (fun v_3 => ?_)
  refine g_iastore B dX12_tells_103 (fun M_4 => ?_)
  refine g_aload_n B dX12_tells_104 0 rfl ?_
  refine g_getR (ci := 11) (T0 := TX12) (N := 27) B (by decide) rfl in_11 (k := 1) (by decide) rfl wd_1642 (fun _ h => h) dX12_tells_105 (fun v_5 => ?_)
  refine g_bipush (v := 7) B dX12_tells_108 (by decide) ?_
  refine g_bipush (v := 60) B dX12_tells_110 (by decide) ?_
  refine g_aload_n B dX12_tells_112 0 rfl ?_
  refine g_getR (ci := 11) (T0 := TX12) (N := 27) B (by decide) rfl in_11 (k := 1) (by decide) rfl wd_1642 (fun _ h => h) dX12_tells_113 (fun v_6 => ?_)
  refine g_bipush (v := 7) B dX12_tells_116 (by decide) ?_
  refine g_iaload B dX12_tells_118 (fun v_7 => ?_)
  refine g_iconst (v := 1) B dX12_tells_119 (by decide) ?_
  refine g_iadd B dX12_tells_120 ?_
  refine g_min B wd_2007 wd_538 wd_15 wd_539 (by decide) (Nat.le_of_ble_eq_true rfl) (by decide) dX12_tells_121 ?_
  refine g_iastore B dX12_tells_124 (fun M_8 => ?_)
  exact g_vreturn B hr (by decide) (by decide) rfl dX12_tells_125
set_option maxRecDepth 20000 in
set_option maxHeartbeats 2000000 in
theorem g12_tells_J41 {X : gX} {p : Program} {l : Launch} {e : Env} {s : State} {m : MethodId} {args : Array Value} {below : List Frame} {meth : Method} {c : Code} (B : gB X p (rm12_tells) s m args meth c RX12 cX12_tells 5 (rm12_tells)) (hS9 : gS X s) (hr : meth.sig.returnType = none) (a0 : Nat) (x1 : Int32) (x2 : Int32) (x3 : Int32) (M : mMem) : GG X p l e (rm12_tells) s m args below meth c (gP X below args s 0 0 (fun M9 : mMem => (none, M9))) 5 0 0 41 [(0, .ref a0), (1, .int x1), (2, .int x2), (3, .int x3)] [] M (p12_tells_J41 a0 x1 x2 x3 M) := by
  unfold p12_tells_J41
  refine g_aload_n B dX12_tells_41 0 rfl ?_
  refine g_getR (ci := 11) (T0 := TX12) (N := 27) B (by decide) rfl in_11 (k := 1) (by decide) rfl wd_1642 (fun _ h => h) dX12_tells_42 (fun v_1 => ?_)
  refine g_sipush (v := 145) B dX12_tells_45 (by decide) ?_
  refine g_aload_n B dX12_tells_48 0 rfl ?_
  refine g_getR (ci := 11) (T0 := TX12) (N := 27) B (by decide) rfl in_11 (k := 1) (by decide) rfl wd_1642 (fun _ h => h) dX12_tells_49 (fun v_2 => ?_)
  refine g_iconst (v := 3) B dX12_tells_52 (by decide) ?_
  refine g_iaload B dX12_tells_53 (fun v_3 => ?_)
  refine g_iastore B dX12_tells_54 (fun M_4 => ?_)
  refine g_aload_n B dX12_tells_55 0 rfl ?_
  refine g_getR (ci := 11) (T0 := TX12) (N := 27) B (by decide) rfl in_11 (k := 1) (by decide) rfl wd_1642 (fun _ h => h) dX12_tells_56 (fun v_5 => ?_)
  refine g_sipush (v := 146) B dX12_tells_59 (by decide) ?_
  refine g_iload_n B dX12_tells_62 1 rfl ?_
  refine g_iastore B dX12_tells_63 (fun M_6 => ?_)
  refine g_aload_n B dX12_tells_64 0 rfl ?_
  refine g_getR (ci := 11) (T0 := TX12) (N := 27) B (by decide) rfl in_11 (k := 1) (by decide) rfl wd_1642 (fun _ h => h) dX12_tells_65 (fun v_7 => ?_)
  refine g_sipush (v := 147) B dX12_tells_68 (by decide) ?_
  refine g_iload_n B dX12_tells_71 2 rfl ?_
  refine g_iastore B dX12_tells_72 (fun M_8 => ?_)
  refine g_aload_n B dX12_tells_73 0 rfl ?_
  refine g_getR (ci := 11) (T0 := TX12) (N := 27) B (by decide) rfl in_11 (k := 1) (by decide) rfl wd_1642 (fun _ h => h) dX12_tells_74 (fun v_9 => ?_)
  refine g_sipush (v := 148) B dX12_tells_77 (by decide) ?_
  refine g_iload_n B dX12_tells_80 3 rfl ?_
  refine g_if_eq B 88 dX12_tells_81 (by decide) ?_ ?_
  · refine g_iconst (v := 0) B dX12_tells_88 (by decide) ?_
    refine g_sub (lv' := [(0, .ref a0), (2, .int x2)]) [0, 2] rfl ?_
    exact g12_tells_J89 B hS9 hr a0 x2 v_9 148 0 M_8
  · refine g_iconst (v := 1) B dX12_tells_84 (by decide) ?_
    refine g_goto B 89 dX12_tells_85 (by decide) ?_
    refine g_sub (lv' := [(0, .ref a0), (2, .int x2)]) [0, 2] rfl ?_
    exact g12_tells_J89 B hS9 hr a0 x2 v_9 148 1 M_8
set_option maxRecDepth 20000 in
set_option maxHeartbeats 2000000 in
theorem g12_tells {X : gX} {p : Program} {l : Launch} {e : Env} {s : State} {m : MethodId} {args : Array Value} {below : List Frame} {meth : Method} {c : Code} (B : gB X p (rm12_tells) s m args meth c RX12 cX12_tells 5 (rm12_tells)) (hS9 : gS X s) (hr : meth.sig.returnType = none) (a0 : Nat) (x1 : Int32) (x2 : Int32) (x3 : Int32) (M : mMem) : GG X p l e (rm12_tells) s m args below meth c (gP X below args s 0 0 (fun M9 : mMem => (none, M9))) 5 0 0 0 [(0, .ref a0), (1, .int x1), (2, .int x2), (3, .int x3)] [] M (p12_tells a0 x1 x2 x3 M) := by
  unfold p12_tells
  refine g_gd ?_
  refine g_sipush (v := 299) B dX12_tells_0 (by decide) ?_
  refine g_istore (lv' := [(4, .int 299), (0, .ref a0), (1, .int x1), (2, .int x2), (3, .int x3)]) B dX12_tells_3 (by decide) [0, 1, 2, 3, 4] rfl ?_
  refine g_sub (lv' := [(0, .ref a0), (1, .int x1), (2, .int x2), (3, .int x3), (4, .int 299)]) [1, 2, 3, 4, 0] rfl ?_
  exact (g12_tells_L5 B hS9 hr p12_tells_J41 (fun e0 e1 e2 e3 e4 => g12_tells_J41 B hS9 hr e0 e1 e2 e3 e4)) gF a0 x1 x2 x3 299 M
theorem c12_tells (X : gX) (l : Launch) (a0 : Nat) (x1 : Int32) (x2 : Int32) (x3 : Int32) (M : mMem) : Con X l yX12_tells cX12_tells 5 (none) rm12_tells (fun M9 : mMem => (none, M9)) [.ref a0, .int x1, .int x2, .int x3] M (p12_tells a0 x1 x2 x3 M) := g_con (own := RX12) (by decide +kernel) rfl (Nat.le_of_ble_eq_true rfl) (fun p e s m args below meth c B hS9 hr hn => g12_tells B hS9 hr a0 x1 x2 x3 M)
theorem mf12_says : gMF yX12_says cX12_says 4 (none) 3 := ⟨wd_2039, wd_13, ⟨by decide, by decide⟩, by decide +kernel⟩
set_option maxRecDepth 20000 in
set_option maxHeartbeats 2000000 in
theorem g12_says {X : gX} {p : Program} {l : Launch} {e : Env} {s : State} {m : MethodId} {args : Array Value} {below : List Frame} {meth : Method} {c : Code} (B : gB X p (rm12_says) s m args meth c RX12 cX12_says 4 (rm12_says)) (hS9 : gS X s) (hr : meth.sig.returnType = none) (a0 : Nat) (x1 : Int32) (x2 : Int32) (x3 : Int32) (M : mMem) : GG X p l e (rm12_says) s m args below meth c (gP X below args s 0 0 (fun M9 : mMem => (none, M9))) 4 0 0 0 [(0, .ref a0), (1, .int x1), (2, .int x2), (3, .int x3)] [] M (p12_says a0 x1 x2 x3 M) := by
  unfold p12_says
  refine g_gd ?_
  refine g_aload_n B dX12_says_0 0 rfl ?_
  refine g_iload_n B dX12_says_1 1 rfl ?_
  refine g_iload_n B dX12_says_2 2 rfl ?_
  refine g_iload_n B dX12_says_3 3 rfl ?_
  refine g_callV_vw [.int x1, .int x2, .int x3] (ci := 11) (T0 := TX12) (N := 27) B hS9 mf12_hears wd_2018 (gw B wp_91) wd_2016 (by decide) rfl (fun h => (gd_ne h).1) (c12_hears X l a0 x1 x2 x3 M) (by decide) (by decide) (by decide) rfl (by decide) dX12_says_4 rfl (fun q_1 => ?_)
  refine g_aload_n B dX12_says_7 0 rfl ?_
  refine g_iload_n B dX12_says_8 1 rfl ?_
  refine g_iload_n B dX12_says_9 2 rfl ?_
  refine g_iload_n B dX12_says_10 3 rfl ?_
  refine g_callV_vw [.int x1, .int x2, .int x3] (ci := 11) (T0 := TX12) (N := 27) B hS9 mf12_tells wd_2042 (gw B wp_96) wd_2040 (by decide) rfl (fun h => (gd_ne h).1) (c12_tells X l a0 x1 x2 x3 q_1) (by decide) (by decide) (by decide) rfl (by decide) dX12_says_11 rfl (fun q_2 => ?_)
  exact g_vreturn B hr (by decide) (by decide) rfl dX12_says_14
theorem c12_says (X : gX) (l : Launch) (a0 : Nat) (x1 : Int32) (x2 : Int32) (x3 : Int32) (M : mMem) : Con X l yX12_says cX12_says 4 (none) rm12_says (fun M9 : mMem => (none, M9)) [.ref a0, .int x1, .int x2, .int x3] M (p12_says a0 x1 x2 x3 M) := g_con (own := RX12) (by decide +kernel) rfl (Nat.le_of_ble_eq_true rfl) (fun p e s m args below meth c B hS9 hr hn => g12_says B hS9 hr a0 x1 x2 x3 M)
theorem mf12_gapOf : gMF yX12_gapOf cX12_gapOf 4 (some .int) 2 := ⟨wd_2003, wd_13, ⟨by decide, by decide⟩, by decide +kernel⟩
set_option maxRecDepth 20000 in
set_option maxHeartbeats 2000000 in
theorem g12_gapOf {X : gX} {p : Program} {l : Launch} {e : Env} {s : State} {m : MethodId} {args : Array Value} {below : List Frame} {meth : Method} {c : Code} (B : gB X p (rm12_gapOf) s m args meth c RX12 cX12_gapOf 4 (rm12_gapOf)) (hS9 : gS X s) (hr : meth.sig.returnType = some .int) {M : mMem} (a0 : Nat) (x1 : Int32) (x2 : Int32) : GG X p l e (rm12_gapOf) s m args below meth c (gP X below args s 0 0 (fun r9 : Int32 => (some (.int r9), M))) 4 0 0 0 [(0, .ref a0), (1, .int x1), (2, .int x2)] [] M (p12_gapOf a0 x1 x2 M) := by
  unfold p12_gapOf
  refine g_gd ?_
  refine g_aload_n B dX12_gapOf_0 0 rfl ?_
  refine g_iload_n B dX12_gapOf_1 1 rfl ?_
  refine g_iconst (v := 0) B dX12_gapOf_2 (by decide) ?_
  refine g_callV_ip [.int x1, .int 0] (ci := 11) (T0 := TX12) (N := 27) B hS9 mf12_of wd_1846 (gw B wp_61) wd_1844 (by decide) rfl (fun h => (gd_ne h).1) (c12_of X l a0 x1 0 M) (by decide) (by decide) (by decide) rfl (by decide) dX12_gapOf_3 rfl (fun v_1 => ?_)
  refine g_aload_n B dX12_gapOf_6 0 rfl ?_
  refine g_iload_n B dX12_gapOf_7 2 rfl ?_
  refine g_iconst (v := 0) B dX12_gapOf_8 (by decide) ?_
  refine g_callV_ip [.int x2, .int 0] (ci := 11) (T0 := TX12) (N := 27) B hS9 mf12_of wd_1846 (gw B wp_61) wd_1844 (by decide) rfl (fun h => (gd_ne h).1) (c12_of X l a0 x2 0 M) (by decide) (by decide) (by decide) rfl (Nat.le_of_ble_eq_true rfl) dX12_gapOf_9 rfl (fun v_2 => ?_)
  refine g_isub B dX12_gapOf_12 ?_
  refine g_abs B wd_2004 wd_2005 wd_15 wd_2006 (by decide) (Nat.le_of_ble_eq_true rfl) (by decide) dX12_gapOf_13 ?_
  refine g_istore_n (lv' := [(3, .int (absI (v_1 - v_2))), (0, .ref a0), (1, .int x1), (2, .int x2)]) B dX12_gapOf_16 (by decide) [0, 1, 2, 3] rfl ?_
  refine g_iload_n B dX12_gapOf_17 0 rfl ?_
  refine g_aload_n B dX12_gapOf_18 1 rfl ?_
  refine g_getR (ci := 11) (T0 := TX12) (N := 27) B (by decide) rfl in_11 (k := 1) (by decide) rfl wd_1642 (fun _ h => h) dX12_gapOf_19 (fun v_3 => ?_)
  refine g_iconst (v := 4) B dX12_gapOf_22 (by decide) ?_
  refine g_iaload B dX12_gapOf_23 (fun v_4 => ?_)
  refine g_iload_n B dX12_gapOf_24 0 rfl ?_
  refine g_isub B dX12_gapOf_25 ?_
  refine g_min B wd_2007 wd_538 wd_15 wd_539 (by decide) (Nat.le_of_ble_eq_true rfl) (by decide) dX12_gapOf_26 ?_
  exact g_ireturn B hr rfl (by decide) (by decide) rfl dX12_gapOf_29
theorem c12_gapOf (X : gX) (l : Launch) (a0 : Nat) (x1 : Int32) (x2 : Int32) (M : mMem) : Con X l yX12_gapOf cX12_gapOf 4 (some .int) rm12_gapOf (fun r9 : Int32 => (some (.int r9), M)) [.ref a0, .int x1, .int x2] M (p12_gapOf a0 x1 x2 M) := g_con (own := RX12) (by decide +kernel) rfl (Nat.le_of_ble_eq_true rfl) (fun p e s m args below meth c B hS9 hr hn => g12_gapOf B hS9 hr a0 x1 x2)
theorem mf12_governedBy : gMF yX12_governedBy cX12_governedBy 4 (some .int) 1 := ⟨wd_1952, wd_13, ⟨by decide, by decide⟩, by decide +kernel⟩
set_option maxRecDepth 20000 in
set_option maxHeartbeats 2000000 in
theorem g12_governedBy_J29 {X : gX} {p : Program} {l : Launch} {e : Env} {s : State} {m : MethodId} {args : Array Value} {below : List Frame} {meth : Method} {c : Code} (B : gB X p (rm12_governedBy) s m args meth c RX12 cX12_governedBy 4 (rm12_governedBy)) (hS9 : gS X s) (hr : meth.sig.returnType = some .int) {M : mMem} (rec4 : Nat → Int32 → Int32 → Int32 → Option Int32) (hrec4 : ∀ (a0 : Nat) (x1 : Int32) (x2 : Int32) (x3 : Int32), GG X p l e (rm12_governedBy) s m args below meth c (gP X below args s 0 0 (fun r9 : Int32 => (some (.int r9), M))) 4 0 0 4 [(0, .ref a0), (1, .int x1), (2, .int x2), (3, .int x3)] [] M (rec4 a0 x1 x2 x3)) (a0 : Nat) (x1 : Int32) (x3 : Int32) (u0 : Int32) (u1 : Int32) : GG X p l e (rm12_governedBy) s m args below meth c (gP X below args s 0 0 (fun r9 : Int32 => (some (.int r9), M))) 4 0 0 29 [(0, .ref a0), (1, .int x1), (3, .int x3)] [.int u1, .int u0] M (p12_governedBy_J29 M rec4 a0 x1 x3 u0 u1) := by
  unfold p12_governedBy_J29
  refine g_ior B dX12_governedBy_29 ?_
  refine g_istore_n (lv' := [(2, .int (u0 ||| u1)), (0, .ref a0), (1, .int x1), (3, .int x3)]) B dX12_governedBy_30 (by decide) [0, 1, 2, 3] rfl ?_
  refine g_iinc (v := (x3 + 1)) (lv' := [(3, .int (x3 + 1)), (2, .int (u0 ||| u1)), (0, .ref a0), (1, .int x1)]) B dX12_governedBy_31 3 rfl rfl (by decide) [0, 1, 2, 3] rfl ?_
  refine g_goto B 4 dX12_governedBy_34 (by decide) ?_
  refine g_sub (lv' := [(0, .ref a0), (1, .int x1), (2, .int (u0 ||| u1)), (3, .int (x3 + 1))]) [2, 3, 1, 0] rfl ?_
  exact hrec4 a0 x1 (u0 ||| u1) (x3 + 1)
set_option maxRecDepth 20000 in
set_option maxHeartbeats 2000000 in
theorem g12_governedBy_L4 {X : gX} {p : Program} {l : Launch} {e : Env} {s : State} {m : MethodId} {args : Array Value} {below : List Frame} {meth : Method} {c : Code} (B : gB X p (rm12_governedBy) s m args meth c RX12 cX12_governedBy 4 (rm12_governedBy)) (hS9 : gS X s) (hr : meth.sig.returnType = some .int) {M : mMem} : ∀ (n : Nat) (a0 : Nat) (x1 : Int32) (x2 : Int32) (x3 : Int32), GG X p l e (rm12_governedBy) s m args below meth c (gP X below args s 0 0 (fun r9 : Int32 => (some (.int r9), M))) 4 0 0 4 [(0, .ref a0), (1, .int x1), (2, .int x2), (3, .int x3)] [] M (p12_governedBy_L4 M n a0 x1 x2 x3) := by
  intro n
  induction n with
  | zero => intro a0 x1 x2 x3; exact g_none
  | succ n ih =>
    intro a0 x1 x2 x3
    rw [p12_governedBy_L4]
    refine g_iload_n B dX12_governedBy_4 3 rfl ?_
    refine g_aload_n B dX12_governedBy_5 0 rfl ?_
    refine g_callV_ip [] (ci := 11) (T0 := TX12) (N := 27) B hS9 mf12_people wd_1793 (gw B wp_51) wd_1791 (by decide) rfl (fun h => (gd_ne h).1) (c12_people X l a0 M) (by decide) (by decide) (by decide) rfl (Nat.le_of_ble_eq_true rfl) dX12_governedBy_6 rfl (fun v_1 => ?_)
    refine g_icmp_ge B 37 dX12_governedBy_9 (by decide) ?_ ?_
    · refine g_iload_n B dX12_governedBy_12 2 rfl ?_
      refine g_aload_n B dX12_governedBy_13 0 rfl ?_
      refine g_iload_n B dX12_governedBy_14 1 rfl ?_
      refine g_iload_n B dX12_governedBy_15 3 rfl ?_
      refine g_callV_ip [.int x1, .int x3] (ci := 11) (T0 := TX12) (N := 27) B hS9 mf12_governs wd_1955 (gw B wp_81) wd_1953 (by decide) rfl (fun h => (gd_ne h).1) (c12_governs X l a0 x1 x3 M) (by decide) (by decide) (by decide) rfl (Nat.le_of_ble_eq_true rfl) dX12_governedBy_16 rfl (fun v_2 => ?_)
      refine g_if_eq B 28 dX12_governedBy_19 (by decide) ?_ ?_
      · refine g_iconst (v := 0) B dX12_governedBy_28 (by decide) ?_
        refine g_sub (lv' := [(0, .ref a0), (1, .int x1), (3, .int x3)]) [0, 1, 3] rfl ?_
        exact g12_governedBy_J29 B hS9 hr (p12_governedBy_L4 M n) ih a0 x1 x3 x2 0
      · refine g_iconst (v := 1) B dX12_governedBy_22 (by decide) ?_
        refine g_iload_n B dX12_governedBy_23 3 rfl ?_
        refine g_ishl B dX12_governedBy_24 ?_
        refine g_goto B 29 dX12_governedBy_25 (by decide) ?_
        refine g_sub (lv' := [(0, .ref a0), (1, .int x1), (3, .int x3)]) [0, 1, 3] rfl ?_
        exact g12_governedBy_J29 B hS9 hr (p12_governedBy_L4 M n) ih a0 x1 x3 x2 ((1 : Int32) <<< (x3 &&& 31))
    · refine g_iload_n B dX12_governedBy_37 2 rfl ?_
      exact g_ireturn B hr rfl (by decide) (by decide) rfl dX12_governedBy_38
set_option maxRecDepth 20000 in
set_option maxHeartbeats 2000000 in
theorem g12_governedBy {X : gX} {p : Program} {l : Launch} {e : Env} {s : State} {m : MethodId} {args : Array Value} {below : List Frame} {meth : Method} {c : Code} (B : gB X p (rm12_governedBy) s m args meth c RX12 cX12_governedBy 4 (rm12_governedBy)) (hS9 : gS X s) (hr : meth.sig.returnType = some .int) {M : mMem} (a0 : Nat) (x1 : Int32) : GG X p l e (rm12_governedBy) s m args below meth c (gP X below args s 0 0 (fun r9 : Int32 => (some (.int r9), M))) 4 0 0 0 [(0, .ref a0), (1, .int x1)] [] M (p12_governedBy a0 x1 M) := by
  unfold p12_governedBy
  refine g_gd ?_
  refine g_iconst (v := 0) B dX12_governedBy_0 (by decide) ?_
  refine g_istore_n (lv' := [(2, .int 0), (0, .ref a0), (1, .int x1)]) B dX12_governedBy_1 (by decide) [0, 1, 2] rfl ?_
  refine g_iconst (v := 0) B dX12_governedBy_2 (by decide) ?_
  refine g_istore_n (lv' := [(3, .int 0), (2, .int 0), (0, .ref a0), (1, .int x1)]) B dX12_governedBy_3 (by decide) [0, 1, 2, 3] rfl ?_
  refine g_sub (lv' := [(0, .ref a0), (1, .int x1), (2, .int 0), (3, .int 0)]) [2, 3, 1, 0] rfl ?_
  exact (g12_governedBy_L4 B hS9 hr) gF a0 x1 0 0
theorem c12_governedBy (X : gX) (l : Launch) (a0 : Nat) (x1 : Int32) (M : mMem) : Con X l yX12_governedBy cX12_governedBy 4 (some .int) rm12_governedBy (fun r9 : Int32 => (some (.int r9), M)) [.ref a0, .int x1] M (p12_governedBy a0 x1 M) := g_con (own := RX12) (by decide +kernel) rfl (Nat.le_of_ble_eq_true rfl) (fun p e s m args below meth c B hS9 hr hn => g12_governedBy B hS9 hr a0 x1)
theorem mf12_ofLog : gMF yX12_ofLog cX12_ofLog 3 (some .int) 2 := ⟨wd_1967, wd_13, ⟨by decide, by decide⟩, by decide +kernel⟩
set_option maxRecDepth 20000 in
set_option maxHeartbeats 2000000 in
theorem g12_ofLog {X : gX} {p : Program} {l : Launch} {e : Env} {s : State} {m : MethodId} {args : Array Value} {below : List Frame} {meth : Method} {c : Code} (B : gB X p (rm12_ofLog) s m args meth c RX12 cX12_ofLog 3 (rm12_ofLog)) (hS9 : gS X s) (hr : meth.sig.returnType = some .int) {M : mMem} (a0 : Nat) (x1 : Int32) (x2 : Int32) : GG X p l e (rm12_ofLog) s m args below meth c (gP X below args s 0 0 (fun r9 : Int32 => (some (.int r9), M))) 3 0 0 0 [(0, .ref a0), (1, .int x1), (2, .int x2)] [] M (p12_ofLog a0 x1 x2 M) := by
  unfold p12_ofLog
  refine g_gd ?_
  refine g_aload_n B dX12_ofLog_0 0 rfl ?_
  refine g_getR (ci := 11) (T0 := TX12) (N := 27) B (by decide) rfl in_11 (k := 1) (by decide) rfl wd_1642 (fun _ h => h) dX12_ofLog_1 (fun v_1 => ?_)
  refine g_sipush (v := 145) B dX12_ofLog_4 (by decide) ?_
  refine g_iconst (v := 5) B dX12_ofLog_7 (by decide) ?_
  refine g_iload_n B dX12_ofLog_8 1 rfl ?_
  refine g_imul B dX12_ofLog_9 ?_
  refine g_iadd B dX12_ofLog_10 ?_
  refine g_iload_n B dX12_ofLog_11 2 rfl ?_
  refine g_iadd B dX12_ofLog_12 ?_
  refine g_iaload B dX12_ofLog_13 (fun v_2 => ?_)
  exact g_ireturn B hr rfl (by decide) (by decide) rfl dX12_ofLog_14
theorem c12_ofLog (X : gX) (l : Launch) (a0 : Nat) (x1 : Int32) (x2 : Int32) (M : mMem) : Con X l yX12_ofLog cX12_ofLog 3 (some .int) rm12_ofLog (fun r9 : Int32 => (some (.int r9), M)) [.ref a0, .int x1, .int x2] M (p12_ofLog a0 x1 x2 M) := g_con (own := RX12) (by decide +kernel) rfl (Nat.le_of_ble_eq_true rfl) (fun p e s m args below meth c B hS9 hr hn => g12_ofLog B hS9 hr a0 x1 x2)
theorem mf12_shareOf : gMF yX12_shareOf cX12_shareOf 5 (some .int) 1 := ⟨wd_1963, wd_13, ⟨by decide, by decide⟩, by decide +kernel⟩
set_option maxRecDepth 20000 in
set_option maxHeartbeats 2000000 in
theorem g12_shareOf_J55 {X : gX} {p : Program} {l : Launch} {e : Env} {s : State} {m : MethodId} {args : Array Value} {below : List Frame} {meth : Method} {c : Code} (B : gB X p (rm12_shareOf) s m args meth c RX12 cX12_shareOf 5 (rm12_shareOf)) (hS9 : gS X s) (hr : meth.sig.returnType = some .int) {M : mMem} (rec7 : Nat → Int32 → Int32 → Int32 → Int32 → Option Int32) (hrec7 : ∀ (a0 : Nat) (x1 : Int32) (x2 : Int32) (x3 : Int32) (x4 : Int32), GG X p l e (rm12_shareOf) s m args below meth c (gP X below args s 0 0 (fun r9 : Int32 => (some (.int r9), M))) 5 0 0 7 [(0, .ref a0), (1, .int x1), (2, .int x2), (3, .int x3), (4, .int x4)] [] M (rec7 a0 x1 x2 x3 x4)) (a0 : Nat) (x1 : Int32) (x2 : Int32) (x3 : Int32) (x4 : Int32) : GG X p l e (rm12_shareOf) s m args below meth c (gP X below args s 0 0 (fun r9 : Int32 => (some (.int r9), M))) 5 0 0 55 [(0, .ref a0), (1, .int x1), (2, .int x2), (3, .int x3), (4, .int x4)] [] M (p12_shareOf_J55 M rec7 a0 x1 x2 x3 x4) := by
  unfold p12_shareOf_J55
  refine g_iinc (v := (x4 + 1)) (lv' := [(4, .int (x4 + 1)), (0, .ref a0), (1, .int x1), (2, .int x2), (3, .int x3)]) B dX12_shareOf_55 4 rfl rfl (by decide) [0, 1, 2, 3, 4] rfl ?_
  refine g_goto B 7 dX12_shareOf_58 (by decide) ?_
  refine g_sub (lv' := [(0, .ref a0), (1, .int x1), (2, .int x2), (3, .int x3), (4, .int (x4 + 1))]) [1, 2, 3, 4, 0] rfl ?_
  exact hrec7 a0 x1 x2 x3 (x4 + 1)
set_option maxRecDepth 20000 in
set_option maxHeartbeats 2000000 in
theorem g12_shareOf_J53 {X : gX} {p : Program} {l : Launch} {e : Env} {s : State} {m : MethodId} {args : Array Value} {below : List Frame} {meth : Method} {c : Code} (B : gB X p (rm12_shareOf) s m args meth c RX12 cX12_shareOf 5 (rm12_shareOf)) (hS9 : gS X s) (hr : meth.sig.returnType = some .int) {M : mMem} (rec7 : Nat → Int32 → Int32 → Int32 → Int32 → Option Int32) (hrec7 : ∀ (a0 : Nat) (x1 : Int32) (x2 : Int32) (x3 : Int32) (x4 : Int32), GG X p l e (rm12_shareOf) s m args below meth c (gP X below args s 0 0 (fun r9 : Int32 => (some (.int r9), M))) 5 0 0 7 [(0, .ref a0), (1, .int x1), (2, .int x2), (3, .int x3), (4, .int x4)] [] M (rec7 a0 x1 x2 x3 x4)) (a0 : Nat) (x1 : Int32) (x2 : Int32) (x4 : Int32) (u0 : Int32) (u1 : Int32) : GG X p l e (rm12_shareOf) s m args below meth c (gP X below args s 0 0 (fun r9 : Int32 => (some (.int r9), M))) 5 0 0 53 [(0, .ref a0), (1, .int x1), (2, .int x2), (4, .int x4)] [.int u1, .int u0] M (p12_shareOf_J53 M rec7 a0 x1 x2 x4 u0 u1) := by
  unfold p12_shareOf_J53
  refine g_iadd B dX12_shareOf_53 ?_
  refine g_istore_n (lv' := [(3, .int (u0 + u1)), (0, .ref a0), (1, .int x1), (2, .int x2), (4, .int x4)]) B dX12_shareOf_54 (by decide) [0, 1, 2, 3, 4] rfl ?_
  refine g_sub (lv' := [(0, .ref a0), (1, .int x1), (2, .int x2), (3, .int (u0 + u1)), (4, .int x4)]) [1, 2, 3, 0, 4] rfl ?_
  exact g12_shareOf_J55 B hS9 hr rec7 hrec7 a0 x1 x2 (u0 + u1) x4
set_option maxRecDepth 20000 in
set_option maxHeartbeats 2000000 in
theorem g12_shareOf_L7 {X : gX} {p : Program} {l : Launch} {e : Env} {s : State} {m : MethodId} {args : Array Value} {below : List Frame} {meth : Method} {c : Code} (B : gB X p (rm12_shareOf) s m args meth c RX12 cX12_shareOf 5 (rm12_shareOf)) (hS9 : gS X s) (hr : meth.sig.returnType = some .int) {M : mMem} (k61 : Int32 → Int32 → Option Int32) (hk61 : ∀ (x2 : Int32) (x3 : Int32), GG X p l e (rm12_shareOf) s m args below meth c (gP X below args s 0 0 (fun r9 : Int32 => (some (.int r9), M))) 5 0 0 61 [(2, .int x2), (3, .int x3)] [] M (k61 x2 x3)) : ∀ (n : Nat) (a0 : Nat) (x1 : Int32) (x2 : Int32) (x3 : Int32) (x4 : Int32), GG X p l e (rm12_shareOf) s m args below meth c (gP X below args s 0 0 (fun r9 : Int32 => (some (.int r9), M))) 5 0 0 7 [(0, .ref a0), (1, .int x1), (2, .int x2), (3, .int x3), (4, .int x4)] [] M (p12_shareOf_L7 M k61 n a0 x1 x2 x3 x4) := by
  intro n
  induction n with
  | zero => intro a0 x1 x2 x3 x4; exact g_none
  | succ n ih =>
    intro a0 x1 x2 x3 x4
    rw [p12_shareOf_L7]
    refine g_iload B dX12_shareOf_7 4 rfl ?_
    refine g_aload_n B dX12_shareOf_9 0 rfl ?_
    refine g_getR (ci := 11) (T0 := TX12) (N := 27) B (by decide) rfl in_11 (k := 1) (by decide) rfl wd_1642 (fun _ h => h) dX12_shareOf_10 (fun v_1 => ?_)
    refine g_bipush (v := 7) B dX12_shareOf_13 (by decide) ?_
    refine g_iaload B dX12_shareOf_15 (fun v_2 => ?_)
    refine g_icmp_ge B 61 dX12_shareOf_16 (by decide) ?_ ?_
    · refine g_aload_n B dX12_shareOf_19 0 rfl ?_
      refine g_iload B dX12_shareOf_20 4 rfl ?_
      refine g_iconst (v := 3) B dX12_shareOf_22 (by decide) ?_
      refine g_callV_ip [.int x4, .int 3] (ci := 11) (T0 := TX12) (N := 27) B hS9 mf12_ofLog wd_1966 (gw B wp_83) wd_1964 (by decide) rfl (fun h => (gd_ne h).1) (c12_ofLog X l a0 x4 3 M) (by decide) (by decide) (by decide) rfl (by decide) dX12_shareOf_23 rfl (fun v_3 => ?_)
      refine g_iconst (v := 1) B dX12_shareOf_26 (by decide) ?_
      refine g_icmp_ne B 33 dX12_shareOf_27 (by decide) ?_ ?_
      · refine g_goto B 55 dX12_shareOf_30 (by decide) ?_
        refine g_sub (lv' := [(0, .ref a0), (1, .int x1), (2, .int x2), (3, .int x3), (4, .int x4)]) [0, 1, 2, 3, 4] rfl ?_
        exact g12_shareOf_J55 B hS9 hr (p12_shareOf_L7 M k61 n) ih a0 x1 x2 x3 x4
      · refine g_iinc (v := (x2 + 1)) (lv' := [(2, .int (x2 + 1)), (0, .ref a0), (1, .int x1), (3, .int x3), (4, .int x4)]) B dX12_shareOf_33 2 rfl rfl (by decide) [0, 1, 2, 3, 4] rfl ?_
        refine g_iload_n B dX12_shareOf_36 3 rfl ?_
        refine g_aload_n B dX12_shareOf_37 1 rfl ?_
        refine g_iload B dX12_shareOf_38 4 rfl ?_
        refine g_iconst (v := 2) B dX12_shareOf_40 (by decide) ?_
        refine g_callV_ip [.int x4, .int 2] (ci := 11) (T0 := TX12) (N := 27) B hS9 mf12_ofLog wd_1966 (gw B wp_83) wd_1964 (by decide) rfl (fun h => (gd_ne h).1) (c12_ofLog X l a0 x4 2 M) (by decide) (by decide) (by decide) rfl (Nat.le_of_ble_eq_true rfl) dX12_shareOf_41 rfl (fun v_4 => ?_)
        refine g_iload_n B dX12_shareOf_44 2 rfl ?_
        refine g_icmp_ne B 52 dX12_shareOf_45 (by decide) ?_ ?_
        · refine g_iconst (v := 1) B dX12_shareOf_48 (by decide) ?_
          refine g_goto B 53 dX12_shareOf_49 (by decide) ?_
          refine g_sub (lv' := [(0, .ref a0), (1, .int x1), (2, .int (x2 + 1)), (4, .int x4)]) [1, 2, 0, 4] rfl ?_
          exact g12_shareOf_J53 B hS9 hr (p12_shareOf_L7 M k61 n) ih a0 x1 (x2 + 1) x4 x3 1
        · refine g_iconst (v := 0) B dX12_shareOf_52 (by decide) ?_
          refine g_sub (lv' := [(0, .ref a0), (1, .int x1), (2, .int (x2 + 1)), (4, .int x4)]) [1, 2, 0, 4] rfl ?_
          exact g12_shareOf_J53 B hS9 hr (p12_shareOf_L7 M k61 n) ih a0 x1 (x2 + 1) x4 x3 0
    · refine g_sub (lv' := [(2, .int x2), (3, .int x3)]) [2, 3] rfl ?_
      exact hk61 x2 x3
set_option maxRecDepth 20000 in
set_option maxHeartbeats 2000000 in
theorem g12_shareOf_J75 {X : gX} {p : Program} {l : Launch} {e : Env} {s : State} {m : MethodId} {args : Array Value} {below : List Frame} {meth : Method} {c : Code} (B : gB X p (rm12_shareOf) s m args meth c RX12 cX12_shareOf 5 (rm12_shareOf)) (hS9 : gS X s) (hr : meth.sig.returnType = some .int) {M : mMem} (u0 : Int32) : GG X p l e (rm12_shareOf) s m args below meth c (gP X below args s 0 0 (fun r9 : Int32 => (some (.int r9), M))) 5 0 0 75 [] [.int u0] M (p12_shareOf_J75 M u0) := by
  unfold p12_shareOf_J75
  exact g_ireturn B hr rfl (by decide) (by decide) rfl dX12_shareOf_75
set_option maxRecDepth 20000 in
set_option maxHeartbeats 2000000 in
theorem g12_shareOf_J61 {X : gX} {p : Program} {l : Launch} {e : Env} {s : State} {m : MethodId} {args : Array Value} {below : List Frame} {meth : Method} {c : Code} (B : gB X p (rm12_shareOf) s m args meth c RX12 cX12_shareOf 5 (rm12_shareOf)) (hS9 : gS X s) (hr : meth.sig.returnType = some .int) {M : mMem} (x2 : Int32) (x3 : Int32) : GG X p l e (rm12_shareOf) s m args below meth c (gP X below args s 0 0 (fun r9 : Int32 => (some (.int r9), M))) 5 0 0 61 [(2, .int x2), (3, .int x3)] [] M (p12_shareOf_J61 M x2 x3) := by
  unfold p12_shareOf_J61
  refine g_iload_n B dX12_shareOf_61 0 rfl ?_
  refine g_if_ne B 69 dX12_shareOf_62 (by decide) ?_ ?_
  · refine g_iconst (v := 0) B dX12_shareOf_65 (by decide) ?_
    refine g_goto B 75 dX12_shareOf_66 (by decide) ?_
    refine g_sub (lv' := []) [] rfl ?_
    exact g12_shareOf_J75 B hS9 hr 0
  · refine g_bipush (v := 100) B dX12_shareOf_69 (by decide) ?_
    refine g_iload_n B dX12_shareOf_71 1 rfl ?_
    refine g_imul B dX12_shareOf_72 ?_
    refine g_iload_n B dX12_shareOf_73 0 rfl ?_
    refine g_idiv B dX12_shareOf_74 (fun v_1 => ?_)
    refine g_sub (lv' := []) [] rfl ?_
    exact g12_shareOf_J75 B hS9 hr v_1
set_option maxRecDepth 20000 in
set_option maxHeartbeats 2000000 in
theorem g12_shareOf {X : gX} {p : Program} {l : Launch} {e : Env} {s : State} {m : MethodId} {args : Array Value} {below : List Frame} {meth : Method} {c : Code} (B : gB X p (rm12_shareOf) s m args meth c RX12 cX12_shareOf 5 (rm12_shareOf)) (hS9 : gS X s) (hr : meth.sig.returnType = some .int) {M : mMem} (a0 : Nat) (x1 : Int32) : GG X p l e (rm12_shareOf) s m args below meth c (gP X below args s 0 0 (fun r9 : Int32 => (some (.int r9), M))) 5 0 0 0 [(0, .ref a0), (1, .int x1)] [] M (p12_shareOf a0 x1 M) := by
  unfold p12_shareOf
  refine g_gd ?_
  refine g_iconst (v := 0) B dX12_shareOf_0 (by decide) ?_
  refine g_istore_n (lv' := [(2, .int 0), (0, .ref a0), (1, .int x1)]) B dX12_shareOf_1 (by decide) [0, 1, 2] rfl ?_
  refine g_iconst (v := 0) B dX12_shareOf_2 (by decide) ?_
  refine g_istore_n (lv' := [(3, .int 0), (2, .int 0), (0, .ref a0), (1, .int x1)]) B dX12_shareOf_3 (by decide) [0, 1, 2, 3] rfl ?_
  refine g_iconst (v := 0) B dX12_shareOf_4 (by decide) ?_
  refine g_istore (lv' := [(4, .int 0), (3, .int 0), (2, .int 0), (0, .ref a0), (1, .int x1)]) B dX12_shareOf_5 (by decide) [0, 1, 2, 3, 4] rfl ?_
  refine g_sub (lv' := [(0, .ref a0), (1, .int x1), (2, .int 0), (3, .int 0), (4, .int 0)]) [3, 4, 2, 1, 0] rfl ?_
  exact (g12_shareOf_L7 B hS9 hr (p12_shareOf_J61 M) (fun e0 e1 => g12_shareOf_J61 B hS9 hr e0 e1)) gF a0 x1 0 0 0
theorem c12_shareOf (X : gX) (l : Launch) (a0 : Nat) (x1 : Int32) (M : mMem) : Con X l yX12_shareOf cX12_shareOf 5 (some .int) rm12_shareOf (fun r9 : Int32 => (some (.int r9), M)) [.ref a0, .int x1] M (p12_shareOf a0 x1 M) := g_con (own := RX12) (by decide +kernel) rfl (Nat.le_of_ble_eq_true rfl) (fun p e s m args below meth c B hS9 hr hn => g12_shareOf B hS9 hr a0 x1)
theorem mf12_person : gMF yX12_person cX12_person 3 (some .int) 2 := ⟨wd_1941, wd_13, ⟨by decide, by decide⟩, by decide +kernel⟩
set_option maxRecDepth 20000 in
set_option maxHeartbeats 2000000 in
theorem g12_person_J41 {X : gX} {p : Program} {l : Launch} {e : Env} {s : State} {m : MethodId} {args : Array Value} {below : List Frame} {meth : Method} {c : Code} (B : gB X p (rm12_person) s m args meth c RX12 cX12_person 3 (rm12_person)) (hS9 : gS X s) (hr : meth.sig.returnType = some .int) (M : mMem) : GG X p l e (rm12_person) s m args below meth c (gP X below args s 0 0 (fun r9 : (Int32 × mMem) => (some (.int r9.1), r9.2))) 3 0 0 41 [] [] M (p12_person_J41 M) := by
  unfold p12_person_J41
  refine g_iconst (v := 0) B dX12_person_41 (by decide) ?_
  exact g_ireturn B hr rfl (by decide) (by decide) rfl dX12_person_42
set_option maxRecDepth 20000 in
set_option maxHeartbeats 2000000 in
theorem g12_person_J77 {X : gX} {p : Program} {l : Launch} {e : Env} {s : State} {m : MethodId} {args : Array Value} {below : List Frame} {meth : Method} {c : Code} (B : gB X p (rm12_person) s m args meth c RX12 cX12_person 3 (rm12_person)) (hS9 : gS X s) (hr : meth.sig.returnType = some .int) (u0 : Int32) (M : mMem) : GG X p l e (rm12_person) s m args below meth c (gP X below args s 0 0 (fun r9 : (Int32 × mMem) => (some (.int r9.1), r9.2))) 3 0 0 77 [] [.int u0] M (p12_person_J77 u0 M) := by
  unfold p12_person_J77
  exact g_ireturn B hr rfl (by decide) (by decide) rfl dX12_person_77
set_option maxRecDepth 20000 in
set_option maxHeartbeats 2000000 in
theorem g12_person_J34 {X : gX} {p : Program} {l : Launch} {e : Env} {s : State} {m : MethodId} {args : Array Value} {below : List Frame} {meth : Method} {c : Code} (B : gB X p (rm12_person) s m args meth c RX12 cX12_person 3 (rm12_person)) (hS9 : gS X s) (hr : meth.sig.returnType = some .int) (a0 : Nat) (x1 : Int32) (x2 : Int32) (b0 : Nat) (u1 : Int32) (M : mMem) : GG X p l e (rm12_person) s m args below meth c (gP X below args s 0 0 (fun r9 : (Int32 × mMem) => (some (.int r9.1), r9.2))) 3 0 0 34 [(0, .ref a0), (1, .int x1), (2, .int x2)] [.int u1, .ref b0] M (p12_person_J34 a0 x1 x2 b0 u1 M) := by
  unfold p12_person_J34
  refine g_iconst (v := 2) B dX12_person_34 (by decide) ?_
  refine g_callV_iw [.int u1, .int 2] (ci := 11) (T0 := TX12) (N := 27) B hS9 mf12_throwsIf wd_1932 (gw B wp_78) wd_1930 (by decide) rfl (fun h => (gd_ne h).1) (c12_throwsIf X l b0 u1 2 M) (by decide) (by decide) (by decide) rfl (by decide) dX12_person_35 rfl (fun q_1 => ?_)
  refine g_if_eq B 43 dX12_person_38 (by decide) ?_ ?_
  · refine g_iload_n B dX12_person_43 2 rfl ?_
    refine g_bipush (v := 9) B dX12_person_44 (by decide) ?_
    refine g_icmp_ne B 57 dX12_person_46 (by decide) ?_ ?_
    · refine g_aload_n B dX12_person_49 0 rfl ?_
      refine g_iload_n B dX12_person_50 1 rfl ?_
      refine g_callV_ip [.int x1] (ci := 11) (T0 := TX12) (N := 27) B hS9 mf12_governedBy wd_1951 (gw B wp_80) wd_1949 (by decide) rfl (fun h => (gd_ne h).1) (c12_governedBy X l a0 x1 q_1.2) (by decide) (by decide) (by decide) rfl (by decide) dX12_person_51 rfl (fun v_4 => ?_)
      refine g_goto B 77 dX12_person_54 (by decide) ?_
      refine g_sub (lv' := []) [] rfl ?_
      exact g12_person_J77 B hS9 hr v_4 q_1.2
    · refine g_iload_n B dX12_person_57 2 rfl ?_
      refine g_bipush (v := 10) B dX12_person_58 (by decide) ?_
      refine g_icmp_ne B 71 dX12_person_60 (by decide) ?_ ?_
      · refine g_aload_n B dX12_person_63 0 rfl ?_
        refine g_iload_n B dX12_person_64 1 rfl ?_
        refine g_callV_ip [.int x1] (ci := 11) (T0 := TX12) (N := 27) B hS9 mf12_shareOf wd_1962 (gw B wp_82) wd_1960 (by decide) rfl (fun h => (gd_ne h).1) (c12_shareOf X l a0 x1 q_1.2) (by decide) (by decide) (by decide) rfl (by decide) dX12_person_65 rfl (fun v_3 => ?_)
        refine g_goto B 77 dX12_person_68 (by decide) ?_
        refine g_sub (lv' := []) [] rfl ?_
        exact g12_person_J77 B hS9 hr v_3 q_1.2
      · refine g_aload_n B dX12_person_71 0 rfl ?_
        refine g_iload_n B dX12_person_72 1 rfl ?_
        refine g_iload_n B dX12_person_73 2 rfl ?_
        refine g_callV_ip [.int x1, .int x2] (ci := 11) (T0 := TX12) (N := 27) B hS9 mf12_of wd_1846 (gw B wp_61) wd_1844 (by decide) rfl (fun h => (gd_ne h).1) (c12_of X l a0 x1 x2 q_1.2) (by decide) (by decide) (by decide) rfl (by decide) dX12_person_74 rfl (fun v_2 => ?_)
        refine g_sub (lv' := []) [] rfl ?_
        exact g12_person_J77 B hS9 hr v_2 q_1.2
  · refine g_sub (lv' := []) [] rfl ?_
    exact g12_person_J41 B hS9 hr q_1.2
set_option maxRecDepth 20000 in
set_option maxHeartbeats 2000000 in
theorem g12_person {X : gX} {p : Program} {l : Launch} {e : Env} {s : State} {m : MethodId} {args : Array Value} {below : List Frame} {meth : Method} {c : Code} (B : gB X p (rm12_person) s m args meth c RX12 cX12_person 3 (rm12_person)) (hS9 : gS X s) (hr : meth.sig.returnType = some .int) (a0 : Nat) (x1 : Int32) (x2 : Int32) (M : mMem) : GG X p l e (rm12_person) s m args below meth c (gP X below args s 0 0 (fun r9 : (Int32 × mMem) => (some (.int r9.1), r9.2))) 3 0 0 0 [(0, .ref a0), (1, .int x1), (2, .int x2)] [] M (p12_person a0 x1 x2 M) := by
  unfold p12_person
  refine g_gd ?_
  refine g_aload_n B dX12_person_0 0 rfl ?_
  refine g_iconst (v := 0) B dX12_person_1 (by decide) ?_
  refine g_putI (ci := 11) (T0 := TX12) (N := 27) B (by decide) rfl in_11 tyX12 tyX12_ok nmX12 (k := 0) (by decide) wd_1641 (fun _ h => h) rfl rfl (ty := .int) (by decide +kernel) rfl rfl dX12_person_2 (fun M_1 => ?_)
  refine g_aload_n B dX12_person_5 0 rfl ?_
  refine g_aload_n B dX12_person_6 0 rfl ?_
  refine g_iload_n B dX12_person_7 1 rfl ?_
  refine g_callV_ip [.int x1] (ci := 11) (T0 := TX12) (N := 27) B hS9 mf12_nobody wd_1944 (gw B wp_79) wd_1942 (by decide) rfl (fun h => (gd_ne h).1) (c12_nobody X l a0 x1 M_1) (by decide) (by decide) (by decide) rfl (Nat.le_of_ble_eq_true rfl) dX12_person_8 rfl (fun v_2 => ?_)
  refine g_iconst (v := 1) B dX12_person_11 (by decide) ?_
  refine g_callV_iw [.int v_2, .int 1] (ci := 11) (T0 := TX12) (N := 27) B hS9 mf12_throwsIf wd_1932 (gw B wp_78) wd_1930 (by decide) rfl (fun h => (gd_ne h).1) (c12_throwsIf X l a0 v_2 1 M_1) (by decide) (by decide) (by decide) rfl (by decide) dX12_person_12 rfl (fun q_3 => ?_)
  refine g_if_ne B 41 dX12_person_15 (by decide) ?_ ?_
  · refine g_aload_n B dX12_person_18 0 rfl ?_
    refine g_iload_n B dX12_person_19 2 rfl ?_
    refine g_iconst (v := 0) B dX12_person_20 (by decide) ?_
    refine g_bipush (v := 10) B dX12_person_21 (by decide) ?_
    refine g_callS_ip [.int x2, .int 0, .int 10] B hS9 mf12_in wd_1947 wd_1946 (c12_in X l x2 0 10 q_3.2) (by decide) (by decide) (by decide) rfl (Nat.le_of_ble_eq_true rfl) dX12_person_23 rfl (fun v_4 => ?_)
    refine g_if_ne B 33 dX12_person_26 (by decide) ?_ ?_
    · refine g_iconst (v := 1) B dX12_person_29 (by decide) ?_
      refine g_goto B 34 dX12_person_30 (by decide) ?_
      refine g_sub (lv' := [(0, .ref a0), (1, .int x1), (2, .int x2)]) [0, 1, 2] rfl ?_
      exact g12_person_J34 B hS9 hr a0 x1 x2 a0 1 q_3.2
    · refine g_iconst (v := 0) B dX12_person_33 (by decide) ?_
      refine g_sub (lv' := [(0, .ref a0), (1, .int x1), (2, .int x2)]) [0, 1, 2] rfl ?_
      exact g12_person_J34 B hS9 hr a0 x1 x2 a0 0 q_3.2
  · refine g_sub (lv' := []) [] rfl ?_
    exact g12_person_J41 B hS9 hr q_3.2
theorem c12_person (X : gX) (l : Launch) (a0 : Nat) (x1 : Int32) (x2 : Int32) (M : mMem) : Con X l yX12_person cX12_person 3 (some .int) rm12_person (fun r9 : (Int32 × mMem) => (some (.int r9.1), r9.2)) [.ref a0, .int x1, .int x2] M (p12_person a0 x1 x2 M) := g_con (own := RX12) (by decide +kernel) rfl (Nat.le_of_ble_eq_true rfl) (fun p e s m args below meth c B hS9 hr hn => g12_person B hS9 hr a0 x1 x2 M)
theorem mf12_noTwo : gMF yX12_noTwo cX12_noTwo 3 (some .boolean) 2 := ⟨wd_1975, wd_13, ⟨by decide, by decide⟩, by decide +kernel⟩
set_option maxRecDepth 20000 in
set_option maxHeartbeats 2000000 in
theorem g12_noTwo_J57 {X : gX} {p : Program} {l : Launch} {e : Env} {s : State} {m : MethodId} {args : Array Value} {below : List Frame} {meth : Method} {c : Code} (B : gB X p (rm12_noTwo) s m args meth c RX12 cX12_noTwo 3 (rm12_noTwo)) (hS9 : gS X s) (hr : meth.sig.returnType = some .boolean) (u0 : Int32) (M : mMem) : GG X p l e (rm12_noTwo) s m args below meth c (gP X below args s 0 0 (fun r9 : (Int32 × mMem) => (some (.int r9.1), r9.2))) 3 0 0 57 [] [.int u0] M (p12_noTwo_J57 u0 M) := by
  unfold p12_noTwo_J57
  exact g_zreturn (f := fun z => (z, M)) B hr (by decide) (by decide) rfl dX12_noTwo_57
set_option maxRecDepth 20000 in
set_option maxHeartbeats 2000000 in
theorem g12_noTwo_J52 {X : gX} {p : Program} {l : Launch} {e : Env} {s : State} {m : MethodId} {args : Array Value} {below : List Frame} {meth : Method} {c : Code} (B : gB X p (rm12_noTwo) s m args meth c RX12 cX12_noTwo 3 (rm12_noTwo)) (hS9 : gS X s) (hr : meth.sig.returnType = some .boolean) (M : mMem) : GG X p l e (rm12_noTwo) s m args below meth c (gP X below args s 0 0 (fun r9 : (Int32 × mMem) => (some (.int r9.1), r9.2))) 3 0 0 52 [] [] M (p12_noTwo_J52 M) := by
  unfold p12_noTwo_J52
  refine g_iconst (v := 1) B dX12_noTwo_52 (by decide) ?_
  refine g_goto B 57 dX12_noTwo_53 (by decide) ?_
  refine g_sub (lv' := []) [] rfl ?_
  exact g12_noTwo_J57 B hS9 hr 1 M
set_option maxRecDepth 20000 in
set_option maxHeartbeats 2000000 in
theorem g12_noTwo_J45 {X : gX} {p : Program} {l : Launch} {e : Env} {s : State} {m : MethodId} {args : Array Value} {below : List Frame} {meth : Method} {c : Code} (B : gB X p (rm12_noTwo) s m args meth c RX12 cX12_noTwo 3 (rm12_noTwo)) (hS9 : gS X s) (hr : meth.sig.returnType = some .boolean) (b0 : Nat) (u1 : Int32) (M : mMem) : GG X p l e (rm12_noTwo) s m args below meth c (gP X below args s 0 0 (fun r9 : (Int32 × mMem) => (some (.int r9.1), r9.2))) 3 0 0 45 [] [.int u1, .ref b0] M (p12_noTwo_J45 b0 u1 M) := by
  unfold p12_noTwo_J45
  refine g_iconst (v := 2) B dX12_noTwo_45 (by decide) ?_
  refine g_callV_iw [.int u1, .int 2] (ci := 11) (T0 := TX12) (N := 27) B hS9 mf12_throwsIf wd_1932 (gw B wp_78) wd_1930 (by decide) rfl (fun h => (gd_ne h).1) (c12_throwsIf X l b0 u1 2 M) (by decide) (by decide) (by decide) rfl (by decide) dX12_noTwo_46 rfl (fun q_1 => ?_)
  refine g_if_eq B 56 dX12_noTwo_49 (by decide) ?_ ?_
  · refine g_iconst (v := 0) B dX12_noTwo_56 (by decide) ?_
    refine g_sub (lv' := []) [] rfl ?_
    exact g12_noTwo_J57 B hS9 hr 0 q_1.2
  · refine g_sub (lv' := []) [] rfl ?_
    exact g12_noTwo_J52 B hS9 hr q_1.2
set_option maxRecDepth 20000 in
set_option maxHeartbeats 2000000 in
theorem g12_noTwo_J27 {X : gX} {p : Program} {l : Launch} {e : Env} {s : State} {m : MethodId} {args : Array Value} {below : List Frame} {meth : Method} {c : Code} (B : gB X p (rm12_noTwo) s m args meth c RX12 cX12_noTwo 3 (rm12_noTwo)) (hS9 : gS X s) (hr : meth.sig.returnType = some .boolean) (a0 : Nat) (x1 : Int32) (x2 : Int32) (b0 : Nat) (u1 : Int32) (M : mMem) : GG X p l e (rm12_noTwo) s m args below meth c (gP X below args s 0 0 (fun r9 : (Int32 × mMem) => (some (.int r9.1), r9.2))) 3 0 0 27 [(0, .ref a0), (1, .int x1), (2, .int x2)] [.int u1, .ref b0] M (p12_noTwo_J27 a0 x1 x2 b0 u1 M) := by
  unfold p12_noTwo_J27
  refine g_iconst (v := 1) B dX12_noTwo_27 (by decide) ?_
  refine g_callV_iw [.int u1, .int 1] (ci := 11) (T0 := TX12) (N := 27) B hS9 mf12_throwsIf wd_1932 (gw B wp_78) wd_1930 (by decide) rfl (fun h => (gd_ne h).1) (c12_throwsIf X l b0 u1 1 M) (by decide) (by decide) (by decide) rfl (by decide) dX12_noTwo_28 rfl (fun q_1 => ?_)
  refine g_if_ne B 52 dX12_noTwo_31 (by decide) ?_ ?_
  · refine g_aload_n B dX12_noTwo_34 0 rfl ?_
    refine g_iload_n B dX12_noTwo_35 1 rfl ?_
    refine g_iload_n B dX12_noTwo_36 2 rfl ?_
    refine g_icmp_ne B 44 dX12_noTwo_37 (by decide) ?_ ?_
    · refine g_iconst (v := 1) B dX12_noTwo_40 (by decide) ?_
      refine g_goto B 45 dX12_noTwo_41 (by decide) ?_
      refine g_sub (lv' := []) [] rfl ?_
      exact g12_noTwo_J45 B hS9 hr a0 1 q_1.2
    · refine g_iconst (v := 0) B dX12_noTwo_44 (by decide) ?_
      refine g_sub (lv' := []) [] rfl ?_
      exact g12_noTwo_J45 B hS9 hr a0 0 q_1.2
  · refine g_sub (lv' := []) [] rfl ?_
    exact g12_noTwo_J52 B hS9 hr q_1.2
set_option maxRecDepth 20000 in
set_option maxHeartbeats 2000000 in
theorem g12_noTwo_J22 {X : gX} {p : Program} {l : Launch} {e : Env} {s : State} {m : MethodId} {args : Array Value} {below : List Frame} {meth : Method} {c : Code} (B : gB X p (rm12_noTwo) s m args meth c RX12 cX12_noTwo 3 (rm12_noTwo)) (hS9 : gS X s) (hr : meth.sig.returnType = some .boolean) (a0 : Nat) (x1 : Int32) (x2 : Int32) (b0 : Nat) (M : mMem) : GG X p l e (rm12_noTwo) s m args below meth c (gP X below args s 0 0 (fun r9 : (Int32 × mMem) => (some (.int r9.1), r9.2))) 3 0 0 22 [(0, .ref a0), (1, .int x1), (2, .int x2)] [.ref b0] M (p12_noTwo_J22 a0 x1 x2 b0 M) := by
  unfold p12_noTwo_J22
  refine g_iconst (v := 1) B dX12_noTwo_22 (by decide) ?_
  refine g_goto B 27 dX12_noTwo_23 (by decide) ?_
  refine g_sub (lv' := [(0, .ref a0), (1, .int x1), (2, .int x2)]) [0, 1, 2] rfl ?_
  exact g12_noTwo_J27 B hS9 hr a0 x1 x2 b0 1 M
set_option maxRecDepth 20000 in
set_option maxHeartbeats 2000000 in
theorem g12_noTwo {X : gX} {p : Program} {l : Launch} {e : Env} {s : State} {m : MethodId} {args : Array Value} {below : List Frame} {meth : Method} {c : Code} (B : gB X p (rm12_noTwo) s m args meth c RX12 cX12_noTwo 3 (rm12_noTwo)) (hS9 : gS X s) (hr : meth.sig.returnType = some .boolean) (a0 : Nat) (x1 : Int32) (x2 : Int32) (M : mMem) : GG X p l e (rm12_noTwo) s m args below meth c (gP X below args s 0 0 (fun r9 : (Int32 × mMem) => (some (.int r9.1), r9.2))) 3 0 0 0 [(0, .ref a0), (1, .int x1), (2, .int x2)] [] M (p12_noTwo a0 x1 x2 M) := by
  unfold p12_noTwo
  refine g_gd ?_
  refine g_aload_n B dX12_noTwo_0 0 rfl ?_
  refine g_iconst (v := 0) B dX12_noTwo_1 (by decide) ?_
  refine g_putI (ci := 11) (T0 := TX12) (N := 27) B (by decide) rfl in_11 tyX12 tyX12_ok nmX12 (k := 0) (by decide) wd_1641 (fun _ h => h) rfl rfl (ty := .int) (by decide +kernel) rfl rfl dX12_noTwo_2 (fun M_1 => ?_)
  refine g_aload_n B dX12_noTwo_5 0 rfl ?_
  refine g_aload_n B dX12_noTwo_6 0 rfl ?_
  refine g_iload_n B dX12_noTwo_7 1 rfl ?_
  refine g_callV_ip [.int x1] (ci := 11) (T0 := TX12) (N := 27) B hS9 mf12_nobody wd_1944 (gw B wp_79) wd_1942 (by decide) rfl (fun h => (gd_ne h).1) (c12_nobody X l a0 x1 M_1) (by decide) (by decide) (by decide) rfl (Nat.le_of_ble_eq_true rfl) dX12_noTwo_8 rfl (fun v_2 => ?_)
  refine g_if_ne B 22 dX12_noTwo_11 (by decide) ?_ ?_
  · refine g_aload_n B dX12_noTwo_14 0 rfl ?_
    refine g_iload_n B dX12_noTwo_15 2 rfl ?_
    refine g_callV_ip [.int x2] (ci := 11) (T0 := TX12) (N := 27) B hS9 mf12_nobody wd_1944 (gw B wp_79) wd_1942 (by decide) rfl (fun h => (gd_ne h).1) (c12_nobody X l a0 x2 M_1) (by decide) (by decide) (by decide) rfl (Nat.le_of_ble_eq_true rfl) dX12_noTwo_16 rfl (fun v_3 => ?_)
    refine g_if_eq B 26 dX12_noTwo_19 (by decide) ?_ ?_
    · refine g_iconst (v := 0) B dX12_noTwo_26 (by decide) ?_
      refine g_sub (lv' := [(0, .ref a0), (1, .int x1), (2, .int x2)]) [0, 1, 2] rfl ?_
      exact g12_noTwo_J27 B hS9 hr a0 x1 x2 a0 0 M_1
    · refine g_sub (lv' := [(0, .ref a0), (1, .int x1), (2, .int x2)]) [0, 1, 2] rfl ?_
      exact g12_noTwo_J22 B hS9 hr a0 x1 x2 a0 M_1
  · refine g_sub (lv' := [(0, .ref a0), (1, .int x1), (2, .int x2)]) [0, 1, 2] rfl ?_
    exact g12_noTwo_J22 B hS9 hr a0 x1 x2 a0 M_1
theorem c12_noTwo (X : gX) (l : Launch) (a0 : Nat) (x1 : Int32) (x2 : Int32) (M : mMem) : Con X l yX12_noTwo cX12_noTwo 3 (some .boolean) rm12_noTwo (fun r9 : (Int32 × mMem) => (some (.int r9.1), r9.2)) [.ref a0, .int x1, .int x2] M (p12_noTwo a0 x1 x2 M) := g_con (own := RX12) (by decide +kernel) rfl (Nat.le_of_ble_eq_true rfl) (fun p e s m args below meth c B hS9 hr hn => g12_noTwo B hS9 hr a0 x1 x2 M)
theorem mf12_lent : gMF yX12_lent cX12_lent 3 (some .int) 2 := ⟨wd_1971, wd_13, ⟨by decide, by decide⟩, by decide +kernel⟩
set_option maxRecDepth 20000 in
set_option maxHeartbeats 2000000 in
theorem g12_lent_J22 {X : gX} {p : Program} {l : Launch} {e : Env} {s : State} {m : MethodId} {args : Array Value} {below : List Frame} {meth : Method} {c : Code} (B : gB X p (rm12_lent) s m args meth c RX12 cX12_lent 3 (rm12_lent)) (hS9 : gS X s) (hr : meth.sig.returnType = some .int) (u0 : Int32) (M : mMem) : GG X p l e (rm12_lent) s m args below meth c (gP X below args s 0 0 (fun r9 : (Int32 × mMem) => (some (.int r9.1), r9.2))) 3 0 0 22 [] [.int u0] M (p12_lent_J22 u0 M) := by
  unfold p12_lent_J22
  exact g_ireturn B hr rfl (by decide) (by decide) rfl dX12_lent_22
set_option maxRecDepth 20000 in
set_option maxHeartbeats 2000000 in
theorem g12_lent {X : gX} {p : Program} {l : Launch} {e : Env} {s : State} {m : MethodId} {args : Array Value} {below : List Frame} {meth : Method} {c : Code} (B : gB X p (rm12_lent) s m args meth c RX12 cX12_lent 3 (rm12_lent)) (hS9 : gS X s) (hr : meth.sig.returnType = some .int) (a0 : Nat) (x1 : Int32) (x2 : Int32) (M : mMem) : GG X p l e (rm12_lent) s m args below meth c (gP X below args s 0 0 (fun r9 : (Int32 × mMem) => (some (.int r9.1), r9.2))) 3 0 0 0 [(0, .ref a0), (1, .int x1), (2, .int x2)] [] M (p12_lent a0 x1 x2 M) := by
  unfold p12_lent
  refine g_gd ?_
  refine g_aload_n B dX12_lent_0 0 rfl ?_
  refine g_iload_n B dX12_lent_1 1 rfl ?_
  refine g_iload_n B dX12_lent_2 2 rfl ?_
  refine g_callV_iw [.int x1, .int x2] (ci := 11) (T0 := TX12) (N := 27) B hS9 mf12_noTwo wd_1974 (gw B wp_84) wd_1972 (by decide) rfl (fun h => (gd_ne h).1) (c12_noTwo X l a0 x1 x2 M) (by decide) (by decide) (by decide) rfl (by decide) dX12_lent_3 rfl (fun q_1 => ?_)
  refine g_if_eq B 13 dX12_lent_6 (by decide) ?_ ?_
  · refine g_aload_n B dX12_lent_13 0 rfl ?_
    refine g_iload_n B dX12_lent_14 1 rfl ?_
    refine g_bipush (v := 9) B dX12_lent_15 (by decide) ?_
    refine g_iload_n B dX12_lent_17 2 rfl ?_
    refine g_iadd B dX12_lent_18 ?_
    refine g_callV_ip [.int x1, .int ((9 : Int32) + x2)] (ci := 11) (T0 := TX12) (N := 27) B hS9 mf12_of wd_1846 (gw B wp_61) wd_1844 (by decide) rfl (fun h => (gd_ne h).1) (c12_of X l a0 x1 ((9 : Int32) + x2) q_1.2) (by decide) (by decide) (by decide) rfl (by decide) dX12_lent_19 rfl (fun v_2 => ?_)
    refine g_sub (lv' := []) [] rfl ?_
    exact g12_lent_J22 B hS9 hr v_2 q_1.2
  · refine g_iconst (v := 0) B dX12_lent_9 (by decide) ?_
    refine g_goto B 22 dX12_lent_10 (by decide) ?_
    refine g_sub (lv' := []) [] rfl ?_
    exact g12_lent_J22 B hS9 hr 0 q_1.2
theorem c12_lent (X : gX) (l : Launch) (a0 : Nat) (x1 : Int32) (x2 : Int32) (M : mMem) : Con X l yX12_lent cX12_lent 3 (some .int) rm12_lent (fun r9 : (Int32 × mMem) => (some (.int r9.1), r9.2)) [.ref a0, .int x1, .int x2] M (p12_lent a0 x1 x2 M) := g_con (own := RX12) (by decide +kernel) rfl (Nat.le_of_ble_eq_true rfl) (fun p e s m args below meth c B hS9 hr hn => g12_lent B hS9 hr a0 x1 x2 M)
theorem mf12_weighs : gMF yX12_weighs cX12_weighs 4 (some .int) 3 := ⟨wd_1979, wd_13, ⟨by decide, by decide⟩, by decide +kernel⟩
set_option maxRecDepth 20000 in
set_option maxHeartbeats 2000000 in
theorem g12_weighs_J20 {X : gX} {p : Program} {l : Launch} {e : Env} {s : State} {m : MethodId} {args : Array Value} {below : List Frame} {meth : Method} {c : Code} (B : gB X p (rm12_weighs) s m args meth c RX12 cX12_weighs 4 (rm12_weighs)) (hS9 : gS X s) (hr : meth.sig.returnType = some .int) (u0 : Int32) (M : mMem) : GG X p l e (rm12_weighs) s m args below meth c (gP X below args s 0 0 (fun r9 : (Int32 × mMem) => (some (.int r9.1), r9.2))) 4 0 0 20 [] [.int u0] M (p12_weighs_J20 u0 M) := by
  unfold p12_weighs_J20
  exact g_ireturn B hr rfl (by decide) (by decide) rfl dX12_weighs_20
set_option maxRecDepth 20000 in
set_option maxHeartbeats 2000000 in
theorem g12_weighs {X : gX} {p : Program} {l : Launch} {e : Env} {s : State} {m : MethodId} {args : Array Value} {below : List Frame} {meth : Method} {c : Code} (B : gB X p (rm12_weighs) s m args meth c RX12 cX12_weighs 4 (rm12_weighs)) (hS9 : gS X s) (hr : meth.sig.returnType = some .int) (a0 : Nat) (x1 : Int32) (x2 : Int32) (x3 : Int32) (M : mMem) : GG X p l e (rm12_weighs) s m args below meth c (gP X below args s 0 0 (fun r9 : (Int32 × mMem) => (some (.int r9.1), r9.2))) 4 0 0 0 [(0, .ref a0), (1, .int x1), (2, .int x2), (3, .int x3)] [] M (p12_weighs a0 x1 x2 x3 M) := by
  unfold p12_weighs
  refine g_gd ?_
  refine g_aload_n B dX12_weighs_0 0 rfl ?_
  refine g_iload_n B dX12_weighs_1 1 rfl ?_
  refine g_iload_n B dX12_weighs_2 2 rfl ?_
  refine g_callV_iw [.int x1, .int x2] (ci := 11) (T0 := TX12) (N := 27) B hS9 mf12_noTwo wd_1974 (gw B wp_84) wd_1972 (by decide) rfl (fun h => (gd_ne h).1) (c12_noTwo X l a0 x1 x2 M) (by decide) (by decide) (by decide) rfl (by decide) dX12_weighs_3 rfl (fun q_1 => ?_)
  refine g_if_eq B 13 dX12_weighs_6 (by decide) ?_ ?_
  · refine g_aload_n B dX12_weighs_13 0 rfl ?_
    refine g_iload_n B dX12_weighs_14 1 rfl ?_
    refine g_iload_n B dX12_weighs_15 2 rfl ?_
    refine g_iload_n B dX12_weighs_16 3 rfl ?_
    refine g_callV_iw [.int x1, .int x2, .int x3] (ci := 11) (T0 := TX12) (N := 27) B hS9 mf12_weighsOf wd_1982 (gw B wp_85) wd_1980 (by decide) rfl (fun h => (gd_ne h).1) (c12_weighsOf X l a0 x1 x2 x3 q_1.2) (by decide) (by decide) (by decide) rfl (by decide) dX12_weighs_17 rfl (fun q_2 => ?_)
    refine g_sub (lv' := []) [] rfl ?_
    exact g12_weighs_J20 B hS9 hr q_2.1 q_2.2
  · refine g_iconst (v := 0) B dX12_weighs_9 (by decide) ?_
    refine g_goto B 20 dX12_weighs_10 (by decide) ?_
    refine g_sub (lv' := []) [] rfl ?_
    exact g12_weighs_J20 B hS9 hr 0 q_1.2
theorem c12_weighs (X : gX) (l : Launch) (a0 : Nat) (x1 : Int32) (x2 : Int32) (x3 : Int32) (M : mMem) : Con X l yX12_weighs cX12_weighs 4 (some .int) rm12_weighs (fun r9 : (Int32 × mMem) => (some (.int r9.1), r9.2)) [.ref a0, .int x1, .int x2, .int x3] M (p12_weighs a0 x1 x2 x3 M) := g_con (own := RX12) (by decide +kernel) rfl (Nat.le_of_ble_eq_true rfl) (fun p e s m args below meth c B hS9 hr hn => g12_weighs B hS9 hr a0 x1 x2 x3 M)
theorem mf12_gap : gMF yX12_gap cX12_gap 3 (some .int) 2 := ⟨wd_1999, wd_13, ⟨by decide, by decide⟩, by decide +kernel⟩
set_option maxRecDepth 20000 in
set_option maxHeartbeats 2000000 in
theorem g12_gap_J19 {X : gX} {p : Program} {l : Launch} {e : Env} {s : State} {m : MethodId} {args : Array Value} {below : List Frame} {meth : Method} {c : Code} (B : gB X p (rm12_gap) s m args meth c RX12 cX12_gap 3 (rm12_gap)) (hS9 : gS X s) (hr : meth.sig.returnType = some .int) (u0 : Int32) (M : mMem) : GG X p l e (rm12_gap) s m args below meth c (gP X below args s 0 0 (fun r9 : (Int32 × mMem) => (some (.int r9.1), r9.2))) 3 0 0 19 [] [.int u0] M (p12_gap_J19 u0 M) := by
  unfold p12_gap_J19
  exact g_ireturn B hr rfl (by decide) (by decide) rfl dX12_gap_19
set_option maxRecDepth 20000 in
set_option maxHeartbeats 2000000 in
theorem g12_gap {X : gX} {p : Program} {l : Launch} {e : Env} {s : State} {m : MethodId} {args : Array Value} {below : List Frame} {meth : Method} {c : Code} (B : gB X p (rm12_gap) s m args meth c RX12 cX12_gap 3 (rm12_gap)) (hS9 : gS X s) (hr : meth.sig.returnType = some .int) (a0 : Nat) (x1 : Int32) (x2 : Int32) (M : mMem) : GG X p l e (rm12_gap) s m args below meth c (gP X below args s 0 0 (fun r9 : (Int32 × mMem) => (some (.int r9.1), r9.2))) 3 0 0 0 [(0, .ref a0), (1, .int x1), (2, .int x2)] [] M (p12_gap a0 x1 x2 M) := by
  unfold p12_gap
  refine g_gd ?_
  refine g_aload_n B dX12_gap_0 0 rfl ?_
  refine g_iload_n B dX12_gap_1 1 rfl ?_
  refine g_iload_n B dX12_gap_2 2 rfl ?_
  refine g_callV_iw [.int x1, .int x2] (ci := 11) (T0 := TX12) (N := 27) B hS9 mf12_noTwo wd_1974 (gw B wp_84) wd_1972 (by decide) rfl (fun h => (gd_ne h).1) (c12_noTwo X l a0 x1 x2 M) (by decide) (by decide) (by decide) rfl (by decide) dX12_gap_3 rfl (fun q_1 => ?_)
  refine g_if_eq B 13 dX12_gap_6 (by decide) ?_ ?_
  · refine g_aload_n B dX12_gap_13 0 rfl ?_
    refine g_iload_n B dX12_gap_14 1 rfl ?_
    refine g_iload_n B dX12_gap_15 2 rfl ?_
    refine g_callV_ip [.int x1, .int x2] (ci := 11) (T0 := TX12) (N := 27) B hS9 mf12_gapOf wd_2002 (gw B wp_89) wd_2000 (by decide) rfl (fun h => (gd_ne h).1) (c12_gapOf X l a0 x1 x2 q_1.2) (by decide) (by decide) (by decide) rfl (by decide) dX12_gap_16 rfl (fun v_2 => ?_)
    refine g_sub (lv' := []) [] rfl ?_
    exact g12_gap_J19 B hS9 hr v_2 q_1.2
  · refine g_iconst (v := 0) B dX12_gap_9 (by decide) ?_
    refine g_goto B 19 dX12_gap_10 (by decide) ?_
    refine g_sub (lv' := []) [] rfl ?_
    exact g12_gap_J19 B hS9 hr 0 q_1.2
theorem c12_gap (X : gX) (l : Launch) (a0 : Nat) (x1 : Int32) (x2 : Int32) (M : mMem) : Con X l yX12_gap cX12_gap 3 (some .int) rm12_gap (fun r9 : (Int32 × mMem) => (some (.int r9.1), r9.2)) [.ref a0, .int x1, .int x2] M (p12_gap a0 x1 x2 M) := g_con (own := RX12) (by decide +kernel) rfl (Nat.le_of_ble_eq_true rfl) (fun p e s m args below meth c B hS9 hr hn => g12_gap B hS9 hr a0 x1 x2 M)
theorem mf12_keepsAll : gMF yX12_keepsAll cX12_keepsAll 2 (none) 0 := ⟨wd_2015, wd_13, ⟨by decide, by decide⟩, by decide +kernel⟩
set_option maxRecDepth 20000 in
set_option maxHeartbeats 2000000 in
theorem g12_keepsAll_L2 {X : gX} {p : Program} {l : Launch} {e : Env} {s : State} {m : MethodId} {args : Array Value} {below : List Frame} {meth : Method} {c : Code} (B : gB X p (rm12_keepsAll) s m args meth c RX12 cX12_keepsAll 2 (rm12_keepsAll)) (hS9 : gS X s) (hr : meth.sig.returnType = none) : ∀ (n : Nat) (a0 : Nat) (x1 : Int32) (M : mMem), GG X p l e (rm12_keepsAll) s m args below meth c (gP X below args s 0 0 (fun M9 : mMem => (none, M9))) 2 0 0 2 [(0, .ref a0), (1, .int x1)] [] M (p12_keepsAll_L2 n a0 x1 M) := by
  intro n
  induction n with
  | zero => intro a0 x1 M; exact g_none
  | succ n ih =>
    intro a0 x1 M
    rw [p12_keepsAll_L2]
    refine g_iload_n B dX12_keepsAll_2 1 rfl ?_
    refine g_sipush (v := 445) B dX12_keepsAll_3 (by decide) ?_
    refine g_icmp_ge B 27 dX12_keepsAll_6 (by decide) ?_ ?_
    · refine g_aload_n B dX12_keepsAll_9 0 rfl ?_
      refine g_getR (ci := 11) (T0 := TX12) (N := 27) B (by decide) rfl in_11 (k := 4) (by decide) rfl wd_1645 (fun _ h => h) dX12_keepsAll_10 (fun v_1 => ?_)
      refine g_iload_n B dX12_keepsAll_13 1 rfl ?_
      refine g_aload_n B dX12_keepsAll_14 0 rfl ?_
      refine g_getR (ci := 11) (T0 := TX12) (N := 27) B (by decide) rfl in_11 (k := 1) (by decide) rfl wd_1642 (fun _ h => h) dX12_keepsAll_15 (fun v_2 => ?_)
      refine g_iload_n B dX12_keepsAll_18 1 rfl ?_
      refine g_iaload B dX12_keepsAll_19 (fun v_3 => ?_)
      refine g_iastore B dX12_keepsAll_20 (fun M_4 => ?_)
      refine g_iinc (v := (x1 + 1)) (lv' := [(1, .int (x1 + 1)), (0, .ref a0)]) B dX12_keepsAll_21 1 rfl rfl (by decide) [0, 1] rfl ?_
      refine g_goto B 2 dX12_keepsAll_24 (by decide) ?_
      refine g_sub (lv' := [(0, .ref a0), (1, .int (x1 + 1))]) [1, 0] rfl ?_
      exact ih a0 (x1 + 1) M_4
    · exact g_vreturn B hr (by decide) (by decide) rfl dX12_keepsAll_27
set_option maxRecDepth 20000 in
set_option maxHeartbeats 2000000 in
theorem g12_keepsAll {X : gX} {p : Program} {l : Launch} {e : Env} {s : State} {m : MethodId} {args : Array Value} {below : List Frame} {meth : Method} {c : Code} (B : gB X p (rm12_keepsAll) s m args meth c RX12 cX12_keepsAll 2 (rm12_keepsAll)) (hS9 : gS X s) (hr : meth.sig.returnType = none) (a0 : Nat) (M : mMem) : GG X p l e (rm12_keepsAll) s m args below meth c (gP X below args s 0 0 (fun M9 : mMem => (none, M9))) 2 0 0 0 [(0, .ref a0)] [] M (p12_keepsAll a0 M) := by
  unfold p12_keepsAll
  refine g_gd ?_
  refine g_iconst (v := 0) B dX12_keepsAll_0 (by decide) ?_
  refine g_istore_n (lv' := [(1, .int 0), (0, .ref a0)]) B dX12_keepsAll_1 (by decide) [0, 1] rfl ?_
  refine g_sub (lv' := [(0, .ref a0), (1, .int 0)]) [1, 0] rfl ?_
  exact (g12_keepsAll_L2 B hS9 hr) gF a0 0 M
theorem c12_keepsAll (X : gX) (l : Launch) (a0 : Nat) (M : mMem) : Con X l yX12_keepsAll cX12_keepsAll 2 (none) rm12_keepsAll (fun M9 : mMem => (none, M9)) [.ref a0] M (p12_keepsAll a0 M) := g_con (own := RX12) (by decide +kernel) rfl (Nat.le_of_ble_eq_true rfl) (fun p e s m args below meth c B hS9 hr hn => g12_keepsAll B hS9 hr a0 M)
theorem mf12_bringsBack : gMF yX12_bringsBack cX12_bringsBack 2 (none) 0 := ⟨wd_2027, wd_13, ⟨by decide, by decide⟩, by decide +kernel⟩
set_option maxRecDepth 20000 in
set_option maxHeartbeats 2000000 in
theorem g12_bringsBack_L2 {X : gX} {p : Program} {l : Launch} {e : Env} {s : State} {m : MethodId} {args : Array Value} {below : List Frame} {meth : Method} {c : Code} (B : gB X p (rm12_bringsBack) s m args meth c RX12 cX12_bringsBack 2 (rm12_bringsBack)) (hS9 : gS X s) (hr : meth.sig.returnType = none) : ∀ (n : Nat) (a0 : Nat) (x1 : Int32) (M : mMem), GG X p l e (rm12_bringsBack) s m args below meth c (gP X below args s 0 0 (fun M9 : mMem => (none, M9))) 2 0 0 2 [(0, .ref a0), (1, .int x1)] [] M (p12_bringsBack_L2 n a0 x1 M) := by
  intro n
  induction n with
  | zero => intro a0 x1 M; exact g_none
  | succ n ih =>
    intro a0 x1 M
    rw [p12_bringsBack_L2]
    refine g_iload_n B dX12_bringsBack_2 1 rfl ?_
    refine g_sipush (v := 445) B dX12_bringsBack_3 (by decide) ?_
    refine g_icmp_ge B 27 dX12_bringsBack_6 (by decide) ?_ ?_
    · refine g_aload_n B dX12_bringsBack_9 0 rfl ?_
      refine g_getR (ci := 11) (T0 := TX12) (N := 27) B (by decide) rfl in_11 (k := 1) (by decide) rfl wd_1642 (fun _ h => h) dX12_bringsBack_10 (fun v_1 => ?_)
      refine g_iload_n B dX12_bringsBack_13 1 rfl ?_
      refine g_aload_n B dX12_bringsBack_14 0 rfl ?_
      refine g_getR (ci := 11) (T0 := TX12) (N := 27) B (by decide) rfl in_11 (k := 4) (by decide) rfl wd_1645 (fun _ h => h) dX12_bringsBack_15 (fun v_2 => ?_)
      refine g_iload_n B dX12_bringsBack_18 1 rfl ?_
      refine g_iaload B dX12_bringsBack_19 (fun v_3 => ?_)
      refine g_iastore B dX12_bringsBack_20 (fun M_4 => ?_)
      refine g_iinc (v := (x1 + 1)) (lv' := [(1, .int (x1 + 1)), (0, .ref a0)]) B dX12_bringsBack_21 1 rfl rfl (by decide) [0, 1] rfl ?_
      refine g_goto B 2 dX12_bringsBack_24 (by decide) ?_
      refine g_sub (lv' := [(0, .ref a0), (1, .int (x1 + 1))]) [1, 0] rfl ?_
      exact ih a0 (x1 + 1) M_4
    · exact g_vreturn B hr (by decide) (by decide) rfl dX12_bringsBack_27
set_option maxRecDepth 20000 in
set_option maxHeartbeats 2000000 in
theorem g12_bringsBack {X : gX} {p : Program} {l : Launch} {e : Env} {s : State} {m : MethodId} {args : Array Value} {below : List Frame} {meth : Method} {c : Code} (B : gB X p (rm12_bringsBack) s m args meth c RX12 cX12_bringsBack 2 (rm12_bringsBack)) (hS9 : gS X s) (hr : meth.sig.returnType = none) (a0 : Nat) (M : mMem) : GG X p l e (rm12_bringsBack) s m args below meth c (gP X below args s 0 0 (fun M9 : mMem => (none, M9))) 2 0 0 0 [(0, .ref a0)] [] M (p12_bringsBack a0 M) := by
  unfold p12_bringsBack
  refine g_gd ?_
  refine g_iconst (v := 0) B dX12_bringsBack_0 (by decide) ?_
  refine g_istore_n (lv' := [(1, .int 0), (0, .ref a0)]) B dX12_bringsBack_1 (by decide) [0, 1] rfl ?_
  refine g_sub (lv' := [(0, .ref a0), (1, .int 0)]) [1, 0] rfl ?_
  exact (g12_bringsBack_L2 B hS9 hr) gF a0 0 M
theorem c12_bringsBack (X : gX) (l : Launch) (a0 : Nat) (M : mMem) : Con X l yX12_bringsBack cX12_bringsBack 2 (none) rm12_bringsBack (fun M9 : mMem => (none, M9)) [.ref a0] M (p12_bringsBack a0 M) := g_con (own := RX12) (by decide +kernel) rfl (Nat.le_of_ble_eq_true rfl) (fun p e s m args below meth c B hS9 hr hn => g12_bringsBack B hS9 hr a0 M)
theorem mf12_would : gMF yX12_would cX12_would 5 (some .int) 3 := ⟨wd_2011, wd_13, ⟨by decide, by decide⟩, by decide +kernel⟩
set_option maxRecDepth 20000 in
set_option maxHeartbeats 2000000 in
theorem g12_would {X : gX} {p : Program} {l : Launch} {e : Env} {s : State} {m : MethodId} {args : Array Value} {below : List Frame} {meth : Method} {c : Code} (B : gB X p (rm12_would) s m args meth c RX12 cX12_would 5 (rm12_would)) (hS9 : gS X s) (hr : meth.sig.returnType = some .int) (a0 : Nat) (x1 : Int32) (x2 : Int32) (x3 : Int32) (M : mMem) : GG X p l e (rm12_would) s m args below meth c (gP X below args s 0 0 (fun r9 : (Int32 × mMem) => (some (.int r9.1), r9.2))) 5 0 0 0 [(0, .ref a0), (1, .int x1), (2, .int x2), (3, .int x3)] [] M (p12_would a0 x1 x2 x3 M) := by
  unfold p12_would
  refine g_gd ?_
  refine g_aload_n B dX12_would_0 0 rfl ?_
  refine g_iload_n B dX12_would_1 1 rfl ?_
  refine g_iload_n B dX12_would_2 2 rfl ?_
  refine g_callV_iw [.int x1, .int x2] (ci := 11) (T0 := TX12) (N := 27) B hS9 mf12_noTwo wd_1974 (gw B wp_84) wd_1972 (by decide) rfl (fun h => (gd_ne h).1) (c12_noTwo X l a0 x1 x2 M) (by decide) (by decide) (by decide) rfl (by decide) dX12_would_3 rfl (fun q_1 => ?_)
  refine g_if_eq B 11 dX12_would_6 (by decide) ?_ ?_
  · refine g_aload_n B dX12_would_11 0 rfl ?_
    refine g_callV_vw [] (ci := 11) (T0 := TX12) (N := 27) B hS9 mf12_keepsAll wd_2014 (gw B wp_90) wd_2012 (by decide) rfl (fun h => (gd_ne h).1) (c12_keepsAll X l a0 q_1.2) (by decide) (by decide) (by decide) rfl (by decide) dX12_would_12 rfl (fun q_2 => ?_)
    refine g_aload_n B dX12_would_15 0 rfl ?_
    refine g_iload_n B dX12_would_16 1 rfl ?_
    refine g_iload_n B dX12_would_17 2 rfl ?_
    refine g_iload_n B dX12_would_18 3 rfl ?_
    refine g_callV_vw [.int x1, .int x2, .int x3] (ci := 11) (T0 := TX12) (N := 27) B hS9 mf12_hears wd_2018 (gw B wp_91) wd_2016 (by decide) rfl (fun h => (gd_ne h).1) (c12_hears X l a0 x1 x2 x3 q_2) (by decide) (by decide) (by decide) rfl (by decide) dX12_would_19 rfl (fun q_3 => ?_)
    refine g_aload_n B dX12_would_22 0 rfl ?_
    refine g_iload_n B dX12_would_23 2 rfl ?_
    refine g_iconst (v := 0) B dX12_would_24 (by decide) ?_
    refine g_callV_ip [.int x2, .int 0] (ci := 11) (T0 := TX12) (N := 27) B hS9 mf12_of wd_1846 (gw B wp_61) wd_1844 (by decide) rfl (fun h => (gd_ne h).1) (c12_of X l a0 x2 0 q_3) (by decide) (by decide) (by decide) rfl (by decide) dX12_would_25 rfl (fun v_4 => ?_)
    refine g_istore (lv' := [(4, .int v_4), (0, .ref a0), (1, .int x1), (2, .int x2), (3, .int x3)]) B dX12_would_28 (by decide) [0, 1, 2, 3, 4] rfl ?_
    refine g_aload_n B dX12_would_30 1 rfl ?_
    refine g_callV_vw [] (ci := 11) (T0 := TX12) (N := 27) B hS9 mf12_bringsBack wd_2026 (gw B wp_93) wd_2024 (by decide) rfl (fun h => (gd_ne h).1) (c12_bringsBack X l a0 q_3) (by decide) (by decide) (by decide) rfl (by decide) dX12_would_31 rfl (fun q_5 => ?_)
    refine g_iload B dX12_would_34 0 rfl ?_
    exact g_ireturn B hr rfl (by decide) (by decide) rfl dX12_would_36
  · refine g_iconst (v := 0) B dX12_would_9 (by decide) ?_
    exact g_ireturn B hr rfl (by decide) (by decide) rfl dX12_would_10
theorem c12_would (X : gX) (l : Launch) (a0 : Nat) (x1 : Int32) (x2 : Int32) (x3 : Int32) (M : mMem) : Con X l yX12_would cX12_would 5 (some .int) rm12_would (fun r9 : (Int32 × mMem) => (some (.int r9.1), r9.2)) [.ref a0, .int x1, .int x2, .int x3] M (p12_would a0 x1 x2 x3 M) := g_con (own := RX12) (by decide +kernel) rfl (Nat.le_of_ble_eq_true rfl) (fun p e s m args below meth c B hS9 hr hn => g12_would B hS9 hr a0 x1 x2 x3 M)
theorem mf12_say : gMF yX12_say cX12_say 4 (some .int) 3 := ⟨wd_2031, wd_13, ⟨by decide, by decide⟩, by decide +kernel⟩
set_option maxRecDepth 20000 in
set_option maxHeartbeats 2000000 in
theorem g12_say_J56 {X : gX} {p : Program} {l : Launch} {e : Env} {s : State} {m : MethodId} {args : Array Value} {below : List Frame} {meth : Method} {c : Code} (B : gB X p (rm12_say) s m args meth c RX12 cX12_say 4 (rm12_say)) (hS9 : gS X s) (hr : meth.sig.returnType = some .int) (M : mMem) : GG X p l e (rm12_say) s m args below meth c (gP X below args s 0 0 (fun r9 : (Int32 × mMem) => (some (.int r9.1), r9.2))) 4 0 0 56 [] [] M (p12_say_J56 M) := by
  unfold p12_say_J56
  refine g_iconst (v := 0) B dX12_say_56 (by decide) ?_
  exact g_ireturn B hr rfl (by decide) (by decide) rfl dX12_say_57
set_option maxRecDepth 20000 in
set_option maxHeartbeats 2000000 in
theorem g12_say_J49 {X : gX} {p : Program} {l : Launch} {e : Env} {s : State} {m : MethodId} {args : Array Value} {below : List Frame} {meth : Method} {c : Code} (B : gB X p (rm12_say) s m args meth c RX12 cX12_say 4 (rm12_say)) (hS9 : gS X s) (hr : meth.sig.returnType = some .int) (a0 : Nat) (x1 : Int32) (x2 : Int32) (x3 : Int32) (b0 : Nat) (u1 : Int32) (M : mMem) : GG X p l e (rm12_say) s m args below meth c (gP X below args s 0 0 (fun r9 : (Int32 × mMem) => (some (.int r9.1), r9.2))) 4 0 0 49 [(0, .ref a0), (1, .int x1), (2, .int x2), (3, .int x3)] [.int u1, .ref b0] M (p12_say_J49 a0 x1 x2 x3 b0 u1 M) := by
  unfold p12_say_J49
  refine g_iconst (v := 2) B dX12_say_49 (by decide) ?_
  refine g_callV_iw [.int u1, .int 2] (ci := 11) (T0 := TX12) (N := 27) B hS9 mf12_throwsIf wd_1932 (gw B wp_78) wd_1930 (by decide) rfl (fun h => (gd_ne h).1) (c12_throwsIf X l b0 u1 2 M) (by decide) (by decide) (by decide) rfl (by decide) dX12_say_50 rfl (fun q_1 => ?_)
  refine g_if_eq B 58 dX12_say_53 (by decide) ?_ ?_
  · refine g_aload_n B dX12_say_58 0 rfl ?_
    refine g_callV_vw [] (ci := 11) (T0 := TX12) (N := 27) B hS9 mf12_remembers wd_2034 (gw B wp_94) wd_2032 (by decide) rfl (fun h => (gd_ne h).1) (c12_remembers X l a0 q_1.2) (by decide) (by decide) (by decide) rfl (by decide) dX12_say_59 rfl (fun q_2 => ?_)
    refine g_aload_n B dX12_say_62 0 rfl ?_
    refine g_iload_n B dX12_say_63 1 rfl ?_
    refine g_iload_n B dX12_say_64 2 rfl ?_
    refine g_iload_n B dX12_say_65 3 rfl ?_
    refine g_callV_vw [.int x1, .int x2, .int x3] (ci := 11) (T0 := TX12) (N := 27) B hS9 mf12_says wd_2038 (gw B wp_95) wd_2036 (by decide) rfl (fun h => (gd_ne h).1) (c12_says X l a0 x1 x2 x3 q_2) (by decide) (by decide) (by decide) rfl (by decide) dX12_say_66 rfl (fun q_3 => ?_)
    refine g_aload_n B dX12_say_69 0 rfl ?_
    refine g_iload_n B dX12_say_70 2 rfl ?_
    refine g_iconst (v := 0) B dX12_say_71 (by decide) ?_
    refine g_callV_ip [.int x2, .int 0] (ci := 11) (T0 := TX12) (N := 27) B hS9 mf12_of wd_1846 (gw B wp_61) wd_1844 (by decide) rfl (fun h => (gd_ne h).1) (c12_of X l a0 x2 0 q_3) (by decide) (by decide) (by decide) rfl (by decide) dX12_say_72 rfl (fun v_4 => ?_)
    exact g_ireturn B hr rfl (by decide) (by decide) rfl dX12_say_75
  · refine g_sub (lv' := []) [] rfl ?_
    exact g12_say_J56 B hS9 hr q_1.2
set_option maxRecDepth 20000 in
set_option maxHeartbeats 2000000 in
theorem g12_say_J27 {X : gX} {p : Program} {l : Launch} {e : Env} {s : State} {m : MethodId} {args : Array Value} {below : List Frame} {meth : Method} {c : Code} (B : gB X p (rm12_say) s m args meth c RX12 cX12_say 4 (rm12_say)) (hS9 : gS X s) (hr : meth.sig.returnType = some .int) (a0 : Nat) (x1 : Int32) (x2 : Int32) (x3 : Int32) (b0 : Nat) (u1 : Int32) (M : mMem) : GG X p l e (rm12_say) s m args below meth c (gP X below args s 0 0 (fun r9 : (Int32 × mMem) => (some (.int r9.1), r9.2))) 4 0 0 27 [(0, .ref a0), (1, .int x1), (2, .int x2), (3, .int x3)] [.int u1, .ref b0] M (p12_say_J27 a0 x1 x2 x3 b0 u1 M) := by
  unfold p12_say_J27
  refine g_iconst (v := 1) B dX12_say_27 (by decide) ?_
  refine g_callV_iw [.int u1, .int 1] (ci := 11) (T0 := TX12) (N := 27) B hS9 mf12_throwsIf wd_1932 (gw B wp_78) wd_1930 (by decide) rfl (fun h => (gd_ne h).1) (c12_throwsIf X l b0 u1 1 M) (by decide) (by decide) (by decide) rfl (by decide) dX12_say_28 rfl (fun q_1 => ?_)
  refine g_if_ne B 56 dX12_say_31 (by decide) ?_ ?_
  · refine g_aload_n B dX12_say_34 0 rfl ?_
    refine g_aload_n B dX12_say_35 0 rfl ?_
    refine g_iload_n B dX12_say_36 1 rfl ?_
    refine g_iload_n B dX12_say_37 2 rfl ?_
    refine g_callV_ip [.int x1, .int x2] (ci := 11) (T0 := TX12) (N := 27) B hS9 mf12_governs wd_1955 (gw B wp_81) wd_1953 (by decide) rfl (fun h => (gd_ne h).1) (c12_governs X l a0 x1 x2 q_1.2) (by decide) (by decide) (by decide) rfl (Nat.le_of_ble_eq_true rfl) dX12_say_38 rfl (fun v_2 => ?_)
    refine g_if_ne B 48 dX12_say_41 (by decide) ?_ ?_
    · refine g_iconst (v := 1) B dX12_say_44 (by decide) ?_
      refine g_goto B 49 dX12_say_45 (by decide) ?_
      refine g_sub (lv' := [(0, .ref a0), (1, .int x1), (2, .int x2), (3, .int x3)]) [0, 1, 2, 3] rfl ?_
      exact g12_say_J49 B hS9 hr a0 x1 x2 x3 a0 1 q_1.2
    · refine g_iconst (v := 0) B dX12_say_48 (by decide) ?_
      refine g_sub (lv' := [(0, .ref a0), (1, .int x1), (2, .int x2), (3, .int x3)]) [0, 1, 2, 3] rfl ?_
      exact g12_say_J49 B hS9 hr a0 x1 x2 x3 a0 0 q_1.2
  · refine g_sub (lv' := []) [] rfl ?_
    exact g12_say_J56 B hS9 hr q_1.2
set_option maxRecDepth 20000 in
set_option maxHeartbeats 2000000 in
theorem g12_say_J22 {X : gX} {p : Program} {l : Launch} {e : Env} {s : State} {m : MethodId} {args : Array Value} {below : List Frame} {meth : Method} {c : Code} (B : gB X p (rm12_say) s m args meth c RX12 cX12_say 4 (rm12_say)) (hS9 : gS X s) (hr : meth.sig.returnType = some .int) (a0 : Nat) (x1 : Int32) (x2 : Int32) (x3 : Int32) (b0 : Nat) (M : mMem) : GG X p l e (rm12_say) s m args below meth c (gP X below args s 0 0 (fun r9 : (Int32 × mMem) => (some (.int r9.1), r9.2))) 4 0 0 22 [(0, .ref a0), (1, .int x1), (2, .int x2), (3, .int x3)] [.ref b0] M (p12_say_J22 a0 x1 x2 x3 b0 M) := by
  unfold p12_say_J22
  refine g_iconst (v := 1) B dX12_say_22 (by decide) ?_
  refine g_goto B 27 dX12_say_23 (by decide) ?_
  refine g_sub (lv' := [(0, .ref a0), (1, .int x1), (2, .int x2), (3, .int x3)]) [0, 1, 2, 3] rfl ?_
  exact g12_say_J27 B hS9 hr a0 x1 x2 x3 b0 1 M
set_option maxRecDepth 20000 in
set_option maxHeartbeats 2000000 in
theorem g12_say {X : gX} {p : Program} {l : Launch} {e : Env} {s : State} {m : MethodId} {args : Array Value} {below : List Frame} {meth : Method} {c : Code} (B : gB X p (rm12_say) s m args meth c RX12 cX12_say 4 (rm12_say)) (hS9 : gS X s) (hr : meth.sig.returnType = some .int) (a0 : Nat) (x1 : Int32) (x2 : Int32) (x3 : Int32) (M : mMem) : GG X p l e (rm12_say) s m args below meth c (gP X below args s 0 0 (fun r9 : (Int32 × mMem) => (some (.int r9.1), r9.2))) 4 0 0 0 [(0, .ref a0), (1, .int x1), (2, .int x2), (3, .int x3)] [] M (p12_say a0 x1 x2 x3 M) := by
  unfold p12_say
  refine g_gd ?_
  refine g_aload_n B dX12_say_0 0 rfl ?_
  refine g_iconst (v := 0) B dX12_say_1 (by decide) ?_
  refine g_putI (ci := 11) (T0 := TX12) (N := 27) B (by decide) rfl in_11 tyX12 tyX12_ok nmX12 (k := 0) (by decide) wd_1641 (fun _ h => h) rfl rfl (ty := .int) (by decide +kernel) rfl rfl dX12_say_2 (fun M_1 => ?_)
  refine g_aload_n B dX12_say_5 0 rfl ?_
  refine g_aload_n B dX12_say_6 0 rfl ?_
  refine g_iload_n B dX12_say_7 1 rfl ?_
  refine g_callV_ip [.int x1] (ci := 11) (T0 := TX12) (N := 27) B hS9 mf12_nobody wd_1944 (gw B wp_79) wd_1942 (by decide) rfl (fun h => (gd_ne h).1) (c12_nobody X l a0 x1 M_1) (by decide) (by decide) (by decide) rfl (Nat.le_of_ble_eq_true rfl) dX12_say_8 rfl (fun v_2 => ?_)
  refine g_if_ne B 22 dX12_say_11 (by decide) ?_ ?_
  · refine g_aload_n B dX12_say_14 0 rfl ?_
    refine g_iload_n B dX12_say_15 2 rfl ?_
    refine g_callV_ip [.int x2] (ci := 11) (T0 := TX12) (N := 27) B hS9 mf12_nobody wd_1944 (gw B wp_79) wd_1942 (by decide) rfl (fun h => (gd_ne h).1) (c12_nobody X l a0 x2 M_1) (by decide) (by decide) (by decide) rfl (Nat.le_of_ble_eq_true rfl) dX12_say_16 rfl (fun v_3 => ?_)
    refine g_if_eq B 26 dX12_say_19 (by decide) ?_ ?_
    · refine g_iconst (v := 0) B dX12_say_26 (by decide) ?_
      refine g_sub (lv' := [(0, .ref a0), (1, .int x1), (2, .int x2), (3, .int x3)]) [0, 1, 2, 3] rfl ?_
      exact g12_say_J27 B hS9 hr a0 x1 x2 x3 a0 0 M_1
    · refine g_sub (lv' := [(0, .ref a0), (1, .int x1), (2, .int x2), (3, .int x3)]) [0, 1, 2, 3] rfl ?_
      exact g12_say_J22 B hS9 hr a0 x1 x2 x3 a0 M_1
  · refine g_sub (lv' := [(0, .ref a0), (1, .int x1), (2, .int x2), (3, .int x3)]) [0, 1, 2, 3] rfl ?_
    exact g12_say_J22 B hS9 hr a0 x1 x2 x3 a0 M_1
theorem c12_say (X : gX) (l : Launch) (a0 : Nat) (x1 : Int32) (x2 : Int32) (x3 : Int32) (M : mMem) : Con X l yX12_say cX12_say 4 (some .int) rm12_say (fun r9 : (Int32 × mMem) => (some (.int r9.1), r9.2)) [.ref a0, .int x1, .int x2, .int x3] M (p12_say a0 x1 x2 x3 M) := g_con (own := RX12) (by decide +kernel) rfl (Nat.le_of_ble_eq_true rfl) (fun p e s m args below meth c B hS9 hr hn => g12_say B hS9 hr a0 x1 x2 x3 M)
theorem mf12_bear : gMF yX12_bear cX12_bear 4 (some .int) 2 := ⟨wd_2047, wd_13, ⟨by decide, by decide⟩, by decide +kernel⟩
set_option maxRecDepth 20000 in
set_option maxHeartbeats 2000000 in
theorem g12_bear_J48 {X : gX} {p : Program} {l : Launch} {e : Env} {s : State} {m : MethodId} {args : Array Value} {below : List Frame} {meth : Method} {c : Code} (B : gB X p (rm12_bear) s m args meth c RX12 cX12_bear 4 (rm12_bear)) (hS9 : gS X s) (hr : meth.sig.returnType = some .int) (M : mMem) : GG X p l e (rm12_bear) s m args below meth c (gP X below args s 0 0 (fun r9 : (Int32 × mMem) => (some (.int r9.1), r9.2))) 4 0 0 48 [] [] M (p12_bear_J48 M) := by
  unfold p12_bear_J48
  refine g_iconst (v := 0) B dX12_bear_48 (by decide) ?_
  exact g_ireturn B hr rfl (by decide) (by decide) rfl dX12_bear_49
set_option maxRecDepth 20000 in
set_option maxHeartbeats 2000000 in
theorem g12_bear_J70 {X : gX} {p : Program} {l : Launch} {e : Env} {s : State} {m : MethodId} {args : Array Value} {below : List Frame} {meth : Method} {c : Code} (B : gB X p (rm12_bear) s m args meth c RX12 cX12_bear 4 (rm12_bear)) (hS9 : gS X s) (hr : meth.sig.returnType = some .int) (a0 : Nat) (x1 : Int32) (x3 : Int32) (b0 : Nat) (u1 : Int32) (u2 : Int32) (M : mMem) : GG X p l e (rm12_bear) s m args below meth c (gP X below args s 0 0 (fun r9 : (Int32 × mMem) => (some (.int r9.1), r9.2))) 4 0 0 70 [(0, .ref a0), (1, .int x1), (3, .int x3)] [.int u2, .int u1, .ref b0] M (p12_bear_J70 a0 x1 x3 b0 u1 u2 M) := by
  unfold p12_bear_J70
  refine g_aload_n B dX12_bear_70 0 rfl ?_
  refine g_getR (ci := 11) (T0 := TX12) (N := 27) B (by decide) rfl in_11 (k := 1) (by decide) rfl wd_1642 (fun _ h => h) dX12_bear_71 (fun v_1 => ?_)
  refine g_iconst (v := 4) B dX12_bear_74 (by decide) ?_
  refine g_iaload B dX12_bear_75 (fun v_2 => ?_)
  refine g_iconst (v := 2) B dX12_bear_76 (by decide) ?_
  refine g_idiv B dX12_bear_77 (fun v_3 => ?_)
  refine g_iload_n B dX12_bear_78 1 rfl ?_
  refine g_callV_vw [.int u1, .int u2, .int v_3, .int x1] (ci := 11) (T0 := TX12) (N := 27) B hS9 mf12_isBorn wd_1821 (gw B wp_56) wd_1819 (by decide) rfl (fun h => (gd_ne h).1) (c12_isBorn X l b0 u1 u2 v_3 x1 M) (by decide) (by decide) (by decide) rfl (by decide) dX12_bear_79 rfl (fun q_4 => ?_)
  refine g_aload_n B dX12_bear_82 0 rfl ?_
  refine g_getR (ci := 11) (T0 := TX12) (N := 27) B (by decide) rfl in_11 (k := 1) (by decide) rfl wd_1642 (fun _ h => h) dX12_bear_83 (fun v_5 => ?_)
  refine g_iload_n B dX12_bear_86 2 rfl ?_
  refine g_bipush (v := 8) B dX12_bear_87 (by decide) ?_
  refine g_callS_ip [.int x3, .int 8] B hS9 mf12_at wd_1824 wd_1823 (c12_at X l x3 8 q_4) (by decide) (by decide) (by decide) rfl (Nat.le_of_ble_eq_true rfl) dX12_bear_89 rfl (fun v_6 => ?_)
  refine g_iconst (v := 1) B dX12_bear_92 (by decide) ?_
  refine g_iload_n B dX12_bear_93 1 rfl ?_
  refine g_ishl B dX12_bear_94 ?_
  refine g_iastore B dX12_bear_95 (fun M_7 => ?_)
  refine g_iload_n B dX12_bear_96 2 rfl ?_
  exact g_ireturn B hr rfl (by decide) (by decide) rfl dX12_bear_97
set_option maxRecDepth 20000 in
set_option maxHeartbeats 2000000 in
theorem g12_bear_J41 {X : gX} {p : Program} {l : Launch} {e : Env} {s : State} {m : MethodId} {args : Array Value} {below : List Frame} {meth : Method} {c : Code} (B : gB X p (rm12_bear) s m args meth c RX12 cX12_bear 4 (rm12_bear)) (hS9 : gS X s) (hr : meth.sig.returnType = some .int) (a0 : Nat) (x1 : Int32) (x2 : Int32) (b0 : Nat) (u1 : Int32) (M : mMem) : GG X p l e (rm12_bear) s m args below meth c (gP X below args s 0 0 (fun r9 : (Int32 × mMem) => (some (.int r9.1), r9.2))) 4 0 0 41 [(0, .ref a0), (1, .int x1), (2, .int x2)] [.int u1, .ref b0] M (p12_bear_J41 a0 x1 x2 b0 u1 M) := by
  unfold p12_bear_J41
  refine g_iconst (v := 2) B dX12_bear_41 (by decide) ?_
  refine g_callV_iw [.int u1, .int 2] (ci := 11) (T0 := TX12) (N := 27) B hS9 mf12_throwsIf wd_1932 (gw B wp_78) wd_1930 (by decide) rfl (fun h => (gd_ne h).1) (c12_throwsIf X l b0 u1 2 M) (by decide) (by decide) (by decide) rfl (by decide) dX12_bear_42 rfl (fun q_1 => ?_)
  refine g_if_eq B 50 dX12_bear_45 (by decide) ?_ ?_
  · refine g_aload_n B dX12_bear_50 0 rfl ?_
    refine g_callV_vw [] (ci := 11) (T0 := TX12) (N := 27) B hS9 mf12_remembers wd_2034 (gw B wp_94) wd_2032 (by decide) rfl (fun h => (gd_ne h).1) (c12_remembers X l a0 q_1.2) (by decide) (by decide) (by decide) rfl (by decide) dX12_bear_51 rfl (fun q_2 => ?_)
    refine g_aload_n B dX12_bear_54 0 rfl ?_
    refine g_callV_ip [] (ci := 11) (T0 := TX12) (N := 27) B hS9 mf12_people wd_1793 (gw B wp_51) wd_1791 (by decide) rfl (fun h => (gd_ne h).1) (c12_people X l a0 q_2) (by decide) (by decide) (by decide) rfl (by decide) dX12_bear_55 rfl (fun v_3 => ?_)
    refine g_istore_n (lv' := [(3, .int v_3), (0, .ref a0), (1, .int x1), (2, .int x2)]) B dX12_bear_58 (by decide) [0, 1, 2, 3] rfl ?_
    refine g_aload_n B dX12_bear_59 1 rfl ?_
    refine g_iload_n B dX12_bear_60 0 rfl ?_
    refine g_iload_n B dX12_bear_61 3 rfl ?_
    refine g_if_eq B 69 dX12_bear_62 (by decide) ?_ ?_
    · refine g_iconst (v := 0) B dX12_bear_69 (by decide) ?_
      refine g_sub (lv' := [(0, .ref a0), (1, .int x1), (3, .int v_3)]) [1, 2, 0] rfl ?_
      exact g12_bear_J70 B hS9 hr a0 x1 v_3 a0 v_3 0 q_2
    · refine g_iconst (v := 1) B dX12_bear_65 (by decide) ?_
      refine g_goto B 70 dX12_bear_66 (by decide) ?_
      refine g_sub (lv' := [(0, .ref a0), (1, .int x1), (3, .int v_3)]) [1, 2, 0] rfl ?_
      exact g12_bear_J70 B hS9 hr a0 x1 v_3 a0 v_3 1 q_2
  · refine g_sub (lv' := []) [] rfl ?_
    exact g12_bear_J48 B hS9 hr q_1.2
set_option maxRecDepth 20000 in
set_option maxHeartbeats 2000000 in
theorem g12_bear_J36 {X : gX} {p : Program} {l : Launch} {e : Env} {s : State} {m : MethodId} {args : Array Value} {below : List Frame} {meth : Method} {c : Code} (B : gB X p (rm12_bear) s m args meth c RX12 cX12_bear 4 (rm12_bear)) (hS9 : gS X s) (hr : meth.sig.returnType = some .int) (a0 : Nat) (x1 : Int32) (x2 : Int32) (b0 : Nat) (M : mMem) : GG X p l e (rm12_bear) s m args below meth c (gP X below args s 0 0 (fun r9 : (Int32 × mMem) => (some (.int r9.1), r9.2))) 4 0 0 36 [(0, .ref a0), (1, .int x1), (2, .int x2)] [.ref b0] M (p12_bear_J36 a0 x1 x2 b0 M) := by
  unfold p12_bear_J36
  refine g_iconst (v := 1) B dX12_bear_36 (by decide) ?_
  refine g_goto B 41 dX12_bear_37 (by decide) ?_
  refine g_sub (lv' := [(0, .ref a0), (1, .int x1), (2, .int x2)]) [0, 1, 2] rfl ?_
  exact g12_bear_J41 B hS9 hr a0 x1 x2 b0 1 M
set_option maxRecDepth 20000 in
set_option maxHeartbeats 2000000 in
theorem g12_bear {X : gX} {p : Program} {l : Launch} {e : Env} {s : State} {m : MethodId} {args : Array Value} {below : List Frame} {meth : Method} {c : Code} (B : gB X p (rm12_bear) s m args meth c RX12 cX12_bear 4 (rm12_bear)) (hS9 : gS X s) (hr : meth.sig.returnType = some .int) (a0 : Nat) (x1 : Int32) (x2 : Int32) (M : mMem) : GG X p l e (rm12_bear) s m args below meth c (gP X below args s 0 0 (fun r9 : (Int32 × mMem) => (some (.int r9.1), r9.2))) 4 0 0 0 [(0, .ref a0), (1, .int x1), (2, .int x2)] [] M (p12_bear a0 x1 x2 M) := by
  unfold p12_bear
  refine g_gd ?_
  refine g_aload_n B dX12_bear_0 0 rfl ?_
  refine g_iconst (v := 0) B dX12_bear_1 (by decide) ?_
  refine g_putI (ci := 11) (T0 := TX12) (N := 27) B (by decide) rfl in_11 tyX12 tyX12_ok nmX12 (k := 0) (by decide) wd_1641 (fun _ h => h) rfl rfl (ty := .int) (by decide +kernel) rfl rfl dX12_bear_2 (fun M_1 => ?_)
  refine g_aload_n B dX12_bear_5 0 rfl ?_
  refine g_aload_n B dX12_bear_6 0 rfl ?_
  refine g_iload_n B dX12_bear_7 1 rfl ?_
  refine g_callV_ip [.int x1] (ci := 11) (T0 := TX12) (N := 27) B hS9 mf12_nobody wd_1944 (gw B wp_79) wd_1942 (by decide) rfl (fun h => (gd_ne h).1) (c12_nobody X l a0 x1 M_1) (by decide) (by decide) (by decide) rfl (Nat.le_of_ble_eq_true rfl) dX12_bear_8 rfl (fun v_2 => ?_)
  refine g_iconst (v := 1) B dX12_bear_11 (by decide) ?_
  refine g_callV_iw [.int v_2, .int 1] (ci := 11) (T0 := TX12) (N := 27) B hS9 mf12_throwsIf wd_1932 (gw B wp_78) wd_1930 (by decide) rfl (fun h => (gd_ne h).1) (c12_throwsIf X l a0 v_2 1 M_1) (by decide) (by decide) (by decide) rfl (by decide) dX12_bear_12 rfl (fun q_3 => ?_)
  refine g_if_ne B 48 dX12_bear_15 (by decide) ?_ ?_
  · refine g_aload_n B dX12_bear_18 0 rfl ?_
    refine g_aload_n B dX12_bear_19 0 rfl ?_
    refine g_iload_n B dX12_bear_20 1 rfl ?_
    refine g_callV_ip [.int x1] (ci := 11) (T0 := TX12) (N := 27) B hS9 mf12_isBoy wd_2050 (gw B wp_97) wd_2048 (by decide) rfl (fun h => (gd_ne h).1) (c12_isBoy X l a0 x1 q_3.2) (by decide) (by decide) (by decide) rfl (Nat.le_of_ble_eq_true rfl) dX12_bear_21 rfl (fun v_4 => ?_)
    refine g_if_ne B 36 dX12_bear_24 (by decide) ?_ ?_
    · refine g_aload_n B dX12_bear_27 0 rfl ?_
      refine g_callV_ip [] (ci := 11) (T0 := TX12) (N := 27) B hS9 mf12_people wd_1793 (gw B wp_51) wd_1791 (by decide) rfl (fun h => (gd_ne h).1) (c12_people X l a0 q_3.2) (by decide) (by decide) (by decide) rfl (Nat.le_of_ble_eq_true rfl) dX12_bear_28 rfl (fun v_5 => ?_)
      refine g_bipush (v := 8) B dX12_bear_31 (by decide) ?_
      refine g_icmp_ne B 40 dX12_bear_33 (by decide) ?_ ?_
      · refine g_sub (lv' := [(0, .ref a0), (1, .int x1), (2, .int x2)]) [0, 1, 2] rfl ?_
        exact g12_bear_J36 B hS9 hr a0 x1 x2 a0 q_3.2
      · refine g_iconst (v := 0) B dX12_bear_40 (by decide) ?_
        refine g_sub (lv' := [(0, .ref a0), (1, .int x1), (2, .int x2)]) [0, 1, 2] rfl ?_
        exact g12_bear_J41 B hS9 hr a0 x1 x2 a0 0 q_3.2
    · refine g_sub (lv' := [(0, .ref a0), (1, .int x1), (2, .int x2)]) [0, 1, 2] rfl ?_
      exact g12_bear_J36 B hS9 hr a0 x1 x2 a0 q_3.2
  · refine g_sub (lv' := []) [] rfl ?_
    exact g12_bear_J48 B hS9 hr q_3.2
theorem c12_bear (X : gX) (l : Launch) (a0 : Nat) (x1 : Int32) (x2 : Int32) (M : mMem) : Con X l yX12_bear cX12_bear 4 (some .int) rm12_bear (fun r9 : (Int32 × mMem) => (some (.int r9.1), r9.2)) [.ref a0, .int x1, .int x2] M (p12_bear a0 x1 x2 M) := g_con (own := RX12) (by decide +kernel) rfl (Nat.le_of_ble_eq_true rfl) (fun p e s m args below meth c B hS9 hr hn => g12_bear B hS9 hr a0 x1 x2 M)
theorem mf12_wed : gMF yX12_wed cX12_wed 3 (some .int) 2 := ⟨wd_2055, wd_13, ⟨by decide, by decide⟩, by decide +kernel⟩
set_option maxRecDepth 20000 in
set_option maxHeartbeats 2000000 in
theorem g12_wed_J31 {X : gX} {p : Program} {l : Launch} {e : Env} {s : State} {m : MethodId} {args : Array Value} {below : List Frame} {meth : Method} {c : Code} (B : gB X p (rm12_wed) s m args meth c RX12 cX12_wed 3 (rm12_wed)) (hS9 : gS X s) (hr : meth.sig.returnType = some .int) (M : mMem) : GG X p l e (rm12_wed) s m args below meth c (gP X below args s 0 0 (fun r9 : (Int32 × mMem) => (some (.int r9.1), r9.2))) 3 0 0 31 [] [] M (p12_wed_J31 M) := by
  unfold p12_wed_J31
  refine g_iconst (v := 0) B dX12_wed_31 (by decide) ?_
  exact g_ireturn B hr rfl (by decide) (by decide) rfl dX12_wed_32
set_option maxRecDepth 20000 in
set_option maxHeartbeats 2000000 in
theorem g12_wed_J24 {X : gX} {p : Program} {l : Launch} {e : Env} {s : State} {m : MethodId} {args : Array Value} {below : List Frame} {meth : Method} {c : Code} (B : gB X p (rm12_wed) s m args meth c RX12 cX12_wed 3 (rm12_wed)) (hS9 : gS X s) (hr : meth.sig.returnType = some .int) (a0 : Nat) (x1 : Int32) (x2 : Int32) (b0 : Nat) (u1 : Int32) (M : mMem) : GG X p l e (rm12_wed) s m args below meth c (gP X below args s 0 0 (fun r9 : (Int32 × mMem) => (some (.int r9.1), r9.2))) 3 0 0 24 [(0, .ref a0), (1, .int x1), (2, .int x2)] [.int u1, .ref b0] M (p12_wed_J24 a0 x1 x2 b0 u1 M) := by
  unfold p12_wed_J24
  refine g_iconst (v := 3) B dX12_wed_24 (by decide) ?_
  refine g_callV_iw [.int u1, .int 3] (ci := 11) (T0 := TX12) (N := 27) B hS9 mf12_throwsIf wd_1932 (gw B wp_78) wd_1930 (by decide) rfl (fun h => (gd_ne h).1) (c12_throwsIf X l b0 u1 3 M) (by decide) (by decide) (by decide) rfl (by decide) dX12_wed_25 rfl (fun q_1 => ?_)
  refine g_if_eq B 33 dX12_wed_28 (by decide) ?_ ?_
  · refine g_aload_n B dX12_wed_33 0 rfl ?_
    refine g_callV_vw [] (ci := 11) (T0 := TX12) (N := 27) B hS9 mf12_remembers wd_2034 (gw B wp_94) wd_2032 (by decide) rfl (fun h => (gd_ne h).1) (c12_remembers X l a0 q_1.2) (by decide) (by decide) (by decide) rfl (by decide) dX12_wed_34 rfl (fun q_2 => ?_)
    refine g_aload_n B dX12_wed_37 0 rfl ?_
    refine g_iload_n B dX12_wed_38 1 rfl ?_
    refine g_iload_n B dX12_wed_39 2 rfl ?_
    refine g_callV_vw [.int x1, .int x2] (ci := 11) (T0 := TX12) (N := 27) B hS9 mf12_weds wd_1862 (gw B wp_65) wd_1860 (by decide) rfl (fun h => (gd_ne h).1) (c12_weds X l a0 x1 x2 q_2) (by decide) (by decide) (by decide) rfl (by decide) dX12_wed_40 rfl (fun q_3 => ?_)
    refine g_aload_n B dX12_wed_43 0 rfl ?_
    refine g_iload_n B dX12_wed_44 1 rfl ?_
    refine g_iload_n B dX12_wed_45 2 rfl ?_
    refine g_callV_ip [.int x1, .int x2] (ci := 11) (T0 := TX12) (N := 27) B hS9 mf12_gapOf wd_2002 (gw B wp_89) wd_2000 (by decide) rfl (fun h => (gd_ne h).1) (c12_gapOf X l a0 x1 x2 q_3) (by decide) (by decide) (by decide) rfl (by decide) dX12_wed_46 rfl (fun v_4 => ?_)
    exact g_ireturn B hr rfl (by decide) (by decide) rfl dX12_wed_49
  · refine g_sub (lv' := []) [] rfl ?_
    exact g12_wed_J31 B hS9 hr q_1.2
set_option maxRecDepth 20000 in
set_option maxHeartbeats 2000000 in
theorem g12_wed {X : gX} {p : Program} {l : Launch} {e : Env} {s : State} {m : MethodId} {args : Array Value} {below : List Frame} {meth : Method} {c : Code} (B : gB X p (rm12_wed) s m args meth c RX12 cX12_wed 3 (rm12_wed)) (hS9 : gS X s) (hr : meth.sig.returnType = some .int) (a0 : Nat) (x1 : Int32) (x2 : Int32) (M : mMem) : GG X p l e (rm12_wed) s m args below meth c (gP X below args s 0 0 (fun r9 : (Int32 × mMem) => (some (.int r9.1), r9.2))) 3 0 0 0 [(0, .ref a0), (1, .int x1), (2, .int x2)] [] M (p12_wed a0 x1 x2 M) := by
  unfold p12_wed
  refine g_gd ?_
  refine g_aload_n B dX12_wed_0 0 rfl ?_
  refine g_iload_n B dX12_wed_1 1 rfl ?_
  refine g_iload_n B dX12_wed_2 2 rfl ?_
  refine g_callV_iw [.int x1, .int x2] (ci := 11) (T0 := TX12) (N := 27) B hS9 mf12_noTwo wd_1974 (gw B wp_84) wd_1972 (by decide) rfl (fun h => (gd_ne h).1) (c12_noTwo X l a0 x1 x2 M) (by decide) (by decide) (by decide) rfl (by decide) dX12_wed_3 rfl (fun q_1 => ?_)
  refine g_if_ne B 31 dX12_wed_6 (by decide) ?_ ?_
  · refine g_aload_n B dX12_wed_9 0 rfl ?_
    refine g_aload_n B dX12_wed_10 0 rfl ?_
    refine g_iload_n B dX12_wed_11 1 rfl ?_
    refine g_iload_n B dX12_wed_12 2 rfl ?_
    refine g_callV_ip [.int x1, .int x2] (ci := 11) (T0 := TX12) (N := 27) B hS9 mf12_mayWed wd_1842 (gw B wp_60) wd_1840 (by decide) rfl (fun h => (gd_ne h).1) (c12_mayWed X l a0 x1 x2 q_1.2) (by decide) (by decide) (by decide) rfl (Nat.le_of_ble_eq_true rfl) dX12_wed_13 rfl (fun v_2 => ?_)
    refine g_if_ne B 23 dX12_wed_16 (by decide) ?_ ?_
    · refine g_iconst (v := 1) B dX12_wed_19 (by decide) ?_
      refine g_goto B 24 dX12_wed_20 (by decide) ?_
      refine g_sub (lv' := [(0, .ref a0), (1, .int x1), (2, .int x2)]) [0, 1, 2] rfl ?_
      exact g12_wed_J24 B hS9 hr a0 x1 x2 a0 1 q_1.2
    · refine g_iconst (v := 0) B dX12_wed_23 (by decide) ?_
      refine g_sub (lv' := [(0, .ref a0), (1, .int x1), (2, .int x2)]) [0, 1, 2] rfl ?_
      exact g12_wed_J24 B hS9 hr a0 x1 x2 a0 0 q_1.2
  · refine g_sub (lv' := []) [] rfl ?_
    exact g12_wed_J31 B hS9 hr q_1.2
theorem c12_wed (X : gX) (l : Launch) (a0 : Nat) (x1 : Int32) (x2 : Int32) (M : mMem) : Con X l yX12_wed cX12_wed 3 (some .int) rm12_wed (fun r9 : (Int32 × mMem) => (some (.int r9.1), r9.2)) [.ref a0, .int x1, .int x2] M (p12_wed a0 x1 x2 M) := g_con (own := RX12) (by decide +kernel) rfl (Nat.le_of_ble_eq_true rfl) (fun p e s m args below meth c B hS9 hr hn => g12_wed B hS9 hr a0 x1 x2 M)
