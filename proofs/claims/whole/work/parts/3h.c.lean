theorem mf12_readNumber : gMF yX12_readNumber cX12_readNumber 5 (some .boolean) 3 := ⟨wd_1873, wd_13, ⟨by decide, by decide⟩, by decide +kernel⟩
set_option maxRecDepth 20000 in
set_option maxHeartbeats 2000000 in
theorem g12_readNumber_J40 {X : gX} {p : Program} {l : Launch} {e : Env} {s : State} {m : MethodId} {args : Array Value} {below : List Frame} {meth : Method} {c : Code} (B : gB X p (rm12_readNumber) s m args meth c RX12 cX12_readNumber 5 (rm12_readNumber)) (hS9 : gS X s) (hr : meth.sig.returnType = some .boolean) (u0 : Int32) (M : mMem) : GG X p l e (rm12_readNumber) s m args below meth c (gP X below args s 0 0 (fun r9 : (Int32 × mMem) => (some (.int r9.1), r9.2))) 5 0 0 40 [] [.int u0] M (p12_readNumber_J40 u0 M) := by
  unfold p12_readNumber_J40
  exact g_zreturn (f := fun z => (z, M)) B hr (by decide) (by decide) rfl dX12_readNumber_40
set_option maxRecDepth 20000 in
set_option maxHeartbeats 2000000 in
theorem g12_readNumber_J29 {X : gX} {p : Program} {l : Launch} {e : Env} {s : State} {m : MethodId} {args : Array Value} {below : List Frame} {meth : Method} {c : Code} (B : gB X p (rm12_readNumber) s m args meth c RX12 cX12_readNumber 5 (rm12_readNumber)) (hS9 : gS X s) (hr : meth.sig.returnType = some .boolean) (x4 : Int32) (b0 : Nat) (u1 : Int32) (u2 : Int32) (M : mMem) : GG X p l e (rm12_readNumber) s m args below meth c (gP X below args s 0 0 (fun r9 : (Int32 × mMem) => (some (.int r9.1), r9.2))) 5 0 0 29 [(4, .int x4)] [.int u2, .int u1, .ref b0] M (p12_readNumber_J29 x4 b0 u1 u2 M) := by
  unfold p12_readNumber_J29
  refine g_iastore B dX12_readNumber_29 (fun M_1 => ?_)
  refine g_iload B dX12_readNumber_30 0 rfl ?_
  refine g_if_lt B 39 dX12_readNumber_32 (by decide) ?_ ?_
  · refine g_iconst (v := 0) B dX12_readNumber_39 (by decide) ?_
    refine g_sub (lv' := []) [] rfl ?_
    exact g12_readNumber_J40 B hS9 hr 0 M_1
  · refine g_iconst (v := 1) B dX12_readNumber_35 (by decide) ?_
    refine g_goto B 40 dX12_readNumber_36 (by decide) ?_
    refine g_sub (lv' := []) [] rfl ?_
    exact g12_readNumber_J40 B hS9 hr 1 M_1
set_option maxRecDepth 20000 in
set_option maxHeartbeats 2000000 in
theorem g12_readNumber {X : gX} {p : Program} {l : Launch} {e : Env} {s : State} {m : MethodId} {args : Array Value} {below : List Frame} {meth : Method} {c : Code} (B : gB X p (rm12_readNumber) s m args meth c RX12 cX12_readNumber 5 (rm12_readNumber)) (hS9 : gS X s) (hr : meth.sig.returnType = some .boolean) (a0 : Nat) (x1 : Int32) (x2 : Int32) (x3 : Int32) (M : mMem) : GG X p l e (rm12_readNumber) s m args below meth c (gP X below args s 0 0 (fun r9 : (Int32 × mMem) => (some (.int r9.1), r9.2))) 5 0 0 0 [(0, .ref a0), (1, .int x1), (2, .int x2), (3, .int x3)] [] M (p12_readNumber a0 x1 x2 x3 M) := by
  unfold p12_readNumber
  refine g_gd ?_
  refine g_aload_n B dX12_readNumber_0 0 rfl ?_
  refine g_iload_n B dX12_readNumber_1 2 rfl ?_
  refine g_iload_n B dX12_readNumber_2 3 rfl ?_
  refine g_callV_iw [.int x2, .int x3] (ci := 11) (T0 := TX12) (N := 27) B hS9 mf12_number wd_1804 (gw B wp_53) wd_1802 (by decide) rfl (fun h => (gd_ne h).1) (c12_number X l a0 x2 x3 M) (by decide) (by decide) (by decide) rfl (by decide) dX12_readNumber_3 rfl (fun q_1 => ?_)
  refine g_istore (lv' := [(4, .int q_1.1), (0, .ref a0), (1, .int x1), (2, .int x2), (3, .int x3)]) B dX12_readNumber_6 (by decide) [0, 1, 2, 3, 4] rfl ?_
  refine g_aload_n B dX12_readNumber_8 1 rfl ?_
  refine g_getR (ci := 11) (T0 := TX12) (N := 27) B (by decide) rfl in_11 (k := 1) (by decide) rfl wd_1642 (fun _ h => h) dX12_readNumber_9 (fun v_2 => ?_)
  refine g_iload_n B dX12_readNumber_12 2 rfl ?_
  refine g_iload B dX12_readNumber_13 0 rfl ?_
  refine g_if_ge B 27 dX12_readNumber_15 (by decide) ?_ ?_
  · refine g_aload_n B dX12_readNumber_18 1 rfl ?_
    refine g_getR (ci := 11) (T0 := TX12) (N := 27) B (by decide) rfl in_11 (k := 1) (by decide) rfl wd_1642 (fun _ h => h) dX12_readNumber_19 (fun v_3 => ?_)
    refine g_iload_n B dX12_readNumber_22 2 rfl ?_
    refine g_iaload B dX12_readNumber_23 (fun v_4 => ?_)
    refine g_goto B 29 dX12_readNumber_24 (by decide) ?_
    refine g_sub (lv' := [(4, .int q_1.1)]) [0] rfl ?_
    exact g12_readNumber_J29 B hS9 hr q_1.1 v_2 x1 v_4 q_1.2
  · refine g_iload B dX12_readNumber_27 0 rfl ?_
    refine g_sub (lv' := [(4, .int q_1.1)]) [0] rfl ?_
    exact g12_readNumber_J29 B hS9 hr q_1.1 v_2 x1 q_1.1 q_1.2
theorem c12_readNumber (X : gX) (l : Launch) (a0 : Nat) (x1 : Int32) (x2 : Int32) (x3 : Int32) (M : mMem) : Con X l yX12_readNumber cX12_readNumber 5 (some .boolean) rm12_readNumber (fun r9 : (Int32 × mMem) => (some (.int r9.1), r9.2)) [.ref a0, .int x1, .int x2, .int x3] M (p12_readNumber a0 x1 x2 x3 M) := g_con (own := RX12) (by decide +kernel) rfl (Nat.le_of_ble_eq_true rfl) (fun p e s m args below meth c B hS9 hr hn => g12_readNumber B hS9 hr a0 x1 x2 x3 M)
theorem mf12_told : gMF yX12_told cX12_told 6 (some .int) 4 := ⟨wd_1810, wd_13, ⟨by decide, by decide⟩, by decide +kernel⟩
set_option maxRecDepth 20000 in
set_option maxHeartbeats 2000000 in
theorem g12_told_J31 {X : gX} {p : Program} {l : Launch} {e : Env} {s : State} {m : MethodId} {args : Array Value} {below : List Frame} {meth : Method} {c : Code} (B : gB X p (rm12_told) s m args meth c RX12 cX12_told 6 (rm12_told)) (hS9 : gS X s) (hr : meth.sig.returnType = some .int) (u0 : Int32) (M : mMem) : GG X p l e (rm12_told) s m args below meth c (gP X below args s 0 0 (fun r9 : (Int32 × mMem) => (some (.int r9.1), r9.2))) 6 0 0 31 [] [.int u0] M (p12_told_J31 u0 M) := by
  unfold p12_told_J31
  exact g_ireturn B hr rfl (by decide) (by decide) rfl dX12_told_31
set_option maxRecDepth 20000 in
set_option maxHeartbeats 2000000 in
theorem g12_told {X : gX} {p : Program} {l : Launch} {e : Env} {s : State} {m : MethodId} {args : Array Value} {below : List Frame} {meth : Method} {c : Code} (B : gB X p (rm12_told) s m args meth c RX12 cX12_told 6 (rm12_told)) (hS9 : gS X s) (hr : meth.sig.returnType = some .int) (a0 : Nat) (s1 : Nat) (x2 : Int32) (x3 : Int32) (x4 : Int32) (M : mMem) : GG X p l e (rm12_told) s m args below meth c (gP X below args s 0 0 (fun r9 : (Int32 × mMem) => (some (.int r9.1), r9.2))) 6 0 0 0 [(0, .ref a0), (1, .ref (X.2.2.2.1 s1)), (2, .int x2), (3, .int x3), (4, .int x4)] [] M (p12_told a0 s1 x2 x3 x4 M) := by
  unfold p12_told
  refine g_gd ?_
  refine g_aload_n B dX12_told_0 0 rfl ?_
  refine g_aload_n B dX12_told_1 1 rfl ?_
  refine g_callV_iw [.ref (X.2.2.2.1 s1)] (ci := 11) (T0 := TX12) (N := 27) B hS9 mf12_passes wd_1813 (gw B wp_55) wd_1811 (by decide) rfl (fun h => (gd_ne h).1) (c12_passes X l a0 s1 M) (by decide) (by decide) (by decide) rfl (by decide) dX12_told_2 rfl (fun q_1 => ?_)
  refine g_if_ne B 11 dX12_told_5 (by decide) ?_ ?_
  · refine g_iload B dX12_told_8 4 rfl ?_
    exact g_ireturn B hr rfl (by decide) (by decide) rfl dX12_told_10
  · refine g_aload_n B dX12_told_11 0 rfl ?_
    refine g_iload_n B dX12_told_12 2 rfl ?_
    refine g_iload_n B dX12_told_13 3 rfl ?_
    refine g_callV_iw [.int x2, .int x3] (ci := 11) (T0 := TX12) (N := 27) B hS9 mf12_number wd_1804 (gw B wp_53) wd_1802 (by decide) rfl (fun h => (gd_ne h).1) (c12_number X l a0 x2 x3 q_1.2) (by decide) (by decide) (by decide) rfl (by decide) dX12_told_14 rfl (fun q_2 => ?_)
    refine g_istore (lv' := [(5, .int q_2.1), (0, .ref a0), (1, .ref (X.2.2.2.1 s1)), (2, .int x2), (3, .int x3), (4, .int x4)]) B dX12_told_17 (by decide) [0, 1, 2, 3, 4, 5] rfl ?_
    refine g_iload B dX12_told_19 0 rfl ?_
    refine g_if_ge B 29 dX12_told_21 (by decide) ?_ ?_
    · refine g_ldc B dX12_told_24 wd_1815 ?_
      refine g_goto B 31 dX12_told_26 (by decide) ?_
      refine g_sub (lv' := []) [] rfl ?_
      exact g12_told_J31 B hS9 hr 1000000 q_2.2
    · refine g_iload B dX12_told_29 0 rfl ?_
      refine g_sub (lv' := []) [] rfl ?_
      exact g12_told_J31 B hS9 hr q_2.1 q_2.2
theorem c12_told (X : gX) (l : Launch) (a0 : Nat) (s1 : Nat) (x2 : Int32) (x3 : Int32) (x4 : Int32) (M : mMem) : Con X l yX12_told cX12_told 6 (some .int) rm12_told (fun r9 : (Int32 × mMem) => (some (.int r9.1), r9.2)) [.ref a0, .ref (X.2.2.2.1 s1), .int x2, .int x3, .int x4] M (p12_told a0 s1 x2 x3 x4 M) := g_con (own := RX12) (by decide +kernel) rfl (Nat.le_of_ble_eq_true rfl) (fun p e s m args below meth c B hS9 hr hn => g12_told B hS9 hr a0 s1 x2 x3 x4 M)
theorem mf12_isBorn : gMF yX12_isBorn cX12_isBorn 6 (none) 4 := ⟨wd_1822, wd_13, ⟨by decide, by decide⟩, by decide +kernel⟩
set_option maxRecDepth 20000 in
set_option maxHeartbeats 2000000 in
theorem g12_isBorn_L3 {X : gX} {p : Program} {l : Launch} {e : Env} {s : State} {m : MethodId} {args : Array Value} {below : List Frame} {meth : Method} {c : Code} (B : gB X p (rm12_isBorn) s m args meth c RX12 cX12_isBorn 6 (rm12_isBorn)) (hS9 : gS X s) (hr : meth.sig.returnType = none) : ∀ (n : Nat) (a0 : Nat) (x1 : Int32) (x2 : Int32) (x3 : Int32) (x4 : Int32) (x5 : Int32) (M : mMem), GG X p l e (rm12_isBorn) s m args below meth c (gP X below args s 0 0 (fun M9 : mMem => (none, M9))) 6 0 0 3 [(0, .ref a0), (1, .int x1), (2, .int x2), (3, .int x3), (4, .int x4), (5, .int x5)] [] M (p12_isBorn_L3 n a0 x1 x2 x3 x4 x5 M) := by
  intro n
  induction n with
  | zero => intro a0 x1 x2 x3 x4 x5 M; exact g_none
  | succ n ih =>
    intro a0 x1 x2 x3 x4 x5 M
    rw [p12_isBorn_L3]
    refine g_iload B dX12_isBorn_3 5 rfl ?_
    refine g_bipush (v := 17) B dX12_isBorn_5 (by decide) ?_
    refine g_icmp_ge B 28 dX12_isBorn_7 (by decide) ?_ ?_
    · refine g_aload_n B dX12_isBorn_10 0 rfl ?_
      refine g_getR (ci := 11) (T0 := TX12) (N := 27) B (by decide) rfl in_11 (k := 1) (by decide) rfl wd_1642 (fun _ h => h) dX12_isBorn_11 (fun v_19 => ?_)
      refine g_iload_n B dX12_isBorn_14 1 rfl ?_
      refine g_iload B dX12_isBorn_15 5 rfl ?_
      refine g_callS_ip [.int x1, .int x5] B hS9 mf12_at wd_1824 wd_1823 (c12_at X l x1 x5 M) (by decide) (by decide) (by decide) rfl (Nat.le_of_ble_eq_true rfl) dX12_isBorn_17 rfl (fun v_20 => ?_)
      refine g_iconst (v := 0) B dX12_isBorn_20 (by decide) ?_
      refine g_iastore B dX12_isBorn_21 (fun M_21 => ?_)
      refine g_iinc (v := (x5 + 1)) (lv' := [(5, .int (x5 + 1)), (0, .ref a0), (1, .int x1), (2, .int x2), (3, .int x3), (4, .int x4)]) B dX12_isBorn_22 5 rfl rfl (by decide) [0, 1, 2, 3, 4, 5] rfl ?_
      refine g_goto B 3 dX12_isBorn_25 (by decide) ?_
      refine g_sub (lv' := [(0, .ref a0), (1, .int x1), (2, .int x2), (3, .int x3), (4, .int x4), (5, .int (x5 + 1))]) [1, 2, 3, 4, 5, 0] rfl ?_
      exact ih a0 x1 x2 x3 x4 (x5 + 1) M_21
    · refine g_aload_n B dX12_isBorn_28 0 rfl ?_
      refine g_getR (ci := 11) (T0 := TX12) (N := 27) B (by decide) rfl in_11 (k := 1) (by decide) rfl wd_1642 (fun _ h => h) dX12_isBorn_29 (fun v_1 => ?_)
      refine g_iload_n B dX12_isBorn_32 1 rfl ?_
      refine g_iconst (v := 0) B dX12_isBorn_33 (by decide) ?_
      refine g_callS_ip [.int x1, .int 0] B hS9 mf12_at wd_1824 wd_1823 (c12_at X l x1 0 M) (by decide) (by decide) (by decide) rfl (Nat.le_of_ble_eq_true rfl) dX12_isBorn_34 rfl (fun v_2 => ?_)
      refine g_iload_n B dX12_isBorn_37 3 rfl ?_
      refine g_iastore B dX12_isBorn_38 (fun M_3 => ?_)
      refine g_aload_n B dX12_isBorn_39 0 rfl ?_
      refine g_getR (ci := 11) (T0 := TX12) (N := 27) B (by decide) rfl in_11 (k := 1) (by decide) rfl wd_1642 (fun _ h => h) dX12_isBorn_40 (fun v_4 => ?_)
      refine g_iload_n B dX12_isBorn_43 1 rfl ?_
      refine g_iconst (v := 2) B dX12_isBorn_44 (by decide) ?_
      refine g_callS_ip [.int x1, .int 2] B hS9 mf12_at wd_1824 wd_1823 (c12_at X l x1 2 M_3) (by decide) (by decide) (by decide) rfl (Nat.le_of_ble_eq_true rfl) dX12_isBorn_45 rfl (fun v_5 => ?_)
      refine g_iload_n B dX12_isBorn_48 2 rfl ?_
      refine g_iastore B dX12_isBorn_49 (fun M_6 => ?_)
      refine g_aload_n B dX12_isBorn_50 0 rfl ?_
      refine g_getR (ci := 11) (T0 := TX12) (N := 27) B (by decide) rfl in_11 (k := 1) (by decide) rfl wd_1642 (fun _ h => h) dX12_isBorn_51 (fun v_7 => ?_)
      refine g_iload_n B dX12_isBorn_54 1 rfl ?_
      refine g_iconst (v := 3) B dX12_isBorn_55 (by decide) ?_
      refine g_callS_ip [.int x1, .int 3] B hS9 mf12_at wd_1824 wd_1823 (c12_at X l x1 3 M_6) (by decide) (by decide) (by decide) rfl (Nat.le_of_ble_eq_true rfl) dX12_isBorn_56 rfl (fun v_8 => ?_)
      refine g_iload B dX12_isBorn_59 4 rfl ?_
      refine g_iastore B dX12_isBorn_61 (fun M_9 => ?_)
      refine g_aload_n B dX12_isBorn_62 0 rfl ?_
      refine g_getR (ci := 11) (T0 := TX12) (N := 27) B (by decide) rfl in_11 (k := 1) (by decide) rfl wd_1642 (fun _ h => h) dX12_isBorn_63 (fun v_10 => ?_)
      refine g_iload_n B dX12_isBorn_66 1 rfl ?_
      refine g_iconst (v := 4) B dX12_isBorn_67 (by decide) ?_
      refine g_callS_ip [.int x1, .int 4] B hS9 mf12_at wd_1824 wd_1823 (c12_at X l x1 4 M_9) (by decide) (by decide) (by decide) rfl (Nat.le_of_ble_eq_true rfl) dX12_isBorn_68 rfl (fun v_11 => ?_)
      refine g_iconst (v := (-1)) B dX12_isBorn_71 (by decide) ?_
      refine g_iastore B dX12_isBorn_72 (fun M_12 => ?_)
      refine g_aload_n B dX12_isBorn_73 0 rfl ?_
      refine g_getR (ci := 11) (T0 := TX12) (N := 27) B (by decide) rfl in_11 (k := 1) (by decide) rfl wd_1642 (fun _ h => h) dX12_isBorn_74 (fun v_13 => ?_)
      refine g_iload_n B dX12_isBorn_77 1 rfl ?_
      refine g_bipush (v := 6) B dX12_isBorn_78 (by decide) ?_
      refine g_callS_ip [.int x1, .int 6] B hS9 mf12_at wd_1824 wd_1823 (c12_at X l x1 6 M_12) (by decide) (by decide) (by decide) rfl (Nat.le_of_ble_eq_true rfl) dX12_isBorn_80 rfl (fun v_14 => ?_)
      refine g_bipush (v := 50) B dX12_isBorn_83 (by decide) ?_
      refine g_iastore B dX12_isBorn_85 (fun M_15 => ?_)
      refine g_aload_n B dX12_isBorn_86 0 rfl ?_
      refine g_getR (ci := 11) (T0 := TX12) (N := 27) B (by decide) rfl in_11 (k := 1) (by decide) rfl wd_1642 (fun _ h => h) dX12_isBorn_87 (fun v_16 => ?_)
      refine g_iconst (v := 0) B dX12_isBorn_90 (by decide) ?_
      refine g_dup2_11 B dX12_isBorn_91 rfl rfl ?_
      refine g_iaload B dX12_isBorn_92 (fun v_17 => ?_)
      refine g_iconst (v := 1) B dX12_isBorn_93 (by decide) ?_
      refine g_iadd B dX12_isBorn_94 ?_
      refine g_iastore B dX12_isBorn_95 (fun M_18 => ?_)
      exact g_vreturn B hr (by decide) (by decide) rfl dX12_isBorn_96
set_option maxRecDepth 20000 in
set_option maxHeartbeats 2000000 in
theorem g12_isBorn {X : gX} {p : Program} {l : Launch} {e : Env} {s : State} {m : MethodId} {args : Array Value} {below : List Frame} {meth : Method} {c : Code} (B : gB X p (rm12_isBorn) s m args meth c RX12 cX12_isBorn 6 (rm12_isBorn)) (hS9 : gS X s) (hr : meth.sig.returnType = none) (a0 : Nat) (x1 : Int32) (x2 : Int32) (x3 : Int32) (x4 : Int32) (M : mMem) : GG X p l e (rm12_isBorn) s m args below meth c (gP X below args s 0 0 (fun M9 : mMem => (none, M9))) 6 0 0 0 [(0, .ref a0), (1, .int x1), (2, .int x2), (3, .int x3), (4, .int x4)] [] M (p12_isBorn a0 x1 x2 x3 x4 M) := by
  unfold p12_isBorn
  refine g_gd ?_
  refine g_iconst (v := 0) B dX12_isBorn_0 (by decide) ?_
  refine g_istore (lv' := [(5, .int 0), (0, .ref a0), (1, .int x1), (2, .int x2), (3, .int x3), (4, .int x4)]) B dX12_isBorn_1 (by decide) [0, 1, 2, 3, 4, 5] rfl ?_
  refine g_sub (lv' := [(0, .ref a0), (1, .int x1), (2, .int x2), (3, .int x3), (4, .int x4), (5, .int 0)]) [1, 2, 3, 4, 5, 0] rfl ?_
  exact (g12_isBorn_L3 B hS9 hr) gF a0 x1 x2 x3 x4 0 M
theorem c12_isBorn (X : gX) (l : Launch) (a0 : Nat) (x1 : Int32) (x2 : Int32) (x3 : Int32) (x4 : Int32) (M : mMem) : Con X l yX12_isBorn cX12_isBorn 6 (none) rm12_isBorn (fun M9 : mMem => (none, M9)) [.ref a0, .int x1, .int x2, .int x3, .int x4] M (p12_isBorn a0 x1 x2 x3 x4 M) := g_con (own := RX12) (by decide +kernel) rfl (Nat.le_of_ble_eq_true rfl) (fun p e s m args below meth c B hS9 hr hn => g12_isBorn B hS9 hr a0 x1 x2 x3 x4 M)
theorem mf12_readPerson : gMF yX12_readPerson cX12_readPerson 8 (some .boolean) 0 := ⟨wd_1790, wd_13, ⟨by decide, by decide⟩, by decide +kernel⟩
set_option maxRecDepth 20000 in
set_option maxHeartbeats 2000000 in
theorem g12_readPerson_J159 {X : gX} {p : Program} {l : Launch} {e : Env} {s : State} {m : MethodId} {args : Array Value} {below : List Frame} {meth : Method} {c : Code} (B : gB X p (rm12_readPerson) s m args meth c RX12 cX12_readPerson 8 (rm12_readPerson)) (hS9 : gS X s) (hr : meth.sig.returnType = some .boolean) (a0 : Nat) (x1 : Int32) (x2 : Int32) (x3 : Int32) (x4 : Int32) (x5 : Int32) (x6 : Int32) (u0 : Int32) (M : mMem) : GG X p l e (rm12_readPerson) s m args below meth c (gP X below args s 0 0 (fun r9 : (Int32 × mMem) => (some (.int r9.1), r9.2))) 8 0 0 159 [(0, .ref a0), (1, .int x1), (2, .int x2), (3, .int x3), (4, .int x4), (5, .int x5), (6, .int x6)] [.int u0] M (p12_readPerson_J159 a0 x1 x2 x3 x4 x5 x6 u0 M) := by
  unfold p12_readPerson_J159
  refine g_istore (lv' := [(7, .int u0), (0, .ref a0), (1, .int x1), (2, .int x2), (3, .int x3), (4, .int x4), (5, .int x5), (6, .int x6)]) B dX12_readPerson_159 (by decide) [0, 1, 2, 3, 4, 5, 6, 7] rfl ?_
  refine g_iload B dX12_readPerson_161 0 rfl ?_
  refine g_ldc B dX12_readPerson_163 wd_1815 ?_
  refine g_icmp_ne B 170 dX12_readPerson_165 (by decide) ?_ ?_
  · refine g_iconst (v := 0) B dX12_readPerson_168 (by decide) ?_
    exact g_ireturn B hr rfl (by decide) (by decide) rfl dX12_readPerson_169
  · refine g_aload_n B dX12_readPerson_170 1 rfl ?_
    refine g_iload_n B dX12_readPerson_171 2 rfl ?_
    refine g_iload_n B dX12_readPerson_172 3 rfl ?_
    refine g_iload_n B dX12_readPerson_173 4 rfl ?_
    refine g_iload B dX12_readPerson_174 5 rfl ?_
    refine g_callV_vw [.int x1, .int x2, .int x3, .int x4] (ci := 11) (T0 := TX12) (N := 27) B hS9 mf12_isBorn wd_1821 (gw B wp_56) wd_1819 (by decide) rfl (fun h => (gd_ne h).1) (c12_isBorn X l a0 x1 x2 x3 x4 M) (by decide) (by decide) (by decide) rfl (by decide) dX12_readPerson_176 rfl (fun q_1 => ?_)
    refine g_aload_n B dX12_readPerson_179 1 rfl ?_
    refine g_getR (ci := 11) (T0 := TX12) (N := 27) B (by decide) rfl in_11 (k := 1) (by decide) rfl wd_1642 (fun _ h => h) dX12_readPerson_180 (fun v_2 => ?_)
    refine g_iload_n B dX12_readPerson_183 2 rfl ?_
    refine g_iconst (v := 5) B dX12_readPerson_184 (by decide) ?_
    refine g_callS_ip [.int x1, .int 5] B hS9 mf12_at wd_1824 wd_1823 (c12_at X l x1 5 q_1) (by decide) (by decide) (by decide) rfl (Nat.le_of_ble_eq_true rfl) dX12_readPerson_185 rfl (fun v_3 => ?_)
    refine g_iload B dX12_readPerson_188 6 rfl ?_
    refine g_iastore B dX12_readPerson_190 (fun M_4 => ?_)
    refine g_aload_n B dX12_readPerson_191 1 rfl ?_
    refine g_getR (ci := 11) (T0 := TX12) (N := 27) B (by decide) rfl in_11 (k := 1) (by decide) rfl wd_1642 (fun _ h => h) dX12_readPerson_192 (fun v_5 => ?_)
    refine g_iload_n B dX12_readPerson_195 2 rfl ?_
    refine g_bipush (v := 6) B dX12_readPerson_196 (by decide) ?_
    refine g_callS_ip [.int x1, .int 6] B hS9 mf12_at wd_1824 wd_1823 (c12_at X l x1 6 M_4) (by decide) (by decide) (by decide) rfl (Nat.le_of_ble_eq_true rfl) dX12_readPerson_198 rfl (fun v_6 => ?_)
    refine g_iload B dX12_readPerson_201 7 rfl ?_
    refine g_iastore B dX12_readPerson_203 (fun M_7 => ?_)
    refine g_aload_n B dX12_readPerson_204 1 rfl ?_
    refine g_getR (ci := 11) (T0 := TX12) (N := 27) B (by decide) rfl in_11 (k := 1) (by decide) rfl wd_1642 (fun _ h => h) dX12_readPerson_205 (fun v_8 => ?_)
    refine g_iload_n B dX12_readPerson_208 2 rfl ?_
    refine g_bipush (v := 7) B dX12_readPerson_209 (by decide) ?_
    refine g_callS_ip [.int x1, .int 7] B hS9 mf12_at wd_1824 wd_1823 (c12_at X l x1 7 M_7) (by decide) (by decide) (by decide) rfl (Nat.le_of_ble_eq_true rfl) dX12_readPerson_211 rfl (fun v_9 => ?_)
    refine g_iload B dX12_readPerson_214 0 rfl ?_
    refine g_iastore B dX12_readPerson_216 (fun M_10 => ?_)
    refine g_iconst (v := 1) B dX12_readPerson_217 (by decide) ?_
    exact g_ireturn B hr rfl (by decide) (by decide) rfl dX12_readPerson_218
set_option maxRecDepth 20000 in
set_option maxHeartbeats 2000000 in
theorem g12_readPerson_J135 {X : gX} {p : Program} {l : Launch} {e : Env} {s : State} {m : MethodId} {args : Array Value} {below : List Frame} {meth : Method} {c : Code} (B : gB X p (rm12_readPerson) s m args meth c RX12 cX12_readPerson 8 (rm12_readPerson)) (hS9 : gS X s) (hr : meth.sig.returnType = some .boolean) (a0 : Nat) (x1 : Int32) (x2 : Int32) (x3 : Int32) (x4 : Int32) (x5 : Int32) (u0 : Int32) (M : mMem) : GG X p l e (rm12_readPerson) s m args below meth c (gP X below args s 0 0 (fun r9 : (Int32 × mMem) => (some (.int r9.1), r9.2))) 8 0 0 135 [(0, .ref a0), (1, .int x1), (2, .int x2), (3, .int x3), (4, .int x4), (5, .int x5)] [.int u0] M (p12_readPerson_J135 a0 x1 x2 x3 x4 x5 u0 M) := by
  unfold p12_readPerson_J135
  refine g_istore (lv' := [(6, .int u0), (0, .ref a0), (1, .int x1), (2, .int x2), (3, .int x3), (4, .int x4), (5, .int x5)]) B dX12_readPerson_135 (by decide) [0, 1, 2, 3, 4, 5, 6] rfl ?_
  refine g_iload B dX12_readPerson_137 0 rfl ?_
  refine g_ldc B dX12_readPerson_139 wd_1815 ?_
  refine g_icmp_ne B 149 dX12_readPerson_141 (by decide) ?_ ?_
  · refine g_ldc B dX12_readPerson_144 wd_1815 ?_
    refine g_goto B 159 dX12_readPerson_146 (by decide) ?_
    refine g_sub (lv' := [(0, .ref a0), (1, .int x1), (2, .int x2), (3, .int x3), (4, .int x4), (5, .int x5), (6, .int u0)]) [1, 2, 3, 4, 5, 6, 0] rfl ?_
    exact g12_readPerson_J159 B hS9 hr a0 x1 x2 x3 x4 x5 u0 1000000 M
  · refine g_aload_n B dX12_readPerson_149 1 rfl ?_
    refine g_ldcS (i := 7) B hS9 dX12_readPerson_150 (List.mem_of_getElem? (i := 34) rfl) ?_
    refine g_iconst (v := 0) B dX12_readPerson_152 (by decide) ?_
    refine g_bipush (v := 9) B dX12_readPerson_153 (by decide) ?_
    refine g_iconst (v := 0) B dX12_readPerson_155 (by decide) ?_
    refine g_callV_iw [.ref (X.2.2.2.1 7), .int 0, .int 9, .int 0] (ci := 11) (T0 := TX12) (N := 27) B hS9 mf12_told wd_1809 (gw B wp_54) wd_1807 (by decide) rfl (fun h => (gd_ne h).1) (c12_told X l a0 7 0 9 0 M) (by decide) (by decide) (by decide) rfl (by decide) dX12_readPerson_156 rfl (fun q_1 => ?_)
    refine g_sub (lv' := [(0, .ref a0), (1, .int x1), (2, .int x2), (3, .int x3), (4, .int x4), (5, .int x5), (6, .int u0)]) [1, 2, 3, 4, 5, 6, 0] rfl ?_
    exact g12_readPerson_J159 B hS9 hr a0 x1 x2 x3 x4 x5 u0 q_1.1 q_1.2
set_option maxRecDepth 20000 in
set_option maxHeartbeats 2000000 in
theorem g12_readPerson_J110 {X : gX} {p : Program} {l : Launch} {e : Env} {s : State} {m : MethodId} {args : Array Value} {below : List Frame} {meth : Method} {c : Code} (B : gB X p (rm12_readPerson) s m args meth c RX12 cX12_readPerson 8 (rm12_readPerson)) (hS9 : gS X s) (hr : meth.sig.returnType = some .boolean) (a0 : Nat) (x1 : Int32) (x2 : Int32) (x3 : Int32) (x4 : Int32) (u0 : Int32) (M : mMem) : GG X p l e (rm12_readPerson) s m args below meth c (gP X below args s 0 0 (fun r9 : (Int32 × mMem) => (some (.int r9.1), r9.2))) 8 0 0 110 [(0, .ref a0), (1, .int x1), (2, .int x2), (3, .int x3), (4, .int x4)] [.int u0] M (p12_readPerson_J110 a0 x1 x2 x3 x4 u0 M) := by
  unfold p12_readPerson_J110
  refine g_istore (lv' := [(5, .int u0), (0, .ref a0), (1, .int x1), (2, .int x2), (3, .int x3), (4, .int x4)]) B dX12_readPerson_110 (by decide) [0, 1, 2, 3, 4, 5] rfl ?_
  refine g_iload B dX12_readPerson_112 0 rfl ?_
  refine g_ldc B dX12_readPerson_114 wd_1815 ?_
  refine g_icmp_ne B 124 dX12_readPerson_116 (by decide) ?_ ?_
  · refine g_ldc B dX12_readPerson_119 wd_1815 ?_
    refine g_goto B 135 dX12_readPerson_121 (by decide) ?_
    refine g_sub (lv' := [(0, .ref a0), (1, .int x1), (2, .int x2), (3, .int x3), (4, .int x4), (5, .int u0)]) [1, 2, 3, 4, 5, 0] rfl ?_
    exact g12_readPerson_J135 B hS9 hr a0 x1 x2 x3 x4 u0 1000000 M
  · refine g_aload_n B dX12_readPerson_124 1 rfl ?_
    refine g_ldcS (i := 6) B hS9 dX12_readPerson_125 (List.mem_of_getElem? (i := 33) rfl) ?_
    refine g_iconst (v := 0) B dX12_readPerson_127 (by decide) ?_
    refine g_bipush (v := 100) B dX12_readPerson_128 (by decide) ?_
    refine g_bipush (v := 50) B dX12_readPerson_130 (by decide) ?_
    refine g_callV_iw [.ref (X.2.2.2.1 6), .int 0, .int 100, .int 50] (ci := 11) (T0 := TX12) (N := 27) B hS9 mf12_told wd_1809 (gw B wp_54) wd_1807 (by decide) rfl (fun h => (gd_ne h).1) (c12_told X l a0 6 0 100 50 M) (by decide) (by decide) (by decide) rfl (by decide) dX12_readPerson_132 rfl (fun q_1 => ?_)
    refine g_sub (lv' := [(0, .ref a0), (1, .int x1), (2, .int x2), (3, .int x3), (4, .int x4), (5, .int u0)]) [1, 2, 3, 4, 5, 0] rfl ?_
    exact g12_readPerson_J135 B hS9 hr a0 x1 x2 x3 x4 u0 q_1.1 q_1.2
set_option maxRecDepth 20000 in
set_option maxHeartbeats 2000000 in
theorem g12_readPerson_J68 {X : gX} {p : Program} {l : Launch} {e : Env} {s : State} {m : MethodId} {args : Array Value} {below : List Frame} {meth : Method} {c : Code} (B : gB X p (rm12_readPerson) s m args meth c RX12 cX12_readPerson 8 (rm12_readPerson)) (hS9 : gS X s) (hr : meth.sig.returnType = some .boolean) (a0 : Nat) (x1 : Int32) (x2 : Int32) (u0 : Int32) (M : mMem) : GG X p l e (rm12_readPerson) s m args below meth c (gP X below args s 0 0 (fun r9 : (Int32 × mMem) => (some (.int r9.1), r9.2))) 8 0 0 68 [(0, .ref a0), (1, .int x1), (2, .int x2)] [.int u0] M (p12_readPerson_J68 a0 x1 x2 u0 M) := by
  unfold p12_readPerson_J68
  refine g_istore_n (lv' := [(3, .int u0), (0, .ref a0), (1, .int x1), (2, .int x2)]) B dX12_readPerson_68 (by decide) [0, 1, 2, 3] rfl ?_
  refine g_iload_n B dX12_readPerson_69 0 rfl ?_
  refine g_if_ge B 75 dX12_readPerson_70 (by decide) ?_ ?_
  · refine g_iconst (v := 0) B dX12_readPerson_73 (by decide) ?_
    exact g_ireturn B hr rfl (by decide) (by decide) rfl dX12_readPerson_74
  · refine g_aload_n B dX12_readPerson_75 1 rfl ?_
    refine g_ldcS (i := 4) B hS9 dX12_readPerson_76 (List.mem_of_getElem? (i := 31) rfl) ?_
    refine g_iconst (v := 0) B dX12_readPerson_78 (by decide) ?_
    refine g_iload_n B dX12_readPerson_79 2 rfl ?_
    refine g_iconst (v := 1) B dX12_readPerson_80 (by decide) ?_
    refine g_isub B dX12_readPerson_81 ?_
    refine g_iconst (v := (-1)) B dX12_readPerson_82 (by decide) ?_
    refine g_callV_iw [.ref (X.2.2.2.1 4), .int 0, .int (x1 - 1), .int (-1)] (ci := 11) (T0 := TX12) (N := 27) B hS9 mf12_told wd_1809 (gw B wp_54) wd_1807 (by decide) rfl (fun h => (gd_ne h).1) (c12_told X l a0 4 0 (x1 - 1) (-1) M) (by decide) (by decide) (by decide) rfl (by decide) dX12_readPerson_83 rfl (fun q_1 => ?_)
    refine g_istore (lv' := [(4, .int q_1.1), (3, .int u0), (0, .ref a0), (1, .int x1), (2, .int x2)]) B dX12_readPerson_86 (by decide) [0, 1, 2, 3, 4] rfl ?_
    refine g_iload B dX12_readPerson_88 0 rfl ?_
    refine g_ldc B dX12_readPerson_90 wd_1815 ?_
    refine g_icmp_ne B 100 dX12_readPerson_92 (by decide) ?_ ?_
    · refine g_ldc B dX12_readPerson_95 wd_1815 ?_
      refine g_goto B 110 dX12_readPerson_97 (by decide) ?_
      refine g_sub (lv' := [(0, .ref a0), (1, .int x1), (2, .int x2), (3, .int u0), (4, .int q_1.1)]) [2, 3, 4, 1, 0] rfl ?_
      exact g12_readPerson_J110 B hS9 hr a0 x1 x2 u0 q_1.1 1000000 q_1.2
    · refine g_aload_n B dX12_readPerson_100 2 rfl ?_
      refine g_ldcS (i := 5) B hS9 dX12_readPerson_101 (List.mem_of_getElem? (i := 32) rfl) ?_
      refine g_iconst (v := 0) B dX12_readPerson_103 (by decide) ?_
      refine g_bipush (v := 100) B dX12_readPerson_104 (by decide) ?_
      refine g_iconst (v := 0) B dX12_readPerson_106 (by decide) ?_
      refine g_callV_iw [.ref (X.2.2.2.1 5), .int 0, .int 100, .int 0] (ci := 11) (T0 := TX12) (N := 27) B hS9 mf12_told wd_1809 (gw B wp_54) wd_1807 (by decide) rfl (fun h => (gd_ne h).1) (c12_told X l a0 5 0 100 0 q_1.2) (by decide) (by decide) (by decide) rfl (by decide) dX12_readPerson_107 rfl (fun q_2 => ?_)
      refine g_sub (lv' := [(0, .ref a0), (1, .int x1), (2, .int x2), (3, .int u0), (4, .int q_1.1)]) [2, 3, 4, 1, 0] rfl ?_
      exact g12_readPerson_J110 B hS9 hr a0 x1 x2 u0 q_1.1 q_2.1 q_2.2
set_option maxRecDepth 20000 in
set_option maxHeartbeats 2000000 in
theorem g12_readPerson_J44 {X : gX} {p : Program} {l : Launch} {e : Env} {s : State} {m : MethodId} {args : Array Value} {below : List Frame} {meth : Method} {c : Code} (B : gB X p (rm12_readPerson) s m args meth c RX12 cX12_readPerson 8 (rm12_readPerson)) (hS9 : gS X s) (hr : meth.sig.returnType = some .boolean) (a0 : Nat) (x1 : Int32) (u0 : Int32) (M : mMem) : GG X p l e (rm12_readPerson) s m args below meth c (gP X below args s 0 0 (fun r9 : (Int32 × mMem) => (some (.int r9.1), r9.2))) 8 0 0 44 [(0, .ref a0), (1, .int x1)] [.int u0] M (p12_readPerson_J44 a0 x1 u0 M) := by
  unfold p12_readPerson_J44
  refine g_istore_n (lv' := [(2, .int u0), (0, .ref a0), (1, .int x1)]) B dX12_readPerson_44 (by decide) [0, 1, 2] rfl ?_
  refine g_iload_n B dX12_readPerson_45 0 rfl ?_
  refine g_if_ge B 53 dX12_readPerson_46 (by decide) ?_ ?_
  · refine g_iconst (v := (-1)) B dX12_readPerson_49 (by decide) ?_
    refine g_goto B 68 dX12_readPerson_50 (by decide) ?_
    refine g_sub (lv' := [(0, .ref a0), (1, .int x1), (2, .int u0)]) [1, 2, 0] rfl ?_
    exact g12_readPerson_J68 B hS9 hr a0 x1 u0 (-1) M
  · refine g_aload_n B dX12_readPerson_53 1 rfl ?_
    refine g_ldcS (i := 3) B hS9 dX12_readPerson_54 (List.mem_of_getElem? (i := 30) rfl) ?_
    refine g_iconst (v := 0) B dX12_readPerson_56 (by decide) ?_
    refine g_aload_n B dX12_readPerson_57 1 rfl ?_
    refine g_getR (ci := 11) (T0 := TX12) (N := 27) B (by decide) rfl in_11 (k := 1) (by decide) rfl wd_1642 (fun _ h => h) dX12_readPerson_58 (fun v_1 => ?_)
    refine g_iconst (v := 4) B dX12_readPerson_61 (by decide) ?_
    refine g_iaload B dX12_readPerson_62 (fun v_2 => ?_)
    refine g_iconst (v := 1) B dX12_readPerson_63 (by decide) ?_
    refine g_isub B dX12_readPerson_64 ?_
    refine g_callV_iw [.ref (X.2.2.2.1 3), .int 0, .int (v_2 - 1)] (ci := 11) (T0 := TX12) (N := 27) B hS9 mf12_after wd_1800 (gw B wp_52) wd_1798 (by decide) rfl (fun h => (gd_ne h).1) (c12_after X l a0 3 0 (v_2 - 1) M) (by decide) (by decide) (by decide) rfl (by decide) dX12_readPerson_65 rfl (fun q_3 => ?_)
    refine g_sub (lv' := [(0, .ref a0), (1, .int x1), (2, .int u0)]) [1, 2, 0] rfl ?_
    exact g12_readPerson_J68 B hS9 hr a0 x1 u0 q_3.1 q_3.2
set_option maxRecDepth 20000 in
set_option maxHeartbeats 2000000 in
theorem g12_readPerson {X : gX} {p : Program} {l : Launch} {e : Env} {s : State} {m : MethodId} {args : Array Value} {below : List Frame} {meth : Method} {c : Code} (B : gB X p (rm12_readPerson) s m args meth c RX12 cX12_readPerson 8 (rm12_readPerson)) (hS9 : gS X s) (hr : meth.sig.returnType = some .boolean) (a0 : Nat) (M : mMem) : GG X p l e (rm12_readPerson) s m args below meth c (gP X below args s 0 0 (fun r9 : (Int32 × mMem) => (some (.int r9.1), r9.2))) 8 0 0 0 [(0, .ref a0)] [] M (p12_readPerson a0 M) := by
  unfold p12_readPerson
  refine g_gd ?_
  refine g_aload_n B dX12_readPerson_0 0 rfl ?_
  refine g_callV_ip [] (ci := 11) (T0 := TX12) (N := 27) B hS9 mf12_people wd_1793 (gw B wp_51) wd_1791 (by decide) rfl (fun h => (gd_ne h).1) (c12_people X l a0 M) (by decide) (by decide) (by decide) rfl (by decide) dX12_readPerson_1 rfl (fun v_1 => ?_)
  refine g_istore_n (lv' := [(1, .int v_1), (0, .ref a0)]) B dX12_readPerson_4 (by decide) [0, 1] rfl ?_
  refine g_iload_n B dX12_readPerson_5 0 rfl ?_
  refine g_bipush (v := 8) B dX12_readPerson_6 (by decide) ?_
  refine g_icmp_ne B 13 dX12_readPerson_8 (by decide) ?_ ?_
  · refine g_iconst (v := 0) B dX12_readPerson_11 (by decide) ?_
    exact g_ireturn B hr rfl (by decide) (by decide) rfl dX12_readPerson_12
  · refine g_aload_n B dX12_readPerson_13 1 rfl ?_
    refine g_callV_vw [] (ci := 11) (T0 := TX12) (N := 27) B hS9 mf12_letters wd_1774 (gw B wp_47) wd_1772 (by decide) rfl (fun h => (gd_ne h).1) (c12_letters X l a0 M) (by decide) (by decide) (by decide) rfl (by decide) dX12_readPerson_14 rfl (fun q_2 => ?_)
    refine g_aload_n B dX12_readPerson_17 1 rfl ?_
    refine g_ldcS (i := 1) B hS9 dX12_readPerson_18 (List.mem_of_getElem? (i := 28) rfl) ?_
    refine g_callV_ip [.ref (X.2.2.2.1 1)] (ci := 11) (T0 := TX12) (N := 27) B hS9 mf12_isWord wd_1783 (gw B wp_49) wd_1781 (by decide) rfl (fun h => (gd_ne h).1) (c12_isWord X l a0 1 q_2) (by decide) (by decide) (by decide) rfl (by decide) dX12_readPerson_20 rfl (fun v_3 => ?_)
    refine g_if_eq B 30 dX12_readPerson_23 (by decide) ?_ ?_
    · refine g_aload_n B dX12_readPerson_30 1 rfl ?_
      refine g_ldcS (i := 2) B hS9 dX12_readPerson_31 (List.mem_of_getElem? (i := 29) rfl) ?_
      refine g_callV_ip [.ref (X.2.2.2.1 2)] (ci := 11) (T0 := TX12) (N := 27) B hS9 mf12_isWord wd_1783 (gw B wp_49) wd_1781 (by decide) rfl (fun h => (gd_ne h).1) (c12_isWord X l a0 2 q_2) (by decide) (by decide) (by decide) rfl (by decide) dX12_readPerson_33 rfl (fun v_4 => ?_)
      refine g_if_eq B 43 dX12_readPerson_36 (by decide) ?_ ?_
      · refine g_iconst (v := (-1)) B dX12_readPerson_43 (by decide) ?_
        refine g_sub (lv' := [(0, .ref a0), (1, .int v_1)]) [1, 0] rfl ?_
        exact g12_readPerson_J44 B hS9 hr a0 v_1 (-1) q_2
      · refine g_iconst (v := 1) B dX12_readPerson_39 (by decide) ?_
        refine g_goto B 44 dX12_readPerson_40 (by decide) ?_
        refine g_sub (lv' := [(0, .ref a0), (1, .int v_1)]) [1, 0] rfl ?_
        exact g12_readPerson_J44 B hS9 hr a0 v_1 1 q_2
    · refine g_iconst (v := 0) B dX12_readPerson_26 (by decide) ?_
      refine g_goto B 44 dX12_readPerson_27 (by decide) ?_
      refine g_sub (lv' := [(0, .ref a0), (1, .int v_1)]) [1, 0] rfl ?_
      exact g12_readPerson_J44 B hS9 hr a0 v_1 0 q_2
theorem c12_readPerson (X : gX) (l : Launch) (a0 : Nat) (M : mMem) : Con X l yX12_readPerson cX12_readPerson 8 (some .boolean) rm12_readPerson (fun r9 : (Int32 × mMem) => (some (.int r9.1), r9.2)) [.ref a0] M (p12_readPerson a0 M) := g_con (own := RX12) (by decide +kernel) rfl (Nat.le_of_ble_eq_true rfl) (fun p e s m args below meth c B hS9 hr hn => g12_readPerson B hS9 hr a0 M)
theorem mf12_personTold : gMF yX12_personTold cX12_personTold 1 (some .int) 0 := ⟨wd_1834, wd_13, ⟨by decide, by decide⟩, by decide +kernel⟩
set_option maxRecDepth 20000 in
set_option maxHeartbeats 2000000 in
theorem g12_personTold {X : gX} {p : Program} {l : Launch} {e : Env} {s : State} {m : MethodId} {args : Array Value} {below : List Frame} {meth : Method} {c : Code} (B : gB X p (rm12_personTold) s m args meth c RX12 cX12_personTold 1 (rm12_personTold)) (hS9 : gS X s) (hr : meth.sig.returnType = some .int) (a0 : Nat) (M : mMem) : GG X p l e (rm12_personTold) s m args below meth c (gP X below args s 0 0 (fun r9 : (Int32 × mMem) => (some (.int r9.1), r9.2))) 1 0 0 0 [(0, .ref a0)] [] M (p12_personTold a0 M) := by
  unfold p12_personTold
  refine g_gd ?_
  refine g_aload_n B dX12_personTold_0 0 rfl ?_
  refine g_iconst (v := 0) B dX12_personTold_1 (by decide) ?_
  refine g_aload_n B dX12_personTold_2 0 rfl ?_
  refine g_callV_ip [] (ci := 11) (T0 := TX12) (N := 27) B hS9 mf12_people wd_1793 (gw B wp_51) wd_1791 (by decide) rfl (fun h => (gd_ne h).1) (c12_people X l a0 M) (by decide) (by decide) (by decide) rfl (Nat.le_of_ble_eq_true rfl) dX12_personTold_3 rfl (fun v_1 => ?_)
  refine g_iconst (v := 1) B dX12_personTold_6 (by decide) ?_
  refine g_isub B dX12_personTold_7 ?_
  refine g_callV_iw [.int 0, .int (v_1 - 1)] (ci := 11) (T0 := TX12) (N := 27) B hS9 mf12_number wd_1804 (gw B wp_53) wd_1802 (by decide) rfl (fun h => (gd_ne h).1) (c12_number X l a0 0 (v_1 - 1) M) (by decide) (by decide) (by decide) rfl (by decide) dX12_personTold_8 rfl (fun q_2 => ?_)
  exact g_ireturn B hr rfl (by decide) (by decide) rfl dX12_personTold_11
theorem c12_personTold (X : gX) (l : Launch) (a0 : Nat) (M : mMem) : Con X l yX12_personTold cX12_personTold 1 (some .int) rm12_personTold (fun r9 : (Int32 × mMem) => (some (.int r9.1), r9.2)) [.ref a0] M (p12_personTold a0 M) := g_con (own := RX12) (by decide +kernel) rfl (Nat.le_of_ble_eq_true rfl) (fun p e s m args below meth c B hS9 hr hn => g12_personTold B hS9 hr a0 M)
theorem mf12_readGoverns : gMF yX12_readGoverns cX12_readGoverns 3 (some .boolean) 0 := ⟨wd_1830, wd_13, ⟨by decide, by decide⟩, by decide +kernel⟩
set_option maxRecDepth 20000 in
set_option maxHeartbeats 2000000 in
theorem g12_readGoverns_J27 {X : gX} {p : Program} {l : Launch} {e : Env} {s : State} {m : MethodId} {args : Array Value} {below : List Frame} {meth : Method} {c : Code} (B : gB X p (rm12_readGoverns) s m args meth c RX12 cX12_readGoverns 3 (rm12_readGoverns)) (hS9 : gS X s) (hr : meth.sig.returnType = some .boolean) (M : mMem) : GG X p l e (rm12_readGoverns) s m args below meth c (gP X below args s 0 0 (fun r9 : (Int32 × mMem) => (some (.int r9.1), r9.2))) 3 0 0 27 [] [] M (p12_readGoverns_J27 M) := by
  unfold p12_readGoverns_J27
  refine g_iconst (v := 0) B dX12_readGoverns_27 (by decide) ?_
  exact g_ireturn B hr rfl (by decide) (by decide) rfl dX12_readGoverns_28
set_option maxRecDepth 20000 in
set_option maxHeartbeats 2000000 in
theorem g12_readGoverns_J17 {X : gX} {p : Program} {l : Launch} {e : Env} {s : State} {m : MethodId} {args : Array Value} {below : List Frame} {meth : Method} {c : Code} (B : gB X p (rm12_readGoverns) s m args meth c RX12 cX12_readGoverns 3 (rm12_readGoverns)) (hS9 : gS X s) (hr : meth.sig.returnType = some .boolean) (a0 : Nat) (x1 : Int32) (u0 : Int32) (M : mMem) : GG X p l e (rm12_readGoverns) s m args below meth c (gP X below args s 0 0 (fun r9 : (Int32 × mMem) => (some (.int r9.1), r9.2))) 3 0 0 17 [(0, .ref a0), (1, .int x1)] [.int u0] M (p12_readGoverns_J17 a0 x1 u0 M) := by
  unfold p12_readGoverns_J17
  refine g_istore_n (lv' := [(2, .int u0), (0, .ref a0), (1, .int x1)]) B dX12_readGoverns_17 (by decide) [0, 1, 2] rfl ?_
  refine g_iload_n B dX12_readGoverns_18 0 rfl ?_
  refine g_if_lt B 27 dX12_readGoverns_19 (by decide) ?_ ?_
  · refine g_sub (lv' := []) [] rfl ?_
    exact g12_readGoverns_J27 B hS9 hr M
  · refine g_iload_n B dX12_readGoverns_22 0 rfl ?_
    refine g_iload_n B dX12_readGoverns_23 2 rfl ?_
    refine g_icmp_ne B 29 dX12_readGoverns_24 (by decide) ?_ ?_
    · refine g_sub (lv' := []) [] rfl ?_
      exact g12_readGoverns_J27 B hS9 hr M
    · refine g_aload_n B dX12_readGoverns_29 1 rfl ?_
      refine g_getR (ci := 11) (T0 := TX12) (N := 27) B (by decide) rfl in_11 (k := 1) (by decide) rfl wd_1642 (fun _ h => h) dX12_readGoverns_30 (fun v_1 => ?_)
      refine g_iload_n B dX12_readGoverns_33 0 rfl ?_
      refine g_bipush (v := 8) B dX12_readGoverns_34 (by decide) ?_
      refine g_callS_ip [.int u0, .int 8] B hS9 mf12_at wd_1824 wd_1823 (c12_at X l u0 8 M) (by decide) (by decide) (by decide) rfl (Nat.le_of_ble_eq_true rfl) dX12_readGoverns_36 rfl (fun v_2 => ?_)
      refine g_dup2_11 B dX12_readGoverns_39 rfl rfl ?_
      refine g_iaload B dX12_readGoverns_40 (fun v_3 => ?_)
      refine g_iconst (v := 1) B dX12_readGoverns_41 (by decide) ?_
      refine g_iload_n B dX12_readGoverns_42 2 rfl ?_
      refine g_ishl B dX12_readGoverns_43 ?_
      refine g_ior B dX12_readGoverns_44 ?_
      refine g_iastore B dX12_readGoverns_45 (fun M_4 => ?_)
      refine g_iconst (v := 1) B dX12_readGoverns_46 (by decide) ?_
      exact g_ireturn B hr rfl (by decide) (by decide) rfl dX12_readGoverns_47
set_option maxRecDepth 20000 in
set_option maxHeartbeats 2000000 in
theorem g12_readGoverns {X : gX} {p : Program} {l : Launch} {e : Env} {s : State} {m : MethodId} {args : Array Value} {below : List Frame} {meth : Method} {c : Code} (B : gB X p (rm12_readGoverns) s m args meth c RX12 cX12_readGoverns 3 (rm12_readGoverns)) (hS9 : gS X s) (hr : meth.sig.returnType = some .boolean) (a0 : Nat) (M : mMem) : GG X p l e (rm12_readGoverns) s m args below meth c (gP X below args s 0 0 (fun r9 : (Int32 × mMem) => (some (.int r9.1), r9.2))) 3 0 0 0 [(0, .ref a0)] [] M (p12_readGoverns a0 M) := by
  unfold p12_readGoverns
  refine g_gd ?_
  refine g_aload_n B dX12_readGoverns_0 0 rfl ?_
  refine g_callV_iw [] (ci := 11) (T0 := TX12) (N := 27) B hS9 mf12_personTold wd_1833 (gw B wp_58) wd_1831 (by decide) rfl (fun h => (gd_ne h).1) (c12_personTold X l a0 M) (by decide) (by decide) (by decide) rfl (by decide) dX12_readGoverns_1 rfl (fun q_1 => ?_)
  refine g_istore_n (lv' := [(1, .int q_1.1), (0, .ref a0)]) B dX12_readGoverns_4 (by decide) [0, 1] rfl ?_
  refine g_iload_n B dX12_readGoverns_5 0 rfl ?_
  refine g_if_ge B 13 dX12_readGoverns_6 (by decide) ?_ ?_
  · refine g_iconst (v := (-1)) B dX12_readGoverns_9 (by decide) ?_
    refine g_goto B 17 dX12_readGoverns_10 (by decide) ?_
    refine g_sub (lv' := [(0, .ref a0), (1, .int q_1.1)]) [1, 0] rfl ?_
    exact g12_readGoverns_J17 B hS9 hr a0 q_1.1 (-1) q_1.2
  · refine g_aload_n B dX12_readGoverns_13 1 rfl ?_
    refine g_callV_iw [] (ci := 11) (T0 := TX12) (N := 27) B hS9 mf12_personTold wd_1833 (gw B wp_58) wd_1831 (by decide) rfl (fun h => (gd_ne h).1) (c12_personTold X l a0 q_1.2) (by decide) (by decide) (by decide) rfl (by decide) dX12_readGoverns_14 rfl (fun q_2 => ?_)
    refine g_sub (lv' := [(0, .ref a0), (1, .int q_1.1)]) [1, 0] rfl ?_
    exact g12_readGoverns_J17 B hS9 hr a0 q_1.1 q_2.1 q_2.2
theorem c12_readGoverns (X : gX) (l : Launch) (a0 : Nat) (M : mMem) : Con X l yX12_readGoverns cX12_readGoverns 3 (some .boolean) rm12_readGoverns (fun r9 : (Int32 × mMem) => (some (.int r9.1), r9.2)) [.ref a0] M (p12_readGoverns a0 M) := g_con (own := RX12) (by decide +kernel) rfl (Nat.le_of_ble_eq_true rfl) (fun p e s m args below meth c B hS9 hr hn => g12_readGoverns B hS9 hr a0 M)
theorem mf12_mayWed : gMF yX12_mayWed cX12_mayWed 3 (some .boolean) 2 := ⟨wd_1843, wd_13, ⟨by decide, by decide⟩, by decide +kernel⟩
set_option maxRecDepth 20000 in
set_option maxHeartbeats 2000000 in
theorem g12_mayWed_J45 {X : gX} {p : Program} {l : Launch} {e : Env} {s : State} {m : MethodId} {args : Array Value} {below : List Frame} {meth : Method} {c : Code} (B : gB X p (rm12_mayWed) s m args meth c RX12 cX12_mayWed 3 (rm12_mayWed)) (hS9 : gS X s) (hr : meth.sig.returnType = some .boolean) {M : mMem} (u0 : Int32) : GG X p l e (rm12_mayWed) s m args below meth c (gP X below args s 0 0 (fun r9 : Int32 => (some (.int r9), M))) 3 0 0 45 [] [.int u0] M (p12_mayWed_J45 M u0) := by
  unfold p12_mayWed_J45
  exact g_zreturn (f := fun z => z) B hr (by decide) (by decide) rfl dX12_mayWed_45
set_option maxRecDepth 20000 in
set_option maxHeartbeats 2000000 in
theorem g12_mayWed_J44 {X : gX} {p : Program} {l : Launch} {e : Env} {s : State} {m : MethodId} {args : Array Value} {below : List Frame} {meth : Method} {c : Code} (B : gB X p (rm12_mayWed) s m args meth c RX12 cX12_mayWed 3 (rm12_mayWed)) (hS9 : gS X s) (hr : meth.sig.returnType = some .boolean) {M : mMem} : GG X p l e (rm12_mayWed) s m args below meth c (gP X below args s 0 0 (fun r9 : Int32 => (some (.int r9), M))) 3 0 0 44 [] [] M (p12_mayWed_J44 M) := by
  unfold p12_mayWed_J44
  refine g_iconst (v := 0) B dX12_mayWed_44 (by decide) ?_
  refine g_sub (lv' := []) [] rfl ?_
  exact g12_mayWed_J45 B hS9 hr 0
set_option maxRecDepth 20000 in
set_option maxHeartbeats 2000000 in
theorem g12_mayWed {X : gX} {p : Program} {l : Launch} {e : Env} {s : State} {m : MethodId} {args : Array Value} {below : List Frame} {meth : Method} {c : Code} (B : gB X p (rm12_mayWed) s m args meth c RX12 cX12_mayWed 3 (rm12_mayWed)) (hS9 : gS X s) (hr : meth.sig.returnType = some .boolean) {M : mMem} (a0 : Nat) (x1 : Int32) (x2 : Int32) : GG X p l e (rm12_mayWed) s m args below meth c (gP X below args s 0 0 (fun r9 : Int32 => (some (.int r9), M))) 3 0 0 0 [(0, .ref a0), (1, .int x1), (2, .int x2)] [] M (p12_mayWed a0 x1 x2 M) := by
  unfold p12_mayWed
  refine g_gd ?_
  refine g_aload_n B dX12_mayWed_0 0 rfl ?_
  refine g_iload_n B dX12_mayWed_1 1 rfl ?_
  refine g_iconst (v := 2) B dX12_mayWed_2 (by decide) ?_
  refine g_callV_ip [.int x1, .int 2] (ci := 11) (T0 := TX12) (N := 27) B hS9 mf12_of wd_1846 (gw B wp_61) wd_1844 (by decide) rfl (fun h => (gd_ne h).1) (c12_of X l a0 x1 2 M) (by decide) (by decide) (by decide) rfl (by decide) dX12_mayWed_3 rfl (fun v_1 => ?_)
  refine g_aload_n B dX12_mayWed_6 0 rfl ?_
  refine g_iload_n B dX12_mayWed_7 2 rfl ?_
  refine g_iconst (v := 2) B dX12_mayWed_8 (by decide) ?_
  refine g_callV_ip [.int x2, .int 2] (ci := 11) (T0 := TX12) (N := 27) B hS9 mf12_of wd_1846 (gw B wp_61) wd_1844 (by decide) rfl (fun h => (gd_ne h).1) (c12_of X l a0 x2 2 M) (by decide) (by decide) (by decide) rfl (Nat.le_of_ble_eq_true rfl) dX12_mayWed_9 rfl (fun v_2 => ?_)
  refine g_icmp_eq B 44 dX12_mayWed_12 (by decide) ?_ ?_
  · refine g_sub (lv' := []) [] rfl ?_
    exact g12_mayWed_J44 B hS9 hr
  · refine g_aload_n B dX12_mayWed_15 0 rfl ?_
    refine g_iload_n B dX12_mayWed_16 1 rfl ?_
    refine g_callV_ip [.int x1] (ci := 11) (T0 := TX12) (N := 27) B hS9 mf12_isSingle wd_1850 (gw B wp_62) wd_1848 (by decide) rfl (fun h => (gd_ne h).1) (c12_isSingle X l a0 x1 M) (by decide) (by decide) (by decide) rfl (by decide) dX12_mayWed_17 rfl (fun v_3 => ?_)
    refine g_if_eq B 44 dX12_mayWed_20 (by decide) ?_ ?_
    · refine g_sub (lv' := []) [] rfl ?_
      exact g12_mayWed_J44 B hS9 hr
    · refine g_aload_n B dX12_mayWed_23 0 rfl ?_
      refine g_iload_n B dX12_mayWed_24 2 rfl ?_
      refine g_callV_ip [.int x2] (ci := 11) (T0 := TX12) (N := 27) B hS9 mf12_isSingle wd_1850 (gw B wp_62) wd_1848 (by decide) rfl (fun h => (gd_ne h).1) (c12_isSingle X l a0 x2 M) (by decide) (by decide) (by decide) rfl (by decide) dX12_mayWed_25 rfl (fun v_4 => ?_)
      refine g_if_eq B 44 dX12_mayWed_28 (by decide) ?_ ?_
      · refine g_sub (lv' := []) [] rfl ?_
        exact g12_mayWed_J44 B hS9 hr
      · refine g_aload_n B dX12_mayWed_31 0 rfl ?_
        refine g_iload_n B dX12_mayWed_32 1 rfl ?_
        refine g_iload_n B dX12_mayWed_33 2 rfl ?_
        refine g_callV_ip [.int x1, .int x2] (ci := 11) (T0 := TX12) (N := 27) B hS9 mf12_areClose wd_1854 (gw B wp_63) wd_1852 (by decide) rfl (fun h => (gd_ne h).1) (c12_areClose X l a0 x1 x2 M) (by decide) (by decide) (by decide) rfl (by decide) dX12_mayWed_34 rfl (fun v_5 => ?_)
        refine g_if_ne B 44 dX12_mayWed_37 (by decide) ?_ ?_
        · refine g_iconst (v := 1) B dX12_mayWed_40 (by decide) ?_
          refine g_goto B 45 dX12_mayWed_41 (by decide) ?_
          refine g_sub (lv' := []) [] rfl ?_
          exact g12_mayWed_J45 B hS9 hr 1
        · refine g_sub (lv' := []) [] rfl ?_
          exact g12_mayWed_J44 B hS9 hr
theorem c12_mayWed (X : gX) (l : Launch) (a0 : Nat) (x1 : Int32) (x2 : Int32) (M : mMem) : Con X l yX12_mayWed cX12_mayWed 3 (some .boolean) rm12_mayWed (fun r9 : Int32 => (some (.int r9), M)) [.ref a0, .int x1, .int x2] M (p12_mayWed a0 x1 x2 M) := g_con (own := RX12) (by decide +kernel) rfl (Nat.le_of_ble_eq_true rfl) (fun p e s m args below meth c B hS9 hr hn => g12_mayWed B hS9 hr a0 x1 x2)
theorem mf12_weds : gMF yX12_weds cX12_weds 3 (none) 2 := ⟨wd_1863, wd_13, ⟨by decide, by decide⟩, by decide +kernel⟩
set_option maxRecDepth 20000 in
set_option maxHeartbeats 2000000 in
theorem g12_weds {X : gX} {p : Program} {l : Launch} {e : Env} {s : State} {m : MethodId} {args : Array Value} {below : List Frame} {meth : Method} {c : Code} (B : gB X p (rm12_weds) s m args meth c RX12 cX12_weds 3 (rm12_weds)) (hS9 : gS X s) (hr : meth.sig.returnType = none) (a0 : Nat) (x1 : Int32) (x2 : Int32) (M : mMem) : GG X p l e (rm12_weds) s m args below meth c (gP X below args s 0 0 (fun M9 : mMem => (none, M9))) 3 0 0 0 [(0, .ref a0), (1, .int x1), (2, .int x2)] [] M (p12_weds a0 x1 x2 M) := by
  unfold p12_weds
  refine g_gd ?_
  refine g_aload_n B dX12_weds_0 0 rfl ?_
  refine g_getR (ci := 11) (T0 := TX12) (N := 27) B (by decide) rfl in_11 (k := 1) (by decide) rfl wd_1642 (fun _ h => h) dX12_weds_1 (fun v_1 => ?_)
  refine g_iload_n B dX12_weds_4 1 rfl ?_
  refine g_iconst (v := 4) B dX12_weds_5 (by decide) ?_
  refine g_callS_ip [.int x1, .int 4] B hS9 mf12_at wd_1824 wd_1823 (c12_at X l x1 4 M) (by decide) (by decide) (by decide) rfl (Nat.le_of_ble_eq_true rfl) dX12_weds_6 rfl (fun v_2 => ?_)
  refine g_iload_n B dX12_weds_9 2 rfl ?_
  refine g_iastore B dX12_weds_10 (fun M_3 => ?_)
  refine g_aload_n B dX12_weds_11 0 rfl ?_
  refine g_getR (ci := 11) (T0 := TX12) (N := 27) B (by decide) rfl in_11 (k := 1) (by decide) rfl wd_1642 (fun _ h => h) dX12_weds_12 (fun v_4 => ?_)
  refine g_iload_n B dX12_weds_15 2 rfl ?_
  refine g_iconst (v := 4) B dX12_weds_16 (by decide) ?_
  refine g_callS_ip [.int x2, .int 4] B hS9 mf12_at wd_1824 wd_1823 (c12_at X l x2 4 M_3) (by decide) (by decide) (by decide) rfl (Nat.le_of_ble_eq_true rfl) dX12_weds_17 rfl (fun v_5 => ?_)
  refine g_iload_n B dX12_weds_20 1 rfl ?_
  refine g_iastore B dX12_weds_21 (fun M_6 => ?_)
  exact g_vreturn B hr (by decide) (by decide) rfl dX12_weds_22
theorem c12_weds (X : gX) (l : Launch) (a0 : Nat) (x1 : Int32) (x2 : Int32) (M : mMem) : Con X l yX12_weds cX12_weds 3 (none) rm12_weds (fun M9 : mMem => (none, M9)) [.ref a0, .int x1, .int x2] M (p12_weds a0 x1 x2 M) := g_con (own := RX12) (by decide +kernel) rfl (Nat.le_of_ble_eq_true rfl) (fun p e s m args below meth c B hS9 hr hn => g12_weds B hS9 hr a0 x1 x2 M)
theorem mf12_readWed : gMF yX12_readWed cX12_readWed 3 (some .boolean) 0 := ⟨wd_1839, wd_13, ⟨by decide, by decide⟩, by decide +kernel⟩
set_option maxRecDepth 20000 in
set_option maxHeartbeats 2000000 in
theorem g12_readWed_J31 {X : gX} {p : Program} {l : Launch} {e : Env} {s : State} {m : MethodId} {args : Array Value} {below : List Frame} {meth : Method} {c : Code} (B : gB X p (rm12_readWed) s m args meth c RX12 cX12_readWed 3 (rm12_readWed)) (hS9 : gS X s) (hr : meth.sig.returnType = some .boolean) (M : mMem) : GG X p l e (rm12_readWed) s m args below meth c (gP X below args s 0 0 (fun r9 : (Int32 × mMem) => (some (.int r9.1), r9.2))) 3 0 0 31 [] [] M (p12_readWed_J31 M) := by
  unfold p12_readWed_J31
  refine g_iconst (v := 0) B dX12_readWed_31 (by decide) ?_
  exact g_ireturn B hr rfl (by decide) (by decide) rfl dX12_readWed_32
set_option maxRecDepth 20000 in
set_option maxHeartbeats 2000000 in
theorem g12_readWed_J17 {X : gX} {p : Program} {l : Launch} {e : Env} {s : State} {m : MethodId} {args : Array Value} {below : List Frame} {meth : Method} {c : Code} (B : gB X p (rm12_readWed) s m args meth c RX12 cX12_readWed 3 (rm12_readWed)) (hS9 : gS X s) (hr : meth.sig.returnType = some .boolean) (a0 : Nat) (x1 : Int32) (u0 : Int32) (M : mMem) : GG X p l e (rm12_readWed) s m args below meth c (gP X below args s 0 0 (fun r9 : (Int32 × mMem) => (some (.int r9.1), r9.2))) 3 0 0 17 [(0, .ref a0), (1, .int x1)] [.int u0] M (p12_readWed_J17 a0 x1 u0 M) := by
  unfold p12_readWed_J17
  refine g_istore_n (lv' := [(2, .int u0), (0, .ref a0), (1, .int x1)]) B dX12_readWed_17 (by decide) [0, 1, 2] rfl ?_
  refine g_iload_n B dX12_readWed_18 0 rfl ?_
  refine g_if_lt B 31 dX12_readWed_19 (by decide) ?_ ?_
  · refine g_sub (lv' := []) [] rfl ?_
    exact g12_readWed_J31 B hS9 hr M
  · refine g_aload_n B dX12_readWed_22 1 rfl ?_
    refine g_iload_n B dX12_readWed_23 2 rfl ?_
    refine g_iload_n B dX12_readWed_24 0 rfl ?_
    refine g_callV_ip [.int x1, .int u0] (ci := 11) (T0 := TX12) (N := 27) B hS9 mf12_mayWed wd_1842 (gw B wp_60) wd_1840 (by decide) rfl (fun h => (gd_ne h).1) (c12_mayWed X l a0 x1 u0 M) (by decide) (by decide) (by decide) rfl (by decide) dX12_readWed_25 rfl (fun v_1 => ?_)
    refine g_if_ne B 33 dX12_readWed_28 (by decide) ?_ ?_
    · refine g_sub (lv' := []) [] rfl ?_
      exact g12_readWed_J31 B hS9 hr M
    · refine g_aload_n B dX12_readWed_33 1 rfl ?_
      refine g_iload_n B dX12_readWed_34 2 rfl ?_
      refine g_iload_n B dX12_readWed_35 0 rfl ?_
      refine g_callV_vw [.int x1, .int u0] (ci := 11) (T0 := TX12) (N := 27) B hS9 mf12_weds wd_1862 (gw B wp_65) wd_1860 (by decide) rfl (fun h => (gd_ne h).1) (c12_weds X l a0 x1 u0 M) (by decide) (by decide) (by decide) rfl (by decide) dX12_readWed_36 rfl (fun q_2 => ?_)
      refine g_iconst (v := 1) B dX12_readWed_39 (by decide) ?_
      exact g_ireturn B hr rfl (by decide) (by decide) rfl dX12_readWed_40
set_option maxRecDepth 20000 in
set_option maxHeartbeats 2000000 in
theorem g12_readWed {X : gX} {p : Program} {l : Launch} {e : Env} {s : State} {m : MethodId} {args : Array Value} {below : List Frame} {meth : Method} {c : Code} (B : gB X p (rm12_readWed) s m args meth c RX12 cX12_readWed 3 (rm12_readWed)) (hS9 : gS X s) (hr : meth.sig.returnType = some .boolean) (a0 : Nat) (M : mMem) : GG X p l e (rm12_readWed) s m args below meth c (gP X below args s 0 0 (fun r9 : (Int32 × mMem) => (some (.int r9.1), r9.2))) 3 0 0 0 [(0, .ref a0)] [] M (p12_readWed a0 M) := by
  unfold p12_readWed
  refine g_gd ?_
  refine g_aload_n B dX12_readWed_0 0 rfl ?_
  refine g_callV_iw [] (ci := 11) (T0 := TX12) (N := 27) B hS9 mf12_personTold wd_1833 (gw B wp_58) wd_1831 (by decide) rfl (fun h => (gd_ne h).1) (c12_personTold X l a0 M) (by decide) (by decide) (by decide) rfl (by decide) dX12_readWed_1 rfl (fun q_1 => ?_)
  refine g_istore_n (lv' := [(1, .int q_1.1), (0, .ref a0)]) B dX12_readWed_4 (by decide) [0, 1] rfl ?_
  refine g_iload_n B dX12_readWed_5 0 rfl ?_
  refine g_if_ge B 13 dX12_readWed_6 (by decide) ?_ ?_
  · refine g_iconst (v := (-1)) B dX12_readWed_9 (by decide) ?_
    refine g_goto B 17 dX12_readWed_10 (by decide) ?_
    refine g_sub (lv' := [(0, .ref a0), (1, .int q_1.1)]) [1, 0] rfl ?_
    exact g12_readWed_J17 B hS9 hr a0 q_1.1 (-1) q_1.2
  · refine g_aload_n B dX12_readWed_13 1 rfl ?_
    refine g_callV_iw [] (ci := 11) (T0 := TX12) (N := 27) B hS9 mf12_personTold wd_1833 (gw B wp_58) wd_1831 (by decide) rfl (fun h => (gd_ne h).1) (c12_personTold X l a0 q_1.2) (by decide) (by decide) (by decide) rfl (by decide) dX12_readWed_14 rfl (fun q_2 => ?_)
    refine g_sub (lv' := [(0, .ref a0), (1, .int q_1.1)]) [1, 0] rfl ?_
    exact g12_readWed_J17 B hS9 hr a0 q_1.1 q_2.1 q_2.2
theorem c12_readWed (X : gX) (l : Launch) (a0 : Nat) (M : mMem) : Con X l yX12_readWed cX12_readWed 3 (some .boolean) rm12_readWed (fun r9 : (Int32 × mMem) => (some (.int r9.1), r9.2)) [.ref a0] M (p12_readWed a0 M) := g_con (own := RX12) (by decide +kernel) rfl (Nat.le_of_ble_eq_true rfl) (fun p e s m args below meth c B hS9 hr hn => g12_readWed B hS9 hr a0 M)
theorem mf12_greatestAge : gMF yX12_greatestAge cX12_greatestAge 3 (some .int) 0 := ⟨wd_1868, wd_13, ⟨by decide, by decide⟩, by decide +kernel⟩
set_option maxRecDepth 20000 in
set_option maxHeartbeats 2000000 in
theorem g12_greatestAge_L4 {X : gX} {p : Program} {l : Launch} {e : Env} {s : State} {m : MethodId} {args : Array Value} {below : List Frame} {meth : Method} {c : Code} (B : gB X p (rm12_greatestAge) s m args meth c RX12 cX12_greatestAge 3 (rm12_greatestAge)) (hS9 : gS X s) (hr : meth.sig.returnType = some .int) {M : mMem} : ∀ (n : Nat) (a0 : Nat) (x1 : Int32) (x2 : Int32), GG X p l e (rm12_greatestAge) s m args below meth c (gP X below args s 0 0 (fun r9 : Int32 => (some (.int r9), M))) 3 0 0 4 [(0, .ref a0), (1, .int x1), (2, .int x2)] [] M (p12_greatestAge_L4 M n a0 x1 x2) := by
  intro n
  induction n with
  | zero => intro a0 x1 x2; exact g_none
  | succ n ih =>
    intro a0 x1 x2
    rw [p12_greatestAge_L4]
    refine g_iload_n B dX12_greatestAge_4 2 rfl ?_
    refine g_aload_n B dX12_greatestAge_5 0 rfl ?_
    refine g_callV_ip [] (ci := 11) (T0 := TX12) (N := 27) B hS9 mf12_people wd_1793 (gw B wp_51) wd_1791 (by decide) rfl (fun h => (gd_ne h).1) (c12_people X l a0 M) (by decide) (by decide) (by decide) rfl (Nat.le_of_ble_eq_true rfl) dX12_greatestAge_6 rfl (fun v_1 => ?_)
    refine g_icmp_ge B 29 dX12_greatestAge_9 (by decide) ?_ ?_
    · refine g_iload_n B dX12_greatestAge_12 1 rfl ?_
      refine g_aload_n B dX12_greatestAge_13 0 rfl ?_
      refine g_iload_n B dX12_greatestAge_14 2 rfl ?_
      refine g_iconst (v := 0) B dX12_greatestAge_15 (by decide) ?_
      refine g_callV_ip [.int x2, .int 0] (ci := 11) (T0 := TX12) (N := 27) B hS9 mf12_of wd_1846 (gw B wp_61) wd_1844 (by decide) rfl (fun h => (gd_ne h).1) (c12_of X l a0 x2 0 M) (by decide) (by decide) (by decide) rfl (Nat.le_of_ble_eq_true rfl) dX12_greatestAge_16 rfl (fun v_2 => ?_)
      refine g_max B wd_1869 wd_516 wd_15 wd_517 (by decide) (Nat.le_of_ble_eq_true rfl) (by decide) dX12_greatestAge_19 ?_
      refine g_istore_n (lv' := [(1, .int (maxI x1 v_2)), (0, .ref a0), (2, .int x2)]) B dX12_greatestAge_22 (by decide) [0, 1, 2] rfl ?_
      refine g_iinc (v := (x2 + 1)) (lv' := [(2, .int (x2 + 1)), (1, .int (maxI x1 v_2)), (0, .ref a0)]) B dX12_greatestAge_23 2 rfl rfl (by decide) [0, 1, 2] rfl ?_
      refine g_goto B 4 dX12_greatestAge_26 (by decide) ?_
      refine g_sub (lv' := [(0, .ref a0), (1, .int (maxI x1 v_2)), (2, .int (x2 + 1))]) [2, 1, 0] rfl ?_
      exact ih a0 (maxI x1 v_2) (x2 + 1)
    · refine g_iload_n B dX12_greatestAge_29 1 rfl ?_
      exact g_ireturn B hr rfl (by decide) (by decide) rfl dX12_greatestAge_30
set_option maxRecDepth 20000 in
set_option maxHeartbeats 2000000 in
theorem g12_greatestAge {X : gX} {p : Program} {l : Launch} {e : Env} {s : State} {m : MethodId} {args : Array Value} {below : List Frame} {meth : Method} {c : Code} (B : gB X p (rm12_greatestAge) s m args meth c RX12 cX12_greatestAge 3 (rm12_greatestAge)) (hS9 : gS X s) (hr : meth.sig.returnType = some .int) {M : mMem} (a0 : Nat) : GG X p l e (rm12_greatestAge) s m args below meth c (gP X below args s 0 0 (fun r9 : Int32 => (some (.int r9), M))) 3 0 0 0 [(0, .ref a0)] [] M (p12_greatestAge a0 M) := by
  unfold p12_greatestAge
  refine g_gd ?_
  refine g_iconst (v := (-1)) B dX12_greatestAge_0 (by decide) ?_
  refine g_istore_n (lv' := [(1, .int (-1)), (0, .ref a0)]) B dX12_greatestAge_1 (by decide) [0, 1] rfl ?_
  refine g_iconst (v := 0) B dX12_greatestAge_2 (by decide) ?_
  refine g_istore_n (lv' := [(2, .int 0), (1, .int (-1)), (0, .ref a0)]) B dX12_greatestAge_3 (by decide) [0, 1, 2] rfl ?_
  refine g_sub (lv' := [(0, .ref a0), (1, .int (-1)), (2, .int 0)]) [2, 1, 0] rfl ?_
  exact (g12_greatestAge_L4 B hS9 hr) gF a0 (-1) 0
theorem c12_greatestAge (X : gX) (l : Launch) (a0 : Nat) (M : mMem) : Con X l yX12_greatestAge cX12_greatestAge 3 (some .int) rm12_greatestAge (fun r9 : Int32 => (some (.int r9), M)) [.ref a0] M (p12_greatestAge a0 M) := g_con (own := RX12) (by decide +kernel) rfl (Nat.le_of_ble_eq_true rfl) (fun p e s m args below meth c B hS9 hr hn => g12_greatestAge B hS9 hr a0)
theorem mf12_readFamilyLine : gMF yX12_readFamilyLine cX12_readFamilyLine 1 (some .boolean) 0 := ⟨wd_1779, wd_13, ⟨by decide, by decide⟩, by decide +kernel⟩
set_option maxRecDepth 20000 in
set_option maxHeartbeats 2000000 in
theorem g12_readFamilyLine_J132 {X : gX} {p : Program} {l : Launch} {e : Env} {s : State} {m : MethodId} {args : Array Value} {below : List Frame} {meth : Method} {c : Code} (B : gB X p (rm12_readFamilyLine) s m args meth c RX12 cX12_readFamilyLine 1 (rm12_readFamilyLine)) (hS9 : gS X s) (hr : meth.sig.returnType = some .boolean) (u0 : Int32) (M : mMem) : GG X p l e (rm12_readFamilyLine) s m args below meth c (gP X below args s 0 0 (fun r9 : (Int32 × mMem) => (some (.int r9.1), r9.2))) 1 0 0 132 [] [.int u0] M (p12_readFamilyLine_J132 u0 M) := by
  unfold p12_readFamilyLine_J132
  exact g_zreturn (f := fun z => (z, M)) B hr (by decide) (by decide) rfl dX12_readFamilyLine_132
set_option maxRecDepth 20000 in
set_option maxHeartbeats 2000000 in
theorem g12_readFamilyLine_J131 {X : gX} {p : Program} {l : Launch} {e : Env} {s : State} {m : MethodId} {args : Array Value} {below : List Frame} {meth : Method} {c : Code} (B : gB X p (rm12_readFamilyLine) s m args meth c RX12 cX12_readFamilyLine 1 (rm12_readFamilyLine)) (hS9 : gS X s) (hr : meth.sig.returnType = some .boolean) (M : mMem) : GG X p l e (rm12_readFamilyLine) s m args below meth c (gP X below args s 0 0 (fun r9 : (Int32 × mMem) => (some (.int r9.1), r9.2))) 1 0 0 131 [] [] M (p12_readFamilyLine_J131 M) := by
  unfold p12_readFamilyLine_J131
  refine g_iconst (v := 0) B dX12_readFamilyLine_131 (by decide) ?_
  refine g_sub (lv' := []) [] rfl ?_
  exact g12_readFamilyLine_J132 B hS9 hr 0 M
set_option maxRecDepth 20000 in
set_option maxHeartbeats 2000000 in
theorem g12_readFamilyLine {X : gX} {p : Program} {l : Launch} {e : Env} {s : State} {m : MethodId} {args : Array Value} {below : List Frame} {meth : Method} {c : Code} (B : gB X p (rm12_readFamilyLine) s m args meth c RX12 cX12_readFamilyLine 1 (rm12_readFamilyLine)) (hS9 : gS X s) (hr : meth.sig.returnType = some .boolean) (a0 : Nat) (M : mMem) : GG X p l e (rm12_readFamilyLine) s m args below meth c (gP X below args s 0 0 (fun r9 : (Int32 × mMem) => (some (.int r9.1), r9.2))) 1 0 0 0 [(0, .ref a0)] [] M (p12_readFamilyLine a0 M) := by
  unfold p12_readFamilyLine
  refine g_gd ?_
  refine g_aload_n B dX12_readFamilyLine_0 0 rfl ?_
  refine g_ldcS (i := 0) B hS9 dX12_readFamilyLine_1 (List.mem_of_getElem? (i := 27) rfl) ?_
  refine g_callV_ip [.ref (X.2.2.2.1 0)] (ci := 11) (T0 := TX12) (N := 27) B hS9 mf12_isWord wd_1783 (gw B wp_49) wd_1781 (by decide) rfl (fun h => (gd_ne h).1) (c12_isWord X l a0 0 M) (by decide) (by decide) (by decide) rfl (by decide) dX12_readFamilyLine_3 rfl (fun v_1 => ?_)
  refine g_if_eq B 14 dX12_readFamilyLine_6 (by decide) ?_ ?_
  · refine g_aload_n B dX12_readFamilyLine_14 0 rfl ?_
    refine g_ldcS (i := 8) B hS9 dX12_readFamilyLine_15 (List.mem_of_getElem? (i := 35) rfl) ?_
    refine g_callV_ip [.ref (X.2.2.2.1 8)] (ci := 11) (T0 := TX12) (N := 27) B hS9 mf12_isWord wd_1783 (gw B wp_49) wd_1781 (by decide) rfl (fun h => (gd_ne h).1) (c12_isWord X l a0 8 M) (by decide) (by decide) (by decide) rfl (by decide) dX12_readFamilyLine_17 rfl (fun v_2 => ?_)
    refine g_if_eq B 28 dX12_readFamilyLine_20 (by decide) ?_ ?_
    · refine g_aload_n B dX12_readFamilyLine_28 0 rfl ?_
      refine g_ldcS (i := 9) B hS9 dX12_readFamilyLine_29 (List.mem_of_getElem? (i := 36) rfl) ?_
      refine g_callV_ip [.ref (X.2.2.2.1 9)] (ci := 11) (T0 := TX12) (N := 27) B hS9 mf12_isWord wd_1783 (gw B wp_49) wd_1781 (by decide) rfl (fun h => (gd_ne h).1) (c12_isWord X l a0 9 M) (by decide) (by decide) (by decide) rfl (by decide) dX12_readFamilyLine_31 rfl (fun v_3 => ?_)
      refine g_if_eq B 42 dX12_readFamilyLine_34 (by decide) ?_ ?_
      · refine g_aload_n B dX12_readFamilyLine_42 0 rfl ?_
        refine g_ldcS (i := 10) B hS9 dX12_readFamilyLine_43 (List.mem_of_getElem? (i := 37) rfl) ?_
        refine g_callV_ip [.ref (X.2.2.2.1 10)] (ci := 11) (T0 := TX12) (N := 27) B hS9 mf12_isWord wd_1783 (gw B wp_49) wd_1781 (by decide) rfl (fun h => (gd_ne h).1) (c12_isWord X l a0 10 M) (by decide) (by decide) (by decide) rfl (by decide) dX12_readFamilyLine_45 rfl (fun v_4 => ?_)
        refine g_if_eq B 69 dX12_readFamilyLine_48 (by decide) ?_ ?_
        · refine g_aload_n B dX12_readFamilyLine_69 0 rfl ?_
          refine g_ldcS (i := 11) B hS9 dX12_readFamilyLine_70 (List.mem_of_getElem? (i := 38) rfl) ?_
          refine g_callV_ip [.ref (X.2.2.2.1 11)] (ci := 11) (T0 := TX12) (N := 27) B hS9 mf12_isWord wd_1783 (gw B wp_49) wd_1781 (by decide) rfl (fun h => (gd_ne h).1) (c12_isWord X l a0 11 M) (by decide) (by decide) (by decide) rfl (by decide) dX12_readFamilyLine_72 rfl (fun v_5 => ?_)
          refine g_if_eq B 87 dX12_readFamilyLine_75 (by decide) ?_ ?_
          · refine g_aload_n B dX12_readFamilyLine_87 0 rfl ?_
            refine g_ldcS (i := 12) B hS9 dX12_readFamilyLine_88 (List.mem_of_getElem? (i := 39) rfl) ?_
            refine g_callV_ip [.ref (X.2.2.2.1 12)] (ci := 11) (T0 := TX12) (N := 27) B hS9 mf12_isWord wd_1783 (gw B wp_49) wd_1781 (by decide) rfl (fun h => (gd_ne h).1) (c12_isWord X l a0 12 M) (by decide) (by decide) (by decide) rfl (by decide) dX12_readFamilyLine_90 rfl (fun v_6 => ?_)
            refine g_if_eq B 106 dX12_readFamilyLine_93 (by decide) ?_ ?_
            · refine g_aload_n B dX12_readFamilyLine_106 0 rfl ?_
              refine g_ldcS (i := 13) B hS9 dX12_readFamilyLine_107 (List.mem_of_getElem? (i := 40) rfl) ?_
              refine g_callV_ip [.ref (X.2.2.2.1 13)] (ci := 11) (T0 := TX12) (N := 27) B hS9 mf12_isWord wd_1783 (gw B wp_49) wd_1781 (by decide) rfl (fun h => (gd_ne h).1) (c12_isWord X l a0 13 M) (by decide) (by decide) (by decide) rfl (by decide) dX12_readFamilyLine_109 rfl (fun v_7 => ?_)
              refine g_if_eq B 131 dX12_readFamilyLine_112 (by decide) ?_ ?_
              · refine g_sub (lv' := []) [] rfl ?_
                exact g12_readFamilyLine_J131 B hS9 hr M
              · refine g_aload_n B dX12_readFamilyLine_115 0 rfl ?_
                refine g_iconst (v := 3) B dX12_readFamilyLine_116 (by decide) ?_
                refine g_iconst (v := 0) B dX12_readFamilyLine_117 (by decide) ?_
                refine g_sipush (v := 999) B dX12_readFamilyLine_118 (by decide) ?_
                refine g_callV_iw [.int 3, .int 0, .int 999] (ci := 11) (T0 := TX12) (N := 27) B hS9 mf12_readNumber wd_1872 (gw B wp_67) wd_1870 (by decide) rfl (fun h => (gd_ne h).1) (c12_readNumber X l a0 3 0 999 M) (by decide) (by decide) (by decide) rfl (by decide) dX12_readFamilyLine_121 rfl (fun q_8 => ?_)
                refine g_if_eq B 131 dX12_readFamilyLine_124 (by decide) ?_ ?_
                · refine g_sub (lv' := []) [] rfl ?_
                  exact g12_readFamilyLine_J131 B hS9 hr q_8.2
                · refine g_iconst (v := 1) B dX12_readFamilyLine_127 (by decide) ?_
                  refine g_goto B 132 dX12_readFamilyLine_128 (by decide) ?_
                  refine g_sub (lv' := []) [] rfl ?_
                  exact g12_readFamilyLine_J132 B hS9 hr 1 q_8.2
            · refine g_aload_n B dX12_readFamilyLine_96 0 rfl ?_
              refine g_bipush (v := 6) B dX12_readFamilyLine_97 (by decide) ?_
              refine g_iconst (v := 0) B dX12_readFamilyLine_99 (by decide) ?_
              refine g_bipush (v := 20) B dX12_readFamilyLine_100 (by decide) ?_
              refine g_callV_iw [.int 6, .int 0, .int 20] (ci := 11) (T0 := TX12) (N := 27) B hS9 mf12_readNumber wd_1872 (gw B wp_67) wd_1870 (by decide) rfl (fun h => (gd_ne h).1) (c12_readNumber X l a0 6 0 20 M) (by decide) (by decide) (by decide) rfl (by decide) dX12_readFamilyLine_102 rfl (fun q_9 => ?_)
              exact g_zreturn (f := fun z => (z, q_9.2)) B hr (by decide) (by decide) rfl dX12_readFamilyLine_105
          · refine g_aload_n B dX12_readFamilyLine_78 0 rfl ?_
            refine g_iconst (v := 5) B dX12_readFamilyLine_79 (by decide) ?_
            refine g_iconst (v := 0) B dX12_readFamilyLine_80 (by decide) ?_
            refine g_bipush (v := 99) B dX12_readFamilyLine_81 (by decide) ?_
            refine g_callV_iw [.int 5, .int 0, .int 99] (ci := 11) (T0 := TX12) (N := 27) B hS9 mf12_readNumber wd_1872 (gw B wp_67) wd_1870 (by decide) rfl (fun h => (gd_ne h).1) (c12_readNumber X l a0 5 0 99 M) (by decide) (by decide) (by decide) rfl (by decide) dX12_readFamilyLine_83 rfl (fun q_10 => ?_)
            exact g_zreturn (f := fun z => (z, q_10.2)) B hr (by decide) (by decide) rfl dX12_readFamilyLine_86
        · refine g_aload_n B dX12_readFamilyLine_51 0 rfl ?_
          refine g_iconst (v := 4) B dX12_readFamilyLine_52 (by decide) ?_
          refine g_iconst (v := 2) B dX12_readFamilyLine_53 (by decide) ?_
          refine g_aload_n B dX12_readFamilyLine_54 0 rfl ?_
          refine g_callV_ip [] (ci := 11) (T0 := TX12) (N := 27) B hS9 mf12_greatestAge wd_1867 (gw B wp_66) wd_1865 (by decide) rfl (fun h => (gd_ne h).1) (c12_greatestAge X l a0 M) (by decide) (by decide) (by decide) rfl (Nat.le_of_ble_eq_true rfl) dX12_readFamilyLine_55 rfl (fun v_11 => ?_)
          refine g_iconst (v := 1) B dX12_readFamilyLine_58 (by decide) ?_
          refine g_iadd B dX12_readFamilyLine_59 ?_
          refine g_max B wd_1869 wd_516 wd_15 wd_517 (by decide) (Nat.le_of_ble_eq_true rfl) (by decide) dX12_readFamilyLine_60 ?_
          refine g_bipush (v := 99) B dX12_readFamilyLine_63 (by decide) ?_
          refine g_callV_iw [.int 4, .int (maxI 2 (v_11 + 1)), .int 99] (ci := 11) (T0 := TX12) (N := 27) B hS9 mf12_readNumber wd_1872 (gw B wp_67) wd_1870 (by decide) rfl (fun h => (gd_ne h).1) (c12_readNumber X l a0 4 (maxI 2 (v_11 + 1)) 99 M) (by decide) (by decide) (by decide) rfl (by decide) dX12_readFamilyLine_65 rfl (fun q_12 => ?_)
          exact g_zreturn (f := fun z => (z, q_12.2)) B hr (by decide) (by decide) rfl dX12_readFamilyLine_68
      · refine g_aload_n B dX12_readFamilyLine_37 0 rfl ?_
        refine g_callV_iw [] (ci := 11) (T0 := TX12) (N := 27) B hS9 mf12_readWed wd_1838 (gw B wp_59) wd_1836 (by decide) rfl (fun h => (gd_ne h).1) (c12_readWed X l a0 M) (by decide) (by decide) (by decide) rfl (by decide) dX12_readFamilyLine_38 rfl (fun q_13 => ?_)
        exact g_zreturn (f := fun z => (z, q_13.2)) B hr (by decide) (by decide) rfl dX12_readFamilyLine_41
    · refine g_aload_n B dX12_readFamilyLine_23 0 rfl ?_
      refine g_callV_iw [] (ci := 11) (T0 := TX12) (N := 27) B hS9 mf12_readGoverns wd_1829 (gw B wp_57) wd_1827 (by decide) rfl (fun h => (gd_ne h).1) (c12_readGoverns X l a0 M) (by decide) (by decide) (by decide) rfl (by decide) dX12_readFamilyLine_24 rfl (fun q_14 => ?_)
      exact g_zreturn (f := fun z => (z, q_14.2)) B hr (by decide) (by decide) rfl dX12_readFamilyLine_27
  · refine g_aload_n B dX12_readFamilyLine_9 0 rfl ?_
    refine g_callV_iw [] (ci := 11) (T0 := TX12) (N := 27) B hS9 mf12_readPerson wd_1789 (gw B wp_50) wd_1787 (by decide) rfl (fun h => (gd_ne h).1) (c12_readPerson X l a0 M) (by decide) (by decide) (by decide) rfl (by decide) dX12_readFamilyLine_10 rfl (fun q_15 => ?_)
    exact g_zreturn (f := fun z => (z, q_15.2)) B hr (by decide) (by decide) rfl dX12_readFamilyLine_13
theorem c12_readFamilyLine (X : gX) (l : Launch) (a0 : Nat) (M : mMem) : Con X l yX12_readFamilyLine cX12_readFamilyLine 1 (some .boolean) rm12_readFamilyLine (fun r9 : (Int32 × mMem) => (some (.int r9.1), r9.2)) [.ref a0] M (p12_readFamilyLine a0 M) := g_con (own := RX12) (by decide +kernel) rfl (Nat.le_of_ble_eq_true rfl) (fun p e s m args below meth c B hS9 hr hn => g12_readFamilyLine B hS9 hr a0 M)
theorem mf12_emits : gMF yX12_emits cX12_emits 3 (none) 2 := ⟨wd_1905, wd_13, ⟨by decide, by decide⟩, by decide +kernel⟩
set_option maxRecDepth 20000 in
set_option maxHeartbeats 2000000 in
theorem g12_emits {X : gX} {p : Program} {l : Launch} {e : Env} {s : State} {m : MethodId} {args : Array Value} {below : List Frame} {meth : Method} {c : Code} (B : gB X p (rm12_emits) s m args meth c RX12 cX12_emits 3 (rm12_emits)) (hS9 : gS X s) (hr : meth.sig.returnType = none) (a0 : Nat) (x1 : Int32) (x2 : Int32) (M : mMem) : GG X p l e (rm12_emits) s m args below meth c (gP X below args s 0 0 (fun M9 : mMem => (none, M9))) 3 0 0 0 [(0, .ref a0), (1, .int x1), (2, .int x2)] [] M (p12_emits a0 x1 x2 M) := by
  unfold p12_emits
  refine g_gd ?_
  refine g_aload_n B dX12_emits_0 0 rfl ?_
  refine g_getR (ci := 11) (T0 := TX12) (N := 27) B (by decide) rfl in_11 (k := 1) (by decide) rfl wd_1642 (fun _ h => h) dX12_emits_1 (fun v_1 => ?_)
  refine g_sipush (v := 1343) B dX12_emits_4 (by decide) ?_
  refine g_iconst (v := 2) B dX12_emits_7 (by decide) ?_
  refine g_aload_n B dX12_emits_8 0 rfl ?_
  refine g_getI (ci := 11) (T0 := TX12) (N := 27) B (by decide) rfl in_11 (k := 16) (by decide) rfl wd_1657 (fun _ h => h) dX12_emits_9 (fun v_2 => ?_)
  refine g_imul B dX12_emits_12 ?_
  refine g_iadd B dX12_emits_13 ?_
  refine g_iload_n B dX12_emits_14 1 rfl ?_
  refine g_iastore B dX12_emits_15 (fun M_3 => ?_)
  refine g_aload_n B dX12_emits_16 0 rfl ?_
  refine g_getR (ci := 11) (T0 := TX12) (N := 27) B (by decide) rfl in_11 (k := 1) (by decide) rfl wd_1642 (fun _ h => h) dX12_emits_17 (fun v_4 => ?_)
  refine g_sipush (v := 1343) B dX12_emits_20 (by decide) ?_
  refine g_iconst (v := 2) B dX12_emits_23 (by decide) ?_
  refine g_aload_n B dX12_emits_24 0 rfl ?_
  refine g_getI (ci := 11) (T0 := TX12) (N := 27) B (by decide) rfl in_11 (k := 16) (by decide) rfl wd_1657 (fun _ h => h) dX12_emits_25 (fun v_5 => ?_)
  refine g_imul B dX12_emits_28 ?_
  refine g_iadd B dX12_emits_29 ?_
  refine g_iconst (v := 1) B dX12_emits_30 (by decide) ?_
  refine g_iadd B dX12_emits_31 ?_
  refine g_iload_n B dX12_emits_32 2 rfl ?_
  refine g_iastore B dX12_emits_33 (fun M_6 => ?_)
  refine g_aload_n B dX12_emits_34 0 rfl ?_
  refine g_dup B dX12_emits_35 rfl ?_
  refine g_getI (ci := 11) (T0 := TX12) (N := 27) B (by decide) rfl in_11 (k := 16) (by decide) rfl wd_1657 (fun _ h => h) dX12_emits_36 (fun v_7 => ?_)
  refine g_iconst (v := 1) B dX12_emits_39 (by decide) ?_
  refine g_iadd B dX12_emits_40 ?_
  refine g_putI (ci := 11) (T0 := TX12) (N := 27) B (by decide) rfl in_11 tyX12 tyX12_ok nmX12 (k := 16) (by decide) wd_1657 (fun _ h => h) rfl rfl (ty := .int) (by decide +kernel) rfl rfl dX12_emits_41 (fun M_8 => ?_)
  exact g_vreturn B hr (by decide) (by decide) rfl dX12_emits_44
theorem c12_emits (X : gX) (l : Launch) (a0 : Nat) (x1 : Int32) (x2 : Int32) (M : mMem) : Con X l yX12_emits cX12_emits 3 (none) rm12_emits (fun M9 : mMem => (none, M9)) [.ref a0, .int x1, .int x2] M (p12_emits a0 x1 x2 M) := g_con (own := RX12) (by decide +kernel) rfl (Nat.le_of_ble_eq_true rfl) (fun p e s m args below meth c B hS9 hr hn => g12_emits B hS9 hr a0 x1 x2 M)
theorem mf12_wordOfPart : gMF yX12_wordOfPart cX12_wordOfPart 1 (some .int) 0 := ⟨wd_1923, wd_13, ⟨by decide, by decide⟩, by decide +kernel⟩
set_option maxRecDepth 20000 in
set_option maxHeartbeats 2000000 in
theorem g12_wordOfPart_J69 {X : gX} {p : Program} {l : Launch} {e : Env} {s : State} {m : MethodId} {args : Array Value} {below : List Frame} {meth : Method} {c : Code} (B : gB X p (rm12_wordOfPart) s m args meth c RX12 cX12_wordOfPart 1 (rm12_wordOfPart)) (hS9 : gS X s) (hr : meth.sig.returnType = some .int) {M : mMem} (u0 : Int32) : GG X p l e (rm12_wordOfPart) s m args below meth c (gP X below args s 0 0 (fun r9 : Int32 => (some (.int r9), M))) 1 0 0 69 [] [.int u0] M (p12_wordOfPart_J69 M u0) := by
  unfold p12_wordOfPart_J69
  exact g_ireturn B hr rfl (by decide) (by decide) rfl dX12_wordOfPart_69
set_option maxRecDepth 20000 in
set_option maxHeartbeats 2000000 in
theorem g12_wordOfPart {X : gX} {p : Program} {l : Launch} {e : Env} {s : State} {m : MethodId} {args : Array Value} {below : List Frame} {meth : Method} {c : Code} (B : gB X p (rm12_wordOfPart) s m args meth c RX12 cX12_wordOfPart 1 (rm12_wordOfPart)) (hS9 : gS X s) (hr : meth.sig.returnType = some .int) {M : mMem} (a0 : Nat) : GG X p l e (rm12_wordOfPart) s m args below meth c (gP X below args s 0 0 (fun r9 : Int32 => (some (.int r9), M))) 1 0 0 0 [(0, .ref a0)] [] M (p12_wordOfPart a0 M) := by
  unfold p12_wordOfPart
  refine g_gd ?_
  refine g_aload_n B dX12_wordOfPart_0 0 rfl ?_
  refine g_ldcS (i := 23) B hS9 dX12_wordOfPart_1 (List.mem_of_getElem? (i := 48) rfl) ?_
  refine g_callV_ip [.ref (X.2.2.2.1 23)] (ci := 11) (T0 := TX12) (N := 27) B hS9 mf12_isWord wd_1783 (gw B wp_49) wd_1781 (by decide) rfl (fun h => (gd_ne h).1) (c12_isWord X l a0 23 M) (by decide) (by decide) (by decide) rfl (by decide) dX12_wordOfPart_3 rfl (fun v_1 => ?_)
  refine g_if_eq B 11 dX12_wordOfPart_6 (by decide) ?_ ?_
  · refine g_aload_n B dX12_wordOfPart_11 0 rfl ?_
    refine g_ldcS (i := 24) B hS9 dX12_wordOfPart_12 (List.mem_of_getElem? (i := 49) rfl) ?_
    refine g_callV_ip [.ref (X.2.2.2.1 24)] (ci := 11) (T0 := TX12) (N := 27) B hS9 mf12_isWord wd_1783 (gw B wp_49) wd_1781 (by decide) rfl (fun h => (gd_ne h).1) (c12_isWord X l a0 24 M) (by decide) (by decide) (by decide) rfl (by decide) dX12_wordOfPart_14 rfl (fun v_2 => ?_)
    refine g_if_eq B 22 dX12_wordOfPart_17 (by decide) ?_ ?_
    · refine g_aload_n B dX12_wordOfPart_22 0 rfl ?_
      refine g_ldcS (i := 3) B hS9 dX12_wordOfPart_23 (List.mem_of_getElem? (i := 30) rfl) ?_
      refine g_callV_ip [.ref (X.2.2.2.1 3)] (ci := 11) (T0 := TX12) (N := 27) B hS9 mf12_isWord wd_1783 (gw B wp_49) wd_1781 (by decide) rfl (fun h => (gd_ne h).1) (c12_isWord X l a0 3 M) (by decide) (by decide) (by decide) rfl (by decide) dX12_wordOfPart_25 rfl (fun v_3 => ?_)
      refine g_if_eq B 33 dX12_wordOfPart_28 (by decide) ?_ ?_
      · refine g_aload_n B dX12_wordOfPart_33 0 rfl ?_
        refine g_ldcS (i := 25) B hS9 dX12_wordOfPart_34 (List.mem_of_getElem? (i := 50) rfl) ?_
        refine g_callV_ip [.ref (X.2.2.2.1 25)] (ci := 11) (T0 := TX12) (N := 27) B hS9 mf12_isWord wd_1783 (gw B wp_49) wd_1781 (by decide) rfl (fun h => (gd_ne h).1) (c12_isWord X l a0 25 M) (by decide) (by decide) (by decide) rfl (by decide) dX12_wordOfPart_36 rfl (fun v_4 => ?_)
        refine g_if_eq B 44 dX12_wordOfPart_39 (by decide) ?_ ?_
        · refine g_aload_n B dX12_wordOfPart_44 0 rfl ?_
          refine g_ldcS (i := 26) B hS9 dX12_wordOfPart_45 (List.mem_of_getElem? (i := 51) rfl) ?_
          refine g_callV_ip [.ref (X.2.2.2.1 26)] (ci := 11) (T0 := TX12) (N := 27) B hS9 mf12_isWord wd_1783 (gw B wp_49) wd_1781 (by decide) rfl (fun h => (gd_ne h).1) (c12_isWord X l a0 26 M) (by decide) (by decide) (by decide) rfl (by decide) dX12_wordOfPart_47 rfl (fun v_5 => ?_)
          refine g_if_eq B 55 dX12_wordOfPart_50 (by decide) ?_ ?_
          · refine g_aload_n B dX12_wordOfPart_55 0 rfl ?_
            refine g_ldcS (i := 13) B hS9 dX12_wordOfPart_56 (List.mem_of_getElem? (i := 40) rfl) ?_
            refine g_callV_ip [.ref (X.2.2.2.1 13)] (ci := 11) (T0 := TX12) (N := 27) B hS9 mf12_isWord wd_1783 (gw B wp_49) wd_1781 (by decide) rfl (fun h => (gd_ne h).1) (c12_isWord X l a0 13 M) (by decide) (by decide) (by decide) rfl (by decide) dX12_wordOfPart_58 rfl (fun v_6 => ?_)
            refine g_if_eq B 68 dX12_wordOfPart_61 (by decide) ?_ ?_
            · refine g_iconst (v := (-1)) B dX12_wordOfPart_68 (by decide) ?_
              refine g_sub (lv' := []) [] rfl ?_
              exact g12_wordOfPart_J69 B hS9 hr (-1)
            · refine g_iconst (v := 5) B dX12_wordOfPart_64 (by decide) ?_
              refine g_goto B 69 dX12_wordOfPart_65 (by decide) ?_
              refine g_sub (lv' := []) [] rfl ?_
              exact g12_wordOfPart_J69 B hS9 hr 5
          · refine g_iconst (v := 4) B dX12_wordOfPart_53 (by decide) ?_
            exact g_ireturn B hr rfl (by decide) (by decide) rfl dX12_wordOfPart_54
        · refine g_iconst (v := 3) B dX12_wordOfPart_42 (by decide) ?_
          exact g_ireturn B hr rfl (by decide) (by decide) rfl dX12_wordOfPart_43
      · refine g_iconst (v := 2) B dX12_wordOfPart_31 (by decide) ?_
        exact g_ireturn B hr rfl (by decide) (by decide) rfl dX12_wordOfPart_32
    · refine g_iconst (v := 1) B dX12_wordOfPart_20 (by decide) ?_
      exact g_ireturn B hr rfl (by decide) (by decide) rfl dX12_wordOfPart_21
  · refine g_iconst (v := 0) B dX12_wordOfPart_9 (by decide) ?_
    exact g_ireturn B hr rfl (by decide) (by decide) rfl dX12_wordOfPart_10
theorem c12_wordOfPart (X : gX) (l : Launch) (a0 : Nat) (M : mMem) : Con X l yX12_wordOfPart cX12_wordOfPart 1 (some .int) rm12_wordOfPart (fun r9 : Int32 => (some (.int r9), M)) [.ref a0] M (p12_wordOfPart a0 M) := g_con (own := RX12) (by decide +kernel) rfl (Nat.le_of_ble_eq_true rfl) (fun p e s m args below meth c B hS9 hr hn => g12_wordOfPart B hS9 hr a0)
theorem mf12_readPart : gMF yX12_readPart cX12_readPart 3 (some .boolean) 0 := ⟨wd_1919, wd_13, ⟨by decide, by decide⟩, by decide +kernel⟩
set_option maxRecDepth 20000 in
set_option maxHeartbeats 2000000 in
theorem g12_readPart_J73 {X : gX} {p : Program} {l : Launch} {e : Env} {s : State} {m : MethodId} {args : Array Value} {below : List Frame} {meth : Method} {c : Code} (B : gB X p (rm12_readPart) s m args meth c RX12 cX12_readPart 3 (rm12_readPart)) (hS9 : gS X s) (hr : meth.sig.returnType = some .boolean) (u0 : Int32) (M : mMem) : GG X p l e (rm12_readPart) s m args below meth c (gP X below args s 0 0 (fun r9 : (Int32 × mMem) => (some (.int r9.1), r9.2))) 3 0 0 73 [] [.int u0] M (p12_readPart_J73 u0 M) := by
  unfold p12_readPart_J73
  exact g_zreturn (f := fun z => (z, M)) B hr (by decide) (by decide) rfl dX12_readPart_73
set_option maxRecDepth 20000 in
set_option maxHeartbeats 2000000 in
theorem g12_readPart_J61 {X : gX} {p : Program} {l : Launch} {e : Env} {s : State} {m : MethodId} {args : Array Value} {below : List Frame} {meth : Method} {c : Code} (B : gB X p (rm12_readPart) s m args meth c RX12 cX12_readPart 3 (rm12_readPart)) (hS9 : gS X s) (hr : meth.sig.returnType = some .boolean) (x2 : Int32) (b0 : Nat) (u1 : Int32) (u2 : Int32) (M : mMem) : GG X p l e (rm12_readPart) s m args below meth c (gP X below args s 0 0 (fun r9 : (Int32 × mMem) => (some (.int r9.1), r9.2))) 3 0 0 61 [(2, .int x2)] [.int u2, .int u1, .ref b0] M (p12_readPart_J61 x2 b0 u1 u2 M) := by
  unfold p12_readPart_J61
  refine g_callV_vw [.int u1, .int u2] (ci := 11) (T0 := TX12) (N := 27) B hS9 mf12_emits wd_1904 (gw B wp_73) wd_1902 (by decide) rfl (fun h => (gd_ne h).1) (c12_emits X l b0 u1 u2 M) (by decide) (by decide) (by decide) rfl (by decide) dX12_readPart_61 rfl (fun q_1 => ?_)
  refine g_iload_n B dX12_readPart_64 0 rfl ?_
  refine g_if_lt B 72 dX12_readPart_65 (by decide) ?_ ?_
  · refine g_iconst (v := 0) B dX12_readPart_72 (by decide) ?_
    refine g_sub (lv' := []) [] rfl ?_
    exact g12_readPart_J73 B hS9 hr 0 q_1
  · refine g_iconst (v := 1) B dX12_readPart_68 (by decide) ?_
    refine g_goto B 73 dX12_readPart_69 (by decide) ?_
    refine g_sub (lv' := []) [] rfl ?_
    exact g12_readPart_J73 B hS9 hr 1 q_1
set_option maxRecDepth 20000 in
set_option maxHeartbeats 2000000 in
theorem g12_readPart_J52 {X : gX} {p : Program} {l : Launch} {e : Env} {s : State} {m : MethodId} {args : Array Value} {below : List Frame} {meth : Method} {c : Code} (B : gB X p (rm12_readPart) s m args meth c RX12 cX12_readPart 3 (rm12_readPart)) (hS9 : gS X s) (hr : meth.sig.returnType = some .boolean) (x1 : Int32) (x2 : Int32) (b0 : Nat) (u1 : Int32) (M : mMem) : GG X p l e (rm12_readPart) s m args below meth c (gP X below args s 0 0 (fun r9 : (Int32 × mMem) => (some (.int r9.1), r9.2))) 3 0 0 52 [(1, .int x1), (2, .int x2)] [.int u1, .ref b0] M (p12_readPart_J52 x1 x2 b0 u1 M) := by
  unfold p12_readPart_J52
  refine g_iload_n B dX12_readPart_52 0 rfl ?_
  refine g_if_eq B 60 dX12_readPart_53 (by decide) ?_ ?_
  · refine g_iconst (v := 0) B dX12_readPart_60 (by decide) ?_
    refine g_sub (lv' := [(2, .int x2)]) [1] rfl ?_
    exact g12_readPart_J61 B hS9 hr x2 b0 u1 0 M
  · refine g_iload_n B dX12_readPart_56 1 rfl ?_
    refine g_goto B 61 dX12_readPart_57 (by decide) ?_
    refine g_sub (lv' := [(2, .int x2)]) [1] rfl ?_
    exact g12_readPart_J61 B hS9 hr x2 b0 u1 x2 M
set_option maxRecDepth 20000 in
set_option maxHeartbeats 2000000 in
theorem g12_readPart_J40 {X : gX} {p : Program} {l : Launch} {e : Env} {s : State} {m : MethodId} {args : Array Value} {below : List Frame} {meth : Method} {c : Code} (B : gB X p (rm12_readPart) s m args meth c RX12 cX12_readPart 3 (rm12_readPart)) (hS9 : gS X s) (hr : meth.sig.returnType = some .boolean) (a0 : Nat) (x1 : Int32) (u0 : Int32) (M : mMem) : GG X p l e (rm12_readPart) s m args below meth c (gP X below args s 0 0 (fun r9 : (Int32 × mMem) => (some (.int r9.1), r9.2))) 3 0 0 40 [(0, .ref a0), (1, .int x1)] [.int u0] M (p12_readPart_J40 a0 x1 u0 M) := by
  unfold p12_readPart_J40
  refine g_istore_n (lv' := [(2, .int u0), (0, .ref a0), (1, .int x1)]) B dX12_readPart_40 (by decide) [0, 1, 2] rfl ?_
  refine g_aload_n B dX12_readPart_41 1 rfl ?_
  refine g_iload_n B dX12_readPart_42 2 rfl ?_
  refine g_if_eq B 51 dX12_readPart_43 (by decide) ?_ ?_
  · refine g_iload_n B dX12_readPart_51 0 rfl ?_
    refine g_sub (lv' := [(1, .int x1), (2, .int u0)]) [2, 0] rfl ?_
    exact g12_readPart_J52 B hS9 hr x1 u0 a0 u0 M
  · refine g_bipush (v := 9) B dX12_readPart_46 (by decide) ?_
    refine g_goto B 52 dX12_readPart_48 (by decide) ?_
    refine g_sub (lv' := [(1, .int x1), (2, .int u0)]) [2, 0] rfl ?_
    exact g12_readPart_J52 B hS9 hr x1 u0 a0 9 M
set_option maxRecDepth 20000 in
set_option maxHeartbeats 2000000 in
theorem g12_readPart_J20 {X : gX} {p : Program} {l : Launch} {e : Env} {s : State} {m : MethodId} {args : Array Value} {below : List Frame} {meth : Method} {c : Code} (B : gB X p (rm12_readPart) s m args meth c RX12 cX12_readPart 3 (rm12_readPart)) (hS9 : gS X s) (hr : meth.sig.returnType = some .boolean) (a0 : Nat) (u0 : Int32) (M : mMem) : GG X p l e (rm12_readPart) s m args below meth c (gP X below args s 0 0 (fun r9 : (Int32 × mMem) => (some (.int r9.1), r9.2))) 3 0 0 20 [(0, .ref a0)] [.int u0] M (p12_readPart_J20 a0 u0 M) := by
  unfold p12_readPart_J20
  refine g_istore_n (lv' := [(1, .int u0), (0, .ref a0)]) B dX12_readPart_20 (by decide) [0, 1] rfl ?_
  refine g_iload_n B dX12_readPart_21 0 rfl ?_
  refine g_if_eq B 36 dX12_readPart_22 (by decide) ?_ ?_
  · refine g_aload_n B dX12_readPart_36 1 rfl ?_
    refine g_callV_ip [] (ci := 11) (T0 := TX12) (N := 27) B hS9 mf12_wordOfPart wd_1922 (gw B wp_77) wd_1920 (by decide) rfl (fun h => (gd_ne h).1) (c12_wordOfPart X l a0 M) (by decide) (by decide) (by decide) rfl (by decide) dX12_readPart_37 rfl (fun v_1 => ?_)
    refine g_sub (lv' := [(0, .ref a0), (1, .int u0)]) [1, 0] rfl ?_
    exact g12_readPart_J40 B hS9 hr a0 u0 v_1 M
  · refine g_aload_n B dX12_readPart_25 1 rfl ?_
    refine g_iconst (v := 0) B dX12_readPart_26 (by decide) ?_
    refine g_sipush (v := 999) B dX12_readPart_27 (by decide) ?_
    refine g_callV_iw [.int 0, .int 999] (ci := 11) (T0 := TX12) (N := 27) B hS9 mf12_number wd_1804 (gw B wp_53) wd_1802 (by decide) rfl (fun h => (gd_ne h).1) (c12_number X l a0 0 999 M) (by decide) (by decide) (by decide) rfl (by decide) dX12_readPart_30 rfl (fun q_2 => ?_)
    refine g_goto B 40 dX12_readPart_33 (by decide) ?_
    refine g_sub (lv' := [(0, .ref a0), (1, .int u0)]) [1, 0] rfl ?_
    exact g12_readPart_J40 B hS9 hr a0 u0 q_2.1 q_2.2
set_option maxRecDepth 20000 in
set_option maxHeartbeats 2000000 in
theorem g12_readPart {X : gX} {p : Program} {l : Launch} {e : Env} {s : State} {m : MethodId} {args : Array Value} {below : List Frame} {meth : Method} {c : Code} (B : gB X p (rm12_readPart) s m args meth c RX12 cX12_readPart 3 (rm12_readPart)) (hS9 : gS X s) (hr : meth.sig.returnType = some .boolean) (a0 : Nat) (M : mMem) : GG X p l e (rm12_readPart) s m args below meth c (gP X below args s 0 0 (fun r9 : (Int32 × mMem) => (some (.int r9.1), r9.2))) 3 0 0 0 [(0, .ref a0)] [] M (p12_readPart a0 M) := by
  unfold p12_readPart
  refine g_gd ?_
  refine g_aload_n B dX12_readPart_0 0 rfl ?_
  refine g_callV_vw [] (ci := 11) (T0 := TX12) (N := 27) B hS9 mf12_letters wd_1774 (gw B wp_47) wd_1772 (by decide) rfl (fun h => (gd_ne h).1) (c12_letters X l a0 M) (by decide) (by decide) (by decide) rfl (by decide) dX12_readPart_1 rfl (fun q_1 => ?_)
  refine g_aload_n B dX12_readPart_4 0 rfl ?_
  refine g_getI (ci := 11) (T0 := TX12) (N := 27) B (by decide) rfl in_11 (k := 10) (by decide) rfl wd_1651 (fun _ h => h) dX12_readPart_5 (fun v_2 => ?_)
  refine g_aload_n B dX12_readPart_8 0 rfl ?_
  refine g_getI (ci := 11) (T0 := TX12) (N := 27) B (by decide) rfl in_11 (k := 12) (by decide) rfl wd_1653 (fun _ h => h) dX12_readPart_9 (fun v_3 => ?_)
  refine g_icmp_ne B 19 dX12_readPart_12 (by decide) ?_ ?_
  · refine g_iconst (v := 1) B dX12_readPart_15 (by decide) ?_
    refine g_goto B 20 dX12_readPart_16 (by decide) ?_
    refine g_sub (lv' := [(0, .ref a0)]) [0] rfl ?_
    exact g12_readPart_J20 B hS9 hr a0 1 q_1
  · refine g_iconst (v := 0) B dX12_readPart_19 (by decide) ?_
    refine g_sub (lv' := [(0, .ref a0)]) [0] rfl ?_
    exact g12_readPart_J20 B hS9 hr a0 0 q_1
theorem c12_readPart (X : gX) (l : Launch) (a0 : Nat) (M : mMem) : Con X l yX12_readPart cX12_readPart 3 (some .boolean) rm12_readPart (fun r9 : (Int32 × mMem) => (some (.int r9.1), r9.2)) [.ref a0] M (p12_readPart a0 M) := g_con (own := RX12) (by decide +kernel) rfl (Nat.le_of_ble_eq_true rfl) (fun p e s m args below meth c B hS9 hr hn => g12_readPart B hS9 hr a0 M)
theorem mf12_readSum : gMF yX12_readSum cX12_readSum 1 (some .boolean) 0 := ⟨wd_1915, wd_13, ⟨by decide, by decide⟩, by decide +kernel⟩
set_option maxRecDepth 20000 in
set_option maxHeartbeats 2000000 in
theorem g12_readSum_L9 {X : gX} {p : Program} {l : Launch} {e : Env} {s : State} {m : MethodId} {args : Array Value} {below : List Frame} {meth : Method} {c : Code} (B : gB X p (rm12_readSum) s m args meth c RX12 cX12_readSum 1 (rm12_readSum)) (hS9 : gS X s) (hr : meth.sig.returnType = some .boolean) : ∀ (n : Nat) (a0 : Nat) (M : mMem), GG X p l e (rm12_readSum) s m args below meth c (gP X below args s 0 0 (fun r9 : (Int32 × mMem) => (some (.int r9.1), r9.2))) 1 0 0 9 [(0, .ref a0)] [] M (p12_readSum_L9 n a0 M) := by
  intro n
  induction n with
  | zero => intro a0 M; exact g_none
  | succ n ih =>
    intro a0 M
    rw [p12_readSum_L9]
    refine g_aload_n B dX12_readSum_9 0 rfl ?_
    refine g_bipush (v := 43) B dX12_readSum_10 (by decide) ?_
    refine g_callV_iw [.int 43] (ci := 11) (T0 := TX12) (N := 27) B hS9 mf12_sign wd_1899 (gw B wp_72) wd_1897 (by decide) rfl (fun h => (gd_ne h).1) (c12_sign X l a0 43 M) (by decide) (by decide) (by decide) rfl (by decide) dX12_readSum_12 rfl (fun q_1 => ?_)
    refine g_if_eq B 37 dX12_readSum_15 (by decide) ?_ ?_
    · refine g_iconst (v := 1) B dX12_readSum_37 (by decide) ?_
      exact g_ireturn B hr rfl (by decide) (by decide) rfl dX12_readSum_38
    · refine g_aload_n B dX12_readSum_18 0 rfl ?_
      refine g_callV_iw [] (ci := 11) (T0 := TX12) (N := 27) B hS9 mf12_readPart wd_1918 (gw B wp_76) wd_1916 (by decide) rfl (fun h => (gd_ne h).1) (c12_readPart X l a0 q_1.2) (by decide) (by decide) (by decide) rfl (by decide) dX12_readSum_19 rfl (fun q_2 => ?_)
      refine g_if_ne B 27 dX12_readSum_22 (by decide) ?_ ?_
      · refine g_iconst (v := 0) B dX12_readSum_25 (by decide) ?_
        exact g_ireturn B hr rfl (by decide) (by decide) rfl dX12_readSum_26
      · refine g_aload_n B dX12_readSum_27 0 rfl ?_
        refine g_bipush (v := 10) B dX12_readSum_28 (by decide) ?_
        refine g_iconst (v := 0) B dX12_readSum_30 (by decide) ?_
        refine g_callV_vw [.int 10, .int 0] (ci := 11) (T0 := TX12) (N := 27) B hS9 mf12_emits wd_1904 (gw B wp_73) wd_1902 (by decide) rfl (fun h => (gd_ne h).1) (c12_emits X l a0 10 0 q_2.2) (by decide) (by decide) (by decide) rfl (by decide) dX12_readSum_31 rfl (fun q_3 => ?_)
        refine g_goto B 9 dX12_readSum_34 (by decide) ?_
        refine g_sub (lv' := [(0, .ref a0)]) [0] rfl ?_
        exact ih a0 q_3
set_option maxRecDepth 20000 in
set_option maxHeartbeats 2000000 in
theorem g12_readSum {X : gX} {p : Program} {l : Launch} {e : Env} {s : State} {m : MethodId} {args : Array Value} {below : List Frame} {meth : Method} {c : Code} (B : gB X p (rm12_readSum) s m args meth c RX12 cX12_readSum 1 (rm12_readSum)) (hS9 : gS X s) (hr : meth.sig.returnType = some .boolean) (a0 : Nat) (M : mMem) : GG X p l e (rm12_readSum) s m args below meth c (gP X below args s 0 0 (fun r9 : (Int32 × mMem) => (some (.int r9.1), r9.2))) 1 0 0 0 [(0, .ref a0)] [] M (p12_readSum a0 M) := by
  unfold p12_readSum
  refine g_gd ?_
  refine g_aload_n B dX12_readSum_0 0 rfl ?_
  refine g_callV_iw [] (ci := 11) (T0 := TX12) (N := 27) B hS9 mf12_readPart wd_1918 (gw B wp_76) wd_1916 (by decide) rfl (fun h => (gd_ne h).1) (c12_readPart X l a0 M) (by decide) (by decide) (by decide) rfl (by decide) dX12_readSum_1 rfl (fun q_1 => ?_)
  refine g_if_ne B 9 dX12_readSum_4 (by decide) ?_ ?_
  · refine g_iconst (v := 0) B dX12_readSum_7 (by decide) ?_
    exact g_ireturn B hr rfl (by decide) (by decide) rfl dX12_readSum_8
  · refine g_sub (lv' := [(0, .ref a0)]) [0] rfl ?_
    exact (g12_readSum_L9 B hS9 hr) gF a0 q_1.2
theorem c12_readSum (X : gX) (l : Launch) (a0 : Nat) (M : mMem) : Con X l yX12_readSum cX12_readSum 1 (some .boolean) rm12_readSum (fun r9 : (Int32 × mMem) => (some (.int r9.1), r9.2)) [.ref a0] M (p12_readSum a0 M) := g_con (own := RX12) (by decide +kernel) rfl (Nat.le_of_ble_eq_true rfl) (fun p e s m args below meth c B hS9 hr hn => g12_readSum B hS9 hr a0 M)
theorem mf12_readTag : gMF yX12_readTag cX12_readTag 2 (some .boolean) 0 := ⟨wd_1909, wd_13, ⟨by decide, by decide⟩, by decide +kernel⟩
set_option maxRecDepth 20000 in
set_option maxHeartbeats 2000000 in
theorem g12_readTag_J78 {X : gX} {p : Program} {l : Launch} {e : Env} {s : State} {m : MethodId} {args : Array Value} {below : List Frame} {meth : Method} {c : Code} (B : gB X p (rm12_readTag) s m args meth c RX12 cX12_readTag 2 (rm12_readTag)) (hS9 : gS X s) (hr : meth.sig.returnType = some .boolean) (u0 : Int32) (M : mMem) : GG X p l e (rm12_readTag) s m args below meth c (gP X below args s 0 0 (fun r9 : (Int32 × mMem) => (some (.int r9.1), r9.2))) 2 0 0 78 [] [.int u0] M (p12_readTag_J78 u0 M) := by
  unfold p12_readTag_J78
  exact g_zreturn (f := fun z => (z, M)) B hr (by decide) (by decide) rfl dX12_readTag_78
set_option maxRecDepth 20000 in
set_option maxHeartbeats 2000000 in
theorem g12_readTag_J69 {X : gX} {p : Program} {l : Launch} {e : Env} {s : State} {m : MethodId} {args : Array Value} {below : List Frame} {meth : Method} {c : Code} (B : gB X p (rm12_readTag) s m args meth c RX12 cX12_readTag 2 (rm12_readTag)) (hS9 : gS X s) (hr : meth.sig.returnType = some .boolean) (x1 : Int32) (M : mMem) : GG X p l e (rm12_readTag) s m args below meth c (gP X below args s 0 0 (fun r9 : (Int32 × mMem) => (some (.int r9.1), r9.2))) 2 0 0 69 [(1, .int x1)] [] M (p12_readTag_J69 x1 M) := by
  unfold p12_readTag_J69
  refine g_iload_n B dX12_readTag_69 0 rfl ?_
  refine g_if_lt B 77 dX12_readTag_70 (by decide) ?_ ?_
  · refine g_iconst (v := 0) B dX12_readTag_77 (by decide) ?_
    refine g_sub (lv' := []) [] rfl ?_
    exact g12_readTag_J78 B hS9 hr 0 M
  · refine g_iconst (v := 1) B dX12_readTag_73 (by decide) ?_
    refine g_goto B 78 dX12_readTag_74 (by decide) ?_
    refine g_sub (lv' := []) [] rfl ?_
    exact g12_readTag_J78 B hS9 hr 1 M
set_option maxRecDepth 20000 in
set_option maxHeartbeats 2000000 in
theorem g12_readTag_J47 {X : gX} {p : Program} {l : Launch} {e : Env} {s : State} {m : MethodId} {args : Array Value} {below : List Frame} {meth : Method} {c : Code} (B : gB X p (rm12_readTag) s m args meth c RX12 cX12_readTag 2 (rm12_readTag)) (hS9 : gS X s) (hr : meth.sig.returnType = some .boolean) (a0 : Nat) (u0 : Int32) (M : mMem) : GG X p l e (rm12_readTag) s m args below meth c (gP X below args s 0 0 (fun r9 : (Int32 × mMem) => (some (.int r9.1), r9.2))) 2 0 0 47 [(0, .ref a0)] [.int u0] M (p12_readTag_J47 a0 u0 M) := by
  unfold p12_readTag_J47
  refine g_istore_n (lv' := [(1, .int u0), (0, .ref a0)]) B dX12_readTag_47 (by decide) [0, 1] rfl ?_
  refine g_iload_n B dX12_readTag_48 0 rfl ?_
  refine g_if_lt B 61 dX12_readTag_49 (by decide) ?_ ?_
  · refine g_aload_n B dX12_readTag_61 1 rfl ?_
    refine g_aload_n B dX12_readTag_62 1 rfl ?_
    refine g_getI (ci := 11) (T0 := TX12) (N := 27) B (by decide) rfl in_11 (k := 12) (by decide) rfl wd_1653 (fun _ h => h) dX12_readTag_63 (fun v_1 => ?_)
    refine g_putI (ci := 11) (T0 := TX12) (N := 27) B (by decide) rfl in_11 tyX12 tyX12_ok nmX12 (k := 10) (by decide) wd_1651 (fun _ h => h) rfl rfl (ty := .int) (by decide +kernel) rfl rfl dX12_readTag_66 (fun M_2 => ?_)
    refine g_sub (lv' := [(1, .int u0)]) [0] rfl ?_
    exact g12_readTag_J69 B hS9 hr u0 M_2
  · refine g_aload_n B dX12_readTag_52 1 rfl ?_
    refine g_iload_n B dX12_readTag_53 0 rfl ?_
    refine g_iconst (v := 0) B dX12_readTag_54 (by decide) ?_
    refine g_callV_vw [.int u0, .int 0] (ci := 11) (T0 := TX12) (N := 27) B hS9 mf12_emits wd_1904 (gw B wp_73) wd_1902 (by decide) rfl (fun h => (gd_ne h).1) (c12_emits X l a0 u0 0 M) (by decide) (by decide) (by decide) rfl (by decide) dX12_readTag_55 rfl (fun q_3 => ?_)
    refine g_goto B 69 dX12_readTag_58 (by decide) ?_
    refine g_sub (lv' := [(1, .int u0)]) [0] rfl ?_
    exact g12_readTag_J69 B hS9 hr u0 q_3
set_option maxRecDepth 20000 in
set_option maxHeartbeats 2000000 in
theorem g12_readTag {X : gX} {p : Program} {l : Launch} {e : Env} {s : State} {m : MethodId} {args : Array Value} {below : List Frame} {meth : Method} {c : Code} (B : gB X p (rm12_readTag) s m args meth c RX12 cX12_readTag 2 (rm12_readTag)) (hS9 : gS X s) (hr : meth.sig.returnType = some .boolean) (a0 : Nat) (M : mMem) : GG X p l e (rm12_readTag) s m args below meth c (gP X below args s 0 0 (fun r9 : (Int32 × mMem) => (some (.int r9.1), r9.2))) 2 0 0 0 [(0, .ref a0)] [] M (p12_readTag a0 M) := by
  unfold p12_readTag
  refine g_gd ?_
  refine g_aload_n B dX12_readTag_0 0 rfl ?_
  refine g_callV_vw [] (ci := 11) (T0 := TX12) (N := 27) B hS9 mf12_letters wd_1774 (gw B wp_47) wd_1772 (by decide) rfl (fun h => (gd_ne h).1) (c12_letters X l a0 M) (by decide) (by decide) (by decide) rfl (by decide) dX12_readTag_1 rfl (fun q_1 => ?_)
  refine g_aload_n B dX12_readTag_4 0 rfl ?_
  refine g_ldcS (i := 9) B hS9 dX12_readTag_5 (List.mem_of_getElem? (i := 36) rfl) ?_
  refine g_callV_ip [.ref (X.2.2.2.1 9)] (ci := 11) (T0 := TX12) (N := 27) B hS9 mf12_isWord wd_1783 (gw B wp_49) wd_1781 (by decide) rfl (fun h => (gd_ne h).1) (c12_isWord X l a0 9 q_1) (by decide) (by decide) (by decide) rfl (by decide) dX12_readTag_7 rfl (fun v_2 => ?_)
  refine g_if_eq B 18 dX12_readTag_10 (by decide) ?_ ?_
  · refine g_aload_n B dX12_readTag_18 0 rfl ?_
    refine g_ldcS (i := 21) B hS9 dX12_readTag_19 (List.mem_of_getElem? (i := 46) rfl) ?_
    refine g_callV_ip [.ref (X.2.2.2.1 21)] (ci := 11) (T0 := TX12) (N := 27) B hS9 mf12_isWord wd_1783 (gw B wp_49) wd_1781 (by decide) rfl (fun h => (gd_ne h).1) (c12_isWord X l a0 21 q_1) (by decide) (by decide) (by decide) rfl (by decide) dX12_readTag_21 rfl (fun v_3 => ?_)
    refine g_if_eq B 32 dX12_readTag_24 (by decide) ?_ ?_
    · refine g_aload_n B dX12_readTag_32 0 rfl ?_
      refine g_ldcS (i := 22) B hS9 dX12_readTag_33 (List.mem_of_getElem? (i := 47) rfl) ?_
      refine g_callV_ip [.ref (X.2.2.2.1 22)] (ci := 11) (T0 := TX12) (N := 27) B hS9 mf12_isWord wd_1783 (gw B wp_49) wd_1781 (by decide) rfl (fun h => (gd_ne h).1) (c12_isWord X l a0 22 q_1) (by decide) (by decide) (by decide) rfl (by decide) dX12_readTag_35 rfl (fun v_4 => ?_)
      refine g_if_eq B 46 dX12_readTag_38 (by decide) ?_ ?_
      · refine g_iconst (v := (-1)) B dX12_readTag_46 (by decide) ?_
        refine g_sub (lv' := [(0, .ref a0)]) [0] rfl ?_
        exact g12_readTag_J47 B hS9 hr a0 (-1) q_1
      · refine g_bipush (v := 8) B dX12_readTag_41 (by decide) ?_
        refine g_goto B 47 dX12_readTag_43 (by decide) ?_
        refine g_sub (lv' := [(0, .ref a0)]) [0] rfl ?_
        exact g12_readTag_J47 B hS9 hr a0 8 q_1
    · refine g_bipush (v := 7) B dX12_readTag_27 (by decide) ?_
      refine g_goto B 47 dX12_readTag_29 (by decide) ?_
      refine g_sub (lv' := [(0, .ref a0)]) [0] rfl ?_
      exact g12_readTag_J47 B hS9 hr a0 7 q_1
  · refine g_bipush (v := 6) B dX12_readTag_13 (by decide) ?_
    refine g_goto B 47 dX12_readTag_15 (by decide) ?_
    refine g_sub (lv' := [(0, .ref a0)]) [0] rfl ?_
    exact g12_readTag_J47 B hS9 hr a0 6 q_1
theorem c12_readTag (X : gX) (l : Launch) (a0 : Nat) (M : mMem) : Con X l yX12_readTag cX12_readTag 2 (some .boolean) rm12_readTag (fun r9 : (Int32 × mMem) => (some (.int r9.1), r9.2)) [.ref a0] M (p12_readTag a0 M) := g_con (own := RX12) (by decide +kernel) rfl (Nat.le_of_ble_eq_true rfl) (fun p e s m args below meth c B hS9 hr hn => g12_readTag B hS9 hr a0 M)
theorem mf12_readAllOf : gMF yX12_readAllOf cX12_readAllOf 1 (some .boolean) 0 := ⟨wd_1892, wd_13, ⟨by decide, by decide⟩, by decide +kernel⟩
theorem mf12_readCond : gMF yX12_readCond cX12_readCond 1 (some .boolean) 0 := ⟨wd_1888, wd_13, ⟨by decide, by decide⟩, by decide +kernel⟩
theorem mf12_readAtom : gMF yX12_readAtom cX12_readAtom 2 (some .boolean) 0 := ⟨wd_1896, wd_13, ⟨by decide, by decide⟩, by decide +kernel⟩
set_option maxRecDepth 20000 in
set_option maxHeartbeats 2000000 in
theorem g12_readAllOf_L9 {X : gX} {p : Program} {l : Launch} {e : Env} {s : State} {m : MethodId} {args : Array Value} {below : List Frame} {meth : Method} {c : Code} (d : Nat) (B : gB X p (rmG3 (d + 1)) s m args meth c RX12 cX12_readAllOf 1 (rmG3 (d + 1))) (hS9 : gS X s) (hr : meth.sig.returnType = some .boolean) (f_12_readAtom : Nat → mMem → Option (Int32 × mMem)) (hf_12_readAtom : ∀ (a0 : Nat) (M : mMem), Con X l yX12_readAtom cX12_readAtom 2 (some .boolean) (rmG3 d) (fun r9 : (Int32 × mMem) => (some (.int r9.1), r9.2)) [.ref a0] M (f_12_readAtom a0 M)) (hk_12_readAtom : ∀ (a0 : Nat) (M : mMem), f_12_readAtom a0 M ≠ none → mK M a0 = 12) : ∀ (n : Nat) (a0 : Nat) (M : mMem), GG X p l e (rmG3 (d + 1)) s m args below meth c (gP X below args s 0 0 (fun r9 : (Int32 × mMem) => (some (.int r9.1), r9.2))) 1 0 0 9 [(0, .ref a0)] [] M (p12_readAllOf_L9 f_12_readAtom n a0 M) := by
  intro n
  induction n with
  | zero => intro a0 M; exact g_none
  | succ n ih =>
    intro a0 M
    rw [p12_readAllOf_L9]
    refine g_aload_n B dX12_readAllOf_9 0 rfl ?_
    refine g_ldc_wS (i := 19) B hS9 dX12_readAllOf_10 (List.mem_of_getElem? (i := 52) rfl) ?_
    refine g_callV_iw [.ref (X.2.2.2.1 19)] (ci := 11) (T0 := TX12) (N := 27) B hS9 mf12_passes wd_1813 (gw B wp_55) wd_1811 (by decide) rfl (fun h => (gd_ne h).1) (c12_passes X l a0 19 M) (by simp only [rmG3, rm12_passes]; omega) (by simp only [rmG3, rm12_passes]; omega) ⟨Nat.le_refl 0, Nat.le_refl 0⟩ rfl (by decide) dX12_readAllOf_13 rfl (fun q_1 => ?_)
    refine g_if_eq B 38 dX12_readAllOf_16 (by decide) ?_ ?_
    · refine g_iconst (v := 1) B dX12_readAllOf_38 (by decide) ?_
      exact g_ireturn B hr rfl (Nat.le_refl 0) (Nat.le_refl 0) rfl dX12_readAllOf_39
    · refine g_aload_n B dX12_readAllOf_19 0 rfl ?_
      refine g_callV_iw [] (ci := 11) (T0 := TX12) (N := 27) B hS9 mf12_readAtom wd_1895 (gw B wp_71) wd_1893 (by decide) rfl (hk_12_readAtom a0 q_1.2) (hf_12_readAtom a0 q_1.2) (by simp only [rmG3]; omega) (by simp only [rmG3]; omega) ⟨Nat.le_refl 0, Nat.le_refl 0⟩ rfl (by decide) dX12_readAllOf_20 rfl (fun q_2 => ?_)
      refine g_if_ne B 28 dX12_readAllOf_23 (by decide) ?_ ?_
      · refine g_iconst (v := 0) B dX12_readAllOf_26 (by decide) ?_
        exact g_ireturn B hr rfl (Nat.le_refl 0) (Nat.le_refl 0) rfl dX12_readAllOf_27
      · refine g_aload_n B dX12_readAllOf_28 0 rfl ?_
        refine g_bipush (v := 14) B dX12_readAllOf_29 (by decide) ?_
        refine g_iconst (v := 0) B dX12_readAllOf_31 (by decide) ?_
        refine g_callV_vw [.int 14, .int 0] (ci := 11) (T0 := TX12) (N := 27) B hS9 mf12_emits wd_1904 (gw B wp_73) wd_1902 (by decide) rfl (fun h => (gd_ne h).1) (c12_emits X l a0 14 0 q_2.2) (by simp only [rmG3, rm12_emits]; omega) (by simp only [rmG3, rm12_emits]; omega) ⟨Nat.le_refl 0, Nat.le_refl 0⟩ rfl (by decide) dX12_readAllOf_32 rfl (fun q_3 => ?_)
        refine g_goto B 9 dX12_readAllOf_35 (by decide) ?_
        refine g_sub (lv' := [(0, .ref a0)]) [0] rfl ?_
        exact ih a0 q_3
set_option maxRecDepth 20000 in
set_option maxHeartbeats 2000000 in
theorem g12_readAllOf_B {X : gX} {p : Program} {l : Launch} {e : Env} {s : State} {m : MethodId} {args : Array Value} {below : List Frame} {meth : Method} {c : Code} (d : Nat) (B : gB X p (rmG3 (d + 1)) s m args meth c RX12 cX12_readAllOf 1 (rmG3 (d + 1))) (hS9 : gS X s) (hr : meth.sig.returnType = some .boolean) (f_12_readAtom : Nat → mMem → Option (Int32 × mMem)) (hf_12_readAtom : ∀ (a0 : Nat) (M : mMem), Con X l yX12_readAtom cX12_readAtom 2 (some .boolean) (rmG3 d) (fun r9 : (Int32 × mMem) => (some (.int r9.1), r9.2)) [.ref a0] M (f_12_readAtom a0 M)) (hk_12_readAtom : ∀ (a0 : Nat) (M : mMem), f_12_readAtom a0 M ≠ none → mK M a0 = 12) (a0 : Nat) (M : mMem) : GG X p l e (rmG3 (d + 1)) s m args below meth c (gP X below args s 0 0 (fun r9 : (Int32 × mMem) => (some (.int r9.1), r9.2))) 1 0 0 0 [(0, .ref a0)] [] M (p12_readAllOf_B f_12_readAtom a0 M) := by
  unfold p12_readAllOf_B
  refine g_gd ?_
  refine g_aload_n B dX12_readAllOf_0 0 rfl ?_
  refine g_callV_iw [] (ci := 11) (T0 := TX12) (N := 27) B hS9 mf12_readAtom wd_1895 (gw B wp_71) wd_1893 (by decide) rfl (hk_12_readAtom a0 M) (hf_12_readAtom a0 M) (by simp only [rmG3]; omega) (by simp only [rmG3]; omega) ⟨Nat.le_refl 0, Nat.le_refl 0⟩ rfl (by decide) dX12_readAllOf_1 rfl (fun q_1 => ?_)
  refine g_if_ne B 9 dX12_readAllOf_4 (by decide) ?_ ?_
  · refine g_iconst (v := 0) B dX12_readAllOf_7 (by decide) ?_
    exact g_ireturn B hr rfl (Nat.le_refl 0) (Nat.le_refl 0) rfl dX12_readAllOf_8
  · refine g_sub (lv' := [(0, .ref a0)]) [0] rfl ?_
    exact (g12_readAllOf_L9 d B hS9 hr f_12_readAtom hf_12_readAtom hk_12_readAtom) gF a0 q_1.2
set_option maxRecDepth 20000 in
set_option maxHeartbeats 2000000 in
theorem g12_readCond_L9 {X : gX} {p : Program} {l : Launch} {e : Env} {s : State} {m : MethodId} {args : Array Value} {below : List Frame} {meth : Method} {c : Code} (d : Nat) (B : gB X p (rmG3 (d + 1)) s m args meth c RX12 cX12_readCond 1 (rmG3 (d + 1))) (hS9 : gS X s) (hr : meth.sig.returnType = some .boolean) (f_12_readAllOf : Nat → mMem → Option (Int32 × mMem)) (hf_12_readAllOf : ∀ (a0 : Nat) (M : mMem), Con X l yX12_readAllOf cX12_readAllOf 1 (some .boolean) (rmG3 d) (fun r9 : (Int32 × mMem) => (some (.int r9.1), r9.2)) [.ref a0] M (f_12_readAllOf a0 M)) (hk_12_readAllOf : ∀ (a0 : Nat) (M : mMem), f_12_readAllOf a0 M ≠ none → mK M a0 = 12) : ∀ (n : Nat) (a0 : Nat) (M : mMem), GG X p l e (rmG3 (d + 1)) s m args below meth c (gP X below args s 0 0 (fun r9 : (Int32 × mMem) => (some (.int r9.1), r9.2))) 1 0 0 9 [(0, .ref a0)] [] M (p12_readCond_L9 f_12_readAllOf n a0 M) := by
  intro n
  induction n with
  | zero => intro a0 M; exact g_none
  | succ n ih =>
    intro a0 M
    rw [p12_readCond_L9]
    refine g_aload_n B dX12_readCond_9 0 rfl ?_
    refine g_ldc_wS (i := 18) B hS9 dX12_readCond_10 (List.mem_of_getElem? (i := 53) rfl) ?_
    refine g_callV_iw [.ref (X.2.2.2.1 18)] (ci := 11) (T0 := TX12) (N := 27) B hS9 mf12_passes wd_1813 (gw B wp_55) wd_1811 (by decide) rfl (fun h => (gd_ne h).1) (c12_passes X l a0 18 M) (by simp only [rmG3, rm12_passes]; omega) (by simp only [rmG3, rm12_passes]; omega) ⟨Nat.le_refl 0, Nat.le_refl 0⟩ rfl (by decide) dX12_readCond_13 rfl (fun q_1 => ?_)
    refine g_if_eq B 38 dX12_readCond_16 (by decide) ?_ ?_
    · refine g_iconst (v := 1) B dX12_readCond_38 (by decide) ?_
      exact g_ireturn B hr rfl (Nat.le_refl 0) (Nat.le_refl 0) rfl dX12_readCond_39
    · refine g_aload_n B dX12_readCond_19 0 rfl ?_
      refine g_callV_iw [] (ci := 11) (T0 := TX12) (N := 27) B hS9 mf12_readAllOf wd_1891 (gw B wp_70) wd_1889 (by decide) rfl (hk_12_readAllOf a0 q_1.2) (hf_12_readAllOf a0 q_1.2) (by simp only [rmG3]; omega) (by simp only [rmG3]; omega) ⟨Nat.le_refl 0, Nat.le_refl 0⟩ rfl (by decide) dX12_readCond_20 rfl (fun q_2 => ?_)
      refine g_if_ne B 28 dX12_readCond_23 (by decide) ?_ ?_
      · refine g_iconst (v := 0) B dX12_readCond_26 (by decide) ?_
        exact g_ireturn B hr rfl (Nat.le_refl 0) (Nat.le_refl 0) rfl dX12_readCond_27
      · refine g_aload_n B dX12_readCond_28 0 rfl ?_
        refine g_bipush (v := 15) B dX12_readCond_29 (by decide) ?_
        refine g_iconst (v := 0) B dX12_readCond_31 (by decide) ?_
        refine g_callV_vw [.int 15, .int 0] (ci := 11) (T0 := TX12) (N := 27) B hS9 mf12_emits wd_1904 (gw B wp_73) wd_1902 (by decide) rfl (fun h => (gd_ne h).1) (c12_emits X l a0 15 0 q_2.2) (by simp only [rmG3, rm12_emits]; omega) (by simp only [rmG3, rm12_emits]; omega) ⟨Nat.le_refl 0, Nat.le_refl 0⟩ rfl (by decide) dX12_readCond_32 rfl (fun q_3 => ?_)
        refine g_goto B 9 dX12_readCond_35 (by decide) ?_
        refine g_sub (lv' := [(0, .ref a0)]) [0] rfl ?_
        exact ih a0 q_3
set_option maxRecDepth 20000 in
set_option maxHeartbeats 2000000 in
theorem g12_readCond_B {X : gX} {p : Program} {l : Launch} {e : Env} {s : State} {m : MethodId} {args : Array Value} {below : List Frame} {meth : Method} {c : Code} (d : Nat) (B : gB X p (rmG3 (d + 1)) s m args meth c RX12 cX12_readCond 1 (rmG3 (d + 1))) (hS9 : gS X s) (hr : meth.sig.returnType = some .boolean) (f_12_readAllOf : Nat → mMem → Option (Int32 × mMem)) (hf_12_readAllOf : ∀ (a0 : Nat) (M : mMem), Con X l yX12_readAllOf cX12_readAllOf 1 (some .boolean) (rmG3 d) (fun r9 : (Int32 × mMem) => (some (.int r9.1), r9.2)) [.ref a0] M (f_12_readAllOf a0 M)) (hk_12_readAllOf : ∀ (a0 : Nat) (M : mMem), f_12_readAllOf a0 M ≠ none → mK M a0 = 12) (a0 : Nat) (M : mMem) : GG X p l e (rmG3 (d + 1)) s m args below meth c (gP X below args s 0 0 (fun r9 : (Int32 × mMem) => (some (.int r9.1), r9.2))) 1 0 0 0 [(0, .ref a0)] [] M (p12_readCond_B f_12_readAllOf a0 M) := by
  unfold p12_readCond_B
  refine g_gd ?_
  refine g_aload_n B dX12_readCond_0 0 rfl ?_
  refine g_callV_iw [] (ci := 11) (T0 := TX12) (N := 27) B hS9 mf12_readAllOf wd_1891 (gw B wp_70) wd_1889 (by decide) rfl (hk_12_readAllOf a0 M) (hf_12_readAllOf a0 M) (by simp only [rmG3]; omega) (by simp only [rmG3]; omega) ⟨Nat.le_refl 0, Nat.le_refl 0⟩ rfl (by decide) dX12_readCond_1 rfl (fun q_1 => ?_)
  refine g_if_ne B 9 dX12_readCond_4 (by decide) ?_ ?_
  · refine g_iconst (v := 0) B dX12_readCond_7 (by decide) ?_
    exact g_ireturn B hr rfl (Nat.le_refl 0) (Nat.le_refl 0) rfl dX12_readCond_8
  · refine g_sub (lv' := [(0, .ref a0)]) [0] rfl ?_
    exact (g12_readCond_L9 d B hS9 hr f_12_readAllOf hf_12_readAllOf hk_12_readAllOf) gF a0 q_1.2
set_option maxRecDepth 20000 in
set_option maxHeartbeats 2000000 in
theorem g12_readAtom_J173 {X : gX} {p : Program} {l : Launch} {e : Env} {s : State} {m : MethodId} {args : Array Value} {below : List Frame} {meth : Method} {c : Code} (d : Nat) (B : gB X p (rmG3 (d + 1)) s m args meth c RX12 cX12_readAtom 2 (rmG3 (d + 1))) (hS9 : gS X s) (hr : meth.sig.returnType = some .boolean) (b0 : Nat) (u1 : Int32) (M : mMem) : GG X p l e (rmG3 (d + 1)) s m args below meth c (gP X below args s 0 0 (fun r9 : (Int32 × mMem) => (some (.int r9.1), r9.2))) 2 0 0 173 [] [.int u1, .ref b0] M (p12_readAtom_J173 b0 u1 M) := by
  unfold p12_readAtom_J173
  refine g_iconst (v := 0) B dX12_readAtom_173 (by decide) ?_
  refine g_callV_vw [.int u1, .int 0] (ci := 11) (T0 := TX12) (N := 27) B hS9 mf12_emits wd_1904 (gw B wp_73) wd_1902 (by decide) rfl (fun h => (gd_ne h).1) (c12_emits X l b0 u1 0 M) (by simp only [rmG3, rm12_emits]; omega) (by simp only [rmG3, rm12_emits]; omega) ⟨Nat.le_refl 0, Nat.le_refl 0⟩ rfl (by decide) dX12_readAtom_174 rfl (fun q_1 => ?_)
  refine g_iconst (v := 1) B dX12_readAtom_177 (by decide) ?_
  exact g_ireturn B hr rfl (Nat.le_refl 0) (Nat.le_refl 0) rfl dX12_readAtom_178
set_option maxRecDepth 20000 in
set_option maxHeartbeats 2000000 in
theorem g12_readAtom_J159 {X : gX} {p : Program} {l : Launch} {e : Env} {s : State} {m : MethodId} {args : Array Value} {below : List Frame} {meth : Method} {c : Code} (d : Nat) (B : gB X p (rmG3 (d + 1)) s m args meth c RX12 cX12_readAtom 2 (rmG3 (d + 1))) (hS9 : gS X s) (hr : meth.sig.returnType = some .boolean) (M : mMem) : GG X p l e (rmG3 (d + 1)) s m args below meth c (gP X below args s 0 0 (fun r9 : (Int32 × mMem) => (some (.int r9.1), r9.2))) 2 0 0 159 [] [] M (p12_readAtom_J159 M) := by
  unfold p12_readAtom_J159
  refine g_iconst (v := 0) B dX12_readAtom_159 (by decide) ?_
  exact g_ireturn B hr rfl (Nat.le_refl 0) (Nat.le_refl 0) rfl dX12_readAtom_160
set_option maxRecDepth 20000 in
set_option maxHeartbeats 2000000 in
theorem g12_readAtom_J152 {X : gX} {p : Program} {l : Launch} {e : Env} {s : State} {m : MethodId} {args : Array Value} {below : List Frame} {meth : Method} {c : Code} (d : Nat) (B : gB X p (rmG3 (d + 1)) s m args meth c RX12 cX12_readAtom 2 (rmG3 (d + 1))) (hS9 : gS X s) (hr : meth.sig.returnType = some .boolean) (a0 : Nat) (x1 : Int32) (M : mMem) : GG X p l e (rmG3 (d + 1)) s m args below meth c (gP X below args s 0 0 (fun r9 : (Int32 × mMem) => (some (.int r9.1), r9.2))) 2 0 0 152 [(0, .ref a0), (1, .int x1)] [] M (p12_readAtom_J152 a0 x1 M) := by
  unfold p12_readAtom_J152
  refine g_aload_n B dX12_readAtom_152 0 rfl ?_
  refine g_callV_iw [] (ci := 11) (T0 := TX12) (N := 27) B hS9 mf12_readSum wd_1914 (gw B wp_75) wd_1912 (by decide) rfl (fun h => (gd_ne h).1) (c12_readSum X l a0 M) (by simp only [rmG3, rm12_readSum]; omega) (by simp only [rmG3, rm12_readSum]; omega) ⟨Nat.le_refl 0, Nat.le_refl 0⟩ rfl (by decide) dX12_readAtom_153 rfl (fun q_1 => ?_)
  refine g_if_ne B 161 dX12_readAtom_156 (by decide) ?_ ?_
  · refine g_sub (lv' := []) [] rfl ?_
    exact g12_readAtom_J159 d B hS9 hr q_1.2
  · refine g_aload_n B dX12_readAtom_161 0 rfl ?_
    refine g_iload_n B dX12_readAtom_162 1 rfl ?_
    refine g_if_eq B 171 dX12_readAtom_163 (by decide) ?_ ?_
    · refine g_bipush (v := 12) B dX12_readAtom_171 (by decide) ?_
      refine g_sub (lv' := []) [] rfl ?_
      exact g12_readAtom_J173 d B hS9 hr a0 12 q_1.2
    · refine g_bipush (v := 11) B dX12_readAtom_166 (by decide) ?_
      refine g_goto B 173 dX12_readAtom_168 (by decide) ?_
      refine g_sub (lv' := []) [] rfl ?_
      exact g12_readAtom_J173 d B hS9 hr a0 11 q_1.2
set_option maxRecDepth 20000 in
set_option maxHeartbeats 2000000 in
theorem g12_readAtom_B {X : gX} {p : Program} {l : Launch} {e : Env} {s : State} {m : MethodId} {args : Array Value} {below : List Frame} {meth : Method} {c : Code} (d : Nat) (B : gB X p (rmG3 (d + 1)) s m args meth c RX12 cX12_readAtom 2 (rmG3 (d + 1))) (hS9 : gS X s) (hr : meth.sig.returnType = some .boolean) (f_12_readAtom : Nat → mMem → Option (Int32 × mMem)) (hf_12_readAtom : ∀ (a0 : Nat) (M : mMem), Con X l yX12_readAtom cX12_readAtom 2 (some .boolean) (rmG3 d) (fun r9 : (Int32 × mMem) => (some (.int r9.1), r9.2)) [.ref a0] M (f_12_readAtom a0 M)) (hk_12_readAtom : ∀ (a0 : Nat) (M : mMem), f_12_readAtom a0 M ≠ none → mK M a0 = 12) (f_12_readCond : Nat → mMem → Option (Int32 × mMem)) (hf_12_readCond : ∀ (a0 : Nat) (M : mMem), Con X l yX12_readCond cX12_readCond 1 (some .boolean) (rmG3 d) (fun r9 : (Int32 × mMem) => (some (.int r9.1), r9.2)) [.ref a0] M (f_12_readCond a0 M)) (hk_12_readCond : ∀ (a0 : Nat) (M : mMem), f_12_readCond a0 M ≠ none → mK M a0 = 12) (a0 : Nat) (M : mMem) : GG X p l e (rmG3 (d + 1)) s m args below meth c (gP X below args s 0 0 (fun r9 : (Int32 × mMem) => (some (.int r9.1), r9.2))) 2 0 0 0 [(0, .ref a0)] [] M (p12_readAtom_B f_12_readAtom f_12_readCond a0 M) := by
  unfold p12_readAtom_B
  refine g_gd ?_
  refine g_aload_n B dX12_readAtom_0 0 rfl ?_
  refine g_bipush (v := 40) B dX12_readAtom_1 (by decide) ?_
  refine g_callV_iw [.int 40] (ci := 11) (T0 := TX12) (N := 27) B hS9 mf12_sign wd_1899 (gw B wp_72) wd_1897 (by decide) rfl (fun h => (gd_ne h).1) (c12_sign X l a0 40 M) (by simp only [rmG3, rm12_sign]; omega) (by simp only [rmG3, rm12_sign]; omega) ⟨Nat.le_refl 0, Nat.le_refl 0⟩ rfl (by decide) dX12_readAtom_3 rfl (fun q_1 => ?_)
  refine g_if_eq B 56 dX12_readAtom_6 (by decide) ?_ ?_
  · refine g_aload_n B dX12_readAtom_56 0 rfl ?_
    refine g_ldcS (i := 20) B hS9 dX12_readAtom_57 (List.mem_of_getElem? (i := 45) rfl) ?_
    refine g_callV_iw [.ref (X.2.2.2.1 20)] (ci := 11) (T0 := TX12) (N := 27) B hS9 mf12_passes wd_1813 (gw B wp_55) wd_1811 (by decide) rfl (fun h => (gd_ne h).1) (c12_passes X l a0 20 q_1.2) (by simp only [rmG3, rm12_passes]; omega) (by simp only [rmG3, rm12_passes]; omega) ⟨Nat.le_refl 0, Nat.le_refl 0⟩ rfl (by decide) dX12_readAtom_59 rfl (fun q_2 => ?_)
    refine g_if_eq B 114 dX12_readAtom_62 (by decide) ?_ ?_
    · refine g_aload_n B dX12_readAtom_114 0 rfl ?_
      refine g_callV_iw [] (ci := 11) (T0 := TX12) (N := 27) B hS9 mf12_readTag wd_1908 (gw B wp_74) wd_1906 (by decide) rfl (fun h => (gd_ne h).1) (c12_readTag X l a0 q_2.2) (by simp only [rmG3, rm12_readTag]; omega) (by simp only [rmG3, rm12_readTag]; omega) ⟨Nat.le_refl 0, Nat.le_refl 0⟩ rfl (by decide) dX12_readAtom_115 rfl (fun q_3 => ?_)
      refine g_if_eq B 123 dX12_readAtom_118 (by decide) ?_ ?_
      · refine g_aload_n B dX12_readAtom_123 0 rfl ?_
        refine g_callV_iw [] (ci := 11) (T0 := TX12) (N := 27) B hS9 mf12_readSum wd_1914 (gw B wp_75) wd_1912 (by decide) rfl (fun h => (gd_ne h).1) (c12_readSum X l a0 q_3.2) (by simp only [rmG3, rm12_readSum]; omega) (by simp only [rmG3, rm12_readSum]; omega) ⟨Nat.le_refl 0, Nat.le_refl 0⟩ rfl (by decide) dX12_readAtom_124 rfl (fun q_4 => ?_)
        refine g_if_ne B 132 dX12_readAtom_127 (by decide) ?_ ?_
        · refine g_iconst (v := 0) B dX12_readAtom_130 (by decide) ?_
          exact g_ireturn B hr rfl (Nat.le_refl 0) (Nat.le_refl 0) rfl dX12_readAtom_131
        · refine g_aload_n B dX12_readAtom_132 0 rfl ?_
          refine g_bipush (v := 60) B dX12_readAtom_133 (by decide) ?_
          refine g_callV_iw [.int 60] (ci := 11) (T0 := TX12) (N := 27) B hS9 mf12_sign wd_1899 (gw B wp_72) wd_1897 (by decide) rfl (fun h => (gd_ne h).1) (c12_sign X l a0 60 q_4.2) (by simp only [rmG3, rm12_sign]; omega) (by simp only [rmG3, rm12_sign]; omega) ⟨Nat.le_refl 0, Nat.le_refl 0⟩ rfl (by decide) dX12_readAtom_135 rfl (fun q_5 => ?_)
          refine g_istore_n (lv' := [(1, .int q_5.1), (0, .ref a0)]) B dX12_readAtom_138 (by decide) [0, 1] rfl ?_
          refine g_iload_n B dX12_readAtom_139 0 rfl ?_
          refine g_if_ne B 152 dX12_readAtom_140 (by decide) ?_ ?_
          · refine g_aload_n B dX12_readAtom_143 1 rfl ?_
            refine g_bipush (v := 62) B dX12_readAtom_144 (by decide) ?_
            refine g_callV_iw [.int 62] (ci := 11) (T0 := TX12) (N := 27) B hS9 mf12_sign wd_1899 (gw B wp_72) wd_1897 (by decide) rfl (fun h => (gd_ne h).1) (c12_sign X l a0 62 q_5.2) (by simp only [rmG3, rm12_sign]; omega) (by simp only [rmG3, rm12_sign]; omega) ⟨Nat.le_refl 0, Nat.le_refl 0⟩ rfl (by decide) dX12_readAtom_146 rfl (fun q_6 => ?_)
            refine g_if_eq B 159 dX12_readAtom_149 (by decide) ?_ ?_
            · refine g_sub (lv' := []) [] rfl ?_
              exact g12_readAtom_J159 d B hS9 hr q_6.2
            · refine g_sub (lv' := [(0, .ref a0), (1, .int q_5.1)]) [1, 0] rfl ?_
              exact g12_readAtom_J152 d B hS9 hr a0 q_5.1 q_6.2
          · refine g_sub (lv' := [(0, .ref a0), (1, .int q_5.1)]) [1, 0] rfl ?_
            exact g12_readAtom_J152 d B hS9 hr a0 q_5.1 q_5.2
      · refine g_iconst (v := 1) B dX12_readAtom_121 (by decide) ?_
        exact g_ireturn B hr rfl (Nat.le_refl 0) (Nat.le_refl 0) rfl dX12_readAtom_122
    · refine g_aload_n B dX12_readAtom_65 0 rfl ?_
      refine g_getI (ci := 11) (T0 := TX12) (N := 27) B (by decide) rfl in_11 (k := 13) (by decide) rfl wd_1654 (fun _ h => h) dX12_readAtom_66 (fun v_7 => ?_)
      refine g_bipush (v := 6) B dX12_readAtom_69 (by decide) ?_
      refine g_icmp_ne B 76 dX12_readAtom_71 (by decide) ?_ ?_
      · refine g_iconst (v := 0) B dX12_readAtom_74 (by decide) ?_
        exact g_ireturn B hr rfl (Nat.le_refl 0) (Nat.le_refl 0) rfl dX12_readAtom_75
      · refine g_aload_n B dX12_readAtom_76 0 rfl ?_
        refine g_dup B dX12_readAtom_77 rfl ?_
        refine g_getI (ci := 11) (T0 := TX12) (N := 27) B (by decide) rfl in_11 (k := 13) (by decide) rfl wd_1654 (fun _ h => h) dX12_readAtom_78 (fun v_8 => ?_)
        refine g_iconst (v := 1) B dX12_readAtom_81 (by decide) ?_
        refine g_iadd B dX12_readAtom_82 ?_
        refine g_putI (ci := 11) (T0 := TX12) (N := 27) B (by decide) rfl in_11 tyX12 tyX12_ok nmX12 (k := 13) (by decide) wd_1654 (fun _ h => h) rfl rfl (ty := .int) (by decide +kernel) rfl rfl dX12_readAtom_83 (fun M_9 => ?_)
        refine g_aload_n B dX12_readAtom_86 0 rfl ?_
        refine g_callV_iw [] (ci := 11) (T0 := TX12) (N := 27) B hS9 mf12_readAtom wd_1895 (gw B wp_71) wd_1893 (by decide) rfl (hk_12_readAtom a0 M_9) (hf_12_readAtom a0 M_9) (by simp only [rmG3]; omega) (by simp only [rmG3]; omega) ⟨Nat.le_refl 0, Nat.le_refl 0⟩ rfl (by decide) dX12_readAtom_87 rfl (fun q_10 => ?_)
        refine g_if_ne B 95 dX12_readAtom_90 (by decide) ?_ ?_
        · refine g_iconst (v := 0) B dX12_readAtom_93 (by decide) ?_
          exact g_ireturn B hr rfl (Nat.le_refl 0) (Nat.le_refl 0) rfl dX12_readAtom_94
        · refine g_aload_n B dX12_readAtom_95 0 rfl ?_
          refine g_dup B dX12_readAtom_96 rfl ?_
          refine g_getI (ci := 11) (T0 := TX12) (N := 27) B (by decide) rfl in_11 (k := 13) (by decide) rfl wd_1654 (fun _ h => h) dX12_readAtom_97 (fun v_11 => ?_)
          refine g_iconst (v := 1) B dX12_readAtom_100 (by decide) ?_
          refine g_isub B dX12_readAtom_101 ?_
          refine g_putI (ci := 11) (T0 := TX12) (N := 27) B (by decide) rfl in_11 tyX12 tyX12_ok nmX12 (k := 13) (by decide) wd_1654 (fun _ h => h) rfl rfl (ty := .int) (by decide +kernel) rfl rfl dX12_readAtom_102 (fun M_12 => ?_)
          refine g_aload_n B dX12_readAtom_105 0 rfl ?_
          refine g_bipush (v := 13) B dX12_readAtom_106 (by decide) ?_
          refine g_iconst (v := 0) B dX12_readAtom_108 (by decide) ?_
          refine g_callV_vw [.int 13, .int 0] (ci := 11) (T0 := TX12) (N := 27) B hS9 mf12_emits wd_1904 (gw B wp_73) wd_1902 (by decide) rfl (fun h => (gd_ne h).1) (c12_emits X l a0 13 0 M_12) (by simp only [rmG3, rm12_emits]; omega) (by simp only [rmG3, rm12_emits]; omega) ⟨Nat.le_refl 0, Nat.le_refl 0⟩ rfl (by decide) dX12_readAtom_109 rfl (fun q_13 => ?_)
          refine g_iconst (v := 1) B dX12_readAtom_112 (by decide) ?_
          exact g_ireturn B hr rfl (Nat.le_refl 0) (Nat.le_refl 0) rfl dX12_readAtom_113
  · refine g_aload_n B dX12_readAtom_9 0 rfl ?_
    refine g_getI (ci := 11) (T0 := TX12) (N := 27) B (by decide) rfl in_11 (k := 13) (by decide) rfl wd_1654 (fun _ h => h) dX12_readAtom_10 (fun v_14 => ?_)
    refine g_bipush (v := 6) B dX12_readAtom_13 (by decide) ?_
    refine g_icmp_ne B 20 dX12_readAtom_15 (by decide) ?_ ?_
    · refine g_iconst (v := 0) B dX12_readAtom_18 (by decide) ?_
      exact g_ireturn B hr rfl (Nat.le_refl 0) (Nat.le_refl 0) rfl dX12_readAtom_19
    · refine g_aload_n B dX12_readAtom_20 0 rfl ?_
      refine g_dup B dX12_readAtom_21 rfl ?_
      refine g_getI (ci := 11) (T0 := TX12) (N := 27) B (by decide) rfl in_11 (k := 13) (by decide) rfl wd_1654 (fun _ h => h) dX12_readAtom_22 (fun v_15 => ?_)
      refine g_iconst (v := 1) B dX12_readAtom_25 (by decide) ?_
      refine g_iadd B dX12_readAtom_26 ?_
      refine g_putI (ci := 11) (T0 := TX12) (N := 27) B (by decide) rfl in_11 tyX12 tyX12_ok nmX12 (k := 13) (by decide) wd_1654 (fun _ h => h) rfl rfl (ty := .int) (by decide +kernel) rfl rfl dX12_readAtom_27 (fun M_16 => ?_)
      refine g_aload_n B dX12_readAtom_30 0 rfl ?_
      refine g_callV_iw [] (ci := 11) (T0 := TX12) (N := 27) B hS9 mf12_readCond wd_1887 (gw B wp_69) wd_1885 (by decide) rfl (hk_12_readCond a0 M_16) (hf_12_readCond a0 M_16) (by simp only [rmG3]; omega) (by simp only [rmG3]; omega) ⟨Nat.le_refl 0, Nat.le_refl 0⟩ rfl (by decide) dX12_readAtom_31 rfl (fun q_17 => ?_)
      refine g_if_ne B 39 dX12_readAtom_34 (by decide) ?_ ?_
      · refine g_iconst (v := 0) B dX12_readAtom_37 (by decide) ?_
        exact g_ireturn B hr rfl (Nat.le_refl 0) (Nat.le_refl 0) rfl dX12_readAtom_38
      · refine g_aload_n B dX12_readAtom_39 0 rfl ?_
        refine g_dup B dX12_readAtom_40 rfl ?_
        refine g_getI (ci := 11) (T0 := TX12) (N := 27) B (by decide) rfl in_11 (k := 13) (by decide) rfl wd_1654 (fun _ h => h) dX12_readAtom_41 (fun v_18 => ?_)
        refine g_iconst (v := 1) B dX12_readAtom_44 (by decide) ?_
        refine g_isub B dX12_readAtom_45 ?_
        refine g_putI (ci := 11) (T0 := TX12) (N := 27) B (by decide) rfl in_11 tyX12 tyX12_ok nmX12 (k := 13) (by decide) wd_1654 (fun _ h => h) rfl rfl (ty := .int) (by decide +kernel) rfl rfl dX12_readAtom_46 (fun M_19 => ?_)
        refine g_aload_n B dX12_readAtom_49 0 rfl ?_
        refine g_bipush (v := 41) B dX12_readAtom_50 (by decide) ?_
        refine g_callV_iw [.int 41] (ci := 11) (T0 := TX12) (N := 27) B hS9 mf12_sign wd_1899 (gw B wp_72) wd_1897 (by decide) rfl (fun h => (gd_ne h).1) (c12_sign X l a0 41 M_19) (by simp only [rmG3, rm12_sign]; omega) (by simp only [rmG3, rm12_sign]; omega) ⟨Nat.le_refl 0, Nat.le_refl 0⟩ rfl (by decide) dX12_readAtom_52 rfl (fun q_20 => ?_)
        exact g_zreturn (f := fun z => (z, q_20.2)) B hr (Nat.le_refl 0) (Nat.le_refl 0) rfl dX12_readAtom_55
theorem hk3_12_readAllOf : ∀ (d : Nat) (a0 : Nat) (M : mMem), (grp3 d).1 a0 M ≠ none → mK M a0 = 12
  | 0, _, _ => fun h => absurd rfl h
  | d + 1, _, _ => fun h => (gd_ne h).1
theorem hk3_12_readCond : ∀ (d : Nat) (a0 : Nat) (M : mMem), (grp3 d).2.1 a0 M ≠ none → mK M a0 = 12
  | 0, _, _ => fun h => absurd rfl h
  | d + 1, _, _ => fun h => (gd_ne h).1
theorem hk3_12_readAtom : ∀ (d : Nat) (a0 : Nat) (M : mMem), (grp3 d).2.2 a0 M ≠ none → mK M a0 = 12
  | 0, _, _ => fun h => absurd rfl h
  | d + 1, _, _ => fun h => (gd_ne h).1
set_option maxRecDepth 20000 in
theorem cgrp3 (X : gX) (l : Launch) : ∀ (d : Nat), (∀ (a0 : Nat) (M : mMem), Con X l yX12_readAllOf cX12_readAllOf 1 (some .boolean) (rmG3 d) (fun r9 : (Int32 × mMem) => (some (.int r9.1), r9.2)) [.ref a0] M ((grp3 d).1 a0 M)) ∧ (∀ (a0 : Nat) (M : mMem), Con X l yX12_readCond cX12_readCond 1 (some .boolean) (rmG3 d) (fun r9 : (Int32 × mMem) => (some (.int r9.1), r9.2)) [.ref a0] M ((grp3 d).2.1 a0 M)) ∧ (∀ (a0 : Nat) (M : mMem), Con X l yX12_readAtom cX12_readAtom 2 (some .boolean) (rmG3 d) (fun r9 : (Int32 × mMem) => (some (.int r9.1), r9.2)) [.ref a0] M ((grp3 d).2.2 a0 M))
  | 0 => ⟨fun _ _ h => absurd rfl h, fun _ _ h => absurd rfl h, fun _ _ h => absurd rfl h⟩
  | d + 1 => ⟨fun a0 M => g_con (own := RX12) (by decide +kernel) rfl (Nat.le_of_ble_eq_true rfl) (fun p e s m args below meth c B hS9 hr hn => g12_readAllOf_B d B hS9 hr ((grp3 d).2.2) ((cgrp3 X l d).2.2) (hk3_12_readAtom d) a0 M),
      fun a0 M => g_con (own := RX12) (by decide +kernel) rfl (Nat.le_of_ble_eq_true rfl) (fun p e s m args below meth c B hS9 hr hn => g12_readCond_B d B hS9 hr ((grp3 d).1) ((cgrp3 X l d).1) (hk3_12_readAllOf d) a0 M),
      fun a0 M => g_con (own := RX12) (by decide +kernel) rfl (Nat.le_of_ble_eq_true rfl) (fun p e s m args below meth c B hS9 hr hn => g12_readAtom_B d B hS9 hr ((grp3 d).2.2) ((cgrp3 X l d).2.2) (hk3_12_readAtom d) ((grp3 d).2.1) ((cgrp3 X l d).2.1) (hk3_12_readCond d) a0 M)⟩
theorem c12_readAllOf (X : gX) (l : Launch) (a0 : Nat) (M : mMem) : Con X l yX12_readAllOf cX12_readAllOf 1 (some .boolean) rm12_readAllOf (fun r9 : (Int32 × mMem) => (some (.int r9.1), r9.2)) [.ref a0] M (p12_readAllOf a0 M) := (cgrp3 X l 64).1 a0 M
theorem hkw12_readAllOf (a0 : Nat) (M : mMem) (h : p12_readAllOf a0 M ≠ none) : mK M a0 = 12 := hk3_12_readAllOf 64 a0 M h
theorem c12_readCond (X : gX) (l : Launch) (a0 : Nat) (M : mMem) : Con X l yX12_readCond cX12_readCond 1 (some .boolean) rm12_readCond (fun r9 : (Int32 × mMem) => (some (.int r9.1), r9.2)) [.ref a0] M (p12_readCond a0 M) := (cgrp3 X l 64).2.1 a0 M
theorem hkw12_readCond (a0 : Nat) (M : mMem) (h : p12_readCond a0 M ≠ none) : mK M a0 = 12 := hk3_12_readCond 64 a0 M h
theorem c12_readAtom (X : gX) (l : Launch) (a0 : Nat) (M : mMem) : Con X l yX12_readAtom cX12_readAtom 2 (some .boolean) rm12_readAtom (fun r9 : (Int32 × mMem) => (some (.int r9.1), r9.2)) [.ref a0] M (p12_readAtom a0 M) := (cgrp3 X l 64).2.2 a0 M
theorem hkw12_readAtom (a0 : Nat) (M : mMem) (h : p12_readAtom a0 M ≠ none) : mK M a0 = 12 := hk3_12_readAtom 64 a0 M h
theorem mf12_readLawLine : gMF yX12_readLawLine cX12_readLawLine 3 (some .boolean) 1 := ⟨wd_1880, wd_13, ⟨by decide, by decide⟩, by decide +kernel⟩
set_option maxRecDepth 20000 in
set_option maxHeartbeats 2000000 in
theorem g12_readLawLine_J146 {X : gX} {p : Program} {l : Launch} {e : Env} {s : State} {m : MethodId} {args : Array Value} {below : List Frame} {meth : Method} {c : Code} (B : gB X p (rm12_readLawLine) s m args meth c RX12 cX12_readLawLine 3 (rm12_readLawLine)) (hS9 : gS X s) (hr : meth.sig.returnType = some .boolean) (a0 : Nat) (x2 : Int32) (M : mMem) : GG X p l e (rm12_readLawLine) s m args below meth c (gP X below args s 0 0 (fun r9 : (Int32 × mMem) => (some (.int r9.1), r9.2))) 3 0 0 146 [(0, .ref a0), (2, .int x2)] [] M (p12_readLawLine_J146 a0 x2 M) := by
  unfold p12_readLawLine_J146
  refine g_aload_n B dX12_readLawLine_146 0 rfl ?_
  refine g_getR (ci := 11) (T0 := TX12) (N := 27) B (by decide) rfl in_11 (k := 1) (by decide) rfl wd_1642 (fun _ h => h) dX12_readLawLine_147 (fun v_1 => ?_)
  refine g_iload_n B dX12_readLawLine_150 1 rfl ?_
  refine g_iconst (v := 3) B dX12_readLawLine_151 (by decide) ?_
  refine g_iadd B dX12_readLawLine_152 ?_
  refine g_aload_n B dX12_readLawLine_153 0 rfl ?_
  refine g_getI (ci := 11) (T0 := TX12) (N := 27) B (by decide) rfl in_11 (k := 16) (by decide) rfl wd_1657 (fun _ h => h) dX12_readLawLine_154 (fun v_2 => ?_)
  refine g_iastore B dX12_readLawLine_157 (fun M_3 => ?_)
  refine g_iconst (v := 1) B dX12_readLawLine_158 (by decide) ?_
  exact g_ireturn B hr rfl (by decide) (by decide) rfl dX12_readLawLine_159
set_option maxRecDepth 20000 in
set_option maxHeartbeats 2000000 in
theorem g12_readLawLine_J96 {X : gX} {p : Program} {l : Launch} {e : Env} {s : State} {m : MethodId} {args : Array Value} {below : List Frame} {meth : Method} {c : Code} (B : gB X p (rm12_readLawLine) s m args meth c RX12 cX12_readLawLine 3 (rm12_readLawLine)) (hS9 : gS X s) (hr : meth.sig.returnType = some .boolean) (a0 : Nat) (x2 : Int32) (b0 : Nat) (u1 : Int32) (u2 : Int32) (M : mMem) : GG X p l e (rm12_readLawLine) s m args below meth c (gP X below args s 0 0 (fun r9 : (Int32 × mMem) => (some (.int r9.1), r9.2))) 3 0 0 96 [(0, .ref a0), (2, .int x2)] [.int u2, .int u1, .ref b0] M (p12_readLawLine_J96 a0 x2 b0 u1 u2 M) := by
  unfold p12_readLawLine_J96
  refine g_iastore B dX12_readLawLine_96 (fun M_1 => ?_)
  refine g_aload_n B dX12_readLawLine_97 0 rfl ?_
  refine g_getR (ci := 11) (T0 := TX12) (N := 27) B (by decide) rfl in_11 (k := 1) (by decide) rfl wd_1642 (fun _ h => h) dX12_readLawLine_98 (fun v_2 => ?_)
  refine g_iload_n B dX12_readLawLine_101 1 rfl ?_
  refine g_iconst (v := 1) B dX12_readLawLine_102 (by decide) ?_
  refine g_iadd B dX12_readLawLine_103 ?_
  refine g_iaload B dX12_readLawLine_104 (fun v_3 => ?_)
  refine g_if_ge B 110 dX12_readLawLine_105 (by decide) ?_ ?_
  · refine g_iconst (v := 0) B dX12_readLawLine_108 (by decide) ?_
    exact g_ireturn B hr rfl (by decide) (by decide) rfl dX12_readLawLine_109
  · refine g_aload_n B dX12_readLawLine_110 0 rfl ?_
    refine g_getR (ci := 11) (T0 := TX12) (N := 27) B (by decide) rfl in_11 (k := 1) (by decide) rfl wd_1642 (fun _ h => h) dX12_readLawLine_111 (fun v_4 => ?_)
    refine g_iload_n B dX12_readLawLine_114 1 rfl ?_
    refine g_iconst (v := 2) B dX12_readLawLine_115 (by decide) ?_
    refine g_iadd B dX12_readLawLine_116 ?_
    refine g_aload_n B dX12_readLawLine_117 0 rfl ?_
    refine g_getI (ci := 11) (T0 := TX12) (N := 27) B (by decide) rfl in_11 (k := 16) (by decide) rfl wd_1657 (fun _ h => h) dX12_readLawLine_118 (fun v_5 => ?_)
    refine g_iastore B dX12_readLawLine_121 (fun M_6 => ?_)
    refine g_aload_n B dX12_readLawLine_122 0 rfl ?_
    refine g_iconst (v := 0) B dX12_readLawLine_123 (by decide) ?_
    refine g_putI (ci := 11) (T0 := TX12) (N := 27) B (by decide) rfl in_11 tyX12 tyX12_ok nmX12 (k := 13) (by decide) wd_1654 (fun _ h => h) rfl rfl (ty := .int) (by decide +kernel) rfl rfl dX12_readLawLine_124 (fun M_7 => ?_)
    refine g_aload_n B dX12_readLawLine_127 0 rfl ?_
    refine g_ldc_wS (i := 17) B hS9 dX12_readLawLine_128 (List.mem_of_getElem? (i := 44) rfl) ?_
    refine g_callV_iw [.ref (X.2.2.2.1 17)] (ci := 11) (T0 := TX12) (N := 27) B hS9 mf12_passes wd_1813 (gw B wp_55) wd_1811 (by decide) rfl (fun h => (gd_ne h).1) (c12_passes X l a0 17 M_7) (by decide) (by decide) (by decide) rfl (by decide) dX12_readLawLine_131 rfl (fun q_8 => ?_)
    refine g_if_eq B 146 dX12_readLawLine_134 (by decide) ?_ ?_
    · refine g_sub (lv' := [(0, .ref a0), (2, .int x2)]) [0, 1] rfl ?_
      exact g12_readLawLine_J146 B hS9 hr a0 x2 q_8.2
    · refine g_aload_n B dX12_readLawLine_137 0 rfl ?_
      refine g_callV_iw [] (ci := 11) (T0 := TX12) (N := 27) B hS9 mf12_readCond wd_1887 (gw B wp_69) wd_1885 (by decide) rfl (hkw12_readCond a0 q_8.2) (c12_readCond X l a0 q_8.2) (by decide) (by decide) (by decide) rfl (by decide) dX12_readLawLine_138 rfl (fun q_9 => ?_)
      refine g_if_ne B 146 dX12_readLawLine_141 (by decide) ?_ ?_
      · refine g_iconst (v := 0) B dX12_readLawLine_144 (by decide) ?_
        exact g_ireturn B hr rfl (by decide) (by decide) rfl dX12_readLawLine_145
      · refine g_sub (lv' := [(0, .ref a0), (2, .int x2)]) [0, 1] rfl ?_
        exact g12_readLawLine_J146 B hS9 hr a0 x2 q_9.2
set_option maxRecDepth 20000 in
set_option maxHeartbeats 2000000 in
theorem g12_readLawLine_J56 {X : gX} {p : Program} {l : Launch} {e : Env} {s : State} {m : MethodId} {args : Array Value} {below : List Frame} {meth : Method} {c : Code} (B : gB X p (rm12_readLawLine) s m args meth c RX12 cX12_readLawLine 3 (rm12_readLawLine)) (hS9 : gS X s) (hr : meth.sig.returnType = some .boolean) (a0 : Nat) (x2 : Int32) (b0 : Nat) (u1 : Int32) (u2 : Int32) (M : mMem) : GG X p l e (rm12_readLawLine) s m args below meth c (gP X below args s 0 0 (fun r9 : (Int32 × mMem) => (some (.int r9.1), r9.2))) 3 0 0 56 [(0, .ref a0), (2, .int x2)] [.int u2, .int u1, .ref b0] M (p12_readLawLine_J56 a0 x2 b0 u1 u2 M) := by
  unfold p12_readLawLine_J56
  refine g_iastore B dX12_readLawLine_56 (fun M_1 => ?_)
  refine g_aload_n B dX12_readLawLine_57 0 rfl ?_
  refine g_getR (ci := 11) (T0 := TX12) (N := 27) B (by decide) rfl in_11 (k := 1) (by decide) rfl wd_1642 (fun _ h => h) dX12_readLawLine_58 (fun v_2 => ?_)
  refine g_iload_n B dX12_readLawLine_61 1 rfl ?_
  refine g_iaload B dX12_readLawLine_62 (fun v_3 => ?_)
  refine g_if_ge B 68 dX12_readLawLine_63 (by decide) ?_ ?_
  · refine g_iconst (v := 0) B dX12_readLawLine_66 (by decide) ?_
    exact g_ireturn B hr rfl (by decide) (by decide) rfl dX12_readLawLine_67
  · refine g_aload_n B dX12_readLawLine_68 0 rfl ?_
    refine g_getR (ci := 11) (T0 := TX12) (N := 27) B (by decide) rfl in_11 (k := 1) (by decide) rfl wd_1642 (fun _ h => h) dX12_readLawLine_69 (fun v_4 => ?_)
    refine g_iload_n B dX12_readLawLine_72 1 rfl ?_
    refine g_iconst (v := 1) B dX12_readLawLine_73 (by decide) ?_
    refine g_iadd B dX12_readLawLine_74 ?_
    refine g_aload_n B dX12_readLawLine_75 0 rfl ?_
    refine g_getR (ci := 11) (T0 := TX12) (N := 27) B (by decide) rfl in_11 (k := 1) (by decide) rfl wd_1642 (fun _ h => h) dX12_readLawLine_76 (fun v_5 => ?_)
    refine g_iload_n B dX12_readLawLine_79 1 rfl ?_
    refine g_iaload B dX12_readLawLine_80 (fun v_6 => ?_)
    refine g_iconst (v := 2) B dX12_readLawLine_81 (by decide) ?_
    refine g_icmp_ne B 89 dX12_readLawLine_82 (by decide) ?_ ?_
    · refine g_iconst (v := 1) B dX12_readLawLine_85 (by decide) ?_
      refine g_goto B 96 dX12_readLawLine_86 (by decide) ?_
      refine g_sub (lv' := [(0, .ref a0), (2, .int x2)]) [0, 1] rfl ?_
      exact g12_readLawLine_J96 B hS9 hr a0 x2 v_4 (x2 + 1) 1 M_1
    · refine g_aload_n B dX12_readLawLine_89 0 rfl ?_
      refine g_iconst (v := 0) B dX12_readLawLine_90 (by decide) ?_
      refine g_bipush (v := 60) B dX12_readLawLine_91 (by decide) ?_
      refine g_callV_iw [.int 0, .int 60] (ci := 11) (T0 := TX12) (N := 27) B hS9 mf12_number wd_1804 (gw B wp_53) wd_1802 (by decide) rfl (fun h => (gd_ne h).1) (c12_number X l a0 0 60 M_1) (by decide) (by decide) (by decide) rfl (Nat.le_of_ble_eq_true rfl) dX12_readLawLine_93 rfl (fun q_7 => ?_)
      refine g_sub (lv' := [(0, .ref a0), (2, .int x2)]) [0, 1] rfl ?_
      exact g12_readLawLine_J96 B hS9 hr a0 x2 v_4 (x2 + 1) q_7.1 q_7.2
set_option maxRecDepth 20000 in
set_option maxHeartbeats 2000000 in
theorem g12_readLawLine {X : gX} {p : Program} {l : Launch} {e : Env} {s : State} {m : MethodId} {args : Array Value} {below : List Frame} {meth : Method} {c : Code} (B : gB X p (rm12_readLawLine) s m args meth c RX12 cX12_readLawLine 3 (rm12_readLawLine)) (hS9 : gS X s) (hr : meth.sig.returnType = some .boolean) (a0 : Nat) (x1 : Int32) (M : mMem) : GG X p l e (rm12_readLawLine) s m args below meth c (gP X below args s 0 0 (fun r9 : (Int32 × mMem) => (some (.int r9.1), r9.2))) 3 0 0 0 [(0, .ref a0), (1, .int x1)] [] M (p12_readLawLine a0 x1 M) := by
  unfold p12_readLawLine
  refine g_gd ?_
  refine g_sipush (v := 1295) B dX12_readLawLine_0 (by decide) ?_
  refine g_iconst (v := 4) B dX12_readLawLine_3 (by decide) ?_
  refine g_iload_n B dX12_readLawLine_4 1 rfl ?_
  refine g_imul B dX12_readLawLine_5 ?_
  refine g_iadd B dX12_readLawLine_6 ?_
  refine g_istore_n (lv' := [(2, .int ((1295 : Int32) + ((4 : Int32) * x1))), (0, .ref a0), (1, .int x1)]) B dX12_readLawLine_7 (by decide) [0, 1, 2] rfl ?_
  refine g_aload_n B dX12_readLawLine_8 1 rfl ?_
  refine g_getR (ci := 11) (T0 := TX12) (N := 27) B (by decide) rfl in_11 (k := 1) (by decide) rfl wd_1642 (fun _ h => h) dX12_readLawLine_9 (fun v_1 => ?_)
  refine g_iload_n B dX12_readLawLine_12 0 rfl ?_
  refine g_aload_n B dX12_readLawLine_13 1 rfl ?_
  refine g_ldc_wS (i := 14) B hS9 dX12_readLawLine_14 (List.mem_of_getElem? (i := 41) rfl) ?_
  refine g_callV_ip [.ref (X.2.2.2.1 14)] (ci := 11) (T0 := TX12) (N := 27) B hS9 mf12_isWord wd_1783 (gw B wp_49) wd_1781 (by decide) rfl (fun h => (gd_ne h).1) (c12_isWord X l a0 14 M) (by decide) (by decide) (by decide) rfl (Nat.le_of_ble_eq_true rfl) dX12_readLawLine_17 rfl (fun v_2 => ?_)
  refine g_if_eq B 27 dX12_readLawLine_20 (by decide) ?_ ?_
  · refine g_aload_n B dX12_readLawLine_27 1 rfl ?_
    refine g_ldc_wS (i := 15) B hS9 dX12_readLawLine_28 (List.mem_of_getElem? (i := 42) rfl) ?_
    refine g_callV_ip [.ref (X.2.2.2.1 15)] (ci := 11) (T0 := TX12) (N := 27) B hS9 mf12_isWord wd_1783 (gw B wp_49) wd_1781 (by decide) rfl (fun h => (gd_ne h).1) (c12_isWord X l a0 15 M) (by decide) (by decide) (by decide) rfl (Nat.le_of_ble_eq_true rfl) dX12_readLawLine_31 rfl (fun v_3 => ?_)
    refine g_if_eq B 41 dX12_readLawLine_34 (by decide) ?_ ?_
    · refine g_aload_n B dX12_readLawLine_41 1 rfl ?_
      refine g_ldc_wS (i := 16) B hS9 dX12_readLawLine_42 (List.mem_of_getElem? (i := 43) rfl) ?_
      refine g_callV_ip [.ref (X.2.2.2.1 16)] (ci := 11) (T0 := TX12) (N := 27) B hS9 mf12_isWord wd_1783 (gw B wp_49) wd_1781 (by decide) rfl (fun h => (gd_ne h).1) (c12_isWord X l a0 16 M) (by decide) (by decide) (by decide) rfl (Nat.le_of_ble_eq_true rfl) dX12_readLawLine_45 rfl (fun v_4 => ?_)
      refine g_if_eq B 55 dX12_readLawLine_48 (by decide) ?_ ?_
      · refine g_iconst (v := (-1)) B dX12_readLawLine_55 (by decide) ?_
        refine g_sub (lv' := [(0, .ref a0), (2, .int ((1295 : Int32) + ((4 : Int32) * x1)))]) [1, 0] rfl ?_
        exact g12_readLawLine_J56 B hS9 hr a0 ((1295 : Int32) + ((4 : Int32) * x1)) v_1 ((1295 : Int32) + ((4 : Int32) * x1)) (-1) M
      · refine g_iconst (v := 2) B dX12_readLawLine_51 (by decide) ?_
        refine g_goto B 56 dX12_readLawLine_52 (by decide) ?_
        refine g_sub (lv' := [(0, .ref a0), (2, .int ((1295 : Int32) + ((4 : Int32) * x1)))]) [1, 0] rfl ?_
        exact g12_readLawLine_J56 B hS9 hr a0 ((1295 : Int32) + ((4 : Int32) * x1)) v_1 ((1295 : Int32) + ((4 : Int32) * x1)) 2 M
    · refine g_iconst (v := 1) B dX12_readLawLine_37 (by decide) ?_
      refine g_goto B 56 dX12_readLawLine_38 (by decide) ?_
      refine g_sub (lv' := [(0, .ref a0), (2, .int ((1295 : Int32) + ((4 : Int32) * x1)))]) [1, 0] rfl ?_
      exact g12_readLawLine_J56 B hS9 hr a0 ((1295 : Int32) + ((4 : Int32) * x1)) v_1 ((1295 : Int32) + ((4 : Int32) * x1)) 1 M
  · refine g_iconst (v := 0) B dX12_readLawLine_23 (by decide) ?_
    refine g_goto B 56 dX12_readLawLine_24 (by decide) ?_
    refine g_sub (lv' := [(0, .ref a0), (2, .int ((1295 : Int32) + ((4 : Int32) * x1)))]) [1, 0] rfl ?_
    exact g12_readLawLine_J56 B hS9 hr a0 ((1295 : Int32) + ((4 : Int32) * x1)) v_1 ((1295 : Int32) + ((4 : Int32) * x1)) 0 M
theorem c12_readLawLine (X : gX) (l : Launch) (a0 : Nat) (x1 : Int32) (M : mMem) : Con X l yX12_readLawLine cX12_readLawLine 3 (some .boolean) rm12_readLawLine (fun r9 : (Int32 × mMem) => (some (.int r9.1), r9.2)) [.ref a0, .int x1] M (p12_readLawLine a0 x1 M) := g_con (own := RX12) (by decide +kernel) rfl (Nat.le_of_ble_eq_true rfl) (fun p e s m args below meth c B hS9 hr hn => g12_readLawLine B hS9 hr a0 x1 M)
theorem mf12_readLine : gMF yX12_readLine cX12_readLine 3 (some .boolean) 2 := ⟨wd_1771, wd_13, ⟨by decide, by decide⟩, by decide +kernel⟩
set_option maxRecDepth 20000 in
set_option maxHeartbeats 2000000 in
theorem g12_readLine_J46 {X : gX} {p : Program} {l : Launch} {e : Env} {s : State} {m : MethodId} {args : Array Value} {below : List Frame} {meth : Method} {c : Code} (B : gB X p (rm12_readLine) s m args meth c RX12 cX12_readLine 3 (rm12_readLine)) (hS9 : gS X s) (hr : meth.sig.returnType = some .boolean) (u0 : Int32) (M : mMem) : GG X p l e (rm12_readLine) s m args below meth c (gP X below args s 0 0 (fun r9 : (Int32 × mMem) => (some (.int r9.1), r9.2))) 3 0 0 46 [] [.int u0] M (p12_readLine_J46 u0 M) := by
  unfold p12_readLine_J46
  exact g_zreturn (f := fun z => (z, M)) B hr (by decide) (by decide) rfl dX12_readLine_46
set_option maxRecDepth 20000 in
set_option maxHeartbeats 2000000 in
theorem g12_readLine_J45 {X : gX} {p : Program} {l : Launch} {e : Env} {s : State} {m : MethodId} {args : Array Value} {below : List Frame} {meth : Method} {c : Code} (B : gB X p (rm12_readLine) s m args meth c RX12 cX12_readLine 3 (rm12_readLine)) (hS9 : gS X s) (hr : meth.sig.returnType = some .boolean) (M : mMem) : GG X p l e (rm12_readLine) s m args below meth c (gP X below args s 0 0 (fun r9 : (Int32 × mMem) => (some (.int r9.1), r9.2))) 3 0 0 45 [] [] M (p12_readLine_J45 M) := by
  unfold p12_readLine_J45
  refine g_iconst (v := 0) B dX12_readLine_45 (by decide) ?_
  refine g_sub (lv' := []) [] rfl ?_
  exact g12_readLine_J46 B hS9 hr 0 M
set_option maxRecDepth 20000 in
set_option maxHeartbeats 2000000 in
theorem g12_readLine_J41 {X : gX} {p : Program} {l : Launch} {e : Env} {s : State} {m : MethodId} {args : Array Value} {below : List Frame} {meth : Method} {c : Code} (B : gB X p (rm12_readLine) s m args meth c RX12 cX12_readLine 3 (rm12_readLine)) (hS9 : gS X s) (hr : meth.sig.returnType = some .boolean) (M : mMem) : GG X p l e (rm12_readLine) s m args below meth c (gP X below args s 0 0 (fun r9 : (Int32 × mMem) => (some (.int r9.1), r9.2))) 3 0 0 41 [] [] M (p12_readLine_J41 M) := by
  unfold p12_readLine_J41
  refine g_iconst (v := 1) B dX12_readLine_41 (by decide) ?_
  refine g_goto B 46 dX12_readLine_42 (by decide) ?_
  refine g_sub (lv' := []) [] rfl ?_
  exact g12_readLine_J46 B hS9 hr 1 M
set_option maxRecDepth 20000 in
set_option maxHeartbeats 2000000 in
theorem g12_readLine_J16 {X : gX} {p : Program} {l : Launch} {e : Env} {s : State} {m : MethodId} {args : Array Value} {below : List Frame} {meth : Method} {c : Code} (B : gB X p (rm12_readLine) s m args meth c RX12 cX12_readLine 3 (rm12_readLine)) (hS9 : gS X s) (hr : meth.sig.returnType = some .boolean) (a0 : Nat) (x1 : Int32) (x2 : Int32) (u0 : Int32) (u1 : Int32) (M : mMem) : GG X p l e (rm12_readLine) s m args below meth c (gP X below args s 0 0 (fun r9 : (Int32 × mMem) => (some (.int r9.1), r9.2))) 3 0 0 16 [(0, .ref a0), (1, .int x1), (2, .int x2)] [.int u1, .int u0] M (p12_readLine_J16 a0 x1 x2 u0 u1 M) := by
  unfold p12_readLine_J16
  refine g_icmp_ge B 45 dX12_readLine_16 (by decide) ?_ ?_
  · refine g_iload_n B dX12_readLine_19 1 rfl ?_
    refine g_if_eq B 33 dX12_readLine_20 (by decide) ?_ ?_
    · refine g_aload_n B dX12_readLine_33 0 rfl ?_
      refine g_iload_n B dX12_readLine_34 2 rfl ?_
      refine g_callV_iw [.int x2] (ci := 11) (T0 := TX12) (N := 27) B hS9 mf12_readLawLine wd_1879 (gw B wp_68) wd_1877 (by decide) rfl (fun h => (gd_ne h).1) (c12_readLawLine X l a0 x2 M) (by decide) (by decide) (by decide) rfl (by decide) dX12_readLine_35 rfl (fun q_1 => ?_)
      refine g_if_eq B 45 dX12_readLine_38 (by decide) ?_ ?_
      · refine g_sub (lv' := []) [] rfl ?_
        exact g12_readLine_J45 B hS9 hr q_1.2
      · refine g_sub (lv' := []) [] rfl ?_
        exact g12_readLine_J41 B hS9 hr q_1.2
    · refine g_aload_n B dX12_readLine_23 0 rfl ?_
      refine g_callV_iw [] (ci := 11) (T0 := TX12) (N := 27) B hS9 mf12_readFamilyLine wd_1778 (gw B wp_48) wd_1776 (by decide) rfl (fun h => (gd_ne h).1) (c12_readFamilyLine X l a0 M) (by decide) (by decide) (by decide) rfl (by decide) dX12_readLine_24 rfl (fun q_2 => ?_)
      refine g_if_eq B 45 dX12_readLine_27 (by decide) ?_ ?_
      · refine g_sub (lv' := []) [] rfl ?_
        exact g12_readLine_J45 B hS9 hr q_2.2
      · refine g_goto B 41 dX12_readLine_30 (by decide) ?_
        refine g_sub (lv' := []) [] rfl ?_
        exact g12_readLine_J41 B hS9 hr q_2.2
  · refine g_sub (lv' := []) [] rfl ?_
    exact g12_readLine_J45 B hS9 hr M
set_option maxRecDepth 20000 in
set_option maxHeartbeats 2000000 in
theorem g12_readLine {X : gX} {p : Program} {l : Launch} {e : Env} {s : State} {m : MethodId} {args : Array Value} {below : List Frame} {meth : Method} {c : Code} (B : gB X p (rm12_readLine) s m args meth c RX12 cX12_readLine 3 (rm12_readLine)) (hS9 : gS X s) (hr : meth.sig.returnType = some .boolean) (a0 : Nat) (x1 : Int32) (x2 : Int32) (M : mMem) : GG X p l e (rm12_readLine) s m args below meth c (gP X below args s 0 0 (fun r9 : (Int32 × mMem) => (some (.int r9.1), r9.2))) 3 0 0 0 [(0, .ref a0), (1, .int x1), (2, .int x2)] [] M (p12_readLine a0 x1 x2 M) := by
  unfold p12_readLine
  refine g_gd ?_
  refine g_aload_n B dX12_readLine_0 0 rfl ?_
  refine g_callV_vw [] (ci := 11) (T0 := TX12) (N := 27) B hS9 mf12_letters wd_1774 (gw B wp_47) wd_1772 (by decide) rfl (fun h => (gd_ne h).1) (c12_letters X l a0 M) (by decide) (by decide) (by decide) rfl (by decide) dX12_readLine_1 rfl (fun q_1 => ?_)
  refine g_iload_n B dX12_readLine_4 2 rfl ?_
  refine g_iload_n B dX12_readLine_5 1 rfl ?_
  refine g_if_eq B 14 dX12_readLine_6 (by decide) ?_ ?_
  · refine g_bipush (v := 12) B dX12_readLine_14 (by decide) ?_
    refine g_sub (lv' := [(0, .ref a0), (1, .int x1), (2, .int x2)]) [0, 1, 2] rfl ?_
    exact g12_readLine_J16 B hS9 hr a0 x1 x2 x2 12 q_1
  · refine g_bipush (v := 14) B dX12_readLine_9 (by decide) ?_
    refine g_goto B 16 dX12_readLine_11 (by decide) ?_
    refine g_sub (lv' := [(0, .ref a0), (1, .int x1), (2, .int x2)]) [0, 1, 2] rfl ?_
    exact g12_readLine_J16 B hS9 hr a0 x1 x2 x2 14 q_1
theorem c12_readLine (X : gX) (l : Launch) (a0 : Nat) (x1 : Int32) (x2 : Int32) (M : mMem) : Con X l yX12_readLine cX12_readLine 3 (some .boolean) rm12_readLine (fun r9 : (Int32 × mMem) => (some (.int r9.1), r9.2)) [.ref a0, .int x1, .int x2] M (p12_readLine a0 x1 x2 M) := g_con (own := RX12) (by decide +kernel) rfl (Nat.le_of_ble_eq_true rfl) (fun p e s m args below meth c B hS9 hr hn => g12_readLine B hS9 hr a0 x1 x2 M)
theorem mf12_readAll : gMF yX12_readAll cX12_readAll 3 (some .int) 1 := ⟨wd_1755, wd_13, ⟨by decide, by decide⟩, by decide +kernel⟩
set_option maxRecDepth 20000 in
set_option maxHeartbeats 2000000 in
theorem g12_readAll_L28 {X : gX} {p : Program} {l : Launch} {e : Env} {s : State} {m : MethodId} {args : Array Value} {below : List Frame} {meth : Method} {c : Code} (B : gB X p (rm12_readAll) s m args meth c RX12 cX12_readAll 3 (rm12_readAll)) (hS9 : gS X s) (hr : meth.sig.returnType = some .int) : ∀ (n : Nat) (a0 : Nat) (x1 : Int32) (x2 : Int32) (M : mMem), GG X p l e (rm12_readAll) s m args below meth c (gP X below args s 0 0 (fun r9 : (Int32 × mMem) => (some (.int r9.1), r9.2))) 3 0 0 28 [(0, .ref a0), (1, .int x1), (2, .int x2)] [] M (p12_readAll_L28 n a0 x1 x2 M) := by
  intro n
  induction n with
  | zero => intro a0 x1 x2 M; exact g_none
  | succ n ih =>
    intro a0 x1 x2 M
    rw [p12_readAll_L28]
    refine g_aload_n B dX12_readAll_28 0 rfl ?_
    refine g_iload_n B dX12_readAll_29 1 rfl ?_
    refine g_iload_n B dX12_readAll_30 2 rfl ?_
    refine g_callV_iw [.int x1, .int x2] (ci := 11) (T0 := TX12) (N := 27) B hS9 mf12_readLine wd_1770 (gw B wp_46) wd_1768 (by decide) rfl (fun h => (gd_ne h).1) (c12_readLine X l a0 x1 x2 M) (by decide) (by decide) (by decide) rfl (by decide) dX12_readAll_31 rfl (fun q_1 => ?_)
    refine g_if_ne B 39 dX12_readAll_34 (by decide) ?_ ?_
    · refine g_iconst (v := (-1)) B dX12_readAll_37 (by decide) ?_
      exact g_ireturn B hr rfl (by decide) (by decide) rfl dX12_readAll_38
    · refine g_aload_n B dX12_readAll_39 0 rfl ?_
      refine g_callV_vw [] (ci := 11) (T0 := TX12) (N := 27) B hS9 mf12_blanks wd_1762 (gw B wp_44) wd_1760 (by decide) rfl (fun h => (gd_ne h).1) (c12_blanks X l a0 q_1.2) (by decide) (by decide) (by decide) rfl (by decide) dX12_readAll_40 rfl (fun q_2 => ?_)
      refine g_aload_n B dX12_readAll_43 0 rfl ?_
      refine g_getI (ci := 11) (T0 := TX12) (N := 27) B (by decide) rfl in_11 (k := 10) (by decide) rfl wd_1651 (fun _ h => h) dX12_readAll_44 (fun v_3 => ?_)
      refine g_aload_n B dX12_readAll_47 0 rfl ?_
      refine g_getI (ci := 11) (T0 := TX12) (N := 27) B (by decide) rfl in_11 (k := 11) (by decide) rfl wd_1652 (fun _ h => h) dX12_readAll_48 (fun v_4 => ?_)
      refine g_icmp_ne B 58 dX12_readAll_51 (by decide) ?_ ?_
      · refine g_iload_n B dX12_readAll_54 2 rfl ?_
        refine g_iconst (v := 1) B dX12_readAll_55 (by decide) ?_
        refine g_iadd B dX12_readAll_56 ?_
        exact g_ireturn B hr rfl (by decide) (by decide) rfl dX12_readAll_57
      · refine g_aload_n B dX12_readAll_58 0 rfl ?_
        refine g_bipush (v := 59) B dX12_readAll_59 (by decide) ?_
        refine g_bipush (v := 59) B dX12_readAll_61 (by decide) ?_
        refine g_callV_ip [.int 59, .int 59] (ci := 11) (T0 := TX12) (N := 27) B hS9 mf12_isAt wd_1766 (gw B wp_45) wd_1764 (by decide) rfl (fun h => (gd_ne h).1) (c12_isAt X l a0 59 59 q_2) (by decide) (by decide) (by decide) rfl (by decide) dX12_readAll_63 rfl (fun v_5 => ?_)
        refine g_if_ne B 71 dX12_readAll_66 (by decide) ?_ ?_
        · refine g_iconst (v := (-1)) B dX12_readAll_69 (by decide) ?_
          exact g_ireturn B hr rfl (by decide) (by decide) rfl dX12_readAll_70
        · refine g_aload_n B dX12_readAll_71 0 rfl ?_
          refine g_dup B dX12_readAll_72 rfl ?_
          refine g_getI (ci := 11) (T0 := TX12) (N := 27) B (by decide) rfl in_11 (k := 10) (by decide) rfl wd_1651 (fun _ h => h) dX12_readAll_73 (fun v_6 => ?_)
          refine g_iconst (v := 1) B dX12_readAll_76 (by decide) ?_
          refine g_iadd B dX12_readAll_77 ?_
          refine g_putI (ci := 11) (T0 := TX12) (N := 27) B (by decide) rfl in_11 tyX12 tyX12_ok nmX12 (k := 10) (by decide) wd_1651 (fun _ h => h) rfl rfl (ty := .int) (by decide +kernel) rfl rfl dX12_readAll_78 (fun M_7 => ?_)
          refine g_iinc (v := (x2 + 1)) (lv' := [(2, .int (x2 + 1)), (0, .ref a0), (1, .int x1)]) B dX12_readAll_81 2 rfl rfl (by decide) [0, 1, 2] rfl ?_
          refine g_goto B 28 dX12_readAll_84 (by decide) ?_
          refine g_sub (lv' := [(0, .ref a0), (1, .int x1), (2, .int (x2 + 1))]) [1, 2, 0] rfl ?_
          exact ih a0 x1 (x2 + 1) M_7
set_option maxRecDepth 20000 in
set_option maxHeartbeats 2000000 in
theorem g12_readAll {X : gX} {p : Program} {l : Launch} {e : Env} {s : State} {m : MethodId} {args : Array Value} {below : List Frame} {meth : Method} {c : Code} (B : gB X p (rm12_readAll) s m args meth c RX12 cX12_readAll 3 (rm12_readAll)) (hS9 : gS X s) (hr : meth.sig.returnType = some .int) (a0 : Nat) (x1 : Int32) (M : mMem) : GG X p l e (rm12_readAll) s m args below meth c (gP X below args s 0 0 (fun r9 : (Int32 × mMem) => (some (.int r9.1), r9.2))) 3 0 0 0 [(0, .ref a0), (1, .int x1)] [] M (p12_readAll a0 x1 M) := by
  unfold p12_readAll
  refine g_gd ?_
  refine g_aload_n B dX12_readAll_0 0 rfl ?_
  refine g_callV_vw [] (ci := 11) (T0 := TX12) (N := 27) B hS9 mf12_uses wd_1758 (gw B wp_43) wd_1756 (by decide) rfl (fun h => (gd_ne h).1) (c12_uses X l a0 M) (by decide) (by decide) (by decide) rfl (by decide) dX12_readAll_1 rfl (fun q_1 => ?_)
  refine g_aload_n B dX12_readAll_4 0 rfl ?_
  refine g_iconst (v := 0) B dX12_readAll_5 (by decide) ?_
  refine g_putI (ci := 11) (T0 := TX12) (N := 27) B (by decide) rfl in_11 tyX12 tyX12_ok nmX12 (k := 16) (by decide) wd_1657 (fun _ h => h) rfl rfl (ty := .int) (by decide +kernel) rfl rfl dX12_readAll_6 (fun M_2 => ?_)
  refine g_aload_n B dX12_readAll_9 0 rfl ?_
  refine g_callV_vw [] (ci := 11) (T0 := TX12) (N := 27) B hS9 mf12_blanks wd_1762 (gw B wp_44) wd_1760 (by decide) rfl (fun h => (gd_ne h).1) (c12_blanks X l a0 M_2) (by decide) (by decide) (by decide) rfl (by decide) dX12_readAll_10 rfl (fun q_3 => ?_)
  refine g_aload_n B dX12_readAll_13 0 rfl ?_
  refine g_getI (ci := 11) (T0 := TX12) (N := 27) B (by decide) rfl in_11 (k := 10) (by decide) rfl wd_1651 (fun _ h => h) dX12_readAll_14 (fun v_4 => ?_)
  refine g_aload_n B dX12_readAll_17 0 rfl ?_
  refine g_getI (ci := 11) (T0 := TX12) (N := 27) B (by decide) rfl in_11 (k := 11) (by decide) rfl wd_1652 (fun _ h => h) dX12_readAll_18 (fun v_5 => ?_)
  refine g_icmp_ne B 26 dX12_readAll_21 (by decide) ?_ ?_
  · refine g_iconst (v := 0) B dX12_readAll_24 (by decide) ?_
    exact g_ireturn B hr rfl (by decide) (by decide) rfl dX12_readAll_25
  · refine g_iconst (v := 0) B dX12_readAll_26 (by decide) ?_
    refine g_istore_n (lv' := [(2, .int 0), (0, .ref a0), (1, .int x1)]) B dX12_readAll_27 (by decide) [0, 1, 2] rfl ?_
    refine g_sub (lv' := [(0, .ref a0), (1, .int x1), (2, .int 0)]) [1, 2, 0] rfl ?_
    exact (g12_readAll_L28 B hS9 hr) gF a0 x1 0 q_3
theorem c12_readAll (X : gX) (l : Launch) (a0 : Nat) (x1 : Int32) (M : mMem) : Con X l yX12_readAll cX12_readAll 3 (some .int) rm12_readAll (fun r9 : (Int32 × mMem) => (some (.int r9.1), r9.2)) [.ref a0, .int x1] M (p12_readAll a0 x1 M) := g_con (own := RX12) (by decide +kernel) rfl (Nat.le_of_ble_eq_true rfl) (fun p e s m args below meth c B hS9 hr hn => g12_readAll B hS9 hr a0 x1 M)
theorem mf12_family : gMF yX12_family cX12_family 3 (some .int) 0 := ⟨wd_1751, wd_13, ⟨by decide, by decide⟩, by decide +kernel⟩
set_option maxRecDepth 20000 in
set_option maxHeartbeats 2000000 in
theorem g12_family_L2 {X : gX} {p : Program} {l : Launch} {e : Env} {s : State} {m : MethodId} {args : Array Value} {below : List Frame} {meth : Method} {c : Code} (B : gB X p (rm12_family) s m args meth c RX12 cX12_family 3 (rm12_family)) (hS9 : gS X s) (hr : meth.sig.returnType = some .int) (k27 : Nat → mMem → Option (Int32 × mMem)) (hk27 : ∀ (a0 : Nat) (M : mMem), GG X p l e (rm12_family) s m args below meth c (gP X below args s 0 0 (fun r9 : (Int32 × mMem) => (some (.int r9.1), r9.2))) 3 0 0 27 [(0, .ref a0)] [] M (k27 a0 M)) : ∀ (n : Nat) (a0 : Nat) (x1 : Int32) (M : mMem), GG X p l e (rm12_family) s m args below meth c (gP X below args s 0 0 (fun r9 : (Int32 × mMem) => (some (.int r9.1), r9.2))) 3 0 0 2 [(0, .ref a0), (1, .int x1)] [] M (p12_family_L2 k27 n a0 x1 M) := by
  intro n
  induction n with
  | zero => intro a0 x1 M; exact g_none
  | succ n ih =>
    intro a0 x1 M
    rw [p12_family_L2]
    refine g_iload_n B dX12_family_2 1 rfl ?_
    refine g_sipush (v := 1294) B dX12_family_3 (by decide) ?_
    refine g_icmp_ge B 27 dX12_family_6 (by decide) ?_ ?_
    · refine g_aload_n B dX12_family_9 0 rfl ?_
      refine g_getR (ci := 11) (T0 := TX12) (N := 27) B (by decide) rfl in_11 (k := 3) (by decide) rfl wd_1644 (fun _ h => h) dX12_family_10 (fun v_1 => ?_)
      refine g_iload_n B dX12_family_13 1 rfl ?_
      refine g_aload_n B dX12_family_14 0 rfl ?_
      refine g_getR (ci := 11) (T0 := TX12) (N := 27) B (by decide) rfl in_11 (k := 1) (by decide) rfl wd_1642 (fun _ h => h) dX12_family_15 (fun v_2 => ?_)
      refine g_iload_n B dX12_family_18 1 rfl ?_
      refine g_iaload B dX12_family_19 (fun v_3 => ?_)
      refine g_iastore B dX12_family_20 (fun M_4 => ?_)
      refine g_iinc (v := (x1 + 1)) (lv' := [(1, .int (x1 + 1)), (0, .ref a0)]) B dX12_family_21 1 rfl rfl (by decide) [0, 1] rfl ?_
      refine g_goto B 2 dX12_family_24 (by decide) ?_
      refine g_sub (lv' := [(0, .ref a0), (1, .int (x1 + 1))]) [1, 0] rfl ?_
      exact ih a0 (x1 + 1) M_4
    · refine g_sub (lv' := [(0, .ref a0)]) [0] rfl ?_
      exact hk27 a0 M
set_option maxRecDepth 20000 in
set_option maxHeartbeats 2000000 in
theorem g12_family_L92 {X : gX} {p : Program} {l : Launch} {e : Env} {s : State} {m : MethodId} {args : Array Value} {below : List Frame} {meth : Method} {c : Code} (B : gB X p (rm12_family) s m args meth c RX12 cX12_family 3 (rm12_family)) (hS9 : gS X s) (hr : meth.sig.returnType = some .int) : ∀ (n : Nat) (a0 : Nat) (x2 : Int32) (M : mMem), GG X p l e (rm12_family) s m args below meth c (gP X below args s 0 0 (fun r9 : (Int32 × mMem) => (some (.int r9.1), r9.2))) 3 0 0 92 [(0, .ref a0), (2, .int x2)] [] M (p12_family_L92 n a0 x2 M) := by
  intro n
  induction n with
  | zero => intro a0 x2 M; exact g_none
  | succ n ih =>
    intro a0 x2 M
    rw [p12_family_L92]
    refine g_iload_n B dX12_family_92 1 rfl ?_
    refine g_sipush (v := 1294) B dX12_family_93 (by decide) ?_
    refine g_icmp_ge B 117 dX12_family_96 (by decide) ?_ ?_
    · refine g_aload_n B dX12_family_99 0 rfl ?_
      refine g_getR (ci := 11) (T0 := TX12) (N := 27) B (by decide) rfl in_11 (k := 1) (by decide) rfl wd_1642 (fun _ h => h) dX12_family_100 (fun v_1 => ?_)
      refine g_iload_n B dX12_family_103 1 rfl ?_
      refine g_aload_n B dX12_family_104 0 rfl ?_
      refine g_getR (ci := 11) (T0 := TX12) (N := 27) B (by decide) rfl in_11 (k := 3) (by decide) rfl wd_1644 (fun _ h => h) dX12_family_105 (fun v_2 => ?_)
      refine g_iload_n B dX12_family_108 1 rfl ?_
      refine g_iaload B dX12_family_109 (fun v_3 => ?_)
      refine g_iastore B dX12_family_110 (fun M_4 => ?_)
      refine g_iinc (v := (x2 + 1)) (lv' := [(2, .int (x2 + 1)), (0, .ref a0)]) B dX12_family_111 1 rfl rfl (by decide) [0, 1] rfl ?_
      refine g_goto B 92 dX12_family_114 (by decide) ?_
      refine g_sub (lv' := [(0, .ref a0), (2, .int (x2 + 1))]) [1, 0] rfl ?_
      exact ih a0 (x2 + 1) M_4
    · refine g_iconst (v := 0) B dX12_family_117 (by decide) ?_
      exact g_ireturn B hr rfl (by decide) (by decide) rfl dX12_family_118
set_option maxRecDepth 20000 in
set_option maxHeartbeats 2000000 in
theorem g12_family_J90 {X : gX} {p : Program} {l : Launch} {e : Env} {s : State} {m : MethodId} {args : Array Value} {below : List Frame} {meth : Method} {c : Code} (B : gB X p (rm12_family) s m args meth c RX12 cX12_family 3 (rm12_family)) (hS9 : gS X s) (hr : meth.sig.returnType = some .int) (a0 : Nat) (M : mMem) : GG X p l e (rm12_family) s m args below meth c (gP X below args s 0 0 (fun r9 : (Int32 × mMem) => (some (.int r9.1), r9.2))) 3 0 0 90 [(0, .ref a0)] [] M (p12_family_J90 a0 M) := by
  unfold p12_family_J90
  refine g_iconst (v := 0) B dX12_family_90 (by decide) ?_
  refine g_istore_n (lv' := [(2, .int 0), (0, .ref a0)]) B dX12_family_91 (by decide) [0, 1] rfl ?_
  refine g_sub (lv' := [(0, .ref a0), (2, .int 0)]) [1, 0] rfl ?_
  exact (g12_family_L92 B hS9 hr) gF a0 0 M
set_option maxRecDepth 20000 in
set_option maxHeartbeats 2000000 in
theorem g12_family_J83 {X : gX} {p : Program} {l : Launch} {e : Env} {s : State} {m : MethodId} {args : Array Value} {below : List Frame} {meth : Method} {c : Code} (B : gB X p (rm12_family) s m args meth c RX12 cX12_family 3 (rm12_family)) (hS9 : gS X s) (hr : meth.sig.returnType = some .int) (a0 : Nat) (b0 : Nat) (u1 : Int32) (M : mMem) : GG X p l e (rm12_family) s m args below meth c (gP X below args s 0 0 (fun r9 : (Int32 × mMem) => (some (.int r9.1), r9.2))) 3 0 0 83 [(0, .ref a0)] [.int u1, .ref b0] M (p12_family_J83 a0 b0 u1 M) := by
  unfold p12_family_J83
  refine g_iconst (v := 2) B dX12_family_83 (by decide) ?_
  refine g_callV_iw [.int u1, .int 2] (ci := 11) (T0 := TX12) (N := 27) B hS9 mf12_throwsIf wd_1932 (gw B wp_78) wd_1930 (by decide) rfl (fun h => (gd_ne h).1) (c12_throwsIf X l b0 u1 2 M) (by decide) (by decide) (by decide) rfl (by decide) dX12_family_84 rfl (fun q_1 => ?_)
  refine g_if_eq B 119 dX12_family_87 (by decide) ?_ ?_
  · refine g_aload_n B dX12_family_119 0 rfl ?_
    refine g_getR (ci := 11) (T0 := TX12) (N := 27) B (by decide) rfl in_11 (k := 1) (by decide) rfl wd_1642 (fun _ h => h) dX12_family_120 (fun v_2 => ?_)
    refine g_iconst (v := 1) B dX12_family_123 (by decide) ?_
    refine g_dup2_11 B dX12_family_124 rfl rfl ?_
    refine g_iaload B dX12_family_125 (fun v_3 => ?_)
    refine g_iconst (v := 1) B dX12_family_126 (by decide) ?_
    refine g_iadd B dX12_family_127 ?_
    refine g_iastore B dX12_family_128 (fun M_4 => ?_)
    refine g_aload_n B dX12_family_129 0 rfl ?_
    refine g_iconst (v := 0) B dX12_family_130 (by decide) ?_
    refine g_putI (ci := 11) (T0 := TX12) (N := 27) B (by decide) rfl in_11 tyX12 tyX12_ok nmX12 (k := 7) (by decide) wd_1648 (fun _ h => h) rfl rfl (ty := .int) (by decide +kernel) rfl rfl dX12_family_131 (fun M_5 => ?_)
    refine g_aload_n B dX12_family_134 0 rfl ?_
    refine g_getR (ci := 11) (T0 := TX12) (N := 27) B (by decide) rfl in_11 (k := 1) (by decide) rfl wd_1642 (fun _ h => h) dX12_family_135 (fun v_6 => ?_)
    refine g_iconst (v := 1) B dX12_family_138 (by decide) ?_
    refine g_iaload B dX12_family_139 (fun v_7 => ?_)
    exact g_ireturn B hr rfl (by decide) (by decide) rfl dX12_family_140
  · refine g_sub (lv' := [(0, .ref a0)]) [0] rfl ?_
    exact g12_family_J90 B hS9 hr a0 q_1.2
set_option maxRecDepth 20000 in
set_option maxHeartbeats 2000000 in
theorem g12_family_J59 {X : gX} {p : Program} {l : Launch} {e : Env} {s : State} {m : MethodId} {args : Array Value} {below : List Frame} {meth : Method} {c : Code} (B : gB X p (rm12_family) s m args meth c RX12 cX12_family 3 (rm12_family)) (hS9 : gS X s) (hr : meth.sig.returnType = some .int) (a0 : Nat) (b0 : Nat) (u1 : Int32) (M : mMem) : GG X p l e (rm12_family) s m args below meth c (gP X below args s 0 0 (fun r9 : (Int32 × mMem) => (some (.int r9.1), r9.2))) 3 0 0 59 [(0, .ref a0)] [.int u1, .ref b0] M (p12_family_J59 a0 b0 u1 M) := by
  unfold p12_family_J59
  refine g_iconst (v := 1) B dX12_family_59 (by decide) ?_
  refine g_callV_iw [.int u1, .int 1] (ci := 11) (T0 := TX12) (N := 27) B hS9 mf12_throwsIf wd_1932 (gw B wp_78) wd_1930 (by decide) rfl (fun h => (gd_ne h).1) (c12_throwsIf X l b0 u1 1 M) (by decide) (by decide) (by decide) rfl (by decide) dX12_family_60 rfl (fun q_1 => ?_)
  refine g_if_ne B 90 dX12_family_63 (by decide) ?_ ?_
  · refine g_aload_n B dX12_family_66 0 rfl ?_
    refine g_aload_n B dX12_family_67 0 rfl ?_
    refine g_getR (ci := 11) (T0 := TX12) (N := 27) B (by decide) rfl in_11 (k := 1) (by decide) rfl wd_1642 (fun _ h => h) dX12_family_68 (fun v_2 => ?_)
    refine g_iconst (v := 1) B dX12_family_71 (by decide) ?_
    refine g_iaload B dX12_family_72 (fun v_3 => ?_)
    refine g_bipush (v := 12) B dX12_family_73 (by decide) ?_
    refine g_icmp_ne B 82 dX12_family_75 (by decide) ?_ ?_
    · refine g_iconst (v := 1) B dX12_family_78 (by decide) ?_
      refine g_goto B 83 dX12_family_79 (by decide) ?_
      refine g_sub (lv' := [(0, .ref a0)]) [0] rfl ?_
      exact g12_family_J83 B hS9 hr a0 a0 1 q_1.2
    · refine g_iconst (v := 0) B dX12_family_82 (by decide) ?_
      refine g_sub (lv' := [(0, .ref a0)]) [0] rfl ?_
      exact g12_family_J83 B hS9 hr a0 a0 0 q_1.2
  · refine g_sub (lv' := [(0, .ref a0)]) [0] rfl ?_
    exact g12_family_J90 B hS9 hr a0 q_1.2
set_option maxRecDepth 20000 in
set_option maxHeartbeats 2000000 in
theorem g12_family_J46 {X : gX} {p : Program} {l : Launch} {e : Env} {s : State} {m : MethodId} {args : Array Value} {below : List Frame} {meth : Method} {c : Code} (B : gB X p (rm12_family) s m args meth c RX12 cX12_family 3 (rm12_family)) (hS9 : gS X s) (hr : meth.sig.returnType = some .int) (a0 : Nat) (x1 : Int32) (b0 : Nat) (u1 : Int32) (M : mMem) : GG X p l e (rm12_family) s m args below meth c (gP X below args s 0 0 (fun r9 : (Int32 × mMem) => (some (.int r9.1), r9.2))) 3 0 0 46 [(0, .ref a0), (1, .int x1)] [.int u1, .ref b0] M (p12_family_J46 a0 x1 b0 u1 M) := by
  unfold p12_family_J46
  refine g_putI (ci := 11) (T0 := TX12) (N := 27) B (by decide) rfl in_11 tyX12 tyX12_ok nmX12 (k := 14) (by decide) wd_1655 (fun _ h => h) rfl rfl (ty := .int) (by decide +kernel) rfl rfl dX12_family_46 (fun M_1 => ?_)
  refine g_aload_n B dX12_family_49 0 rfl ?_
  refine g_iload_n B dX12_family_50 1 rfl ?_
  refine g_if_ge B 58 dX12_family_51 (by decide) ?_ ?_
  · refine g_iconst (v := 1) B dX12_family_54 (by decide) ?_
    refine g_goto B 59 dX12_family_55 (by decide) ?_
    refine g_sub (lv' := [(0, .ref a0)]) [0] rfl ?_
    exact g12_family_J59 B hS9 hr a0 a0 1 M_1
  · refine g_iconst (v := 0) B dX12_family_58 (by decide) ?_
    refine g_sub (lv' := [(0, .ref a0)]) [0] rfl ?_
    exact g12_family_J59 B hS9 hr a0 a0 0 M_1
set_option maxRecDepth 20000 in
set_option maxHeartbeats 2000000 in
theorem g12_family_J27 {X : gX} {p : Program} {l : Launch} {e : Env} {s : State} {m : MethodId} {args : Array Value} {below : List Frame} {meth : Method} {c : Code} (B : gB X p (rm12_family) s m args meth c RX12 cX12_family 3 (rm12_family)) (hS9 : gS X s) (hr : meth.sig.returnType = some .int) (a0 : Nat) (M : mMem) : GG X p l e (rm12_family) s m args below meth c (gP X below args s 0 0 (fun r9 : (Int32 × mMem) => (some (.int r9.1), r9.2))) 3 0 0 27 [(0, .ref a0)] [] M (p12_family_J27 a0 M) := by
  unfold p12_family_J27
  refine g_aload_n B dX12_family_27 0 rfl ?_
  refine g_iconst (v := 1) B dX12_family_28 (by decide) ?_
  refine g_callV_iw [.int 1] (ci := 11) (T0 := TX12) (N := 27) B hS9 mf12_readAll wd_1754 (gw B wp_42) wd_1752 (by decide) rfl (fun h => (gd_ne h).1) (c12_readAll X l a0 1 M) (by decide) (by decide) (by decide) rfl (by decide) dX12_family_29 rfl (fun q_1 => ?_)
  refine g_istore_n (lv' := [(1, .int q_1.1), (0, .ref a0)]) B dX12_family_32 (by decide) [0, 1] rfl ?_
  refine g_aload_n B dX12_family_33 1 rfl ?_
  refine g_iload_n B dX12_family_34 0 rfl ?_
  refine g_if_ge B 45 dX12_family_35 (by decide) ?_ ?_
  · refine g_aload_n B dX12_family_38 1 rfl ?_
    refine g_getI (ci := 11) (T0 := TX12) (N := 27) B (by decide) rfl in_11 (k := 12) (by decide) rfl wd_1653 (fun _ h => h) dX12_family_39 (fun v_2 => ?_)
    refine g_goto B 46 dX12_family_42 (by decide) ?_
    refine g_sub (lv' := [(0, .ref a0), (1, .int q_1.1)]) [1, 0] rfl ?_
    exact g12_family_J46 B hS9 hr a0 q_1.1 a0 v_2 q_1.2
  · refine g_iconst (v := (-1)) B dX12_family_45 (by decide) ?_
    refine g_sub (lv' := [(0, .ref a0), (1, .int q_1.1)]) [1, 0] rfl ?_
    exact g12_family_J46 B hS9 hr a0 q_1.1 a0 (-1) q_1.2
set_option maxRecDepth 20000 in
set_option maxHeartbeats 2000000 in
theorem g12_family {X : gX} {p : Program} {l : Launch} {e : Env} {s : State} {m : MethodId} {args : Array Value} {below : List Frame} {meth : Method} {c : Code} (B : gB X p (rm12_family) s m args meth c RX12 cX12_family 3 (rm12_family)) (hS9 : gS X s) (hr : meth.sig.returnType = some .int) (a0 : Nat) (M : mMem) : GG X p l e (rm12_family) s m args below meth c (gP X below args s 0 0 (fun r9 : (Int32 × mMem) => (some (.int r9.1), r9.2))) 3 0 0 0 [(0, .ref a0)] [] M (p12_family a0 M) := by
  unfold p12_family
  refine g_gd ?_
  refine g_iconst (v := 0) B dX12_family_0 (by decide) ?_
  refine g_istore_n (lv' := [(1, .int 0), (0, .ref a0)]) B dX12_family_1 (by decide) [0, 1] rfl ?_
  refine g_sub (lv' := [(0, .ref a0), (1, .int 0)]) [1, 0] rfl ?_
  exact (g12_family_L2 B hS9 hr p12_family_J27 (fun e0 e1 => g12_family_J27 B hS9 hr e0 e1)) gF a0 0 M
theorem c12_family (X : gX) (l : Launch) (a0 : Nat) (M : mMem) : Con X l yX12_family cX12_family 3 (some .int) rm12_family (fun r9 : (Int32 × mMem) => (some (.int r9.1), r9.2)) [.ref a0] M (p12_family a0 M) := g_con (own := RX12) (by decide +kernel) rfl (Nat.le_of_ble_eq_true rfl) (fun p e s m args below meth c B hS9 hr hn => g12_family B hS9 hr a0 M)
