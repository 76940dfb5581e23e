theorem mf12_owes : gMF yX12_owes cX12_owes 3 (some .int) 2 := ⟨wd_2256, wd_13, ⟨by decide, by decide⟩, by decide +kernel⟩
set_option maxRecDepth 20000 in
set_option maxHeartbeats 2000000 in
theorem g12_owes_J36 {X : gX} {p : Program} {l : Launch} {e : Env} {s : State} {m : MethodId} {args : Array Value} {below : List Frame} {meth : Method} {c : Code} (B : gB X p (rm12_owes) s m args meth c RX12 cX12_owes 3 (rm12_owes)) (hS9 : gS X s) (hr : meth.sig.returnType = some .int) (u0 : Int32) (M : mMem) : GG X p l e (rm12_owes) s m args below meth c (gP X below args s 0 0 (fun r9 : (Int32 × mMem) => (some (.int r9.1), r9.2))) 3 0 0 36 [] [.int u0] M (p12_owes_J36 u0 M) := by
  unfold p12_owes_J36
  exact g_ireturn B hr rfl (by decide) (by decide) rfl dX12_owes_36
set_option maxRecDepth 20000 in
set_option maxHeartbeats 2000000 in
theorem g12_owes {X : gX} {p : Program} {l : Launch} {e : Env} {s : State} {m : MethodId} {args : Array Value} {below : List Frame} {meth : Method} {c : Code} (B : gB X p (rm12_owes) s m args meth c RX12 cX12_owes 3 (rm12_owes)) (hS9 : gS X s) (hr : meth.sig.returnType = some .int) (a0 : Nat) (x1 : Int32) (x2 : Int32) (M : mMem) : GG X p l e (rm12_owes) s m args below meth c (gP X below args s 0 0 (fun r9 : (Int32 × mMem) => (some (.int r9.1), r9.2))) 3 0 0 0 [(0, .ref a0), (1, .int x1), (2, .int x2)] [] M (p12_owes a0 x1 x2 M) := by
  unfold p12_owes
  refine g_gd ?_
  refine g_aload_n B dX12_owes_0 0 rfl ?_
  refine g_iload_n B dX12_owes_1 1 rfl ?_
  refine g_iload_n B dX12_owes_2 2 rfl ?_
  refine g_callV_iw [.int x1, .int x2] (ci := 11) (T0 := TX12) (N := 27) B hS9 mf12_noTwo wd_1974 (gw B wp_84) wd_1972 (by decide) rfl (fun h => (gd_ne h).1) (c12_noTwo X l a0 x1 x2 M) (by decide) (by decide) (by decide) rfl (by decide) dX12_owes_3 rfl (fun q_1 => ?_)
  refine g_if_eq B 13 dX12_owes_6 (by decide) ?_ ?_
  · refine g_iconst (v := 0) B dX12_owes_13 (by decide) ?_
    refine g_aload_n B dX12_owes_14 0 rfl ?_
    refine g_iload_n B dX12_owes_15 2 rfl ?_
    refine g_bipush (v := 9) B dX12_owes_16 (by decide) ?_
    refine g_iload_n B dX12_owes_18 1 rfl ?_
    refine g_iadd B dX12_owes_19 ?_
    refine g_callV_ip [.int x2, .int ((9 : Int32) + x1)] (ci := 11) (T0 := TX12) (N := 27) B hS9 mf12_of wd_1846 (gw B wp_61) wd_1844 (by decide) rfl (fun h => (gd_ne h).1) (c12_of X l a0 x2 ((9 : Int32) + x1) q_1.2) (by decide) (by decide) (by decide) rfl (Nat.le_of_ble_eq_true rfl) dX12_owes_20 rfl (fun v_2 => ?_)
    refine g_aload_n B dX12_owes_23 0 rfl ?_
    refine g_iload_n B dX12_owes_24 1 rfl ?_
    refine g_bipush (v := 9) B dX12_owes_25 (by decide) ?_
    refine g_iload_n B dX12_owes_27 2 rfl ?_
    refine g_iadd B dX12_owes_28 ?_
    refine g_callV_ip [.int x1, .int ((9 : Int32) + x2)] (ci := 11) (T0 := TX12) (N := 27) B hS9 mf12_of wd_1846 (gw B wp_61) wd_1844 (by decide) rfl (fun h => (gd_ne h).1) (c12_of X l a0 x1 ((9 : Int32) + x2) q_1.2) (by decide) (by decide) (by decide) rfl (Nat.le_of_ble_eq_true rfl) dX12_owes_29 rfl (fun v_3 => ?_)
    refine g_isub B dX12_owes_32 ?_
    refine g_max B wd_1869 wd_516 wd_15 wd_517 (by decide) (Nat.le_of_ble_eq_true rfl) (by decide) dX12_owes_33 ?_
    refine g_sub (lv' := []) [] rfl ?_
    exact g12_owes_J36 B hS9 hr (maxI 0 (v_2 - v_3)) q_1.2
  · refine g_iconst (v := 0) B dX12_owes_9 (by decide) ?_
    refine g_goto B 36 dX12_owes_10 (by decide) ?_
    refine g_sub (lv' := []) [] rfl ?_
    exact g12_owes_J36 B hS9 hr 0 q_1.2
theorem c12_owes (X : gX) (l : Launch) (a0 : Nat) (x1 : Int32) (x2 : Int32) (M : mMem) : Con X l yX12_owes cX12_owes 3 (some .int) rm12_owes (fun r9 : (Int32 × mMem) => (some (.int r9.1), r9.2)) [.ref a0, .int x1, .int x2] M (p12_owes a0 x1 x2 M) := g_con (own := RX12) (by decide +kernel) rfl (Nat.le_of_ble_eq_true rfl) (fun p e s m args below meth c B hS9 hr hn => g12_owes B hS9 hr a0 x1 x2 M)
theorem mf12_net : gMF yX12_net cX12_net 5 (some .int) 0 := ⟨wd_2260, wd_13, ⟨by decide, by decide⟩, by decide +kernel⟩
set_option maxRecDepth 20000 in
set_option maxHeartbeats 2000000 in
theorem g12_net_L22 {X : gX} {p : Program} {l : Launch} {e : Env} {s : State} {m : MethodId} {args : Array Value} {below : List Frame} {meth : Method} {c : Code} (B : gB X p (rm12_net) s m args meth c RX12 cX12_net 5 (rm12_net)) (hS9 : gS X s) (hr : meth.sig.returnType = some .int) (k61 : Nat → Int32 → Int32 → Int32 → mMem → Option (Int32 × mMem)) (hk61 : ∀ (a0 : Nat) (x1 : Int32) (x2 : Int32) (x3 : Int32) (M : mMem), GG X p l e (rm12_net) s m args below meth c (gP X below args s 0 0 (fun r9 : (Int32 × mMem) => (some (.int r9.1), r9.2))) 5 0 0 61 [(0, .ref a0), (1, .int x1), (2, .int x2), (3, .int x3)] [] M (k61 a0 x1 x2 x3 M)) : ∀ (n : Nat) (a0 : Nat) (x1 : Int32) (x2 : Int32) (x3 : Int32) (x4 : Int32) (M : mMem), GG X p l e (rm12_net) s m args below meth c (gP X below args s 0 0 (fun r9 : (Int32 × mMem) => (some (.int r9.1), r9.2))) 5 0 0 22 [(0, .ref a0), (1, .int x1), (2, .int x2), (3, .int x3), (4, .int x4)] [] M (p12_net_L22 k61 n a0 x1 x2 x3 x4 M) := by
  intro n
  induction n with
  | zero => intro a0 x1 x2 x3 x4 M; exact g_none
  | succ n ih =>
    intro a0 x1 x2 x3 x4 M
    rw [p12_net_L22]
    refine g_iload B dX12_net_22 4 rfl ?_
    refine g_aload_n B dX12_net_24 0 rfl ?_
    refine g_callV_ip [] (ci := 11) (T0 := TX12) (N := 27) B hS9 mf12_people wd_1793 (gw B wp_51) wd_1791 (by decide) rfl (fun h => (gd_ne h).1) (c12_people X l a0 M) (by decide) (by decide) (by decide) rfl (Nat.le_of_ble_eq_true rfl) dX12_net_25 rfl (fun v_1 => ?_)
    refine g_icmp_ge B 61 dX12_net_28 (by decide) ?_ ?_
    · refine g_iload_n B dX12_net_31 3 rfl ?_
      refine g_aload_n B dX12_net_32 0 rfl ?_
      refine g_iload_n B dX12_net_33 2 rfl ?_
      refine g_bipush (v := 9) B dX12_net_34 (by decide) ?_
      refine g_iload B dX12_net_36 4 rfl ?_
      refine g_iadd B dX12_net_38 ?_
      refine g_callV_ip [.int x2, .int ((9 : Int32) + x4)] (ci := 11) (T0 := TX12) (N := 27) B hS9 mf12_of wd_1846 (gw B wp_61) wd_1844 (by decide) rfl (fun h => (gd_ne h).1) (c12_of X l a0 x2 ((9 : Int32) + x4) M) (by decide) (by decide) (by decide) rfl (Nat.le_of_ble_eq_true rfl) dX12_net_39 rfl (fun v_2 => ?_)
      refine g_aload_n B dX12_net_42 0 rfl ?_
      refine g_iload B dX12_net_43 4 rfl ?_
      refine g_bipush (v := 9) B dX12_net_45 (by decide) ?_
      refine g_iload_n B dX12_net_47 2 rfl ?_
      refine g_iadd B dX12_net_48 ?_
      refine g_callV_ip [.int x4, .int ((9 : Int32) + x2)] (ci := 11) (T0 := TX12) (N := 27) B hS9 mf12_of wd_1846 (gw B wp_61) wd_1844 (by decide) rfl (fun h => (gd_ne h).1) (c12_of X l a0 x4 ((9 : Int32) + x2) M) (by decide) (by decide) (by decide) rfl (Nat.le_of_ble_eq_true rfl) dX12_net_49 rfl (fun v_3 => ?_)
      refine g_isub B dX12_net_52 ?_
      refine g_iadd B dX12_net_53 ?_
      refine g_istore_n (lv' := [(3, .int (x3 + (v_2 - v_3))), (0, .ref a0), (1, .int x1), (2, .int x2), (4, .int x4)]) B dX12_net_54 (by decide) [0, 1, 2, 3, 4] rfl ?_
      refine g_iinc (v := (x4 + 1)) (lv' := [(4, .int (x4 + 1)), (3, .int (x3 + (v_2 - v_3))), (0, .ref a0), (1, .int x1), (2, .int x2)]) B dX12_net_55 4 rfl rfl (by decide) [0, 1, 2, 3, 4] rfl ?_
      refine g_goto B 22 dX12_net_58 (by decide) ?_
      refine g_sub (lv' := [(0, .ref a0), (1, .int x1), (2, .int x2), (3, .int (x3 + (v_2 - v_3))), (4, .int (x4 + 1))]) [2, 3, 4, 1, 0] rfl ?_
      exact ih a0 x1 x2 (x3 + (v_2 - v_3)) (x4 + 1) M
    · refine g_sub (lv' := [(0, .ref a0), (1, .int x1), (2, .int x2), (3, .int x3)]) [0, 1, 2, 3] rfl ?_
      exact hk61 a0 x1 x2 x3 M
set_option maxRecDepth 20000 in
set_option maxHeartbeats 2000000 in
theorem g12_net_J61 {X : gX} {p : Program} {l : Launch} {e : Env} {s : State} {m : MethodId} {args : Array Value} {below : List Frame} {meth : Method} {c : Code} (B : gB X p (rm12_net) s m args meth c RX12 cX12_net 5 (rm12_net)) (hS9 : gS X s) (hr : meth.sig.returnType = some .int) (rec9 : Nat → Int32 → Int32 → mMem → Option (Int32 × mMem)) (hrec9 : ∀ (a0 : Nat) (x1 : Int32) (x2 : Int32) (M : mMem), GG X p l e (rm12_net) s m args below meth c (gP X below args s 0 0 (fun r9 : (Int32 × mMem) => (some (.int r9.1), r9.2))) 5 0 0 9 [(0, .ref a0), (1, .int x1), (2, .int x2)] [] M (rec9 a0 x1 x2 M)) (a0 : Nat) (x1 : Int32) (x2 : Int32) (x3 : Int32) (M : mMem) : GG X p l e (rm12_net) s m args below meth c (gP X below args s 0 0 (fun r9 : (Int32 × mMem) => (some (.int r9.1), r9.2))) 5 0 0 61 [(0, .ref a0), (1, .int x1), (2, .int x2), (3, .int x3)] [] M (p12_net_J61 rec9 a0 x1 x2 x3 M) := by
  unfold p12_net_J61
  refine g_iload_n B dX12_net_61 1 rfl ?_
  refine g_iconst (v := 0) B dX12_net_62 (by decide) ?_
  refine g_iload_n B dX12_net_63 3 rfl ?_
  refine g_max B wd_1869 wd_516 wd_15 wd_517 (by decide) (Nat.le_of_ble_eq_true rfl) (by decide) dX12_net_64 ?_
  refine g_iadd B dX12_net_67 ?_
  refine g_istore_n (lv' := [(1, .int (x1 + (maxI 0 x3))), (0, .ref a0), (2, .int x2), (3, .int x3)]) B dX12_net_68 (by decide) [0, 1, 2, 3] rfl ?_
  refine g_iinc (v := (x2 + 1)) (lv' := [(2, .int (x2 + 1)), (1, .int (x1 + (maxI 0 x3))), (0, .ref a0), (3, .int x3)]) B dX12_net_69 2 rfl rfl (by decide) [0, 1, 2, 3] rfl ?_
  refine g_goto B 9 dX12_net_72 (by decide) ?_
  refine g_sub (lv' := [(0, .ref a0), (1, .int (x1 + (maxI 0 x3))), (2, .int (x2 + 1))]) [2, 1, 0] rfl ?_
  exact hrec9 a0 (x1 + (maxI 0 x3)) (x2 + 1) M
set_option maxRecDepth 20000 in
set_option maxHeartbeats 2000000 in
theorem g12_net_L9 {X : gX} {p : Program} {l : Launch} {e : Env} {s : State} {m : MethodId} {args : Array Value} {below : List Frame} {meth : Method} {c : Code} (B : gB X p (rm12_net) s m args meth c RX12 cX12_net 5 (rm12_net)) (hS9 : gS X s) (hr : meth.sig.returnType = some .int) : ∀ (n : Nat) (a0 : Nat) (x1 : Int32) (x2 : Int32) (M : mMem), GG X p l e (rm12_net) s m args below meth c (gP X below args s 0 0 (fun r9 : (Int32 × mMem) => (some (.int r9.1), r9.2))) 5 0 0 9 [(0, .ref a0), (1, .int x1), (2, .int x2)] [] M (p12_net_L9 n a0 x1 x2 M) := by
  intro n
  induction n with
  | zero => intro a0 x1 x2 M; exact g_none
  | succ n ih =>
    intro a0 x1 x2 M
    rw [p12_net_L9]
    refine g_iload_n B dX12_net_9 2 rfl ?_
    refine g_aload_n B dX12_net_10 0 rfl ?_
    refine g_callV_ip [] (ci := 11) (T0 := TX12) (N := 27) B hS9 mf12_people wd_1793 (gw B wp_51) wd_1791 (by decide) rfl (fun h => (gd_ne h).1) (c12_people X l a0 M) (by decide) (by decide) (by decide) rfl (Nat.le_of_ble_eq_true rfl) dX12_net_11 rfl (fun v_1 => ?_)
    refine g_icmp_ge B 75 dX12_net_14 (by decide) ?_ ?_
    · refine g_iconst (v := 0) B dX12_net_17 (by decide) ?_
      refine g_istore_n (lv' := [(3, .int 0), (0, .ref a0), (1, .int x1), (2, .int x2)]) B dX12_net_18 (by decide) [0, 1, 2, 3] rfl ?_
      refine g_iconst (v := 0) B dX12_net_19 (by decide) ?_
      refine g_istore (lv' := [(4, .int 0), (3, .int 0), (0, .ref a0), (1, .int x1), (2, .int x2)]) B dX12_net_20 (by decide) [0, 1, 2, 3, 4] rfl ?_
      refine g_sub (lv' := [(0, .ref a0), (1, .int x1), (2, .int x2), (3, .int 0), (4, .int 0)]) [2, 3, 4, 1, 0] rfl ?_
      exact (g12_net_L22 B hS9 hr (p12_net_J61 (p12_net_L9 n)) (fun e0 e1 e2 e3 e4 => g12_net_J61 B hS9 hr (p12_net_L9 n) ih e0 e1 e2 e3 e4)) gF a0 x1 x2 0 0 M
    · refine g_iload_n B dX12_net_75 1 rfl ?_
      exact g_ireturn B hr rfl (by decide) (by decide) rfl dX12_net_76
set_option maxRecDepth 20000 in
set_option maxHeartbeats 2000000 in
theorem g12_net {X : gX} {p : Program} {l : Launch} {e : Env} {s : State} {m : MethodId} {args : Array Value} {below : List Frame} {meth : Method} {c : Code} (B : gB X p (rm12_net) s m args meth c RX12 cX12_net 5 (rm12_net)) (hS9 : gS X s) (hr : meth.sig.returnType = some .int) (a0 : Nat) (M : mMem) : GG X p l e (rm12_net) s m args below meth c (gP X below args s 0 0 (fun r9 : (Int32 × mMem) => (some (.int r9.1), r9.2))) 5 0 0 0 [(0, .ref a0)] [] M (p12_net a0 M) := by
  unfold p12_net
  refine g_gd ?_
  refine g_aload_n B dX12_net_0 0 rfl ?_
  refine g_iconst (v := 0) B dX12_net_1 (by decide) ?_
  refine g_putI (ci := 11) (T0 := TX12) (N := 27) B (by decide) rfl in_11 tyX12 tyX12_ok nmX12 (k := 0) (by decide) wd_1641 (fun _ h => h) rfl rfl (ty := .int) (by decide +kernel) rfl rfl dX12_net_2 (fun M_1 => ?_)
  refine g_iconst (v := 0) B dX12_net_5 (by decide) ?_
  refine g_istore_n (lv' := [(1, .int 0), (0, .ref a0)]) B dX12_net_6 (by decide) [0, 1] rfl ?_
  refine g_iconst (v := 0) B dX12_net_7 (by decide) ?_
  refine g_istore_n (lv' := [(2, .int 0), (1, .int 0), (0, .ref a0)]) B dX12_net_8 (by decide) [0, 1, 2] rfl ?_
  refine g_sub (lv' := [(0, .ref a0), (1, .int 0), (2, .int 0)]) [2, 1, 0] rfl ?_
  exact (g12_net_L9 B hS9 hr) gF a0 0 0 M_1
theorem c12_net (X : gX) (l : Launch) (a0 : Nat) (M : mMem) : Con X l yX12_net cX12_net 5 (some .int) rm12_net (fun r9 : (Int32 × mMem) => (some (.int r9.1), r9.2)) [.ref a0] M (p12_net a0 M) := g_con (own := RX12) (by decide +kernel) rfl (Nat.le_of_ble_eq_true rfl) (fun p e s m args below meth c B hS9 hr hn => g12_net B hS9 hr a0 M)
theorem mf12_lentBy : gMF yX12_lentBy cX12_lentBy 5 (some .int) 1 := ⟨wd_2268, wd_13, ⟨by decide, by decide⟩, by decide +kernel⟩
set_option maxRecDepth 20000 in
set_option maxHeartbeats 2000000 in
theorem g12_lentBy_J54 {X : gX} {p : Program} {l : Launch} {e : Env} {s : State} {m : MethodId} {args : Array Value} {below : List Frame} {meth : Method} {c : Code} (B : gB X p (rm12_lentBy) s m args meth c RX12 cX12_lentBy 5 (rm12_lentBy)) (hS9 : gS X s) (hr : meth.sig.returnType = some .int) {M : mMem} (rec15 : Nat → Int32 → Int32 → Int32 → Int32 → Option Int32) (hrec15 : ∀ (a0 : Nat) (x1 : Int32) (x2 : Int32) (x3 : Int32) (x4 : Int32), GG X p l e (rm12_lentBy) s m args below meth c (gP X below args s 0 0 (fun r9 : Int32 => (some (.int r9), M))) 5 0 0 15 [(0, .ref a0), (1, .int x1), (2, .int x2), (3, .int x3), (4, .int x4)] [] M (rec15 a0 x1 x2 x3 x4)) (a0 : Nat) (x1 : Int32) (x3 : Int32) (x4 : Int32) (u0 : Int32) (u1 : Int32) : GG X p l e (rm12_lentBy) s m args below meth c (gP X below args s 0 0 (fun r9 : Int32 => (some (.int r9), M))) 5 0 0 54 [(0, .ref a0), (1, .int x1), (3, .int x3), (4, .int x4)] [.int u1, .int u0] M (p12_lentBy_J54 M rec15 a0 x1 x3 x4 u0 u1) := by
  unfold p12_lentBy_J54
  refine g_ior B dX12_lentBy_54 ?_
  refine g_istore_n (lv' := [(2, .int (u0 ||| u1)), (0, .ref a0), (1, .int x1), (3, .int x3), (4, .int x4)]) B dX12_lentBy_55 (by decide) [0, 1, 2, 3, 4] rfl ?_
  refine g_iinc (v := (x4 + 1)) (lv' := [(4, .int (x4 + 1)), (2, .int (u0 ||| u1)), (0, .ref a0), (1, .int x1), (3, .int x3)]) B dX12_lentBy_56 4 rfl rfl (by decide) [0, 1, 2, 3, 4] rfl ?_
  refine g_goto B 15 dX12_lentBy_59 (by decide) ?_
  refine g_sub (lv' := [(0, .ref a0), (1, .int x1), (2, .int (u0 ||| u1)), (3, .int x3), (4, .int (x4 + 1))]) [2, 3, 1, 4, 0] rfl ?_
  exact hrec15 a0 x1 (u0 ||| u1) x3 (x4 + 1)
set_option maxRecDepth 20000 in
set_option maxHeartbeats 2000000 in
theorem g12_lentBy_J53 {X : gX} {p : Program} {l : Launch} {e : Env} {s : State} {m : MethodId} {args : Array Value} {below : List Frame} {meth : Method} {c : Code} (B : gB X p (rm12_lentBy) s m args meth c RX12 cX12_lentBy 5 (rm12_lentBy)) (hS9 : gS X s) (hr : meth.sig.returnType = some .int) {M : mMem} (rec15 : Nat → Int32 → Int32 → Int32 → Int32 → Option Int32) (hrec15 : ∀ (a0 : Nat) (x1 : Int32) (x2 : Int32) (x3 : Int32) (x4 : Int32), GG X p l e (rm12_lentBy) s m args below meth c (gP X below args s 0 0 (fun r9 : Int32 => (some (.int r9), M))) 5 0 0 15 [(0, .ref a0), (1, .int x1), (2, .int x2), (3, .int x3), (4, .int x4)] [] M (rec15 a0 x1 x2 x3 x4)) (a0 : Nat) (x1 : Int32) (x3 : Int32) (x4 : Int32) (u0 : Int32) : GG X p l e (rm12_lentBy) s m args below meth c (gP X below args s 0 0 (fun r9 : Int32 => (some (.int r9), M))) 5 0 0 53 [(0, .ref a0), (1, .int x1), (3, .int x3), (4, .int x4)] [.int u0] M (p12_lentBy_J53 M rec15 a0 x1 x3 x4 u0) := by
  unfold p12_lentBy_J53
  refine g_iconst (v := 0) B dX12_lentBy_53 (by decide) ?_
  refine g_sub (lv' := [(0, .ref a0), (1, .int x1), (3, .int x3), (4, .int x4)]) [0, 1, 2, 3] rfl ?_
  exact g12_lentBy_J54 B hS9 hr rec15 hrec15 a0 x1 x3 x4 u0 0
set_option maxRecDepth 20000 in
set_option maxHeartbeats 2000000 in
theorem g12_lentBy_L15 {X : gX} {p : Program} {l : Launch} {e : Env} {s : State} {m : MethodId} {args : Array Value} {below : List Frame} {meth : Method} {c : Code} (B : gB X p (rm12_lentBy) s m args meth c RX12 cX12_lentBy 5 (rm12_lentBy)) (hS9 : gS X s) (hr : meth.sig.returnType = some .int) {M : mMem} (k62 : Nat → Int32 → Int32 → Int32 → Option Int32) (hk62 : ∀ (a0 : Nat) (x1 : Int32) (x2 : Int32) (x3 : Int32), GG X p l e (rm12_lentBy) s m args below meth c (gP X below args s 0 0 (fun r9 : Int32 => (some (.int r9), M))) 5 0 0 62 [(0, .ref a0), (1, .int x1), (2, .int x2), (3, .int x3)] [] M (k62 a0 x1 x2 x3)) : ∀ (n : Nat) (a0 : Nat) (x1 : Int32) (x2 : Int32) (x3 : Int32) (x4 : Int32), GG X p l e (rm12_lentBy) s m args below meth c (gP X below args s 0 0 (fun r9 : Int32 => (some (.int r9), M))) 5 0 0 15 [(0, .ref a0), (1, .int x1), (2, .int x2), (3, .int x3), (4, .int x4)] [] M (p12_lentBy_L15 M k62 n a0 x1 x2 x3 x4) := by
  intro n
  induction n with
  | zero => intro a0 x1 x2 x3 x4; exact g_none
  | succ n ih =>
    intro a0 x1 x2 x3 x4
    rw [p12_lentBy_L15]
    refine g_iload B dX12_lentBy_15 4 rfl ?_
    refine g_aload_n B dX12_lentBy_17 0 rfl ?_
    refine g_callV_ip [] (ci := 11) (T0 := TX12) (N := 27) B hS9 mf12_people wd_1793 (gw B wp_51) wd_1791 (by decide) rfl (fun h => (gd_ne h).1) (c12_people X l a0 M) (by decide) (by decide) (by decide) rfl (Nat.le_of_ble_eq_true rfl) dX12_lentBy_18 rfl (fun v_1 => ?_)
    refine g_icmp_ge B 62 dX12_lentBy_21 (by decide) ?_ ?_
    · refine g_iload_n B dX12_lentBy_24 2 rfl ?_
      refine g_iload_n B dX12_lentBy_25 1 rfl ?_
      refine g_iload_n B dX12_lentBy_26 3 rfl ?_
      refine g_callS_ip [.int x1, .int x3] B hS9 mf12_has wd_1958 wd_1957 (c12_has X l x1 x3 M) (by decide) (by decide) (by decide) rfl (Nat.le_of_ble_eq_true rfl) dX12_lentBy_27 rfl (fun v_2 => ?_)
      refine g_if_eq B 53 dX12_lentBy_30 (by decide) ?_ ?_
      · refine g_sub (lv' := [(0, .ref a0), (1, .int x1), (3, .int x3), (4, .int x4)]) [0, 1, 3, 4] rfl ?_
        exact g12_lentBy_J53 B hS9 hr (p12_lentBy_L15 M k62 n) ih a0 x1 x3 x4 x2
      · refine g_aload_n B dX12_lentBy_33 0 rfl ?_
        refine g_iload_n B dX12_lentBy_34 3 rfl ?_
        refine g_bipush (v := 9) B dX12_lentBy_35 (by decide) ?_
        refine g_iload B dX12_lentBy_37 4 rfl ?_
        refine g_iadd B dX12_lentBy_39 ?_
        refine g_callV_ip [.int x3, .int ((9 : Int32) + x4)] (ci := 11) (T0 := TX12) (N := 27) B hS9 mf12_of wd_1846 (gw B wp_61) wd_1844 (by decide) rfl (fun h => (gd_ne h).1) (c12_of X l a0 x3 ((9 : Int32) + x4) M) (by decide) (by decide) (by decide) rfl (Nat.le_of_ble_eq_true rfl) dX12_lentBy_40 rfl (fun v_3 => ?_)
        refine g_if_le B 53 dX12_lentBy_43 (by decide) ?_ ?_
        · refine g_iconst (v := 1) B dX12_lentBy_46 (by decide) ?_
          refine g_iload B dX12_lentBy_47 4 rfl ?_
          refine g_ishl B dX12_lentBy_49 ?_
          refine g_goto B 54 dX12_lentBy_50 (by decide) ?_
          refine g_sub (lv' := [(0, .ref a0), (1, .int x1), (3, .int x3), (4, .int x4)]) [0, 1, 3, 4] rfl ?_
          exact g12_lentBy_J54 B hS9 hr (p12_lentBy_L15 M k62 n) ih a0 x1 x3 x4 x2 ((1 : Int32) <<< (x4 &&& 31))
        · refine g_sub (lv' := [(0, .ref a0), (1, .int x1), (3, .int x3), (4, .int x4)]) [0, 1, 3, 4] rfl ?_
          exact g12_lentBy_J53 B hS9 hr (p12_lentBy_L15 M k62 n) ih a0 x1 x3 x4 x2
    · refine g_sub (lv' := [(0, .ref a0), (1, .int x1), (2, .int x2), (3, .int x3)]) [0, 1, 2, 3] rfl ?_
      exact hk62 a0 x1 x2 x3
set_option maxRecDepth 20000 in
set_option maxHeartbeats 2000000 in
theorem g12_lentBy_J62 {X : gX} {p : Program} {l : Launch} {e : Env} {s : State} {m : MethodId} {args : Array Value} {below : List Frame} {meth : Method} {c : Code} (B : gB X p (rm12_lentBy) s m args meth c RX12 cX12_lentBy 5 (rm12_lentBy)) (hS9 : gS X s) (hr : meth.sig.returnType = some .int) {M : mMem} (rec4 : Nat → Int32 → Int32 → Int32 → Option Int32) (hrec4 : ∀ (a0 : Nat) (x1 : Int32) (x2 : Int32) (x3 : Int32), GG X p l e (rm12_lentBy) s m args below meth c (gP X below args s 0 0 (fun r9 : Int32 => (some (.int r9), M))) 5 0 0 4 [(0, .ref a0), (1, .int x1), (2, .int x2), (3, .int x3)] [] M (rec4 a0 x1 x2 x3)) (a0 : Nat) (x1 : Int32) (x2 : Int32) (x3 : Int32) : GG X p l e (rm12_lentBy) s m args below meth c (gP X below args s 0 0 (fun r9 : Int32 => (some (.int r9), M))) 5 0 0 62 [(0, .ref a0), (1, .int x1), (2, .int x2), (3, .int x3)] [] M (p12_lentBy_J62 M rec4 a0 x1 x2 x3) := by
  unfold p12_lentBy_J62
  refine g_iinc (v := (x3 + 1)) (lv' := [(3, .int (x3 + 1)), (0, .ref a0), (1, .int x1), (2, .int x2)]) B dX12_lentBy_62 3 rfl rfl (by decide) [0, 1, 2, 3] rfl ?_
  refine g_goto B 4 dX12_lentBy_65 (by decide) ?_
  refine g_sub (lv' := [(0, .ref a0), (1, .int x1), (2, .int x2), (3, .int (x3 + 1))]) [1, 2, 3, 0] rfl ?_
  exact hrec4 a0 x1 x2 (x3 + 1)
set_option maxRecDepth 20000 in
set_option maxHeartbeats 2000000 in
theorem g12_lentBy_L4 {X : gX} {p : Program} {l : Launch} {e : Env} {s : State} {m : MethodId} {args : Array Value} {below : List Frame} {meth : Method} {c : Code} (B : gB X p (rm12_lentBy) s m args meth c RX12 cX12_lentBy 5 (rm12_lentBy)) (hS9 : gS X s) (hr : meth.sig.returnType = some .int) {M : mMem} : ∀ (n : Nat) (a0 : Nat) (x1 : Int32) (x2 : Int32) (x3 : Int32), GG X p l e (rm12_lentBy) s m args below meth c (gP X below args s 0 0 (fun r9 : Int32 => (some (.int r9), M))) 5 0 0 4 [(0, .ref a0), (1, .int x1), (2, .int x2), (3, .int x3)] [] M (p12_lentBy_L4 M n a0 x1 x2 x3) := by
  intro n
  induction n with
  | zero => intro a0 x1 x2 x3; exact g_none
  | succ n ih =>
    intro a0 x1 x2 x3
    rw [p12_lentBy_L4]
    refine g_iload_n B dX12_lentBy_4 3 rfl ?_
    refine g_aload_n B dX12_lentBy_5 0 rfl ?_
    refine g_callV_ip [] (ci := 11) (T0 := TX12) (N := 27) B hS9 mf12_people wd_1793 (gw B wp_51) wd_1791 (by decide) rfl (fun h => (gd_ne h).1) (c12_people X l a0 M) (by decide) (by decide) (by decide) rfl (Nat.le_of_ble_eq_true rfl) dX12_lentBy_6 rfl (fun v_1 => ?_)
    refine g_icmp_ge B 68 dX12_lentBy_9 (by decide) ?_ ?_
    · refine g_iconst (v := 0) B dX12_lentBy_12 (by decide) ?_
      refine g_istore (lv' := [(4, .int 0), (0, .ref a0), (1, .int x1), (2, .int x2), (3, .int x3)]) B dX12_lentBy_13 (by decide) [0, 1, 2, 3, 4] rfl ?_
      refine g_sub (lv' := [(0, .ref a0), (1, .int x1), (2, .int x2), (3, .int x3), (4, .int 0)]) [1, 2, 3, 4, 0] rfl ?_
      exact (g12_lentBy_L15 B hS9 hr (p12_lentBy_J62 M (p12_lentBy_L4 M n)) (fun e0 e1 e2 e3 => g12_lentBy_J62 B hS9 hr (p12_lentBy_L4 M n) ih e0 e1 e2 e3)) gF a0 x1 x2 x3 0
    · refine g_iload_n B dX12_lentBy_68 2 rfl ?_
      exact g_ireturn B hr rfl (by decide) (by decide) rfl dX12_lentBy_69
set_option maxRecDepth 20000 in
set_option maxHeartbeats 2000000 in
theorem g12_lentBy {X : gX} {p : Program} {l : Launch} {e : Env} {s : State} {m : MethodId} {args : Array Value} {below : List Frame} {meth : Method} {c : Code} (B : gB X p (rm12_lentBy) s m args meth c RX12 cX12_lentBy 5 (rm12_lentBy)) (hS9 : gS X s) (hr : meth.sig.returnType = some .int) {M : mMem} (a0 : Nat) (x1 : Int32) : GG X p l e (rm12_lentBy) s m args below meth c (gP X below args s 0 0 (fun r9 : Int32 => (some (.int r9), M))) 5 0 0 0 [(0, .ref a0), (1, .int x1)] [] M (p12_lentBy a0 x1 M) := by
  unfold p12_lentBy
  refine g_gd ?_
  refine g_iconst (v := 0) B dX12_lentBy_0 (by decide) ?_
  refine g_istore_n (lv' := [(2, .int 0), (0, .ref a0), (1, .int x1)]) B dX12_lentBy_1 (by decide) [0, 1, 2] rfl ?_
  refine g_iconst (v := 0) B dX12_lentBy_2 (by decide) ?_
  refine g_istore_n (lv' := [(3, .int 0), (2, .int 0), (0, .ref a0), (1, .int x1)]) B dX12_lentBy_3 (by decide) [0, 1, 2, 3] rfl ?_
  refine g_sub (lv' := [(0, .ref a0), (1, .int x1), (2, .int 0), (3, .int 0)]) [2, 3, 1, 0] rfl ?_
  exact (g12_lentBy_L4 B hS9 hr) gF a0 x1 0 0
theorem c12_lentBy (X : gX) (l : Launch) (a0 : Nat) (x1 : Int32) (M : mMem) : Con X l yX12_lentBy cX12_lentBy 5 (some .int) rm12_lentBy (fun r9 : Int32 => (some (.int r9), M)) [.ref a0, .int x1] M (p12_lentBy a0 x1 M) := g_con (own := RX12) (by decide +kernel) rfl (Nat.le_of_ble_eq_true rfl) (fun p e s m args below meth c B hS9 hr hn => g12_lentBy B hS9 hr a0 x1)
theorem mf12_ring : gMF yX12_ring cX12_ring 4 (some .boolean) 1 := ⟨wd_2264, wd_13, ⟨by decide, by decide⟩, by decide +kernel⟩
set_option maxRecDepth 20000 in
set_option maxHeartbeats 2000000 in
theorem g12_ring_L30 {X : gX} {p : Program} {l : Launch} {e : Env} {s : State} {m : MethodId} {args : Array Value} {below : List Frame} {meth : Method} {c : Code} (B : gB X p (rm12_ring) s m args meth c RX12 cX12_ring 4 (rm12_ring)) (hS9 : gS X s) (hr : meth.sig.returnType = some .boolean) : ∀ (n : Nat) (a0 : Nat) (x1 : Int32) (x2 : Int32) (x3 : Int32) (M : mMem), GG X p l e (rm12_ring) s m args below meth c (gP X below args s 0 0 (fun r9 : (Int32 × mMem) => (some (.int r9.1), r9.2))) 4 0 0 30 [(0, .ref a0), (1, .int x1), (2, .int x2), (3, .int x3)] [] M (p12_ring_L30 n a0 x1 x2 x3 M) := by
  intro n
  induction n with
  | zero => intro a0 x1 x2 x3 M; exact g_none
  | succ n ih =>
    intro a0 x1 x2 x3 M
    rw [p12_ring_L30]
    refine g_iload_n B dX12_ring_30 3 rfl ?_
    refine g_bipush (v := 8) B dX12_ring_31 (by decide) ?_
    refine g_icmp_ge B 50 dX12_ring_33 (by decide) ?_ ?_
    · refine g_iload_n B dX12_ring_36 2 rfl ?_
      refine g_aload_n B dX12_ring_37 0 rfl ?_
      refine g_iload_n B dX12_ring_38 2 rfl ?_
      refine g_callV_ip [.int x2] (ci := 11) (T0 := TX12) (N := 27) B hS9 mf12_lentBy wd_2267 (gw B wp_123) wd_2265 (by decide) rfl (fun h => (gd_ne h).1) (c12_lentBy X l a0 x2 M) (by decide) (by decide) (by decide) rfl (Nat.le_of_ble_eq_true rfl) dX12_ring_39 rfl (fun v_2 => ?_)
      refine g_ior B dX12_ring_42 ?_
      refine g_istore_n (lv' := [(2, .int (x2 ||| v_2)), (0, .ref a0), (1, .int x1), (3, .int x3)]) B dX12_ring_43 (by decide) [0, 1, 2, 3] rfl ?_
      refine g_iinc (v := (x3 + 1)) (lv' := [(3, .int (x3 + 1)), (2, .int (x2 ||| v_2)), (0, .ref a0), (1, .int x1)]) B dX12_ring_44 3 rfl rfl (by decide) [0, 1, 2, 3] rfl ?_
      refine g_goto B 30 dX12_ring_47 (by decide) ?_
      refine g_sub (lv' := [(0, .ref a0), (1, .int x1), (2, .int (x2 ||| v_2)), (3, .int (x3 + 1))]) [2, 3, 1, 0] rfl ?_
      exact ih a0 x1 (x2 ||| v_2) (x3 + 1) M
    · refine g_iload_n B dX12_ring_50 2 rfl ?_
      refine g_iload_n B dX12_ring_51 1 rfl ?_
      refine g_callS_ip [.int x2, .int x1] B hS9 mf12_has wd_1958 wd_1957 (c12_has X l x2 x1 M) (by decide) (by decide) (by decide) rfl (by decide) dX12_ring_52 rfl (fun v_1 => ?_)
      exact g_zreturn (f := fun z => (z, M)) B hr (by decide) (by decide) rfl dX12_ring_55
set_option maxRecDepth 20000 in
set_option maxHeartbeats 2000000 in
theorem g12_ring {X : gX} {p : Program} {l : Launch} {e : Env} {s : State} {m : MethodId} {args : Array Value} {below : List Frame} {meth : Method} {c : Code} (B : gB X p (rm12_ring) s m args meth c RX12 cX12_ring 4 (rm12_ring)) (hS9 : gS X s) (hr : meth.sig.returnType = some .boolean) (a0 : Nat) (x1 : Int32) (M : mMem) : GG X p l e (rm12_ring) s m args below meth c (gP X below args s 0 0 (fun r9 : (Int32 × mMem) => (some (.int r9.1), r9.2))) 4 0 0 0 [(0, .ref a0), (1, .int x1)] [] M (p12_ring a0 x1 M) := by
  unfold p12_ring
  refine g_gd ?_
  refine g_aload_n B dX12_ring_0 0 rfl ?_
  refine g_iconst (v := 0) B dX12_ring_1 (by decide) ?_
  refine g_putI (ci := 11) (T0 := TX12) (N := 27) B (by decide) rfl in_11 tyX12 tyX12_ok nmX12 (k := 0) (by decide) wd_1641 (fun _ h => h) rfl rfl (ty := .int) (by decide +kernel) rfl rfl dX12_ring_2 (fun M_1 => ?_)
  refine g_aload_n B dX12_ring_5 0 rfl ?_
  refine g_aload_n B dX12_ring_6 0 rfl ?_
  refine g_iload_n B dX12_ring_7 1 rfl ?_
  refine g_callV_ip [.int x1] (ci := 11) (T0 := TX12) (N := 27) B hS9 mf12_nobody wd_1944 (gw B wp_79) wd_1942 (by decide) rfl (fun h => (gd_ne h).1) (c12_nobody X l a0 x1 M_1) (by decide) (by decide) (by decide) rfl (Nat.le_of_ble_eq_true rfl) dX12_ring_8 rfl (fun v_2 => ?_)
  refine g_iconst (v := 1) B dX12_ring_11 (by decide) ?_
  refine g_callV_iw [.int v_2, .int 1] (ci := 11) (T0 := TX12) (N := 27) B hS9 mf12_throwsIf wd_1932 (gw B wp_78) wd_1930 (by decide) rfl (fun h => (gd_ne h).1) (c12_throwsIf X l a0 v_2 1 M_1) (by decide) (by decide) (by decide) rfl (by decide) dX12_ring_12 rfl (fun q_3 => ?_)
  refine g_if_eq B 20 dX12_ring_15 (by decide) ?_ ?_
  · refine g_aload_n B dX12_ring_20 0 rfl ?_
    refine g_iconst (v := 1) B dX12_ring_21 (by decide) ?_
    refine g_iload_n B dX12_ring_22 1 rfl ?_
    refine g_ishl B dX12_ring_23 ?_
    refine g_callV_ip [.int ((1 : Int32) <<< (x1 &&& 31))] (ci := 11) (T0 := TX12) (N := 27) B hS9 mf12_lentBy wd_2267 (gw B wp_123) wd_2265 (by decide) rfl (fun h => (gd_ne h).1) (c12_lentBy X l a0 ((1 : Int32) <<< (x1 &&& 31)) q_3.2) (by decide) (by decide) (by decide) rfl (by decide) dX12_ring_24 rfl (fun v_4 => ?_)
    refine g_istore_n (lv' := [(2, .int v_4), (0, .ref a0), (1, .int x1)]) B dX12_ring_27 (by decide) [0, 1, 2] rfl ?_
    refine g_iconst (v := 0) B dX12_ring_28 (by decide) ?_
    refine g_istore_n (lv' := [(3, .int 0), (2, .int v_4), (0, .ref a0), (1, .int x1)]) B dX12_ring_29 (by decide) [0, 1, 2, 3] rfl ?_
    refine g_sub (lv' := [(0, .ref a0), (1, .int x1), (2, .int v_4), (3, .int 0)]) [2, 3, 1, 0] rfl ?_
    exact (g12_ring_L30 B hS9 hr) gF a0 x1 v_4 0 q_3.2
  · refine g_iconst (v := 0) B dX12_ring_18 (by decide) ?_
    exact g_ireturn B hr rfl (by decide) (by decide) rfl dX12_ring_19
theorem c12_ring (X : gX) (l : Launch) (a0 : Nat) (x1 : Int32) (M : mMem) : Con X l yX12_ring cX12_ring 4 (some .boolean) rm12_ring (fun r9 : (Int32 × mMem) => (some (.int r9.1), r9.2)) [.ref a0, .int x1] M (p12_ring a0 x1 M) := g_con (own := RX12) (by decide +kernel) rfl (Nat.le_of_ble_eq_true rfl) (fun p e s m args below meth c B hS9 hr hn => g12_ring B hS9 hr a0 x1 M)
theorem mf12_rich : gMF yX12_rich cX12_rich 3 (some .int) 0 := ⟨wd_2272, wd_13, ⟨by decide, by decide⟩, by decide +kernel⟩
set_option maxRecDepth 20000 in
set_option maxHeartbeats 2000000 in
theorem g12_rich_J41 {X : gX} {p : Program} {l : Launch} {e : Env} {s : State} {m : MethodId} {args : Array Value} {below : List Frame} {meth : Method} {c : Code} (B : gB X p (rm12_rich) s m args meth c RX12 cX12_rich 3 (rm12_rich)) (hS9 : gS X s) (hr : meth.sig.returnType = some .int) (rec9 : Nat → Int32 → Int32 → mMem → Option (Int32 × mMem)) (hrec9 : ∀ (a0 : Nat) (x1 : Int32) (x2 : Int32) (M : mMem), GG X p l e (rm12_rich) s m args below meth c (gP X below args s 0 0 (fun r9 : (Int32 × mMem) => (some (.int r9.1), r9.2))) 3 0 0 9 [(0, .ref a0), (1, .int x1), (2, .int x2)] [] M (rec9 a0 x1 x2 M)) (a0 : Nat) (x1 : Int32) (x2 : Int32) (M : mMem) : GG X p l e (rm12_rich) s m args below meth c (gP X below args s 0 0 (fun r9 : (Int32 × mMem) => (some (.int r9.1), r9.2))) 3 0 0 41 [(0, .ref a0), (1, .int x1), (2, .int x2)] [] M (p12_rich_J41 rec9 a0 x1 x2 M) := by
  unfold p12_rich_J41
  refine g_iinc (v := (x2 + 1)) (lv' := [(2, .int (x2 + 1)), (0, .ref a0), (1, .int x1)]) B dX12_rich_41 2 rfl rfl (by decide) [0, 1, 2] rfl ?_
  refine g_goto B 9 dX12_rich_44 (by decide) ?_
  refine g_sub (lv' := [(0, .ref a0), (1, .int x1), (2, .int (x2 + 1))]) [1, 2, 0] rfl ?_
  exact hrec9 a0 x1 (x2 + 1) M
set_option maxRecDepth 20000 in
set_option maxHeartbeats 2000000 in
theorem g12_rich_J39 {X : gX} {p : Program} {l : Launch} {e : Env} {s : State} {m : MethodId} {args : Array Value} {below : List Frame} {meth : Method} {c : Code} (B : gB X p (rm12_rich) s m args meth c RX12 cX12_rich 3 (rm12_rich)) (hS9 : gS X s) (hr : meth.sig.returnType = some .int) (rec9 : Nat → Int32 → Int32 → mMem → Option (Int32 × mMem)) (hrec9 : ∀ (a0 : Nat) (x1 : Int32) (x2 : Int32) (M : mMem), GG X p l e (rm12_rich) s m args below meth c (gP X below args s 0 0 (fun r9 : (Int32 × mMem) => (some (.int r9.1), r9.2))) 3 0 0 9 [(0, .ref a0), (1, .int x1), (2, .int x2)] [] M (rec9 a0 x1 x2 M)) (a0 : Nat) (x2 : Int32) (M : mMem) : GG X p l e (rm12_rich) s m args below meth c (gP X below args s 0 0 (fun r9 : (Int32 × mMem) => (some (.int r9.1), r9.2))) 3 0 0 39 [(0, .ref a0), (2, .int x2)] [] M (p12_rich_J39 rec9 a0 x2 M) := by
  unfold p12_rich_J39
  refine g_iload_n B dX12_rich_39 1 rfl ?_
  refine g_istore_n (lv' := [(1, .int x2), (0, .ref a0), (2, .int x2)]) B dX12_rich_40 (by decide) [0, 1, 2] rfl ?_
  refine g_sub (lv' := [(0, .ref a0), (1, .int x2), (2, .int x2)]) [1, 0, 2] rfl ?_
  exact g12_rich_J41 B hS9 hr rec9 hrec9 a0 x2 x2 M
set_option maxRecDepth 20000 in
set_option maxHeartbeats 2000000 in
theorem g12_rich_L9 {X : gX} {p : Program} {l : Launch} {e : Env} {s : State} {m : MethodId} {args : Array Value} {below : List Frame} {meth : Method} {c : Code} (B : gB X p (rm12_rich) s m args meth c RX12 cX12_rich 3 (rm12_rich)) (hS9 : gS X s) (hr : meth.sig.returnType = some .int) : ∀ (n : Nat) (a0 : Nat) (x1 : Int32) (x2 : Int32) (M : mMem), GG X p l e (rm12_rich) s m args below meth c (gP X below args s 0 0 (fun r9 : (Int32 × mMem) => (some (.int r9.1), r9.2))) 3 0 0 9 [(0, .ref a0), (1, .int x1), (2, .int x2)] [] M (p12_rich_L9 n a0 x1 x2 M) := by
  intro n
  induction n with
  | zero => intro a0 x1 x2 M; exact g_none
  | succ n ih =>
    intro a0 x1 x2 M
    rw [p12_rich_L9]
    refine g_iload_n B dX12_rich_9 2 rfl ?_
    refine g_aload_n B dX12_rich_10 0 rfl ?_
    refine g_callV_ip [] (ci := 11) (T0 := TX12) (N := 27) B hS9 mf12_people wd_1793 (gw B wp_51) wd_1791 (by decide) rfl (fun h => (gd_ne h).1) (c12_people X l a0 M) (by decide) (by decide) (by decide) rfl (Nat.le_of_ble_eq_true rfl) dX12_rich_11 rfl (fun v_1 => ?_)
    refine g_icmp_ge B 47 dX12_rich_14 (by decide) ?_ ?_
    · refine g_iload_n B dX12_rich_17 1 rfl ?_
      refine g_iconst (v := (-1)) B dX12_rich_18 (by decide) ?_
      refine g_icmp_eq B 39 dX12_rich_19 (by decide) ?_ ?_
      · refine g_sub (lv' := [(0, .ref a0), (2, .int x2)]) [0, 2] rfl ?_
        exact g12_rich_J39 B hS9 hr (p12_rich_L9 n) ih a0 x2 M
      · refine g_aload_n B dX12_rich_22 0 rfl ?_
        refine g_iload_n B dX12_rich_23 2 rfl ?_
        refine g_bipush (v := 7) B dX12_rich_24 (by decide) ?_
        refine g_callV_ip [.int x2, .int 7] (ci := 11) (T0 := TX12) (N := 27) B hS9 mf12_of wd_1846 (gw B wp_61) wd_1844 (by decide) rfl (fun h => (gd_ne h).1) (c12_of X l a0 x2 7 M) (by decide) (by decide) (by decide) rfl (by decide) dX12_rich_26 rfl (fun v_2 => ?_)
        refine g_aload_n B dX12_rich_29 0 rfl ?_
        refine g_iload_n B dX12_rich_30 1 rfl ?_
        refine g_bipush (v := 7) B dX12_rich_31 (by decide) ?_
        refine g_callV_ip [.int x1, .int 7] (ci := 11) (T0 := TX12) (N := 27) B hS9 mf12_of wd_1846 (gw B wp_61) wd_1844 (by decide) rfl (fun h => (gd_ne h).1) (c12_of X l a0 x1 7 M) (by decide) (by decide) (by decide) rfl (Nat.le_of_ble_eq_true rfl) dX12_rich_33 rfl (fun v_3 => ?_)
        refine g_icmp_le B 41 dX12_rich_36 (by decide) ?_ ?_
        · refine g_sub (lv' := [(0, .ref a0), (2, .int x2)]) [0, 2] rfl ?_
          exact g12_rich_J39 B hS9 hr (p12_rich_L9 n) ih a0 x2 M
        · refine g_sub (lv' := [(0, .ref a0), (1, .int x1), (2, .int x2)]) [0, 1, 2] rfl ?_
          exact g12_rich_J41 B hS9 hr (p12_rich_L9 n) ih a0 x1 x2 M
    · refine g_iload_n B dX12_rich_47 1 rfl ?_
      exact g_ireturn B hr rfl (by decide) (by decide) rfl dX12_rich_48
set_option maxRecDepth 20000 in
set_option maxHeartbeats 2000000 in
theorem g12_rich {X : gX} {p : Program} {l : Launch} {e : Env} {s : State} {m : MethodId} {args : Array Value} {below : List Frame} {meth : Method} {c : Code} (B : gB X p (rm12_rich) s m args meth c RX12 cX12_rich 3 (rm12_rich)) (hS9 : gS X s) (hr : meth.sig.returnType = some .int) (a0 : Nat) (M : mMem) : GG X p l e (rm12_rich) s m args below meth c (gP X below args s 0 0 (fun r9 : (Int32 × mMem) => (some (.int r9.1), r9.2))) 3 0 0 0 [(0, .ref a0)] [] M (p12_rich a0 M) := by
  unfold p12_rich
  refine g_gd ?_
  refine g_aload_n B dX12_rich_0 0 rfl ?_
  refine g_iconst (v := 0) B dX12_rich_1 (by decide) ?_
  refine g_putI (ci := 11) (T0 := TX12) (N := 27) B (by decide) rfl in_11 tyX12 tyX12_ok nmX12 (k := 0) (by decide) wd_1641 (fun _ h => h) rfl rfl (ty := .int) (by decide +kernel) rfl rfl dX12_rich_2 (fun M_1 => ?_)
  refine g_iconst (v := (-1)) B dX12_rich_5 (by decide) ?_
  refine g_istore_n (lv' := [(1, .int (-1)), (0, .ref a0)]) B dX12_rich_6 (by decide) [0, 1] rfl ?_
  refine g_iconst (v := 0) B dX12_rich_7 (by decide) ?_
  refine g_istore_n (lv' := [(2, .int 0), (1, .int (-1)), (0, .ref a0)]) B dX12_rich_8 (by decide) [0, 1, 2] rfl ?_
  refine g_sub (lv' := [(0, .ref a0), (1, .int (-1)), (2, .int 0)]) [2, 1, 0] rfl ?_
  exact (g12_rich_L9 B hS9 hr) gF a0 (-1) 0 M_1
theorem c12_rich (X : gX) (l : Launch) (a0 : Nat) (M : mMem) : Con X l yX12_rich cX12_rich 3 (some .int) rm12_rich (fun r9 : (Int32 × mMem) => (some (.int r9.1), r9.2)) [.ref a0] M (p12_rich a0 M) := g_con (own := RX12) (by decide +kernel) rfl (Nat.le_of_ble_eq_true rfl) (fun p e s m args below meth c B hS9 hr hn => g12_rich B hS9 hr a0 M)
theorem mf12_elderHas : gMF yX12_elderHas cX12_elderHas 4 (some .int) 3 := ⟨wd_2280, wd_13, ⟨by decide, by decide⟩, by decide +kernel⟩
set_option maxRecDepth 20000 in
set_option maxHeartbeats 2000000 in
theorem g12_elderHas_J26 {X : gX} {p : Program} {l : Launch} {e : Env} {s : State} {m : MethodId} {args : Array Value} {below : List Frame} {meth : Method} {c : Code} (B : gB X p (rm12_elderHas) s m args meth c RX12 cX12_elderHas 4 (rm12_elderHas)) (hS9 : gS X s) (hr : meth.sig.returnType = some .int) {M : mMem} (u0 : Int32) : GG X p l e (rm12_elderHas) s m args below meth c (gP X below args s 0 0 (fun r9 : Int32 => (some (.int r9), M))) 4 0 0 26 [] [.int u0] M (p12_elderHas_J26 M u0) := by
  unfold p12_elderHas_J26
  exact g_ireturn B hr rfl (by decide) (by decide) rfl dX12_elderHas_26
set_option maxRecDepth 20000 in
set_option maxHeartbeats 2000000 in
theorem g12_elderHas {X : gX} {p : Program} {l : Launch} {e : Env} {s : State} {m : MethodId} {args : Array Value} {below : List Frame} {meth : Method} {c : Code} (B : gB X p (rm12_elderHas) s m args meth c RX12 cX12_elderHas 4 (rm12_elderHas)) (hS9 : gS X s) (hr : meth.sig.returnType = some .int) {M : mMem} (a0 : Nat) (x1 : Int32) (x2 : Int32) (x3 : Int32) : GG X p l e (rm12_elderHas) s m args below meth c (gP X below args s 0 0 (fun r9 : Int32 => (some (.int r9), M))) 4 0 0 0 [(0, .ref a0), (1, .int x1), (2, .int x2), (3, .int x3)] [] M (p12_elderHas a0 x1 x2 x3 M) := by
  unfold p12_elderHas
  refine g_gd ?_
  refine g_iload_n B dX12_elderHas_0 3 rfl ?_
  refine g_iconst (v := 1) B dX12_elderHas_1 (by decide) ?_
  refine g_icmp_ne B 7 dX12_elderHas_2 (by decide) ?_ ?_
  · refine g_iload_n B dX12_elderHas_5 2 rfl ?_
    exact g_ireturn B hr rfl (by decide) (by decide) rfl dX12_elderHas_6
  · refine g_iload_n B dX12_elderHas_7 2 rfl ?_
    refine g_iconst (v := 1) B dX12_elderHas_8 (by decide) ?_
    refine g_icmp_ne B 16 dX12_elderHas_9 (by decide) ?_ ?_
    · refine g_iconst (v := (-1)) B dX12_elderHas_12 (by decide) ?_
      refine g_goto B 26 dX12_elderHas_13 (by decide) ?_
      refine g_sub (lv' := []) [] rfl ?_
      exact g12_elderHas_J26 B hS9 hr (-1)
    · refine g_aload_n B dX12_elderHas_16 0 rfl ?_
      refine g_iload_n B dX12_elderHas_17 1 rfl ?_
      refine g_bipush (v := 6) B dX12_elderHas_18 (by decide) ?_
      refine g_callV_ip [.int x1, .int 6] (ci := 11) (T0 := TX12) (N := 27) B hS9 mf12_of wd_1846 (gw B wp_61) wd_1844 (by decide) rfl (fun h => (gd_ne h).1) (c12_of X l a0 x1 6 M) (by decide) (by decide) (by decide) rfl (by decide) dX12_elderHas_20 rfl (fun v_1 => ?_)
      refine g_bipush (v := 10) B dX12_elderHas_23 (by decide) ?_
      refine g_idiv B dX12_elderHas_25 (fun v_2 => ?_)
      refine g_sub (lv' := []) [] rfl ?_
      exact g12_elderHas_J26 B hS9 hr v_2
theorem c12_elderHas (X : gX) (l : Launch) (a0 : Nat) (x1 : Int32) (x2 : Int32) (x3 : Int32) (M : mMem) : Con X l yX12_elderHas cX12_elderHas 4 (some .int) rm12_elderHas (fun r9 : Int32 => (some (.int r9), M)) [.ref a0, .int x1, .int x2, .int x3] M (p12_elderHas a0 x1 x2 x3 M) := g_con (own := RX12) (by decide +kernel) rfl (Nat.le_of_ble_eq_true rfl) (fun p e s m args below meth c B hS9 hr hn => g12_elderHas B hS9 hr a0 x1 x2 x3)
theorem mf12_childHas : gMF yX12_childHas cX12_childHas 5 (some .int) 4 := ⟨wd_2284, wd_13, ⟨by decide, by decide⟩, by decide +kernel⟩
set_option maxRecDepth 20000 in
set_option maxHeartbeats 2000000 in
theorem g12_childHas_J31 {X : gX} {p : Program} {l : Launch} {e : Env} {s : State} {m : MethodId} {args : Array Value} {below : List Frame} {meth : Method} {c : Code} (B : gB X p (rm12_childHas) s m args meth c RX12 cX12_childHas 5 (rm12_childHas)) (hS9 : gS X s) (hr : meth.sig.returnType = some .int) (u0 : Int32) (M : mMem) : GG X p l e (rm12_childHas) s m args below meth c (gP X below args s 0 0 (fun r9 : (Int32 × mMem) => (some (.int r9.1), r9.2))) 5 0 0 31 [] [.int u0] M (p12_childHas_J31 u0 M) := by
  unfold p12_childHas_J31
  exact g_ireturn B hr rfl (by decide) (by decide) rfl dX12_childHas_31
set_option maxRecDepth 20000 in
set_option maxHeartbeats 2000000 in
theorem g12_childHas {X : gX} {p : Program} {l : Launch} {e : Env} {s : State} {m : MethodId} {args : Array Value} {below : List Frame} {meth : Method} {c : Code} (B : gB X p (rm12_childHas) s m args meth c RX12 cX12_childHas 5 (rm12_childHas)) (hS9 : gS X s) (hr : meth.sig.returnType = some .int) (a0 : Nat) (x1 : Int32) (x2 : Int32) (x3 : Int32) (x4 : Int32) (M : mMem) : GG X p l e (rm12_childHas) s m args below meth c (gP X below args s 0 0 (fun r9 : (Int32 × mMem) => (some (.int r9.1), r9.2))) 5 0 0 0 [(0, .ref a0), (1, .int x1), (2, .int x2), (3, .int x3), (4, .int x4)] [] M (p12_childHas a0 x1 x2 x3 x4 M) := by
  unfold p12_childHas
  refine g_gd ?_
  refine g_iload B dX12_childHas_0 4 rfl ?_
  refine g_iconst (v := 1) B dX12_childHas_2 (by decide) ?_
  refine g_icmp_ne B 8 dX12_childHas_3 (by decide) ?_ ?_
  · refine g_iconst (v := 0) B dX12_childHas_6 (by decide) ?_
    exact g_ireturn B hr rfl (by decide) (by decide) rfl dX12_childHas_7
  · refine g_iload_n B dX12_childHas_8 3 rfl ?_
    refine g_iconst (v := 1) B dX12_childHas_9 (by decide) ?_
    refine g_icmp_ne B 23 dX12_childHas_10 (by decide) ?_ ?_
    · refine g_aload_n B dX12_childHas_13 0 rfl ?_
      refine g_iload_n B dX12_childHas_14 1 rfl ?_
      refine g_iload_n B dX12_childHas_15 2 rfl ?_
      refine g_iconst (v := 1) B dX12_childHas_16 (by decide) ?_
      refine g_callV_iw [.int x1, .int x2, .int 1] (ci := 11) (T0 := TX12) (N := 27) B hS9 mf12_weighsOf wd_1982 (gw B wp_85) wd_1980 (by decide) rfl (fun h => (gd_ne h).1) (c12_weighsOf X l a0 x1 x2 1 M) (by decide) (by decide) (by decide) rfl (by decide) dX12_childHas_17 rfl (fun q_2 => ?_)
      refine g_goto B 31 dX12_childHas_20 (by decide) ?_
      refine g_sub (lv' := []) [] rfl ?_
      exact g12_childHas_J31 B hS9 hr q_2.1 q_2.2
    · refine g_aload_n B dX12_childHas_23 0 rfl ?_
      refine g_iload_n B dX12_childHas_24 1 rfl ?_
      refine g_iload_n B dX12_childHas_25 2 rfl ?_
      refine g_iconst (v := 0) B dX12_childHas_26 (by decide) ?_
      refine g_callV_iw [.int x1, .int x2, .int 0] (ci := 11) (T0 := TX12) (N := 27) B hS9 mf12_weighsOf wd_1982 (gw B wp_85) wd_1980 (by decide) rfl (fun h => (gd_ne h).1) (c12_weighsOf X l a0 x1 x2 0 M) (by decide) (by decide) (by decide) rfl (by decide) dX12_childHas_27 rfl (fun q_1 => ?_)
      refine g_ineg B dX12_childHas_30 ?_
      refine g_sub (lv' := []) [] rfl ?_
      exact g12_childHas_J31 B hS9 hr (-q_1.1) q_1.2
theorem c12_childHas (X : gX) (l : Launch) (a0 : Nat) (x1 : Int32) (x2 : Int32) (x3 : Int32) (x4 : Int32) (M : mMem) : Con X l yX12_childHas cX12_childHas 5 (some .int) rm12_childHas (fun r9 : (Int32 × mMem) => (some (.int r9.1), r9.2)) [.ref a0, .int x1, .int x2, .int x3, .int x4] M (p12_childHas a0 x1 x2 x3 x4 M) := g_con (own := RX12) (by decide +kernel) rfl (Nat.le_of_ble_eq_true rfl) (fun p e s m args below meth c B hS9 hr hn => g12_childHas B hS9 hr a0 x1 x2 x3 x4 M)
theorem mf12_rests : gMF yX12_rests cX12_rests 7 (some .int) 2 := ⟨wd_2276, wd_13, ⟨by decide, by decide⟩, by decide +kernel⟩
set_option maxRecDepth 20000 in
set_option maxHeartbeats 2000000 in
theorem g12_rests_J31 {X : gX} {p : Program} {l : Launch} {e : Env} {s : State} {m : MethodId} {args : Array Value} {below : List Frame} {meth : Method} {c : Code} (B : gB X p (rm12_rests) s m args meth c RX12 cX12_rests 7 (rm12_rests)) (hS9 : gS X s) (hr : meth.sig.returnType = some .int) (M : mMem) : GG X p l e (rm12_rests) s m args below meth c (gP X below args s 0 0 (fun r9 : (Int32 × mMem) => (some (.int r9.1), r9.2))) 7 0 0 31 [] [] M (p12_rests_J31 M) := by
  unfold p12_rests_J31
  refine g_iconst (v := 0) B dX12_rests_31 (by decide) ?_
  exact g_ireturn B hr rfl (by decide) (by decide) rfl dX12_rests_32
set_option maxRecDepth 20000 in
set_option maxHeartbeats 2000000 in
theorem g12_rests_J127 {X : gX} {p : Program} {l : Launch} {e : Env} {s : State} {m : MethodId} {args : Array Value} {below : List Frame} {meth : Method} {c : Code} (B : gB X p (rm12_rests) s m args meth c RX12 cX12_rests 7 (rm12_rests)) (hS9 : gS X s) (hr : meth.sig.returnType = some .int) (rec47 : Nat → Int32 → Int32 → Int32 → Int32 → Int32 → mMem → Option (Int32 × mMem)) (hrec47 : ∀ (a0 : Nat) (x1 : Int32) (x2 : Int32) (x3 : Int32) (x4 : Int32) (x5 : Int32) (M : mMem), GG X p l e (rm12_rests) s m args below meth c (gP X below args s 0 0 (fun r9 : (Int32 × mMem) => (some (.int r9.1), r9.2))) 7 0 0 47 [(0, .ref a0), (1, .int x1), (2, .int x2), (3, .int x3), (4, .int x4), (5, .int x5)] [] M (rec47 a0 x1 x2 x3 x4 x5 M)) (a0 : Nat) (x1 : Int32) (x2 : Int32) (x4 : Int32) (x5 : Int32) (u0 : Int32) (u1 : Int32) (M : mMem) : GG X p l e (rm12_rests) s m args below meth c (gP X below args s 0 0 (fun r9 : (Int32 × mMem) => (some (.int r9.1), r9.2))) 7 0 0 127 [(0, .ref a0), (1, .int x1), (2, .int x2), (4, .int x4), (5, .int x5)] [.int u1, .int u0] M (p12_rests_J127 rec47 a0 x1 x2 x4 x5 u0 u1 M) := by
  unfold p12_rests_J127
  refine g_ior B dX12_rests_127 ?_
  refine g_istore_n (lv' := [(3, .int (u0 ||| u1)), (0, .ref a0), (1, .int x1), (2, .int x2), (4, .int x4), (5, .int x5)]) B dX12_rests_128 (by decide) [0, 1, 2, 3, 4, 5] rfl ?_
  refine g_iinc (v := (x5 + 1)) (lv' := [(5, .int (x5 + 1)), (3, .int (u0 ||| u1)), (0, .ref a0), (1, .int x1), (2, .int x2), (4, .int x4)]) B dX12_rests_129 5 rfl rfl (by decide) [0, 1, 2, 3, 4, 5] rfl ?_
  refine g_goto B 47 dX12_rests_132 (by decide) ?_
  refine g_sub (lv' := [(0, .ref a0), (1, .int x1), (2, .int x2), (3, .int (u0 ||| u1)), (4, .int x4), (5, .int (x5 + 1))]) [2, 3, 4, 1, 5, 0] rfl ?_
  exact hrec47 a0 x1 x2 (u0 ||| u1) x4 (x5 + 1) M
set_option maxRecDepth 20000 in
set_option maxHeartbeats 2000000 in
theorem g12_rests_J106 {X : gX} {p : Program} {l : Launch} {e : Env} {s : State} {m : MethodId} {args : Array Value} {below : List Frame} {meth : Method} {c : Code} (B : gB X p (rm12_rests) s m args meth c RX12 cX12_rests 7 (rm12_rests)) (hS9 : gS X s) (hr : meth.sig.returnType = some .int) (rec47 : Nat → Int32 → Int32 → Int32 → Int32 → Int32 → mMem → Option (Int32 × mMem)) (hrec47 : ∀ (a0 : Nat) (x1 : Int32) (x2 : Int32) (x3 : Int32) (x4 : Int32) (x5 : Int32) (M : mMem), GG X p l e (rm12_rests) s m args below meth c (gP X below args s 0 0 (fun r9 : (Int32 × mMem) => (some (.int r9.1), r9.2))) 7 0 0 47 [(0, .ref a0), (1, .int x1), (2, .int x2), (3, .int x3), (4, .int x4), (5, .int x5)] [] M (rec47 a0 x1 x2 x3 x4 x5 M)) (a0 : Nat) (x1 : Int32) (x2 : Int32) (x3 : Int32) (x4 : Int32) (x5 : Int32) (u0 : Int32) (M : mMem) : GG X p l e (rm12_rests) s m args below meth c (gP X below args s 0 0 (fun r9 : (Int32 × mMem) => (some (.int r9.1), r9.2))) 7 0 0 106 [(0, .ref a0), (1, .int x1), (2, .int x2), (3, .int x3), (4, .int x4), (5, .int x5)] [.int u0] M (p12_rests_J106 rec47 a0 x1 x2 x3 x4 x5 u0 M) := by
  unfold p12_rests_J106
  refine g_istore (lv' := [(6, .int u0), (0, .ref a0), (1, .int x1), (2, .int x2), (3, .int x3), (4, .int x4), (5, .int x5)]) B dX12_rests_106 (by decide) [0, 1, 2, 3, 4, 5, 6] rfl ?_
  refine g_iload_n B dX12_rests_108 4 rfl ?_
  refine g_iload B dX12_rests_109 0 rfl ?_
  refine g_if_eq B 126 dX12_rests_111 (by decide) ?_ ?_
  · refine g_iconst (v := 0) B dX12_rests_126 (by decide) ?_
    refine g_sub (lv' := [(0, .ref a0), (1, .int x1), (2, .int x2), (4, .int x4), (5, .int x5)]) [1, 2, 3, 5, 6] rfl ?_
    exact g12_rests_J127 B hS9 hr rec47 hrec47 a0 x1 x2 x4 x5 x3 0 M
  · refine g_iconst (v := 1) B dX12_rests_114 (by decide) ?_
    refine g_iconst (v := 2) B dX12_rests_115 (by decide) ?_
    refine g_iload B dX12_rests_116 5 rfl ?_
    refine g_imul B dX12_rests_118 ?_
    refine g_iload B dX12_rests_119 6 rfl ?_
    refine g_iadd B dX12_rests_121 ?_
    refine g_ishl B dX12_rests_122 ?_
    refine g_goto B 127 dX12_rests_123 (by decide) ?_
    refine g_sub (lv' := [(0, .ref a0), (1, .int x1), (2, .int x2), (4, .int x4), (5, .int x5)]) [1, 2, 3, 5, 6] rfl ?_
    exact g12_rests_J127 B hS9 hr rec47 hrec47 a0 x1 x2 x4 x5 x3 ((1 : Int32) <<< ((((2 : Int32) * x4) + x5) &&& 31)) M
set_option maxRecDepth 20000 in
set_option maxHeartbeats 2000000 in
theorem g12_rests_J105 {X : gX} {p : Program} {l : Launch} {e : Env} {s : State} {m : MethodId} {args : Array Value} {below : List Frame} {meth : Method} {c : Code} (B : gB X p (rm12_rests) s m args meth c RX12 cX12_rests 7 (rm12_rests)) (hS9 : gS X s) (hr : meth.sig.returnType = some .int) (rec47 : Nat → Int32 → Int32 → Int32 → Int32 → Int32 → mMem → Option (Int32 × mMem)) (hrec47 : ∀ (a0 : Nat) (x1 : Int32) (x2 : Int32) (x3 : Int32) (x4 : Int32) (x5 : Int32) (M : mMem), GG X p l e (rm12_rests) s m args below meth c (gP X below args s 0 0 (fun r9 : (Int32 × mMem) => (some (.int r9.1), r9.2))) 7 0 0 47 [(0, .ref a0), (1, .int x1), (2, .int x2), (3, .int x3), (4, .int x4), (5, .int x5)] [] M (rec47 a0 x1 x2 x3 x4 x5 M)) (a0 : Nat) (x1 : Int32) (x2 : Int32) (x3 : Int32) (x4 : Int32) (x5 : Int32) (M : mMem) : GG X p l e (rm12_rests) s m args below meth c (gP X below args s 0 0 (fun r9 : (Int32 × mMem) => (some (.int r9.1), r9.2))) 7 0 0 105 [(0, .ref a0), (1, .int x1), (2, .int x2), (3, .int x3), (4, .int x4), (5, .int x5)] [] M (p12_rests_J105 rec47 a0 x1 x2 x3 x4 x5 M) := by
  unfold p12_rests_J105
  refine g_iconst (v := 0) B dX12_rests_105 (by decide) ?_
  refine g_sub (lv' := [(0, .ref a0), (1, .int x1), (2, .int x2), (3, .int x3), (4, .int x4), (5, .int x5)]) [0, 1, 2, 3, 4, 5] rfl ?_
  exact g12_rests_J106 B hS9 hr rec47 hrec47 a0 x1 x2 x3 x4 x5 0 M
set_option maxRecDepth 20000 in
set_option maxHeartbeats 2000000 in
theorem g12_rests_L47 {X : gX} {p : Program} {l : Launch} {e : Env} {s : State} {m : MethodId} {args : Array Value} {below : List Frame} {meth : Method} {c : Code} (B : gB X p (rm12_rests) s m args meth c RX12 cX12_rests 7 (rm12_rests)) (hS9 : gS X s) (hr : meth.sig.returnType = some .int) (k135 : Nat → Int32 → Int32 → Int32 → Int32 → mMem → Option (Int32 × mMem)) (hk135 : ∀ (a0 : Nat) (x1 : Int32) (x2 : Int32) (x3 : Int32) (x4 : Int32) (M : mMem), GG X p l e (rm12_rests) s m args below meth c (gP X below args s 0 0 (fun r9 : (Int32 × mMem) => (some (.int r9.1), r9.2))) 7 0 0 135 [(0, .ref a0), (1, .int x1), (2, .int x2), (3, .int x3), (4, .int x4)] [] M (k135 a0 x1 x2 x3 x4 M)) : ∀ (n : Nat) (a0 : Nat) (x1 : Int32) (x2 : Int32) (x3 : Int32) (x4 : Int32) (x5 : Int32) (M : mMem), GG X p l e (rm12_rests) s m args below meth c (gP X below args s 0 0 (fun r9 : (Int32 × mMem) => (some (.int r9.1), r9.2))) 7 0 0 47 [(0, .ref a0), (1, .int x1), (2, .int x2), (3, .int x3), (4, .int x4), (5, .int x5)] [] M (p12_rests_L47 k135 n a0 x1 x2 x3 x4 x5 M) := by
  intro n
  induction n with
  | zero => intro a0 x1 x2 x3 x4 x5 M; exact g_none
  | succ n ih =>
    intro a0 x1 x2 x3 x4 x5 M
    rw [p12_rests_L47]
    refine g_iload B dX12_rests_47 5 rfl ?_
    refine g_iconst (v := 2) B dX12_rests_49 (by decide) ?_
    refine g_icmp_ge B 135 dX12_rests_50 (by decide) ?_ ?_
    · refine g_aload_n B dX12_rests_53 0 rfl ?_
      refine g_iload_n B dX12_rests_54 1 rfl ?_
      refine g_iload B dX12_rests_55 4 rfl ?_
      refine g_iload B dX12_rests_57 5 rfl ?_
      refine g_callV_ip [.int x1, .int x4, .int x5] (ci := 11) (T0 := TX12) (N := 27) B hS9 mf12_elderHas wd_2279 (gw B wp_124) wd_2277 (by decide) rfl (fun h => (gd_ne h).1) (c12_elderHas X l a0 x1 x4 x5 M) (by decide) (by decide) (by decide) rfl (by decide) dX12_rests_59 rfl (fun v_1 => ?_)
      refine g_aload_n B dX12_rests_62 0 rfl ?_
      refine g_iload_n B dX12_rests_63 1 rfl ?_
      refine g_iconst (v := 1) B dX12_rests_64 (by decide) ?_
      refine g_iload B dX12_rests_65 4 rfl ?_
      refine g_isub B dX12_rests_67 ?_
      refine g_iload B dX12_rests_68 5 rfl ?_
      refine g_callV_ip [.int x1, .int ((1 : Int32) - x4), .int x5] (ci := 11) (T0 := TX12) (N := 27) B hS9 mf12_elderHas wd_2279 (gw B wp_124) wd_2277 (by decide) rfl (fun h => (gd_ne h).1) (c12_elderHas X l a0 x1 ((1 : Int32) - x4) x5 M) (by decide) (by decide) (by decide) rfl (Nat.le_of_ble_eq_true rfl) dX12_rests_70 rfl (fun v_2 => ?_)
      refine g_icmp_lt B 105 dX12_rests_73 (by decide) ?_ ?_
      · refine g_sub (lv' := [(0, .ref a0), (1, .int x1), (2, .int x2), (3, .int x3), (4, .int x4), (5, .int x5)]) [0, 1, 2, 3, 4, 5] rfl ?_
        exact g12_rests_J105 B hS9 hr (p12_rests_L47 k135 n) ih a0 x1 x2 x3 x4 x5 M
      · refine g_aload_n B dX12_rests_76 0 rfl ?_
        refine g_iload_n B dX12_rests_77 1 rfl ?_
        refine g_iload_n B dX12_rests_78 2 rfl ?_
        refine g_iload B dX12_rests_79 4 rfl ?_
        refine g_iload B dX12_rests_81 5 rfl ?_
        refine g_callV_iw [.int x1, .int x2, .int x4, .int x5] (ci := 11) (T0 := TX12) (N := 27) B hS9 mf12_childHas wd_2283 (gw B wp_125) wd_2281 (by decide) rfl (fun h => (gd_ne h).1) (c12_childHas X l a0 x1 x2 x4 x5 M) (by decide) (by decide) (by decide) rfl (by decide) dX12_rests_83 rfl (fun q_3 => ?_)
        refine g_aload_n B dX12_rests_86 0 rfl ?_
        refine g_iload_n B dX12_rests_87 1 rfl ?_
        refine g_iload_n B dX12_rests_88 2 rfl ?_
        refine g_iload B dX12_rests_89 4 rfl ?_
        refine g_iconst (v := 1) B dX12_rests_91 (by decide) ?_
        refine g_iload B dX12_rests_92 5 rfl ?_
        refine g_isub B dX12_rests_94 ?_
        refine g_callV_iw [.int x1, .int x2, .int x4, .int ((1 : Int32) - x5)] (ci := 11) (T0 := TX12) (N := 27) B hS9 mf12_childHas wd_2283 (gw B wp_125) wd_2281 (by decide) rfl (fun h => (gd_ne h).1) (c12_childHas X l a0 x1 x2 x4 ((1 : Int32) - x5) q_3.2) (by decide) (by decide) (by decide) rfl (Nat.le_of_ble_eq_true rfl) dX12_rests_95 rfl (fun q_4 => ?_)
        refine g_icmp_lt B 105 dX12_rests_98 (by decide) ?_ ?_
        · refine g_sub (lv' := [(0, .ref a0), (1, .int x1), (2, .int x2), (3, .int x3), (4, .int x4), (5, .int x5)]) [0, 1, 2, 3, 4, 5] rfl ?_
          exact g12_rests_J105 B hS9 hr (p12_rests_L47 k135 n) ih a0 x1 x2 x3 x4 x5 q_4.2
        · refine g_iconst (v := 1) B dX12_rests_101 (by decide) ?_
          refine g_goto B 106 dX12_rests_102 (by decide) ?_
          refine g_sub (lv' := [(0, .ref a0), (1, .int x1), (2, .int x2), (3, .int x3), (4, .int x4), (5, .int x5)]) [0, 1, 2, 3, 4, 5] rfl ?_
          exact g12_rests_J106 B hS9 hr (p12_rests_L47 k135 n) ih a0 x1 x2 x3 x4 x5 1 q_4.2
    · refine g_sub (lv' := [(0, .ref a0), (1, .int x1), (2, .int x2), (3, .int x3), (4, .int x4)]) [0, 1, 2, 3, 4] rfl ?_
      exact hk135 a0 x1 x2 x3 x4 M
set_option maxRecDepth 20000 in
set_option maxHeartbeats 2000000 in
theorem g12_rests_J135 {X : gX} {p : Program} {l : Launch} {e : Env} {s : State} {m : MethodId} {args : Array Value} {below : List Frame} {meth : Method} {c : Code} (B : gB X p (rm12_rests) s m args meth c RX12 cX12_rests 7 (rm12_rests)) (hS9 : gS X s) (hr : meth.sig.returnType = some .int) (rec38 : Nat → Int32 → Int32 → Int32 → Int32 → mMem → Option (Int32 × mMem)) (hrec38 : ∀ (a0 : Nat) (x1 : Int32) (x2 : Int32) (x3 : Int32) (x4 : Int32) (M : mMem), GG X p l e (rm12_rests) s m args below meth c (gP X below args s 0 0 (fun r9 : (Int32 × mMem) => (some (.int r9.1), r9.2))) 7 0 0 38 [(0, .ref a0), (1, .int x1), (2, .int x2), (3, .int x3), (4, .int x4)] [] M (rec38 a0 x1 x2 x3 x4 M)) (a0 : Nat) (x1 : Int32) (x2 : Int32) (x3 : Int32) (x4 : Int32) (M : mMem) : GG X p l e (rm12_rests) s m args below meth c (gP X below args s 0 0 (fun r9 : (Int32 × mMem) => (some (.int r9.1), r9.2))) 7 0 0 135 [(0, .ref a0), (1, .int x1), (2, .int x2), (3, .int x3), (4, .int x4)] [] M (p12_rests_J135 rec38 a0 x1 x2 x3 x4 M) := by
  unfold p12_rests_J135
  refine g_iinc (v := (x4 + 1)) (lv' := [(4, .int (x4 + 1)), (0, .ref a0), (1, .int x1), (2, .int x2), (3, .int x3)]) B dX12_rests_135 4 rfl rfl (by decide) [0, 1, 2, 3, 4] rfl ?_
  refine g_goto B 38 dX12_rests_138 (by decide) ?_
  refine g_sub (lv' := [(0, .ref a0), (1, .int x1), (2, .int x2), (3, .int x3), (4, .int (x4 + 1))]) [1, 2, 3, 4, 0] rfl ?_
  exact hrec38 a0 x1 x2 x3 (x4 + 1) M
set_option maxRecDepth 20000 in
set_option maxHeartbeats 2000000 in
theorem g12_rests_L38 {X : gX} {p : Program} {l : Launch} {e : Env} {s : State} {m : MethodId} {args : Array Value} {below : List Frame} {meth : Method} {c : Code} (B : gB X p (rm12_rests) s m args meth c RX12 cX12_rests 7 (rm12_rests)) (hS9 : gS X s) (hr : meth.sig.returnType = some .int) : ∀ (n : Nat) (a0 : Nat) (x1 : Int32) (x2 : Int32) (x3 : Int32) (x4 : Int32) (M : mMem), GG X p l e (rm12_rests) s m args below meth c (gP X below args s 0 0 (fun r9 : (Int32 × mMem) => (some (.int r9.1), r9.2))) 7 0 0 38 [(0, .ref a0), (1, .int x1), (2, .int x2), (3, .int x3), (4, .int x4)] [] M (p12_rests_L38 n a0 x1 x2 x3 x4 M) := by
  intro n
  induction n with
  | zero => intro a0 x1 x2 x3 x4 M; exact g_none
  | succ n ih =>
    intro a0 x1 x2 x3 x4 M
    rw [p12_rests_L38]
    refine g_iload B dX12_rests_38 4 rfl ?_
    refine g_iconst (v := 2) B dX12_rests_40 (by decide) ?_
    refine g_icmp_ge B 141 dX12_rests_41 (by decide) ?_ ?_
    · refine g_iconst (v := 0) B dX12_rests_44 (by decide) ?_
      refine g_istore (lv' := [(5, .int 0), (0, .ref a0), (1, .int x1), (2, .int x2), (3, .int x3), (4, .int x4)]) B dX12_rests_45 (by decide) [0, 1, 2, 3, 4, 5] rfl ?_
      refine g_sub (lv' := [(0, .ref a0), (1, .int x1), (2, .int x2), (3, .int x3), (4, .int x4), (5, .int 0)]) [1, 2, 3, 4, 5, 0] rfl ?_
      exact (g12_rests_L47 B hS9 hr (p12_rests_J135 (p12_rests_L38 n)) (fun e0 e1 e2 e3 e4 e5 => g12_rests_J135 B hS9 hr (p12_rests_L38 n) ih e0 e1 e2 e3 e4 e5)) gF a0 x1 x2 x3 x4 0 M
    · refine g_iload_n B dX12_rests_141 3 rfl ?_
      exact g_ireturn B hr rfl (by decide) (by decide) rfl dX12_rests_142
set_option maxRecDepth 20000 in
set_option maxHeartbeats 2000000 in
theorem g12_rests_J24 {X : gX} {p : Program} {l : Launch} {e : Env} {s : State} {m : MethodId} {args : Array Value} {below : List Frame} {meth : Method} {c : Code} (B : gB X p (rm12_rests) s m args meth c RX12 cX12_rests 7 (rm12_rests)) (hS9 : gS X s) (hr : meth.sig.returnType = some .int) (a0 : Nat) (x1 : Int32) (x2 : Int32) (b0 : Nat) (u1 : Int32) (M : mMem) : GG X p l e (rm12_rests) s m args below meth c (gP X below args s 0 0 (fun r9 : (Int32 × mMem) => (some (.int r9.1), r9.2))) 7 0 0 24 [(0, .ref a0), (1, .int x1), (2, .int x2)] [.int u1, .ref b0] M (p12_rests_J24 a0 x1 x2 b0 u1 M) := by
  unfold p12_rests_J24
  refine g_iconst (v := 3) B dX12_rests_24 (by decide) ?_
  refine g_callV_iw [.int u1, .int 3] (ci := 11) (T0 := TX12) (N := 27) B hS9 mf12_throwsIf wd_1932 (gw B wp_78) wd_1930 (by decide) rfl (fun h => (gd_ne h).1) (c12_throwsIf X l b0 u1 3 M) (by decide) (by decide) (by decide) rfl (by decide) dX12_rests_25 rfl (fun q_1 => ?_)
  refine g_if_eq B 33 dX12_rests_28 (by decide) ?_ ?_
  · refine g_iconst (v := 0) B dX12_rests_33 (by decide) ?_
    refine g_istore_n (lv' := [(3, .int 0), (0, .ref a0), (1, .int x1), (2, .int x2)]) B dX12_rests_34 (by decide) [0, 1, 2, 3] rfl ?_
    refine g_iconst (v := 0) B dX12_rests_35 (by decide) ?_
    refine g_istore (lv' := [(4, .int 0), (3, .int 0), (0, .ref a0), (1, .int x1), (2, .int x2)]) B dX12_rests_36 (by decide) [0, 1, 2, 3, 4] rfl ?_
    refine g_sub (lv' := [(0, .ref a0), (1, .int x1), (2, .int x2), (3, .int 0), (4, .int 0)]) [2, 3, 4, 1, 0] rfl ?_
    exact (g12_rests_L38 B hS9 hr) gF a0 x1 x2 0 0 q_1.2
  · refine g_sub (lv' := []) [] rfl ?_
    exact g12_rests_J31 B hS9 hr q_1.2
set_option maxRecDepth 20000 in
set_option maxHeartbeats 2000000 in
theorem g12_rests {X : gX} {p : Program} {l : Launch} {e : Env} {s : State} {m : MethodId} {args : Array Value} {below : List Frame} {meth : Method} {c : Code} (B : gB X p (rm12_rests) s m args meth c RX12 cX12_rests 7 (rm12_rests)) (hS9 : gS X s) (hr : meth.sig.returnType = some .int) (a0 : Nat) (x1 : Int32) (x2 : Int32) (M : mMem) : GG X p l e (rm12_rests) s m args below meth c (gP X below args s 0 0 (fun r9 : (Int32 × mMem) => (some (.int r9.1), r9.2))) 7 0 0 0 [(0, .ref a0), (1, .int x1), (2, .int x2)] [] M (p12_rests a0 x1 x2 M) := by
  unfold p12_rests
  refine g_gd ?_
  refine g_aload_n B dX12_rests_0 0 rfl ?_
  refine g_iload_n B dX12_rests_1 1 rfl ?_
  refine g_iload_n B dX12_rests_2 2 rfl ?_
  refine g_callV_iw [.int x1, .int x2] (ci := 11) (T0 := TX12) (N := 27) B hS9 mf12_noTwo wd_1974 (gw B wp_84) wd_1972 (by decide) rfl (fun h => (gd_ne h).1) (c12_noTwo X l a0 x1 x2 M) (by decide) (by decide) (by decide) rfl (by decide) dX12_rests_3 rfl (fun q_1 => ?_)
  refine g_if_ne B 31 dX12_rests_6 (by decide) ?_ ?_
  · refine g_aload_n B dX12_rests_9 0 rfl ?_
    refine g_aload_n B dX12_rests_10 0 rfl ?_
    refine g_iload_n B dX12_rests_11 1 rfl ?_
    refine g_iload_n B dX12_rests_12 2 rfl ?_
    refine g_callV_ip [.int x1, .int x2] (ci := 11) (T0 := TX12) (N := 27) B hS9 mf12_governs wd_1955 (gw B wp_81) wd_1953 (by decide) rfl (fun h => (gd_ne h).1) (c12_governs X l a0 x1 x2 q_1.2) (by decide) (by decide) (by decide) rfl (Nat.le_of_ble_eq_true rfl) dX12_rests_13 rfl (fun v_2 => ?_)
    refine g_if_ne B 23 dX12_rests_16 (by decide) ?_ ?_
    · refine g_iconst (v := 1) B dX12_rests_19 (by decide) ?_
      refine g_goto B 24 dX12_rests_20 (by decide) ?_
      refine g_sub (lv' := [(0, .ref a0), (1, .int x1), (2, .int x2)]) [0, 1, 2] rfl ?_
      exact g12_rests_J24 B hS9 hr a0 x1 x2 a0 1 q_1.2
    · refine g_iconst (v := 0) B dX12_rests_23 (by decide) ?_
      refine g_sub (lv' := [(0, .ref a0), (1, .int x1), (2, .int x2)]) [0, 1, 2] rfl ?_
      exact g12_rests_J24 B hS9 hr a0 x1 x2 a0 0 q_1.2
  · refine g_sub (lv' := []) [] rfl ?_
    exact g12_rests_J31 B hS9 hr q_1.2
theorem c12_rests (X : gX) (l : Launch) (a0 : Nat) (x1 : Int32) (x2 : Int32) (M : mMem) : Con X l yX12_rests cX12_rests 7 (some .int) rm12_rests (fun r9 : (Int32 × mMem) => (some (.int r9.1), r9.2)) [.ref a0, .int x1, .int x2] M (p12_rests a0 x1 x2 M) := g_con (own := RX12) (by decide +kernel) rfl (Nat.le_of_ble_eq_true rfl) (fun p e s m args below meth c B hS9 hr hn => g12_rests B hS9 hr a0 x1 x2 M)
theorem mf12_branchOf : gMF yX12_branchOf cX12_branchOf 4 (some .int) 1 := ⟨wd_2292, wd_13, ⟨by decide, by decide⟩, by decide +kernel⟩
set_option maxRecDepth 20000 in
set_option maxHeartbeats 2000000 in
theorem g12_branchOf_J43 {X : gX} {p : Program} {l : Launch} {e : Env} {s : State} {m : MethodId} {args : Array Value} {below : List Frame} {meth : Method} {c : Code} (B : gB X p (rm12_branchOf) s m args meth c RX12 cX12_branchOf 4 (rm12_branchOf)) (hS9 : gS X s) (hr : meth.sig.returnType = some .int) {M : mMem} (rec6 : Nat → Int32 → Int32 → Option Int32) (hrec6 : ∀ (a0 : Nat) (x2 : Int32) (x3 : Int32), GG X p l e (rm12_branchOf) s m args below meth c (gP X below args s 0 0 (fun r9 : Int32 => (some (.int r9), M))) 4 0 0 6 [(0, .ref a0), (2, .int x2), (3, .int x3)] [] M (rec6 a0 x2 x3)) (a0 : Nat) (x2 : Int32) (x3 : Int32) : GG X p l e (rm12_branchOf) s m args below meth c (gP X below args s 0 0 (fun r9 : Int32 => (some (.int r9), M))) 4 0 0 43 [(0, .ref a0), (2, .int x2), (3, .int x3)] [] M (p12_branchOf_J43 M rec6 a0 x2 x3) := by
  unfold p12_branchOf_J43
  refine g_iinc (v := (x3 + 1)) (lv' := [(3, .int (x3 + 1)), (0, .ref a0), (2, .int x2)]) B dX12_branchOf_43 2 rfl rfl (by decide) [0, 1, 2] rfl ?_
  refine g_goto B 6 dX12_branchOf_46 (by decide) ?_
  refine g_sub (lv' := [(0, .ref a0), (2, .int x2), (3, .int (x3 + 1))]) [1, 2, 0] rfl ?_
  exact hrec6 a0 x2 (x3 + 1)
set_option maxRecDepth 20000 in
set_option maxHeartbeats 2000000 in
theorem g12_branchOf_L6 {X : gX} {p : Program} {l : Launch} {e : Env} {s : State} {m : MethodId} {args : Array Value} {below : List Frame} {meth : Method} {c : Code} (B : gB X p (rm12_branchOf) s m args meth c RX12 cX12_branchOf 4 (rm12_branchOf)) (hS9 : gS X s) (hr : meth.sig.returnType = some .int) {M : mMem} : ∀ (n : Nat) (a0 : Nat) (x2 : Int32) (x3 : Int32), GG X p l e (rm12_branchOf) s m args below meth c (gP X below args s 0 0 (fun r9 : Int32 => (some (.int r9), M))) 4 0 0 6 [(0, .ref a0), (2, .int x2), (3, .int x3)] [] M (p12_branchOf_L6 M n a0 x2 x3) := by
  intro n
  induction n with
  | zero => intro a0 x2 x3; exact g_none
  | succ n ih =>
    intro a0 x2 x3
    rw [p12_branchOf_L6]
    refine g_iload_n B dX12_branchOf_6 2 rfl ?_
    refine g_aload_n B dX12_branchOf_7 0 rfl ?_
    refine g_callV_ip [] (ci := 11) (T0 := TX12) (N := 27) B hS9 mf12_people wd_1793 (gw B wp_51) wd_1791 (by decide) rfl (fun h => (gd_ne h).1) (c12_people X l a0 M) (by decide) (by decide) (by decide) rfl (Nat.le_of_ble_eq_true rfl) dX12_branchOf_8 rfl (fun v_1 => ?_)
    refine g_icmp_ge B 49 dX12_branchOf_11 (by decide) ?_ ?_
    · refine g_aload_n B dX12_branchOf_14 0 rfl ?_
      refine g_iload_n B dX12_branchOf_15 2 rfl ?_
      refine g_iconst (v := 3) B dX12_branchOf_16 (by decide) ?_
      refine g_callV_ip [.int x3, .int 3] (ci := 11) (T0 := TX12) (N := 27) B hS9 mf12_of wd_1846 (gw B wp_61) wd_1844 (by decide) rfl (fun h => (gd_ne h).1) (c12_of X l a0 x3 3 M) (by decide) (by decide) (by decide) rfl (by decide) dX12_branchOf_17 rfl (fun v_2 => ?_)
      refine g_iconst (v := (-1)) B dX12_branchOf_20 (by decide) ?_
      refine g_icmp_eq B 43 dX12_branchOf_21 (by decide) ?_ ?_
      · refine g_sub (lv' := [(0, .ref a0), (2, .int x2), (3, .int x3)]) [0, 1, 2] rfl ?_
        exact g12_branchOf_J43 B hS9 hr (p12_branchOf_L6 M n) ih a0 x2 x3
      · refine g_iload_n B dX12_branchOf_24 1 rfl ?_
        refine g_aload_n B dX12_branchOf_25 0 rfl ?_
        refine g_iload_n B dX12_branchOf_26 2 rfl ?_
        refine g_iconst (v := 3) B dX12_branchOf_27 (by decide) ?_
        refine g_callV_ip [.int x3, .int 3] (ci := 11) (T0 := TX12) (N := 27) B hS9 mf12_of wd_1846 (gw B wp_61) wd_1844 (by decide) rfl (fun h => (gd_ne h).1) (c12_of X l a0 x3 3 M) (by decide) (by decide) (by decide) rfl (Nat.le_of_ble_eq_true rfl) dX12_branchOf_28 rfl (fun v_3 => ?_)
        refine g_callS_ip [.int x2, .int v_3] B hS9 mf12_has wd_1958 wd_1957 (c12_has X l x2 v_3 M) (by decide) (by decide) (by decide) rfl (by decide) dX12_branchOf_31 rfl (fun v_4 => ?_)
        refine g_if_eq B 43 dX12_branchOf_34 (by decide) ?_ ?_
        · refine g_sub (lv' := [(0, .ref a0), (2, .int x2), (3, .int x3)]) [0, 1, 2] rfl ?_
          exact g12_branchOf_J43 B hS9 hr (p12_branchOf_L6 M n) ih a0 x2 x3
        · refine g_iload_n B dX12_branchOf_37 1 rfl ?_
          refine g_iconst (v := 1) B dX12_branchOf_38 (by decide) ?_
          refine g_iload_n B dX12_branchOf_39 2 rfl ?_
          refine g_ishl B dX12_branchOf_40 ?_
          refine g_ior B dX12_branchOf_41 ?_
          refine g_istore_n (lv' := [(2, .int (x2 ||| ((1 : Int32) <<< (x3 &&& 31)))), (0, .ref a0), (3, .int x3)]) B dX12_branchOf_42 (by decide) [0, 1, 2] rfl ?_
          refine g_sub (lv' := [(0, .ref a0), (2, .int (x2 ||| ((1 : Int32) <<< (x3 &&& 31)))), (3, .int x3)]) [1, 0, 2] rfl ?_
          exact g12_branchOf_J43 B hS9 hr (p12_branchOf_L6 M n) ih a0 (x2 ||| ((1 : Int32) <<< (x3 &&& 31))) x3
    · refine g_iload_n B dX12_branchOf_49 1 rfl ?_
      exact g_ireturn B hr rfl (by decide) (by decide) rfl dX12_branchOf_50
set_option maxRecDepth 20000 in
set_option maxHeartbeats 2000000 in
theorem g12_branchOf {X : gX} {p : Program} {l : Launch} {e : Env} {s : State} {m : MethodId} {args : Array Value} {below : List Frame} {meth : Method} {c : Code} (B : gB X p (rm12_branchOf) s m args meth c RX12 cX12_branchOf 4 (rm12_branchOf)) (hS9 : gS X s) (hr : meth.sig.returnType = some .int) {M : mMem} (a0 : Nat) (x1 : Int32) : GG X p l e (rm12_branchOf) s m args below meth c (gP X below args s 0 0 (fun r9 : Int32 => (some (.int r9), M))) 4 0 0 0 [(0, .ref a0), (1, .int x1)] [] M (p12_branchOf a0 x1 M) := by
  unfold p12_branchOf
  refine g_gd ?_
  refine g_iconst (v := 1) B dX12_branchOf_0 (by decide) ?_
  refine g_iload_n B dX12_branchOf_1 1 rfl ?_
  refine g_ishl B dX12_branchOf_2 ?_
  refine g_istore_n (lv' := [(2, .int ((1 : Int32) <<< (x1 &&& 31))), (0, .ref a0), (1, .int x1)]) B dX12_branchOf_3 (by decide) [0, 1, 2] rfl ?_
  refine g_iconst (v := 0) B dX12_branchOf_4 (by decide) ?_
  refine g_istore_n (lv' := [(3, .int 0), (2, .int ((1 : Int32) <<< (x1 &&& 31))), (0, .ref a0), (1, .int x1)]) B dX12_branchOf_5 (by decide) [0, 1, 2, 3] rfl ?_
  refine g_sub (lv' := [(0, .ref a0), (2, .int ((1 : Int32) <<< (x1 &&& 31))), (3, .int 0)]) [2, 1, 0] rfl ?_
  exact (g12_branchOf_L6 B hS9 hr) gF a0 ((1 : Int32) <<< (x1 &&& 31)) 0
theorem c12_branchOf (X : gX) (l : Launch) (a0 : Nat) (x1 : Int32) (M : mMem) : Con X l yX12_branchOf cX12_branchOf 4 (some .int) rm12_branchOf (fun r9 : Int32 => (some (.int r9), M)) [.ref a0, .int x1] M (p12_branchOf a0 x1 M) := g_con (own := RX12) (by decide +kernel) rfl (Nat.le_of_ble_eq_true rfl) (fun p e s m args below meth c B hS9 hr hn => g12_branchOf B hS9 hr a0 x1)
theorem mf12_branch : gMF yX12_branch cX12_branch 2 (some .int) 1 := ⟨wd_2288, wd_13, ⟨by decide, by decide⟩, by decide +kernel⟩
set_option maxRecDepth 20000 in
set_option maxHeartbeats 2000000 in
theorem g12_branch_J27 {X : gX} {p : Program} {l : Launch} {e : Env} {s : State} {m : MethodId} {args : Array Value} {below : List Frame} {meth : Method} {c : Code} (B : gB X p (rm12_branch) s m args meth c RX12 cX12_branch 2 (rm12_branch)) (hS9 : gS X s) (hr : meth.sig.returnType = some .int) (u0 : Int32) (M : mMem) : GG X p l e (rm12_branch) s m args below meth c (gP X below args s 0 0 (fun r9 : (Int32 × mMem) => (some (.int r9.1), r9.2))) 2 0 0 27 [] [.int u0] M (p12_branch_J27 u0 M) := by
  unfold p12_branch_J27
  exact g_ireturn B hr rfl (by decide) (by decide) rfl dX12_branch_27
set_option maxRecDepth 20000 in
set_option maxHeartbeats 2000000 in
theorem g12_branch {X : gX} {p : Program} {l : Launch} {e : Env} {s : State} {m : MethodId} {args : Array Value} {below : List Frame} {meth : Method} {c : Code} (B : gB X p (rm12_branch) s m args meth c RX12 cX12_branch 2 (rm12_branch)) (hS9 : gS X s) (hr : meth.sig.returnType = some .int) (a0 : Nat) (x1 : Int32) (M : mMem) : GG X p l e (rm12_branch) s m args below meth c (gP X below args s 0 0 (fun r9 : (Int32 × mMem) => (some (.int r9.1), r9.2))) 2 0 0 0 [(0, .ref a0), (1, .int x1)] [] M (p12_branch a0 x1 M) := by
  unfold p12_branch
  refine g_gd ?_
  refine g_aload_n B dX12_branch_0 0 rfl ?_
  refine g_iconst (v := 0) B dX12_branch_1 (by decide) ?_
  refine g_putI (ci := 11) (T0 := TX12) (N := 27) B (by decide) rfl in_11 tyX12 tyX12_ok nmX12 (k := 0) (by decide) wd_1641 (fun _ h => h) rfl rfl (ty := .int) (by decide +kernel) rfl rfl dX12_branch_2 (fun M_1 => ?_)
  refine g_aload_n B dX12_branch_5 0 rfl ?_
  refine g_aload_n B dX12_branch_6 0 rfl ?_
  refine g_iload_n B dX12_branch_7 1 rfl ?_
  refine g_callV_ip [.int x1] (ci := 11) (T0 := TX12) (N := 27) B hS9 mf12_nobody wd_1944 (gw B wp_79) wd_1942 (by decide) rfl (fun h => (gd_ne h).1) (c12_nobody X l a0 x1 M_1) (by decide) (by decide) (by decide) rfl (Nat.le_of_ble_eq_true rfl) dX12_branch_8 rfl (fun v_2 => ?_)
  refine g_iconst (v := 1) B dX12_branch_11 (by decide) ?_
  refine g_callV_iw [.int v_2, .int 1] (ci := 11) (T0 := TX12) (N := 27) B hS9 mf12_throwsIf wd_1932 (gw B wp_78) wd_1930 (by decide) rfl (fun h => (gd_ne h).1) (c12_throwsIf X l a0 v_2 1 M_1) (by decide) (by decide) (by decide) rfl (by decide) dX12_branch_12 rfl (fun q_3 => ?_)
  refine g_if_eq B 22 dX12_branch_15 (by decide) ?_ ?_
  · refine g_aload_n B dX12_branch_22 0 rfl ?_
    refine g_iload_n B dX12_branch_23 1 rfl ?_
    refine g_callV_ip [.int x1] (ci := 11) (T0 := TX12) (N := 27) B hS9 mf12_branchOf wd_2291 (gw B wp_126) wd_2289 (by decide) rfl (fun h => (gd_ne h).1) (c12_branchOf X l a0 x1 q_3.2) (by decide) (by decide) (by decide) rfl (by decide) dX12_branch_24 rfl (fun v_4 => ?_)
    refine g_sub (lv' := []) [] rfl ?_
    exact g12_branch_J27 B hS9 hr v_4 q_3.2
  · refine g_iconst (v := 0) B dX12_branch_18 (by decide) ?_
    refine g_goto B 27 dX12_branch_19 (by decide) ?_
    refine g_sub (lv' := []) [] rfl ?_
    exact g12_branch_J27 B hS9 hr 0 q_3.2
theorem c12_branch (X : gX) (l : Launch) (a0 : Nat) (x1 : Int32) (M : mMem) : Con X l yX12_branch cX12_branch 2 (some .int) rm12_branch (fun r9 : (Int32 × mMem) => (some (.int r9.1), r9.2)) [.ref a0, .int x1] M (p12_branch a0 x1 M) := g_con (own := RX12) (by decide +kernel) rfl (Nat.le_of_ble_eq_true rfl) (fun p e s m args below meth c B hS9 hr hn => g12_branch B hS9 hr a0 x1 M)
theorem mf12_agesOf : gMF yX12_agesOf cX12_agesOf 4 (some .int) 1 := ⟨wd_2300, wd_13, ⟨by decide, by decide⟩, by decide +kernel⟩
set_option maxRecDepth 20000 in
set_option maxHeartbeats 2000000 in
theorem g12_agesOf_J31 {X : gX} {p : Program} {l : Launch} {e : Env} {s : State} {m : MethodId} {args : Array Value} {below : List Frame} {meth : Method} {c : Code} (B : gB X p (rm12_agesOf) s m args meth c RX12 cX12_agesOf 4 (rm12_agesOf)) (hS9 : gS X s) (hr : meth.sig.returnType = some .int) {M : mMem} (rec4 : Nat → Int32 → Int32 → Int32 → Option Int32) (hrec4 : ∀ (a0 : Nat) (x1 : Int32) (x2 : Int32) (x3 : Int32), GG X p l e (rm12_agesOf) s m args below meth c (gP X below args s 0 0 (fun r9 : Int32 => (some (.int r9), M))) 4 0 0 4 [(0, .ref a0), (1, .int x1), (2, .int x2), (3, .int x3)] [] M (rec4 a0 x1 x2 x3)) (a0 : Nat) (x1 : Int32) (x3 : Int32) (u0 : Int32) (u1 : Int32) : GG X p l e (rm12_agesOf) s m args below meth c (gP X below args s 0 0 (fun r9 : Int32 => (some (.int r9), M))) 4 0 0 31 [(0, .ref a0), (1, .int x1), (3, .int x3)] [.int u1, .int u0] M (p12_agesOf_J31 M rec4 a0 x1 x3 u0 u1) := by
  unfold p12_agesOf_J31
  refine g_iadd B dX12_agesOf_31 ?_
  refine g_istore_n (lv' := [(2, .int (u0 + u1)), (0, .ref a0), (1, .int x1), (3, .int x3)]) B dX12_agesOf_32 (by decide) [0, 1, 2, 3] rfl ?_
  refine g_iinc (v := (x3 + 1)) (lv' := [(3, .int (x3 + 1)), (2, .int (u0 + u1)), (0, .ref a0), (1, .int x1)]) B dX12_agesOf_33 3 rfl rfl (by decide) [0, 1, 2, 3] rfl ?_
  refine g_goto B 4 dX12_agesOf_36 (by decide) ?_
  refine g_sub (lv' := [(0, .ref a0), (1, .int x1), (2, .int (u0 + u1)), (3, .int (x3 + 1))]) [2, 3, 1, 0] rfl ?_
  exact hrec4 a0 x1 (u0 + u1) (x3 + 1)
set_option maxRecDepth 20000 in
set_option maxHeartbeats 2000000 in
theorem g12_agesOf_L4 {X : gX} {p : Program} {l : Launch} {e : Env} {s : State} {m : MethodId} {args : Array Value} {below : List Frame} {meth : Method} {c : Code} (B : gB X p (rm12_agesOf) s m args meth c RX12 cX12_agesOf 4 (rm12_agesOf)) (hS9 : gS X s) (hr : meth.sig.returnType = some .int) {M : mMem} : ∀ (n : Nat) (a0 : Nat) (x1 : Int32) (x2 : Int32) (x3 : Int32), GG X p l e (rm12_agesOf) s m args below meth c (gP X below args s 0 0 (fun r9 : Int32 => (some (.int r9), M))) 4 0 0 4 [(0, .ref a0), (1, .int x1), (2, .int x2), (3, .int x3)] [] M (p12_agesOf_L4 M n a0 x1 x2 x3) := by
  intro n
  induction n with
  | zero => intro a0 x1 x2 x3; exact g_none
  | succ n ih =>
    intro a0 x1 x2 x3
    rw [p12_agesOf_L4]
    refine g_iload_n B dX12_agesOf_4 3 rfl ?_
    refine g_aload_n B dX12_agesOf_5 0 rfl ?_
    refine g_callV_ip [] (ci := 11) (T0 := TX12) (N := 27) B hS9 mf12_people wd_1793 (gw B wp_51) wd_1791 (by decide) rfl (fun h => (gd_ne h).1) (c12_people X l a0 M) (by decide) (by decide) (by decide) rfl (Nat.le_of_ble_eq_true rfl) dX12_agesOf_6 rfl (fun v_1 => ?_)
    refine g_icmp_ge B 39 dX12_agesOf_9 (by decide) ?_ ?_
    · refine g_iload_n B dX12_agesOf_12 2 rfl ?_
      refine g_iload_n B dX12_agesOf_13 1 rfl ?_
      refine g_iload_n B dX12_agesOf_14 3 rfl ?_
      refine g_callS_ip [.int x1, .int x3] B hS9 mf12_has wd_1958 wd_1957 (c12_has X l x1 x3 M) (by decide) (by decide) (by decide) rfl (Nat.le_of_ble_eq_true rfl) dX12_agesOf_15 rfl (fun v_2 => ?_)
      refine g_if_eq B 30 dX12_agesOf_18 (by decide) ?_ ?_
      · refine g_iconst (v := 0) B dX12_agesOf_30 (by decide) ?_
        refine g_sub (lv' := [(0, .ref a0), (1, .int x1), (3, .int x3)]) [0, 1, 3] rfl ?_
        exact g12_agesOf_J31 B hS9 hr (p12_agesOf_L4 M n) ih a0 x1 x3 x2 0
      · refine g_aload_n B dX12_agesOf_21 0 rfl ?_
        refine g_iload_n B dX12_agesOf_22 3 rfl ?_
        refine g_iconst (v := 0) B dX12_agesOf_23 (by decide) ?_
        refine g_callV_ip [.int x3, .int 0] (ci := 11) (T0 := TX12) (N := 27) B hS9 mf12_of wd_1846 (gw B wp_61) wd_1844 (by decide) rfl (fun h => (gd_ne h).1) (c12_of X l a0 x3 0 M) (by decide) (by decide) (by decide) rfl (Nat.le_of_ble_eq_true rfl) dX12_agesOf_24 rfl (fun v_3 => ?_)
        refine g_goto B 31 dX12_agesOf_27 (by decide) ?_
        refine g_sub (lv' := [(0, .ref a0), (1, .int x1), (3, .int x3)]) [0, 1, 3] rfl ?_
        exact g12_agesOf_J31 B hS9 hr (p12_agesOf_L4 M n) ih a0 x1 x3 x2 v_3
    · refine g_iload_n B dX12_agesOf_39 2 rfl ?_
      exact g_ireturn B hr rfl (by decide) (by decide) rfl dX12_agesOf_40
set_option maxRecDepth 20000 in
set_option maxHeartbeats 2000000 in
theorem g12_agesOf {X : gX} {p : Program} {l : Launch} {e : Env} {s : State} {m : MethodId} {args : Array Value} {below : List Frame} {meth : Method} {c : Code} (B : gB X p (rm12_agesOf) s m args meth c RX12 cX12_agesOf 4 (rm12_agesOf)) (hS9 : gS X s) (hr : meth.sig.returnType = some .int) {M : mMem} (a0 : Nat) (x1 : Int32) : GG X p l e (rm12_agesOf) s m args below meth c (gP X below args s 0 0 (fun r9 : Int32 => (some (.int r9), M))) 4 0 0 0 [(0, .ref a0), (1, .int x1)] [] M (p12_agesOf a0 x1 M) := by
  unfold p12_agesOf
  refine g_gd ?_
  refine g_iconst (v := 0) B dX12_agesOf_0 (by decide) ?_
  refine g_istore_n (lv' := [(2, .int 0), (0, .ref a0), (1, .int x1)]) B dX12_agesOf_1 (by decide) [0, 1, 2] rfl ?_
  refine g_iconst (v := 0) B dX12_agesOf_2 (by decide) ?_
  refine g_istore_n (lv' := [(3, .int 0), (2, .int 0), (0, .ref a0), (1, .int x1)]) B dX12_agesOf_3 (by decide) [0, 1, 2, 3] rfl ?_
  refine g_sub (lv' := [(0, .ref a0), (1, .int x1), (2, .int 0), (3, .int 0)]) [2, 3, 1, 0] rfl ?_
  exact (g12_agesOf_L4 B hS9 hr) gF a0 x1 0 0
theorem c12_agesOf (X : gX) (l : Launch) (a0 : Nat) (x1 : Int32) (M : mMem) : Con X l yX12_agesOf cX12_agesOf 4 (some .int) rm12_agesOf (fun r9 : Int32 => (some (.int r9), M)) [.ref a0, .int x1] M (p12_agesOf a0 x1 M) := g_con (own := RX12) (by decide +kernel) rfl (Nat.le_of_ble_eq_true rfl) (fun p e s m args below meth c B hS9 hr hn => g12_agesOf B hS9 hr a0 x1)
theorem mf12_senior : gMF yX12_senior cX12_senior 3 (some .int) 0 := ⟨wd_2296, wd_13, ⟨by decide, by decide⟩, by decide +kernel⟩
set_option maxRecDepth 20000 in
set_option maxHeartbeats 2000000 in
theorem g12_senior_J55 {X : gX} {p : Program} {l : Launch} {e : Env} {s : State} {m : MethodId} {args : Array Value} {below : List Frame} {meth : Method} {c : Code} (B : gB X p (rm12_senior) s m args meth c RX12 cX12_senior 3 (rm12_senior)) (hS9 : gS X s) (hr : meth.sig.returnType = some .int) (rec9 : Nat → Int32 → Int32 → mMem → Option (Int32 × mMem)) (hrec9 : ∀ (a0 : Nat) (x1 : Int32) (x2 : Int32) (M : mMem), GG X p l e (rm12_senior) s m args below meth c (gP X below args s 0 0 (fun r9 : (Int32 × mMem) => (some (.int r9.1), r9.2))) 3 0 0 9 [(0, .ref a0), (1, .int x1), (2, .int x2)] [] M (rec9 a0 x1 x2 M)) (a0 : Nat) (x1 : Int32) (x2 : Int32) (M : mMem) : GG X p l e (rm12_senior) s m args below meth c (gP X below args s 0 0 (fun r9 : (Int32 × mMem) => (some (.int r9.1), r9.2))) 3 0 0 55 [(0, .ref a0), (1, .int x1), (2, .int x2)] [] M (p12_senior_J55 rec9 a0 x1 x2 M) := by
  unfold p12_senior_J55
  refine g_iinc (v := (x2 + 1)) (lv' := [(2, .int (x2 + 1)), (0, .ref a0), (1, .int x1)]) B dX12_senior_55 2 rfl rfl (by decide) [0, 1, 2] rfl ?_
  refine g_goto B 9 dX12_senior_58 (by decide) ?_
  refine g_sub (lv' := [(0, .ref a0), (1, .int x1), (2, .int (x2 + 1))]) [1, 2, 0] rfl ?_
  exact hrec9 a0 x1 (x2 + 1) M
set_option maxRecDepth 20000 in
set_option maxHeartbeats 2000000 in
theorem g12_senior_J53 {X : gX} {p : Program} {l : Launch} {e : Env} {s : State} {m : MethodId} {args : Array Value} {below : List Frame} {meth : Method} {c : Code} (B : gB X p (rm12_senior) s m args meth c RX12 cX12_senior 3 (rm12_senior)) (hS9 : gS X s) (hr : meth.sig.returnType = some .int) (rec9 : Nat → Int32 → Int32 → mMem → Option (Int32 × mMem)) (hrec9 : ∀ (a0 : Nat) (x1 : Int32) (x2 : Int32) (M : mMem), GG X p l e (rm12_senior) s m args below meth c (gP X below args s 0 0 (fun r9 : (Int32 × mMem) => (some (.int r9.1), r9.2))) 3 0 0 9 [(0, .ref a0), (1, .int x1), (2, .int x2)] [] M (rec9 a0 x1 x2 M)) (a0 : Nat) (x2 : Int32) (M : mMem) : GG X p l e (rm12_senior) s m args below meth c (gP X below args s 0 0 (fun r9 : (Int32 × mMem) => (some (.int r9.1), r9.2))) 3 0 0 53 [(0, .ref a0), (2, .int x2)] [] M (p12_senior_J53 rec9 a0 x2 M) := by
  unfold p12_senior_J53
  refine g_iload_n B dX12_senior_53 1 rfl ?_
  refine g_istore_n (lv' := [(1, .int x2), (0, .ref a0), (2, .int x2)]) B dX12_senior_54 (by decide) [0, 1, 2] rfl ?_
  refine g_sub (lv' := [(0, .ref a0), (1, .int x2), (2, .int x2)]) [1, 0, 2] rfl ?_
  exact g12_senior_J55 B hS9 hr rec9 hrec9 a0 x2 x2 M
set_option maxRecDepth 20000 in
set_option maxHeartbeats 2000000 in
theorem g12_senior_L9 {X : gX} {p : Program} {l : Launch} {e : Env} {s : State} {m : MethodId} {args : Array Value} {below : List Frame} {meth : Method} {c : Code} (B : gB X p (rm12_senior) s m args meth c RX12 cX12_senior 3 (rm12_senior)) (hS9 : gS X s) (hr : meth.sig.returnType = some .int) : ∀ (n : Nat) (a0 : Nat) (x1 : Int32) (x2 : Int32) (M : mMem), GG X p l e (rm12_senior) s m args below meth c (gP X below args s 0 0 (fun r9 : (Int32 × mMem) => (some (.int r9.1), r9.2))) 3 0 0 9 [(0, .ref a0), (1, .int x1), (2, .int x2)] [] M (p12_senior_L9 n a0 x1 x2 M) := by
  intro n
  induction n with
  | zero => intro a0 x1 x2 M; exact g_none
  | succ n ih =>
    intro a0 x1 x2 M
    rw [p12_senior_L9]
    refine g_iload_n B dX12_senior_9 2 rfl ?_
    refine g_aload_n B dX12_senior_10 0 rfl ?_
    refine g_callV_ip [] (ci := 11) (T0 := TX12) (N := 27) B hS9 mf12_people wd_1793 (gw B wp_51) wd_1791 (by decide) rfl (fun h => (gd_ne h).1) (c12_people X l a0 M) (by decide) (by decide) (by decide) rfl (Nat.le_of_ble_eq_true rfl) dX12_senior_11 rfl (fun v_1 => ?_)
    refine g_icmp_ge B 61 dX12_senior_14 (by decide) ?_ ?_
    · refine g_aload_n B dX12_senior_17 0 rfl ?_
      refine g_iload_n B dX12_senior_18 2 rfl ?_
      refine g_iconst (v := 3) B dX12_senior_19 (by decide) ?_
      refine g_callV_ip [.int x2, .int 3] (ci := 11) (T0 := TX12) (N := 27) B hS9 mf12_of wd_1846 (gw B wp_61) wd_1844 (by decide) rfl (fun h => (gd_ne h).1) (c12_of X l a0 x2 3 M) (by decide) (by decide) (by decide) rfl (by decide) dX12_senior_20 rfl (fun v_2 => ?_)
      refine g_iconst (v := (-1)) B dX12_senior_23 (by decide) ?_
      refine g_icmp_ne B 55 dX12_senior_24 (by decide) ?_ ?_
      · refine g_iload_n B dX12_senior_27 1 rfl ?_
        refine g_iconst (v := (-1)) B dX12_senior_28 (by decide) ?_
        refine g_icmp_eq B 53 dX12_senior_29 (by decide) ?_ ?_
        · refine g_sub (lv' := [(0, .ref a0), (2, .int x2)]) [0, 2] rfl ?_
          exact g12_senior_J53 B hS9 hr (p12_senior_L9 n) ih a0 x2 M
        · refine g_aload_n B dX12_senior_32 0 rfl ?_
          refine g_aload_n B dX12_senior_33 0 rfl ?_
          refine g_iload_n B dX12_senior_34 2 rfl ?_
          refine g_callV_ip [.int x2] (ci := 11) (T0 := TX12) (N := 27) B hS9 mf12_branchOf wd_2291 (gw B wp_126) wd_2289 (by decide) rfl (fun h => (gd_ne h).1) (c12_branchOf X l a0 x2 M) (by decide) (by decide) (by decide) rfl (Nat.le_of_ble_eq_true rfl) dX12_senior_35 rfl (fun v_3 => ?_)
          refine g_callV_ip [.int v_3] (ci := 11) (T0 := TX12) (N := 27) B hS9 mf12_agesOf wd_2299 (gw B wp_127) wd_2297 (by decide) rfl (fun h => (gd_ne h).1) (c12_agesOf X l a0 v_3 M) (by decide) (by decide) (by decide) rfl (by decide) dX12_senior_38 rfl (fun v_4 => ?_)
          refine g_aload_n B dX12_senior_41 0 rfl ?_
          refine g_aload_n B dX12_senior_42 0 rfl ?_
          refine g_iload_n B dX12_senior_43 1 rfl ?_
          refine g_callV_ip [.int x1] (ci := 11) (T0 := TX12) (N := 27) B hS9 mf12_branchOf wd_2291 (gw B wp_126) wd_2289 (by decide) rfl (fun h => (gd_ne h).1) (c12_branchOf X l a0 x1 M) (by decide) (by decide) (by decide) rfl (Nat.le_of_ble_eq_true rfl) dX12_senior_44 rfl (fun v_5 => ?_)
          refine g_callV_ip [.int v_5] (ci := 11) (T0 := TX12) (N := 27) B hS9 mf12_agesOf wd_2299 (gw B wp_127) wd_2297 (by decide) rfl (fun h => (gd_ne h).1) (c12_agesOf X l a0 v_5 M) (by decide) (by decide) (by decide) rfl (Nat.le_of_ble_eq_true rfl) dX12_senior_47 rfl (fun v_6 => ?_)
          refine g_icmp_ge B 55 dX12_senior_50 (by decide) ?_ ?_
          · refine g_sub (lv' := [(0, .ref a0), (2, .int x2)]) [0, 2] rfl ?_
            exact g12_senior_J53 B hS9 hr (p12_senior_L9 n) ih a0 x2 M
          · refine g_sub (lv' := [(0, .ref a0), (1, .int x1), (2, .int x2)]) [0, 1, 2] rfl ?_
            exact g12_senior_J55 B hS9 hr (p12_senior_L9 n) ih a0 x1 x2 M
      · refine g_sub (lv' := [(0, .ref a0), (1, .int x1), (2, .int x2)]) [0, 1, 2] rfl ?_
        exact g12_senior_J55 B hS9 hr (p12_senior_L9 n) ih a0 x1 x2 M
    · refine g_iload_n B dX12_senior_61 1 rfl ?_
      exact g_ireturn B hr rfl (by decide) (by decide) rfl dX12_senior_62
set_option maxRecDepth 20000 in
set_option maxHeartbeats 2000000 in
theorem g12_senior {X : gX} {p : Program} {l : Launch} {e : Env} {s : State} {m : MethodId} {args : Array Value} {below : List Frame} {meth : Method} {c : Code} (B : gB X p (rm12_senior) s m args meth c RX12 cX12_senior 3 (rm12_senior)) (hS9 : gS X s) (hr : meth.sig.returnType = some .int) (a0 : Nat) (M : mMem) : GG X p l e (rm12_senior) s m args below meth c (gP X below args s 0 0 (fun r9 : (Int32 × mMem) => (some (.int r9.1), r9.2))) 3 0 0 0 [(0, .ref a0)] [] M (p12_senior a0 M) := by
  unfold p12_senior
  refine g_gd ?_
  refine g_aload_n B dX12_senior_0 0 rfl ?_
  refine g_iconst (v := 0) B dX12_senior_1 (by decide) ?_
  refine g_putI (ci := 11) (T0 := TX12) (N := 27) B (by decide) rfl in_11 tyX12 tyX12_ok nmX12 (k := 0) (by decide) wd_1641 (fun _ h => h) rfl rfl (ty := .int) (by decide +kernel) rfl rfl dX12_senior_2 (fun M_1 => ?_)
  refine g_iconst (v := (-1)) B dX12_senior_5 (by decide) ?_
  refine g_istore_n (lv' := [(1, .int (-1)), (0, .ref a0)]) B dX12_senior_6 (by decide) [0, 1] rfl ?_
  refine g_iconst (v := 0) B dX12_senior_7 (by decide) ?_
  refine g_istore_n (lv' := [(2, .int 0), (1, .int (-1)), (0, .ref a0)]) B dX12_senior_8 (by decide) [0, 1, 2] rfl ?_
  refine g_sub (lv' := [(0, .ref a0), (1, .int (-1)), (2, .int 0)]) [2, 1, 0] rfl ?_
  exact (g12_senior_L9 B hS9 hr) gF a0 (-1) 0 M_1
theorem c12_senior (X : gX) (l : Launch) (a0 : Nat) (M : mMem) : Con X l yX12_senior cX12_senior 3 (some .int) rm12_senior (fun r9 : (Int32 × mMem) => (some (.int r9.1), r9.2)) [.ref a0] M (p12_senior a0 M) := g_con (own := RX12) (by decide +kernel) rfl (Nat.le_of_ble_eq_true rfl) (fun p e s m args below meth c B hS9 hr hn => g12_senior B hS9 hr a0 M)
theorem mf12_closeTo : gMF yX12_closeTo cX12_closeTo 5 (some .int) 1 := ⟨wd_2308, wd_13, ⟨by decide, by decide⟩, by decide +kernel⟩
set_option maxRecDepth 20000 in
set_option maxHeartbeats 2000000 in
theorem g12_closeTo_J51 {X : gX} {p : Program} {l : Launch} {e : Env} {s : State} {m : MethodId} {args : Array Value} {below : List Frame} {meth : Method} {c : Code} (B : gB X p (rm12_closeTo) s m args meth c RX12 cX12_closeTo 5 (rm12_closeTo)) (hS9 : gS X s) (hr : meth.sig.returnType = some .int) {M : mMem} (rec15 : Nat → Int32 → Int32 → Int32 → Int32 → Option Int32) (hrec15 : ∀ (a0 : Nat) (x1 : Int32) (x2 : Int32) (x3 : Int32) (x4 : Int32), GG X p l e (rm12_closeTo) s m args below meth c (gP X below args s 0 0 (fun r9 : Int32 => (some (.int r9), M))) 5 0 0 15 [(0, .ref a0), (1, .int x1), (2, .int x2), (3, .int x3), (4, .int x4)] [] M (rec15 a0 x1 x2 x3 x4)) (a0 : Nat) (x1 : Int32) (x3 : Int32) (x4 : Int32) (u0 : Int32) (u1 : Int32) : GG X p l e (rm12_closeTo) s m args below meth c (gP X below args s 0 0 (fun r9 : Int32 => (some (.int r9), M))) 5 0 0 51 [(0, .ref a0), (1, .int x1), (3, .int x3), (4, .int x4)] [.int u1, .int u0] M (p12_closeTo_J51 M rec15 a0 x1 x3 x4 u0 u1) := by
  unfold p12_closeTo_J51
  refine g_ior B dX12_closeTo_51 ?_
  refine g_istore_n (lv' := [(2, .int (u0 ||| u1)), (0, .ref a0), (1, .int x1), (3, .int x3), (4, .int x4)]) B dX12_closeTo_52 (by decide) [0, 1, 2, 3, 4] rfl ?_
  refine g_iinc (v := (x4 + 1)) (lv' := [(4, .int (x4 + 1)), (2, .int (u0 ||| u1)), (0, .ref a0), (1, .int x1), (3, .int x3)]) B dX12_closeTo_53 4 rfl rfl (by decide) [0, 1, 2, 3, 4] rfl ?_
  refine g_goto B 15 dX12_closeTo_56 (by decide) ?_
  refine g_sub (lv' := [(0, .ref a0), (1, .int x1), (2, .int (u0 ||| u1)), (3, .int x3), (4, .int (x4 + 1))]) [2, 3, 1, 4, 0] rfl ?_
  exact hrec15 a0 x1 (u0 ||| u1) x3 (x4 + 1)
set_option maxRecDepth 20000 in
set_option maxHeartbeats 2000000 in
theorem g12_closeTo_J50 {X : gX} {p : Program} {l : Launch} {e : Env} {s : State} {m : MethodId} {args : Array Value} {below : List Frame} {meth : Method} {c : Code} (B : gB X p (rm12_closeTo) s m args meth c RX12 cX12_closeTo 5 (rm12_closeTo)) (hS9 : gS X s) (hr : meth.sig.returnType = some .int) {M : mMem} (rec15 : Nat → Int32 → Int32 → Int32 → Int32 → Option Int32) (hrec15 : ∀ (a0 : Nat) (x1 : Int32) (x2 : Int32) (x3 : Int32) (x4 : Int32), GG X p l e (rm12_closeTo) s m args below meth c (gP X below args s 0 0 (fun r9 : Int32 => (some (.int r9), M))) 5 0 0 15 [(0, .ref a0), (1, .int x1), (2, .int x2), (3, .int x3), (4, .int x4)] [] M (rec15 a0 x1 x2 x3 x4)) (a0 : Nat) (x1 : Int32) (x3 : Int32) (x4 : Int32) (u0 : Int32) : GG X p l e (rm12_closeTo) s m args below meth c (gP X below args s 0 0 (fun r9 : Int32 => (some (.int r9), M))) 5 0 0 50 [(0, .ref a0), (1, .int x1), (3, .int x3), (4, .int x4)] [.int u0] M (p12_closeTo_J50 M rec15 a0 x1 x3 x4 u0) := by
  unfold p12_closeTo_J50
  refine g_iconst (v := 0) B dX12_closeTo_50 (by decide) ?_
  refine g_sub (lv' := [(0, .ref a0), (1, .int x1), (3, .int x3), (4, .int x4)]) [0, 1, 2, 3] rfl ?_
  exact g12_closeTo_J51 B hS9 hr rec15 hrec15 a0 x1 x3 x4 u0 0
set_option maxRecDepth 20000 in
set_option maxHeartbeats 2000000 in
theorem g12_closeTo_L15 {X : gX} {p : Program} {l : Launch} {e : Env} {s : State} {m : MethodId} {args : Array Value} {below : List Frame} {meth : Method} {c : Code} (B : gB X p (rm12_closeTo) s m args meth c RX12 cX12_closeTo 5 (rm12_closeTo)) (hS9 : gS X s) (hr : meth.sig.returnType = some .int) {M : mMem} (k59 : Nat → Int32 → Int32 → Int32 → Option Int32) (hk59 : ∀ (a0 : Nat) (x1 : Int32) (x2 : Int32) (x3 : Int32), GG X p l e (rm12_closeTo) s m args below meth c (gP X below args s 0 0 (fun r9 : Int32 => (some (.int r9), M))) 5 0 0 59 [(0, .ref a0), (1, .int x1), (2, .int x2), (3, .int x3)] [] M (k59 a0 x1 x2 x3)) : ∀ (n : Nat) (a0 : Nat) (x1 : Int32) (x2 : Int32) (x3 : Int32) (x4 : Int32), GG X p l e (rm12_closeTo) s m args below meth c (gP X below args s 0 0 (fun r9 : Int32 => (some (.int r9), M))) 5 0 0 15 [(0, .ref a0), (1, .int x1), (2, .int x2), (3, .int x3), (4, .int x4)] [] M (p12_closeTo_L15 M k59 n a0 x1 x2 x3 x4) := by
  intro n
  induction n with
  | zero => intro a0 x1 x2 x3 x4; exact g_none
  | succ n ih =>
    intro a0 x1 x2 x3 x4
    rw [p12_closeTo_L15]
    refine g_iload B dX12_closeTo_15 4 rfl ?_
    refine g_aload_n B dX12_closeTo_17 0 rfl ?_
    refine g_callV_ip [] (ci := 11) (T0 := TX12) (N := 27) B hS9 mf12_people wd_1793 (gw B wp_51) wd_1791 (by decide) rfl (fun h => (gd_ne h).1) (c12_people X l a0 M) (by decide) (by decide) (by decide) rfl (Nat.le_of_ble_eq_true rfl) dX12_closeTo_18 rfl (fun v_1 => ?_)
    refine g_icmp_ge B 59 dX12_closeTo_21 (by decide) ?_ ?_
    · refine g_iload_n B dX12_closeTo_24 2 rfl ?_
      refine g_iload_n B dX12_closeTo_25 1 rfl ?_
      refine g_iload_n B dX12_closeTo_26 3 rfl ?_
      refine g_callS_ip [.int x1, .int x3] B hS9 mf12_has wd_1958 wd_1957 (c12_has X l x1 x3 M) (by decide) (by decide) (by decide) rfl (Nat.le_of_ble_eq_true rfl) dX12_closeTo_27 rfl (fun v_2 => ?_)
      refine g_if_eq B 50 dX12_closeTo_30 (by decide) ?_ ?_
      · refine g_sub (lv' := [(0, .ref a0), (1, .int x1), (3, .int x3), (4, .int x4)]) [0, 1, 3, 4] rfl ?_
        exact g12_closeTo_J50 B hS9 hr (p12_closeTo_L15 M k59 n) ih a0 x1 x3 x4 x2
      · refine g_aload_n B dX12_closeTo_33 0 rfl ?_
        refine g_iload_n B dX12_closeTo_34 3 rfl ?_
        refine g_iload B dX12_closeTo_35 4 rfl ?_
        refine g_callV_ip [.int x3, .int x4] (ci := 11) (T0 := TX12) (N := 27) B hS9 mf12_areClose wd_1854 (gw B wp_63) wd_1852 (by decide) rfl (fun h => (gd_ne h).1) (c12_areClose X l a0 x3 x4 M) (by decide) (by decide) (by decide) rfl (Nat.le_of_ble_eq_true rfl) dX12_closeTo_37 rfl (fun v_3 => ?_)
        refine g_if_eq B 50 dX12_closeTo_40 (by decide) ?_ ?_
        · refine g_sub (lv' := [(0, .ref a0), (1, .int x1), (3, .int x3), (4, .int x4)]) [0, 1, 3, 4] rfl ?_
          exact g12_closeTo_J50 B hS9 hr (p12_closeTo_L15 M k59 n) ih a0 x1 x3 x4 x2
        · refine g_iconst (v := 1) B dX12_closeTo_43 (by decide) ?_
          refine g_iload B dX12_closeTo_44 4 rfl ?_
          refine g_ishl B dX12_closeTo_46 ?_
          refine g_goto B 51 dX12_closeTo_47 (by decide) ?_
          refine g_sub (lv' := [(0, .ref a0), (1, .int x1), (3, .int x3), (4, .int x4)]) [0, 1, 3, 4] rfl ?_
          exact g12_closeTo_J51 B hS9 hr (p12_closeTo_L15 M k59 n) ih a0 x1 x3 x4 x2 ((1 : Int32) <<< (x4 &&& 31))
    · refine g_sub (lv' := [(0, .ref a0), (1, .int x1), (2, .int x2), (3, .int x3)]) [0, 1, 2, 3] rfl ?_
      exact hk59 a0 x1 x2 x3
set_option maxRecDepth 20000 in
set_option maxHeartbeats 2000000 in
theorem g12_closeTo_J59 {X : gX} {p : Program} {l : Launch} {e : Env} {s : State} {m : MethodId} {args : Array Value} {below : List Frame} {meth : Method} {c : Code} (B : gB X p (rm12_closeTo) s m args meth c RX12 cX12_closeTo 5 (rm12_closeTo)) (hS9 : gS X s) (hr : meth.sig.returnType = some .int) {M : mMem} (rec4 : Nat → Int32 → Int32 → Int32 → Option Int32) (hrec4 : ∀ (a0 : Nat) (x1 : Int32) (x2 : Int32) (x3 : Int32), GG X p l e (rm12_closeTo) s m args below meth c (gP X below args s 0 0 (fun r9 : Int32 => (some (.int r9), M))) 5 0 0 4 [(0, .ref a0), (1, .int x1), (2, .int x2), (3, .int x3)] [] M (rec4 a0 x1 x2 x3)) (a0 : Nat) (x1 : Int32) (x2 : Int32) (x3 : Int32) : GG X p l e (rm12_closeTo) s m args below meth c (gP X below args s 0 0 (fun r9 : Int32 => (some (.int r9), M))) 5 0 0 59 [(0, .ref a0), (1, .int x1), (2, .int x2), (3, .int x3)] [] M (p12_closeTo_J59 M rec4 a0 x1 x2 x3) := by
  unfold p12_closeTo_J59
  refine g_iinc (v := (x3 + 1)) (lv' := [(3, .int (x3 + 1)), (0, .ref a0), (1, .int x1), (2, .int x2)]) B dX12_closeTo_59 3 rfl rfl (by decide) [0, 1, 2, 3] rfl ?_
  refine g_goto B 4 dX12_closeTo_62 (by decide) ?_
  refine g_sub (lv' := [(0, .ref a0), (1, .int x1), (2, .int x2), (3, .int (x3 + 1))]) [1, 2, 3, 0] rfl ?_
  exact hrec4 a0 x1 x2 (x3 + 1)
set_option maxRecDepth 20000 in
set_option maxHeartbeats 2000000 in
theorem g12_closeTo_L4 {X : gX} {p : Program} {l : Launch} {e : Env} {s : State} {m : MethodId} {args : Array Value} {below : List Frame} {meth : Method} {c : Code} (B : gB X p (rm12_closeTo) s m args meth c RX12 cX12_closeTo 5 (rm12_closeTo)) (hS9 : gS X s) (hr : meth.sig.returnType = some .int) {M : mMem} : ∀ (n : Nat) (a0 : Nat) (x1 : Int32) (x2 : Int32) (x3 : Int32), GG X p l e (rm12_closeTo) s m args below meth c (gP X below args s 0 0 (fun r9 : Int32 => (some (.int r9), M))) 5 0 0 4 [(0, .ref a0), (1, .int x1), (2, .int x2), (3, .int x3)] [] M (p12_closeTo_L4 M n a0 x1 x2 x3) := by
  intro n
  induction n with
  | zero => intro a0 x1 x2 x3; exact g_none
  | succ n ih =>
    intro a0 x1 x2 x3
    rw [p12_closeTo_L4]
    refine g_iload_n B dX12_closeTo_4 3 rfl ?_
    refine g_aload_n B dX12_closeTo_5 0 rfl ?_
    refine g_callV_ip [] (ci := 11) (T0 := TX12) (N := 27) B hS9 mf12_people wd_1793 (gw B wp_51) wd_1791 (by decide) rfl (fun h => (gd_ne h).1) (c12_people X l a0 M) (by decide) (by decide) (by decide) rfl (Nat.le_of_ble_eq_true rfl) dX12_closeTo_6 rfl (fun v_1 => ?_)
    refine g_icmp_ge B 65 dX12_closeTo_9 (by decide) ?_ ?_
    · refine g_iconst (v := 0) B dX12_closeTo_12 (by decide) ?_
      refine g_istore (lv' := [(4, .int 0), (0, .ref a0), (1, .int x1), (2, .int x2), (3, .int x3)]) B dX12_closeTo_13 (by decide) [0, 1, 2, 3, 4] rfl ?_
      refine g_sub (lv' := [(0, .ref a0), (1, .int x1), (2, .int x2), (3, .int x3), (4, .int 0)]) [1, 2, 3, 4, 0] rfl ?_
      exact (g12_closeTo_L15 B hS9 hr (p12_closeTo_J59 M (p12_closeTo_L4 M n)) (fun e0 e1 e2 e3 => g12_closeTo_J59 B hS9 hr (p12_closeTo_L4 M n) ih e0 e1 e2 e3)) gF a0 x1 x2 x3 0
    · refine g_iload_n B dX12_closeTo_65 2 rfl ?_
      exact g_ireturn B hr rfl (by decide) (by decide) rfl dX12_closeTo_66
set_option maxRecDepth 20000 in
set_option maxHeartbeats 2000000 in
theorem g12_closeTo {X : gX} {p : Program} {l : Launch} {e : Env} {s : State} {m : MethodId} {args : Array Value} {below : List Frame} {meth : Method} {c : Code} (B : gB X p (rm12_closeTo) s m args meth c RX12 cX12_closeTo 5 (rm12_closeTo)) (hS9 : gS X s) (hr : meth.sig.returnType = some .int) {M : mMem} (a0 : Nat) (x1 : Int32) : GG X p l e (rm12_closeTo) s m args below meth c (gP X below args s 0 0 (fun r9 : Int32 => (some (.int r9), M))) 5 0 0 0 [(0, .ref a0), (1, .int x1)] [] M (p12_closeTo a0 x1 M) := by
  unfold p12_closeTo
  refine g_gd ?_
  refine g_iload_n B dX12_closeTo_0 1 rfl ?_
  refine g_istore_n (lv' := [(2, .int x1), (0, .ref a0), (1, .int x1)]) B dX12_closeTo_1 (by decide) [0, 1, 2] rfl ?_
  refine g_iconst (v := 0) B dX12_closeTo_2 (by decide) ?_
  refine g_istore_n (lv' := [(3, .int 0), (2, .int x1), (0, .ref a0), (1, .int x1)]) B dX12_closeTo_3 (by decide) [0, 1, 2, 3] rfl ?_
  refine g_sub (lv' := [(0, .ref a0), (1, .int x1), (2, .int x1), (3, .int 0)]) [2, 3, 1, 0] rfl ?_
  exact (g12_closeTo_L4 B hS9 hr) gF a0 x1 x1 0
theorem c12_closeTo (X : gX) (l : Launch) (a0 : Nat) (x1 : Int32) (M : mMem) : Con X l yX12_closeTo cX12_closeTo 5 (some .int) rm12_closeTo (fun r9 : Int32 => (some (.int r9), M)) [.ref a0, .int x1] M (p12_closeTo a0 x1 M) := g_con (own := RX12) (by decide +kernel) rfl (Nat.le_of_ble_eq_true rfl) (fun p e s m args below meth c B hS9 hr hn => g12_closeTo B hS9 hr a0 x1)
theorem mf12_kin : gMF yX12_kin cX12_kin 5 (some .int) 2 := ⟨wd_2304, wd_13, ⟨by decide, by decide⟩, by decide +kernel⟩
set_option maxRecDepth 20000 in
set_option maxHeartbeats 2000000 in
theorem g12_kin_L18 {X : gX} {p : Program} {l : Launch} {e : Env} {s : State} {m : MethodId} {args : Array Value} {below : List Frame} {meth : Method} {c : Code} (B : gB X p (rm12_kin) s m args meth c RX12 cX12_kin 5 (rm12_kin)) (hS9 : gS X s) (hr : meth.sig.returnType = some .int) : ∀ (n : Nat) (a0 : Nat) (x2 : Int32) (x3 : Int32) (x4 : Int32) (M : mMem), GG X p l e (rm12_kin) s m args below meth c (gP X below args s 0 0 (fun r9 : (Int32 × mMem) => (some (.int r9.1), r9.2))) 5 0 0 18 [(0, .ref a0), (2, .int x2), (3, .int x3), (4, .int x4)] [] M (p12_kin_L18 n a0 x2 x3 x4 M) := by
  intro n
  induction n with
  | zero => intro a0 x2 x3 x4 M; exact g_none
  | succ n ih =>
    intro a0 x2 x3 x4 M
    rw [p12_kin_L18]
    refine g_iload B dX12_kin_18 3 rfl ?_
    refine g_bipush (v := 8) B dX12_kin_20 (by decide) ?_
    refine g_icmp_ge B 48 dX12_kin_22 (by decide) ?_ ?_
    · refine g_iload_n B dX12_kin_25 2 rfl ?_
      refine g_iload_n B dX12_kin_26 1 rfl ?_
      refine g_callS_ip [.int x3, .int x2] B hS9 mf12_has wd_1958 wd_1957 (c12_has X l x3 x2 M) (by decide) (by decide) (by decide) rfl (by decide) dX12_kin_27 rfl (fun v_1 => ?_)
      refine g_if_eq B 36 dX12_kin_30 (by decide) ?_ ?_
      · refine g_aload_n B dX12_kin_36 0 rfl ?_
        refine g_iload_n B dX12_kin_37 2 rfl ?_
        refine g_callV_ip [.int x3] (ci := 11) (T0 := TX12) (N := 27) B hS9 mf12_closeTo wd_2307 (gw B wp_128) wd_2305 (by decide) rfl (fun h => (gd_ne h).1) (c12_closeTo X l a0 x3 M) (by decide) (by decide) (by decide) rfl (by decide) dX12_kin_38 rfl (fun v_2 => ?_)
        refine g_istore_n (lv' := [(3, .int v_2), (0, .ref a0), (2, .int x2), (4, .int x4)]) B dX12_kin_41 (by decide) [0, 1, 2, 3] rfl ?_
        refine g_iinc (v := (x4 + 1)) (lv' := [(4, .int (x4 + 1)), (3, .int v_2), (0, .ref a0), (2, .int x2)]) B dX12_kin_42 3 rfl rfl (by decide) [0, 1, 2, 3] rfl ?_
        refine g_goto B 18 dX12_kin_45 (by decide) ?_
        refine g_sub (lv' := [(0, .ref a0), (2, .int x2), (3, .int v_2), (4, .int (x4 + 1))]) [2, 3, 1, 0] rfl ?_
        exact ih a0 x2 v_2 (x4 + 1) M
      · refine g_iload B dX12_kin_33 3 rfl ?_
        exact g_ireturn B hr rfl (by decide) (by decide) rfl dX12_kin_35
    · refine g_iconst (v := (-1)) B dX12_kin_48 (by decide) ?_
      exact g_ireturn B hr rfl (by decide) (by decide) rfl dX12_kin_49
set_option maxRecDepth 20000 in
set_option maxHeartbeats 2000000 in
theorem g12_kin {X : gX} {p : Program} {l : Launch} {e : Env} {s : State} {m : MethodId} {args : Array Value} {below : List Frame} {meth : Method} {c : Code} (B : gB X p (rm12_kin) s m args meth c RX12 cX12_kin 5 (rm12_kin)) (hS9 : gS X s) (hr : meth.sig.returnType = some .int) (a0 : Nat) (x1 : Int32) (x2 : Int32) (M : mMem) : GG X p l e (rm12_kin) s m args below meth c (gP X below args s 0 0 (fun r9 : (Int32 × mMem) => (some (.int r9.1), r9.2))) 5 0 0 0 [(0, .ref a0), (1, .int x1), (2, .int x2)] [] M (p12_kin a0 x1 x2 M) := by
  unfold p12_kin
  refine g_gd ?_
  refine g_aload_n B dX12_kin_0 0 rfl ?_
  refine g_iload_n B dX12_kin_1 1 rfl ?_
  refine g_iload_n B dX12_kin_2 2 rfl ?_
  refine g_callV_iw [.int x1, .int x2] (ci := 11) (T0 := TX12) (N := 27) B hS9 mf12_noTwo wd_1974 (gw B wp_84) wd_1972 (by decide) rfl (fun h => (gd_ne h).1) (c12_noTwo X l a0 x1 x2 M) (by decide) (by decide) (by decide) rfl (by decide) dX12_kin_3 rfl (fun q_1 => ?_)
  refine g_if_eq B 11 dX12_kin_6 (by decide) ?_ ?_
  · refine g_iconst (v := 1) B dX12_kin_11 (by decide) ?_
    refine g_iload_n B dX12_kin_12 1 rfl ?_
    refine g_ishl B dX12_kin_13 ?_
    refine g_istore_n (lv' := [(3, .int ((1 : Int32) <<< (x1 &&& 31))), (0, .ref a0), (1, .int x1), (2, .int x2)]) B dX12_kin_14 (by decide) [0, 1, 2, 3] rfl ?_
    refine g_iconst (v := 0) B dX12_kin_15 (by decide) ?_
    refine g_istore (lv' := [(4, .int 0), (3, .int ((1 : Int32) <<< (x1 &&& 31))), (0, .ref a0), (1, .int x1), (2, .int x2)]) B dX12_kin_16 (by decide) [0, 1, 2, 3, 4] rfl ?_
    refine g_sub (lv' := [(0, .ref a0), (2, .int x2), (3, .int ((1 : Int32) <<< (x1 &&& 31))), (4, .int 0)]) [2, 4, 1, 0] rfl ?_
    exact (g12_kin_L18 B hS9 hr) gF a0 x2 ((1 : Int32) <<< (x1 &&& 31)) 0 q_1.2
  · refine g_iconst (v := 0) B dX12_kin_9 (by decide) ?_
    exact g_ireturn B hr rfl (by decide) (by decide) rfl dX12_kin_10
theorem c12_kin (X : gX) (l : Launch) (a0 : Nat) (x1 : Int32) (x2 : Int32) (M : mMem) : Con X l yX12_kin cX12_kin 5 (some .int) rm12_kin (fun r9 : (Int32 × mMem) => (some (.int r9.1), r9.2)) [.ref a0, .int x1, .int x2] M (p12_kin a0 x1 x2 M) := g_con (own := RX12) (by decide +kernel) rfl (Nat.le_of_ble_eq_true rfl) (fun p e s m args below meth c B hS9 hr hn => g12_kin B hS9 hr a0 x1 x2 M)
theorem mf12_grandOf : gMF yX12_grandOf cX12_grandOf 3 (some .int) 1 := ⟨wd_2316, wd_13, ⟨by decide, by decide⟩, by decide +kernel⟩
set_option maxRecDepth 20000 in
set_option maxHeartbeats 2000000 in
theorem g12_grandOf_J22 {X : gX} {p : Program} {l : Launch} {e : Env} {s : State} {m : MethodId} {args : Array Value} {below : List Frame} {meth : Method} {c : Code} (B : gB X p (rm12_grandOf) s m args meth c RX12 cX12_grandOf 3 (rm12_grandOf)) (hS9 : gS X s) (hr : meth.sig.returnType = some .int) {M : mMem} (u0 : Int32) : GG X p l e (rm12_grandOf) s m args below meth c (gP X below args s 0 0 (fun r9 : Int32 => (some (.int r9), M))) 3 0 0 22 [] [.int u0] M (p12_grandOf_J22 M u0) := by
  unfold p12_grandOf_J22
  exact g_ireturn B hr rfl (by decide) (by decide) rfl dX12_grandOf_22
set_option maxRecDepth 20000 in
set_option maxHeartbeats 2000000 in
theorem g12_grandOf {X : gX} {p : Program} {l : Launch} {e : Env} {s : State} {m : MethodId} {args : Array Value} {below : List Frame} {meth : Method} {c : Code} (B : gB X p (rm12_grandOf) s m args meth c RX12 cX12_grandOf 3 (rm12_grandOf)) (hS9 : gS X s) (hr : meth.sig.returnType = some .int) {M : mMem} (a0 : Nat) (x1 : Int32) : GG X p l e (rm12_grandOf) s m args below meth c (gP X below args s 0 0 (fun r9 : Int32 => (some (.int r9), M))) 3 0 0 0 [(0, .ref a0), (1, .int x1)] [] M (p12_grandOf a0 x1 M) := by
  unfold p12_grandOf
  refine g_gd ?_
  refine g_aload_n B dX12_grandOf_0 0 rfl ?_
  refine g_iload_n B dX12_grandOf_1 1 rfl ?_
  refine g_iconst (v := 3) B dX12_grandOf_2 (by decide) ?_
  refine g_callV_ip [.int x1, .int 3] (ci := 11) (T0 := TX12) (N := 27) B hS9 mf12_of wd_1846 (gw B wp_61) wd_1844 (by decide) rfl (fun h => (gd_ne h).1) (c12_of X l a0 x1 3 M) (by decide) (by decide) (by decide) rfl (by decide) dX12_grandOf_3 rfl (fun v_1 => ?_)
  refine g_istore_n (lv' := [(2, .int v_1), (0, .ref a0), (1, .int x1)]) B dX12_grandOf_6 (by decide) [0, 1, 2] rfl ?_
  refine g_iload_n B dX12_grandOf_7 0 rfl ?_
  refine g_iconst (v := (-1)) B dX12_grandOf_8 (by decide) ?_
  refine g_icmp_ne B 16 dX12_grandOf_9 (by decide) ?_ ?_
  · refine g_iconst (v := (-1)) B dX12_grandOf_12 (by decide) ?_
    refine g_goto B 22 dX12_grandOf_13 (by decide) ?_
    refine g_sub (lv' := []) [] rfl ?_
    exact g12_grandOf_J22 B hS9 hr (-1)
  · refine g_aload_n B dX12_grandOf_16 1 rfl ?_
    refine g_iload_n B dX12_grandOf_17 0 rfl ?_
    refine g_iconst (v := 3) B dX12_grandOf_18 (by decide) ?_
    refine g_callV_ip [.int v_1, .int 3] (ci := 11) (T0 := TX12) (N := 27) B hS9 mf12_of wd_1846 (gw B wp_61) wd_1844 (by decide) rfl (fun h => (gd_ne h).1) (c12_of X l a0 v_1 3 M) (by decide) (by decide) (by decide) rfl (by decide) dX12_grandOf_19 rfl (fun v_2 => ?_)
    refine g_sub (lv' := []) [] rfl ?_
    exact g12_grandOf_J22 B hS9 hr v_2
theorem c12_grandOf (X : gX) (l : Launch) (a0 : Nat) (x1 : Int32) (M : mMem) : Con X l yX12_grandOf cX12_grandOf 3 (some .int) rm12_grandOf (fun r9 : Int32 => (some (.int r9), M)) [.ref a0, .int x1] M (p12_grandOf a0 x1 M) := g_con (own := RX12) (by decide +kernel) rfl (Nat.le_of_ble_eq_true rfl) (fun p e s m args below meth c B hS9 hr hn => g12_grandOf B hS9 hr a0 x1)
theorem mf12_cousins : gMF yX12_cousins cX12_cousins 4 (some .int) 1 := ⟨wd_2312, wd_13, ⟨by decide, by decide⟩, by decide +kernel⟩
set_option maxRecDepth 20000 in
set_option maxHeartbeats 2000000 in
theorem g12_cousins_J77 {X : gX} {p : Program} {l : Launch} {e : Env} {s : State} {m : MethodId} {args : Array Value} {below : List Frame} {meth : Method} {c : Code} (B : gB X p (rm12_cousins) s m args meth c RX12 cX12_cousins 4 (rm12_cousins)) (hS9 : gS X s) (hr : meth.sig.returnType = some .int) (rec24 : Nat → Int32 → Int32 → Int32 → mMem → Option (Int32 × mMem)) (hrec24 : ∀ (a0 : Nat) (x1 : Int32) (x2 : Int32) (x3 : Int32) (M : mMem), GG X p l e (rm12_cousins) s m args below meth c (gP X below args s 0 0 (fun r9 : (Int32 × mMem) => (some (.int r9.1), r9.2))) 4 0 0 24 [(0, .ref a0), (1, .int x1), (2, .int x2), (3, .int x3)] [] M (rec24 a0 x1 x2 x3 M)) (a0 : Nat) (x1 : Int32) (x3 : Int32) (u0 : Int32) (u1 : Int32) (M : mMem) : GG X p l e (rm12_cousins) s m args below meth c (gP X below args s 0 0 (fun r9 : (Int32 × mMem) => (some (.int r9.1), r9.2))) 4 0 0 77 [(0, .ref a0), (1, .int x1), (3, .int x3)] [.int u1, .int u0] M (p12_cousins_J77 rec24 a0 x1 x3 u0 u1 M) := by
  unfold p12_cousins_J77
  refine g_ior B dX12_cousins_77 ?_
  refine g_istore_n (lv' := [(2, .int (u0 ||| u1)), (0, .ref a0), (1, .int x1), (3, .int x3)]) B dX12_cousins_78 (by decide) [0, 1, 2, 3] rfl ?_
  refine g_iinc (v := (x3 + 1)) (lv' := [(3, .int (x3 + 1)), (2, .int (u0 ||| u1)), (0, .ref a0), (1, .int x1)]) B dX12_cousins_79 3 rfl rfl (by decide) [0, 1, 2, 3] rfl ?_
  refine g_goto B 24 dX12_cousins_82 (by decide) ?_
  refine g_sub (lv' := [(0, .ref a0), (1, .int x1), (2, .int (u0 ||| u1)), (3, .int (x3 + 1))]) [2, 3, 1, 0] rfl ?_
  exact hrec24 a0 x1 (u0 ||| u1) (x3 + 1) M
set_option maxRecDepth 20000 in
set_option maxHeartbeats 2000000 in
theorem g12_cousins_J76 {X : gX} {p : Program} {l : Launch} {e : Env} {s : State} {m : MethodId} {args : Array Value} {below : List Frame} {meth : Method} {c : Code} (B : gB X p (rm12_cousins) s m args meth c RX12 cX12_cousins 4 (rm12_cousins)) (hS9 : gS X s) (hr : meth.sig.returnType = some .int) (rec24 : Nat → Int32 → Int32 → Int32 → mMem → Option (Int32 × mMem)) (hrec24 : ∀ (a0 : Nat) (x1 : Int32) (x2 : Int32) (x3 : Int32) (M : mMem), GG X p l e (rm12_cousins) s m args below meth c (gP X below args s 0 0 (fun r9 : (Int32 × mMem) => (some (.int r9.1), r9.2))) 4 0 0 24 [(0, .ref a0), (1, .int x1), (2, .int x2), (3, .int x3)] [] M (rec24 a0 x1 x2 x3 M)) (a0 : Nat) (x1 : Int32) (x3 : Int32) (u0 : Int32) (M : mMem) : GG X p l e (rm12_cousins) s m args below meth c (gP X below args s 0 0 (fun r9 : (Int32 × mMem) => (some (.int r9.1), r9.2))) 4 0 0 76 [(0, .ref a0), (1, .int x1), (3, .int x3)] [.int u0] M (p12_cousins_J76 rec24 a0 x1 x3 u0 M) := by
  unfold p12_cousins_J76
  refine g_iconst (v := 0) B dX12_cousins_76 (by decide) ?_
  refine g_sub (lv' := [(0, .ref a0), (1, .int x1), (3, .int x3)]) [0, 1, 2] rfl ?_
  exact g12_cousins_J77 B hS9 hr rec24 hrec24 a0 x1 x3 u0 0 M
set_option maxRecDepth 20000 in
set_option maxHeartbeats 2000000 in
theorem g12_cousins_L24 {X : gX} {p : Program} {l : Launch} {e : Env} {s : State} {m : MethodId} {args : Array Value} {below : List Frame} {meth : Method} {c : Code} (B : gB X p (rm12_cousins) s m args meth c RX12 cX12_cousins 4 (rm12_cousins)) (hS9 : gS X s) (hr : meth.sig.returnType = some .int) : ∀ (n : Nat) (a0 : Nat) (x1 : Int32) (x2 : Int32) (x3 : Int32) (M : mMem), GG X p l e (rm12_cousins) s m args below meth c (gP X below args s 0 0 (fun r9 : (Int32 × mMem) => (some (.int r9.1), r9.2))) 4 0 0 24 [(0, .ref a0), (1, .int x1), (2, .int x2), (3, .int x3)] [] M (p12_cousins_L24 n a0 x1 x2 x3 M) := by
  intro n
  induction n with
  | zero => intro a0 x1 x2 x3 M; exact g_none
  | succ n ih =>
    intro a0 x1 x2 x3 M
    rw [p12_cousins_L24]
    refine g_iload_n B dX12_cousins_24 3 rfl ?_
    refine g_aload_n B dX12_cousins_25 0 rfl ?_
    refine g_callV_ip [] (ci := 11) (T0 := TX12) (N := 27) B hS9 mf12_people wd_1793 (gw B wp_51) wd_1791 (by decide) rfl (fun h => (gd_ne h).1) (c12_people X l a0 M) (by decide) (by decide) (by decide) rfl (Nat.le_of_ble_eq_true rfl) dX12_cousins_26 rfl (fun v_1 => ?_)
    refine g_icmp_ge B 85 dX12_cousins_29 (by decide) ?_ ?_
    · refine g_iload_n B dX12_cousins_32 2 rfl ?_
      refine g_aload_n B dX12_cousins_33 0 rfl ?_
      refine g_iload_n B dX12_cousins_34 3 rfl ?_
      refine g_callV_ip [.int x3] (ci := 11) (T0 := TX12) (N := 27) B hS9 mf12_grandOf wd_2315 (gw B wp_129) wd_2313 (by decide) rfl (fun h => (gd_ne h).1) (c12_grandOf X l a0 x3 M) (by decide) (by decide) (by decide) rfl (Nat.le_of_ble_eq_true rfl) dX12_cousins_35 rfl (fun v_2 => ?_)
      refine g_iconst (v := (-1)) B dX12_cousins_38 (by decide) ?_
      refine g_icmp_eq B 76 dX12_cousins_39 (by decide) ?_ ?_
      · refine g_sub (lv' := [(0, .ref a0), (1, .int x1), (3, .int x3)]) [0, 1, 3] rfl ?_
        exact g12_cousins_J76 B hS9 hr (p12_cousins_L24 n) ih a0 x1 x3 x2 M
      · refine g_aload_n B dX12_cousins_42 0 rfl ?_
        refine g_iload_n B dX12_cousins_43 3 rfl ?_
        refine g_callV_ip [.int x3] (ci := 11) (T0 := TX12) (N := 27) B hS9 mf12_grandOf wd_2315 (gw B wp_129) wd_2313 (by decide) rfl (fun h => (gd_ne h).1) (c12_grandOf X l a0 x3 M) (by decide) (by decide) (by decide) rfl (Nat.le_of_ble_eq_true rfl) dX12_cousins_44 rfl (fun v_3 => ?_)
        refine g_aload_n B dX12_cousins_47 0 rfl ?_
        refine g_iload_n B dX12_cousins_48 1 rfl ?_
        refine g_callV_ip [.int x1] (ci := 11) (T0 := TX12) (N := 27) B hS9 mf12_grandOf wd_2315 (gw B wp_129) wd_2313 (by decide) rfl (fun h => (gd_ne h).1) (c12_grandOf X l a0 x1 M) (by decide) (by decide) (by decide) rfl (Nat.le_of_ble_eq_true rfl) dX12_cousins_49 rfl (fun v_4 => ?_)
        refine g_icmp_ne B 76 dX12_cousins_52 (by decide) ?_ ?_
        · refine g_aload_n B dX12_cousins_55 0 rfl ?_
          refine g_iload_n B dX12_cousins_56 3 rfl ?_
          refine g_iconst (v := 3) B dX12_cousins_57 (by decide) ?_
          refine g_callV_ip [.int x3, .int 3] (ci := 11) (T0 := TX12) (N := 27) B hS9 mf12_of wd_1846 (gw B wp_61) wd_1844 (by decide) rfl (fun h => (gd_ne h).1) (c12_of X l a0 x3 3 M) (by decide) (by decide) (by decide) rfl (Nat.le_of_ble_eq_true rfl) dX12_cousins_58 rfl (fun v_5 => ?_)
          refine g_aload_n B dX12_cousins_61 0 rfl ?_
          refine g_iload_n B dX12_cousins_62 1 rfl ?_
          refine g_iconst (v := 3) B dX12_cousins_63 (by decide) ?_
          refine g_callV_ip [.int x1, .int 3] (ci := 11) (T0 := TX12) (N := 27) B hS9 mf12_of wd_1846 (gw B wp_61) wd_1844 (by decide) rfl (fun h => (gd_ne h).1) (c12_of X l a0 x1 3 M) (by decide) (by decide) (by decide) rfl (Nat.le_of_ble_eq_true rfl) dX12_cousins_64 rfl (fun v_6 => ?_)
          refine g_icmp_eq B 76 dX12_cousins_67 (by decide) ?_ ?_
          · refine g_sub (lv' := [(0, .ref a0), (1, .int x1), (3, .int x3)]) [0, 1, 3] rfl ?_
            exact g12_cousins_J76 B hS9 hr (p12_cousins_L24 n) ih a0 x1 x3 x2 M
          · refine g_iconst (v := 1) B dX12_cousins_70 (by decide) ?_
            refine g_iload_n B dX12_cousins_71 3 rfl ?_
            refine g_ishl B dX12_cousins_72 ?_
            refine g_goto B 77 dX12_cousins_73 (by decide) ?_
            refine g_sub (lv' := [(0, .ref a0), (1, .int x1), (3, .int x3)]) [0, 1, 3] rfl ?_
            exact g12_cousins_J77 B hS9 hr (p12_cousins_L24 n) ih a0 x1 x3 x2 ((1 : Int32) <<< (x3 &&& 31)) M
        · refine g_sub (lv' := [(0, .ref a0), (1, .int x1), (3, .int x3)]) [0, 1, 3] rfl ?_
          exact g12_cousins_J76 B hS9 hr (p12_cousins_L24 n) ih a0 x1 x3 x2 M
    · refine g_iload_n B dX12_cousins_85 2 rfl ?_
      exact g_ireturn B hr rfl (by decide) (by decide) rfl dX12_cousins_86
set_option maxRecDepth 20000 in
set_option maxHeartbeats 2000000 in
theorem g12_cousins {X : gX} {p : Program} {l : Launch} {e : Env} {s : State} {m : MethodId} {args : Array Value} {below : List Frame} {meth : Method} {c : Code} (B : gB X p (rm12_cousins) s m args meth c RX12 cX12_cousins 4 (rm12_cousins)) (hS9 : gS X s) (hr : meth.sig.returnType = some .int) (a0 : Nat) (x1 : Int32) (M : mMem) : GG X p l e (rm12_cousins) s m args below meth c (gP X below args s 0 0 (fun r9 : (Int32 × mMem) => (some (.int r9.1), r9.2))) 4 0 0 0 [(0, .ref a0), (1, .int x1)] [] M (p12_cousins a0 x1 M) := by
  unfold p12_cousins
  refine g_gd ?_
  refine g_aload_n B dX12_cousins_0 0 rfl ?_
  refine g_iconst (v := 0) B dX12_cousins_1 (by decide) ?_
  refine g_putI (ci := 11) (T0 := TX12) (N := 27) B (by decide) rfl in_11 tyX12 tyX12_ok nmX12 (k := 0) (by decide) wd_1641 (fun _ h => h) rfl rfl (ty := .int) (by decide +kernel) rfl rfl dX12_cousins_2 (fun M_1 => ?_)
  refine g_aload_n B dX12_cousins_5 0 rfl ?_
  refine g_aload_n B dX12_cousins_6 0 rfl ?_
  refine g_iload_n B dX12_cousins_7 1 rfl ?_
  refine g_callV_ip [.int x1] (ci := 11) (T0 := TX12) (N := 27) B hS9 mf12_nobody wd_1944 (gw B wp_79) wd_1942 (by decide) rfl (fun h => (gd_ne h).1) (c12_nobody X l a0 x1 M_1) (by decide) (by decide) (by decide) rfl (Nat.le_of_ble_eq_true rfl) dX12_cousins_8 rfl (fun v_2 => ?_)
  refine g_iconst (v := 1) B dX12_cousins_11 (by decide) ?_
  refine g_callV_iw [.int v_2, .int 1] (ci := 11) (T0 := TX12) (N := 27) B hS9 mf12_throwsIf wd_1932 (gw B wp_78) wd_1930 (by decide) rfl (fun h => (gd_ne h).1) (c12_throwsIf X l a0 v_2 1 M_1) (by decide) (by decide) (by decide) rfl (by decide) dX12_cousins_12 rfl (fun q_3 => ?_)
  refine g_if_eq B 20 dX12_cousins_15 (by decide) ?_ ?_
  · refine g_iconst (v := 0) B dX12_cousins_20 (by decide) ?_
    refine g_istore_n (lv' := [(2, .int 0), (0, .ref a0), (1, .int x1)]) B dX12_cousins_21 (by decide) [0, 1, 2] rfl ?_
    refine g_iconst (v := 0) B dX12_cousins_22 (by decide) ?_
    refine g_istore_n (lv' := [(3, .int 0), (2, .int 0), (0, .ref a0), (1, .int x1)]) B dX12_cousins_23 (by decide) [0, 1, 2, 3] rfl ?_
    refine g_sub (lv' := [(0, .ref a0), (1, .int x1), (2, .int 0), (3, .int 0)]) [2, 3, 1, 0] rfl ?_
    exact (g12_cousins_L24 B hS9 hr) gF a0 x1 0 0 q_3.2
  · refine g_iconst (v := 0) B dX12_cousins_18 (by decide) ?_
    exact g_ireturn B hr rfl (by decide) (by decide) rfl dX12_cousins_19
theorem c12_cousins (X : gX) (l : Launch) (a0 : Nat) (x1 : Int32) (M : mMem) : Con X l yX12_cousins cX12_cousins 4 (some .int) rm12_cousins (fun r9 : (Int32 × mMem) => (some (.int r9.1), r9.2)) [.ref a0, .int x1] M (p12_cousins a0 x1 M) := g_con (own := RX12) (by decide +kernel) rfl (Nat.le_of_ble_eq_true rfl) (fun p e s m args below meth c B hS9 hr hn => g12_cousins B hS9 hr a0 x1 M)
theorem mf12_under : gMF yX12_under cX12_under 5 (some .int) 1 := ⟨wd_2320, wd_13, ⟨by decide, by decide⟩, by decide +kernel⟩
set_option maxRecDepth 20000 in
set_option maxHeartbeats 2000000 in
theorem g12_under_J66 {X : gX} {p : Program} {l : Launch} {e : Env} {s : State} {m : MethodId} {args : Array Value} {below : List Frame} {meth : Method} {c : Code} (B : gB X p (rm12_under) s m args meth c RX12 cX12_under 5 (rm12_under)) (hS9 : gS X s) (hr : meth.sig.returnType = some .int) (rec37 : Nat → Int32 → Int32 → Int32 → mMem → Option (Int32 × mMem)) (hrec37 : ∀ (a0 : Nat) (x2 : Int32) (x3 : Int32) (x4 : Int32) (M : mMem), GG X p l e (rm12_under) s m args below meth c (gP X below args s 0 0 (fun r9 : (Int32 × mMem) => (some (.int r9.1), r9.2))) 5 0 0 37 [(0, .ref a0), (2, .int x2), (3, .int x3), (4, .int x4)] [] M (rec37 a0 x2 x3 x4 M)) (a0 : Nat) (x3 : Int32) (x4 : Int32) (u0 : Int32) (u1 : Int32) (M : mMem) : GG X p l e (rm12_under) s m args below meth c (gP X below args s 0 0 (fun r9 : (Int32 × mMem) => (some (.int r9.1), r9.2))) 5 0 0 66 [(0, .ref a0), (3, .int x3), (4, .int x4)] [.int u1, .int u0] M (p12_under_J66 rec37 a0 x3 x4 u0 u1 M) := by
  unfold p12_under_J66
  refine g_ior B dX12_under_66 ?_
  refine g_istore_n (lv' := [(2, .int (u0 ||| u1)), (0, .ref a0), (3, .int x3), (4, .int x4)]) B dX12_under_67 (by decide) [0, 1, 2, 3] rfl ?_
  refine g_iinc (v := (x4 + 1)) (lv' := [(4, .int (x4 + 1)), (2, .int (u0 ||| u1)), (0, .ref a0), (3, .int x3)]) B dX12_under_68 3 rfl rfl (by decide) [0, 1, 2, 3] rfl ?_
  refine g_goto B 37 dX12_under_71 (by decide) ?_
  refine g_sub (lv' := [(0, .ref a0), (2, .int (u0 ||| u1)), (3, .int x3), (4, .int (x4 + 1))]) [2, 1, 3, 0] rfl ?_
  exact hrec37 a0 (u0 ||| u1) x3 (x4 + 1) M
set_option maxRecDepth 20000 in
set_option maxHeartbeats 2000000 in
theorem g12_under_L37 {X : gX} {p : Program} {l : Launch} {e : Env} {s : State} {m : MethodId} {args : Array Value} {below : List Frame} {meth : Method} {c : Code} (B : gB X p (rm12_under) s m args meth c RX12 cX12_under 5 (rm12_under)) (hS9 : gS X s) (hr : meth.sig.returnType = some .int) (k74 : Nat → Int32 → Int32 → mMem → Option (Int32 × mMem)) (hk74 : ∀ (a0 : Nat) (x2 : Int32) (x3 : Int32) (M : mMem), GG X p l e (rm12_under) s m args below meth c (gP X below args s 0 0 (fun r9 : (Int32 × mMem) => (some (.int r9.1), r9.2))) 5 0 0 74 [(0, .ref a0), (2, .int x2), (3, .int x3)] [] M (k74 a0 x2 x3 M)) : ∀ (n : Nat) (a0 : Nat) (x2 : Int32) (x3 : Int32) (x4 : Int32) (M : mMem), GG X p l e (rm12_under) s m args below meth c (gP X below args s 0 0 (fun r9 : (Int32 × mMem) => (some (.int r9.1), r9.2))) 5 0 0 37 [(0, .ref a0), (2, .int x2), (3, .int x3), (4, .int x4)] [] M (p12_under_L37 k74 n a0 x2 x3 x4 M) := by
  intro n
  induction n with
  | zero => intro a0 x2 x3 x4 M; exact g_none
  | succ n ih =>
    intro a0 x2 x3 x4 M
    rw [p12_under_L37]
    refine g_iload B dX12_under_37 3 rfl ?_
    refine g_aload_n B dX12_under_39 0 rfl ?_
    refine g_callV_ip [] (ci := 11) (T0 := TX12) (N := 27) B hS9 mf12_people wd_1793 (gw B wp_51) wd_1791 (by decide) rfl (fun h => (gd_ne h).1) (c12_people X l a0 M) (by decide) (by decide) (by decide) rfl (Nat.le_of_ble_eq_true rfl) dX12_under_40 rfl (fun v_1 => ?_)
    refine g_icmp_ge B 74 dX12_under_43 (by decide) ?_ ?_
    · refine g_iload_n B dX12_under_46 1 rfl ?_
      refine g_iload_n B dX12_under_47 1 rfl ?_
      refine g_iload B dX12_under_48 3 rfl ?_
      refine g_callS_ip [.int x2, .int x4] B hS9 mf12_has wd_1958 wd_1957 (c12_has X l x2 x4 M) (by decide) (by decide) (by decide) rfl (Nat.le_of_ble_eq_true rfl) dX12_under_50 rfl (fun v_2 => ?_)
      refine g_if_eq B 65 dX12_under_53 (by decide) ?_ ?_
      · refine g_iconst (v := 0) B dX12_under_65 (by decide) ?_
        refine g_sub (lv' := [(0, .ref a0), (3, .int x3), (4, .int x4)]) [0, 2, 3] rfl ?_
        exact g12_under_J66 B hS9 hr (p12_under_L37 k74 n) ih a0 x3 x4 x2 0 M
      · refine g_aload_n B dX12_under_56 0 rfl ?_
        refine g_iload B dX12_under_57 3 rfl ?_
        refine g_callV_ip [.int x4] (ci := 11) (T0 := TX12) (N := 27) B hS9 mf12_governedBy wd_1951 (gw B wp_80) wd_1949 (by decide) rfl (fun h => (gd_ne h).1) (c12_governedBy X l a0 x4 M) (by decide) (by decide) (by decide) rfl (Nat.le_of_ble_eq_true rfl) dX12_under_59 rfl (fun v_3 => ?_)
        refine g_goto B 66 dX12_under_62 (by decide) ?_
        refine g_sub (lv' := [(0, .ref a0), (3, .int x3), (4, .int x4)]) [0, 2, 3] rfl ?_
        exact g12_under_J66 B hS9 hr (p12_under_L37 k74 n) ih a0 x3 x4 x2 v_3 M
    · refine g_sub (lv' := [(0, .ref a0), (2, .int x2), (3, .int x3)]) [0, 1, 2] rfl ?_
      exact hk74 a0 x2 x3 M
set_option maxRecDepth 20000 in
set_option maxHeartbeats 2000000 in
theorem g12_under_J74 {X : gX} {p : Program} {l : Launch} {e : Env} {s : State} {m : MethodId} {args : Array Value} {below : List Frame} {meth : Method} {c : Code} (B : gB X p (rm12_under) s m args meth c RX12 cX12_under 5 (rm12_under)) (hS9 : gS X s) (hr : meth.sig.returnType = some .int) (rec28 : Nat → Int32 → Int32 → mMem → Option (Int32 × mMem)) (hrec28 : ∀ (a0 : Nat) (x2 : Int32) (x3 : Int32) (M : mMem), GG X p l e (rm12_under) s m args below meth c (gP X below args s 0 0 (fun r9 : (Int32 × mMem) => (some (.int r9.1), r9.2))) 5 0 0 28 [(0, .ref a0), (2, .int x2), (3, .int x3)] [] M (rec28 a0 x2 x3 M)) (a0 : Nat) (x2 : Int32) (x3 : Int32) (M : mMem) : GG X p l e (rm12_under) s m args below meth c (gP X below args s 0 0 (fun r9 : (Int32 × mMem) => (some (.int r9.1), r9.2))) 5 0 0 74 [(0, .ref a0), (2, .int x2), (3, .int x3)] [] M (p12_under_J74 rec28 a0 x2 x3 M) := by
  unfold p12_under_J74
  refine g_iinc (v := (x3 + 1)) (lv' := [(3, .int (x3 + 1)), (0, .ref a0), (2, .int x2)]) B dX12_under_74 2 rfl rfl (by decide) [0, 1, 2] rfl ?_
  refine g_goto B 28 dX12_under_77 (by decide) ?_
  refine g_sub (lv' := [(0, .ref a0), (2, .int x2), (3, .int (x3 + 1))]) [1, 2, 0] rfl ?_
  exact hrec28 a0 x2 (x3 + 1) M
set_option maxRecDepth 20000 in
set_option maxHeartbeats 2000000 in
theorem g12_under_L28 {X : gX} {p : Program} {l : Launch} {e : Env} {s : State} {m : MethodId} {args : Array Value} {below : List Frame} {meth : Method} {c : Code} (B : gB X p (rm12_under) s m args meth c RX12 cX12_under 5 (rm12_under)) (hS9 : gS X s) (hr : meth.sig.returnType = some .int) : ∀ (n : Nat) (a0 : Nat) (x2 : Int32) (x3 : Int32) (M : mMem), GG X p l e (rm12_under) s m args below meth c (gP X below args s 0 0 (fun r9 : (Int32 × mMem) => (some (.int r9.1), r9.2))) 5 0 0 28 [(0, .ref a0), (2, .int x2), (3, .int x3)] [] M (p12_under_L28 n a0 x2 x3 M) := by
  intro n
  induction n with
  | zero => intro a0 x2 x3 M; exact g_none
  | succ n ih =>
    intro a0 x2 x3 M
    rw [p12_under_L28]
    refine g_iload_n B dX12_under_28 2 rfl ?_
    refine g_bipush (v := 8) B dX12_under_29 (by decide) ?_
    refine g_icmp_ge B 80 dX12_under_31 (by decide) ?_ ?_
    · refine g_iconst (v := 0) B dX12_under_34 (by decide) ?_
      refine g_istore (lv' := [(4, .int 0), (0, .ref a0), (2, .int x2), (3, .int x3)]) B dX12_under_35 (by decide) [0, 1, 2, 3] rfl ?_
      refine g_sub (lv' := [(0, .ref a0), (2, .int x2), (3, .int x3), (4, .int 0)]) [1, 2, 3, 0] rfl ?_
      exact (g12_under_L37 B hS9 hr (p12_under_J74 (p12_under_L28 n)) (fun e0 e1 e2 e3 => g12_under_J74 B hS9 hr (p12_under_L28 n) ih e0 e1 e2 e3)) gF a0 x2 x3 0 M
    · refine g_iload_n B dX12_under_80 1 rfl ?_
      exact g_ireturn B hr rfl (by decide) (by decide) rfl dX12_under_81
set_option maxRecDepth 20000 in
set_option maxHeartbeats 2000000 in
theorem g12_under {X : gX} {p : Program} {l : Launch} {e : Env} {s : State} {m : MethodId} {args : Array Value} {below : List Frame} {meth : Method} {c : Code} (B : gB X p (rm12_under) s m args meth c RX12 cX12_under 5 (rm12_under)) (hS9 : gS X s) (hr : meth.sig.returnType = some .int) (a0 : Nat) (x1 : Int32) (M : mMem) : GG X p l e (rm12_under) s m args below meth c (gP X below args s 0 0 (fun r9 : (Int32 × mMem) => (some (.int r9.1), r9.2))) 5 0 0 0 [(0, .ref a0), (1, .int x1)] [] M (p12_under a0 x1 M) := by
  unfold p12_under
  refine g_gd ?_
  refine g_aload_n B dX12_under_0 0 rfl ?_
  refine g_iconst (v := 0) B dX12_under_1 (by decide) ?_
  refine g_putI (ci := 11) (T0 := TX12) (N := 27) B (by decide) rfl in_11 tyX12 tyX12_ok nmX12 (k := 0) (by decide) wd_1641 (fun _ h => h) rfl rfl (ty := .int) (by decide +kernel) rfl rfl dX12_under_2 (fun M_1 => ?_)
  refine g_aload_n B dX12_under_5 0 rfl ?_
  refine g_aload_n B dX12_under_6 0 rfl ?_
  refine g_iload_n B dX12_under_7 1 rfl ?_
  refine g_callV_ip [.int x1] (ci := 11) (T0 := TX12) (N := 27) B hS9 mf12_nobody wd_1944 (gw B wp_79) wd_1942 (by decide) rfl (fun h => (gd_ne h).1) (c12_nobody X l a0 x1 M_1) (by decide) (by decide) (by decide) rfl (Nat.le_of_ble_eq_true rfl) dX12_under_8 rfl (fun v_2 => ?_)
  refine g_iconst (v := 1) B dX12_under_11 (by decide) ?_
  refine g_callV_iw [.int v_2, .int 1] (ci := 11) (T0 := TX12) (N := 27) B hS9 mf12_throwsIf wd_1932 (gw B wp_78) wd_1930 (by decide) rfl (fun h => (gd_ne h).1) (c12_throwsIf X l a0 v_2 1 M_1) (by decide) (by decide) (by decide) rfl (by decide) dX12_under_12 rfl (fun q_3 => ?_)
  refine g_if_eq B 20 dX12_under_15 (by decide) ?_ ?_
  · refine g_aload_n B dX12_under_20 0 rfl ?_
    refine g_iload_n B dX12_under_21 1 rfl ?_
    refine g_callV_ip [.int x1] (ci := 11) (T0 := TX12) (N := 27) B hS9 mf12_governedBy wd_1951 (gw B wp_80) wd_1949 (by decide) rfl (fun h => (gd_ne h).1) (c12_governedBy X l a0 x1 q_3.2) (by decide) (by decide) (by decide) rfl (by decide) dX12_under_22 rfl (fun v_4 => ?_)
    refine g_istore_n (lv' := [(2, .int v_4), (0, .ref a0), (1, .int x1)]) B dX12_under_25 (by decide) [0, 1, 2] rfl ?_
    refine g_iconst (v := 0) B dX12_under_26 (by decide) ?_
    refine g_istore_n (lv' := [(3, .int 0), (2, .int v_4), (0, .ref a0), (1, .int x1)]) B dX12_under_27 (by decide) [0, 1, 2, 3] rfl ?_
    refine g_sub (lv' := [(0, .ref a0), (2, .int v_4), (3, .int 0)]) [2, 1, 0] rfl ?_
    exact (g12_under_L28 B hS9 hr) gF a0 v_4 0 q_3.2
  · refine g_iconst (v := 0) B dX12_under_18 (by decide) ?_
    exact g_ireturn B hr rfl (by decide) (by decide) rfl dX12_under_19
theorem c12_under (X : gX) (l : Launch) (a0 : Nat) (x1 : Int32) (M : mMem) : Con X l yX12_under cX12_under 5 (some .int) rm12_under (fun r9 : (Int32 × mMem) => (some (.int r9.1), r9.2)) [.ref a0, .int x1] M (p12_under a0 x1 M) := g_con (own := RX12) (by decide +kernel) rfl (Nat.le_of_ble_eq_true rfl) (fun p e s m args below meth c B hS9 hr hn => g12_under B hS9 hr a0 x1 M)
theorem mf12_free : gMF yX12_free cX12_free 3 (some .int) 0 := ⟨wd_2324, wd_13, ⟨by decide, by decide⟩, by decide +kernel⟩
set_option maxRecDepth 20000 in
set_option maxHeartbeats 2000000 in
theorem g12_free_J35 {X : gX} {p : Program} {l : Launch} {e : Env} {s : State} {m : MethodId} {args : Array Value} {below : List Frame} {meth : Method} {c : Code} (B : gB X p (rm12_free) s m args meth c RX12 cX12_free 3 (rm12_free)) (hS9 : gS X s) (hr : meth.sig.returnType = some .int) (rec9 : Nat → Int32 → Int32 → mMem → Option (Int32 × mMem)) (hrec9 : ∀ (a0 : Nat) (x1 : Int32) (x2 : Int32) (M : mMem), GG X p l e (rm12_free) s m args below meth c (gP X below args s 0 0 (fun r9 : (Int32 × mMem) => (some (.int r9.1), r9.2))) 3 0 0 9 [(0, .ref a0), (1, .int x1), (2, .int x2)] [] M (rec9 a0 x1 x2 M)) (a0 : Nat) (x2 : Int32) (u0 : Int32) (u1 : Int32) (M : mMem) : GG X p l e (rm12_free) s m args below meth c (gP X below args s 0 0 (fun r9 : (Int32 × mMem) => (some (.int r9.1), r9.2))) 3 0 0 35 [(0, .ref a0), (2, .int x2)] [.int u1, .int u0] M (p12_free_J35 rec9 a0 x2 u0 u1 M) := by
  unfold p12_free_J35
  refine g_ior B dX12_free_35 ?_
  refine g_istore_n (lv' := [(1, .int (u0 ||| u1)), (0, .ref a0), (2, .int x2)]) B dX12_free_36 (by decide) [0, 1, 2] rfl ?_
  refine g_iinc (v := (x2 + 1)) (lv' := [(2, .int (x2 + 1)), (1, .int (u0 ||| u1)), (0, .ref a0)]) B dX12_free_37 2 rfl rfl (by decide) [0, 1, 2] rfl ?_
  refine g_goto B 9 dX12_free_40 (by decide) ?_
  refine g_sub (lv' := [(0, .ref a0), (1, .int (u0 ||| u1)), (2, .int (x2 + 1))]) [2, 1, 0] rfl ?_
  exact hrec9 a0 (u0 ||| u1) (x2 + 1) M
set_option maxRecDepth 20000 in
set_option maxHeartbeats 2000000 in
theorem g12_free_L9 {X : gX} {p : Program} {l : Launch} {e : Env} {s : State} {m : MethodId} {args : Array Value} {below : List Frame} {meth : Method} {c : Code} (B : gB X p (rm12_free) s m args meth c RX12 cX12_free 3 (rm12_free)) (hS9 : gS X s) (hr : meth.sig.returnType = some .int) : ∀ (n : Nat) (a0 : Nat) (x1 : Int32) (x2 : Int32) (M : mMem), GG X p l e (rm12_free) s m args below meth c (gP X below args s 0 0 (fun r9 : (Int32 × mMem) => (some (.int r9.1), r9.2))) 3 0 0 9 [(0, .ref a0), (1, .int x1), (2, .int x2)] [] M (p12_free_L9 n a0 x1 x2 M) := by
  intro n
  induction n with
  | zero => intro a0 x1 x2 M; exact g_none
  | succ n ih =>
    intro a0 x1 x2 M
    rw [p12_free_L9]
    refine g_iload_n B dX12_free_9 2 rfl ?_
    refine g_aload_n B dX12_free_10 0 rfl ?_
    refine g_callV_ip [] (ci := 11) (T0 := TX12) (N := 27) B hS9 mf12_people wd_1793 (gw B wp_51) wd_1791 (by decide) rfl (fun h => (gd_ne h).1) (c12_people X l a0 M) (by decide) (by decide) (by decide) rfl (Nat.le_of_ble_eq_true rfl) dX12_free_11 rfl (fun v_1 => ?_)
    refine g_icmp_ge B 43 dX12_free_14 (by decide) ?_ ?_
    · refine g_iload_n B dX12_free_17 1 rfl ?_
      refine g_aload_n B dX12_free_18 0 rfl ?_
      refine g_iload_n B dX12_free_19 2 rfl ?_
      refine g_bipush (v := 8) B dX12_free_20 (by decide) ?_
      refine g_callV_ip [.int x2, .int 8] (ci := 11) (T0 := TX12) (N := 27) B hS9 mf12_of wd_1846 (gw B wp_61) wd_1844 (by decide) rfl (fun h => (gd_ne h).1) (c12_of X l a0 x2 8 M) (by decide) (by decide) (by decide) rfl (Nat.le_of_ble_eq_true rfl) dX12_free_22 rfl (fun v_2 => ?_)
      refine g_if_ne B 34 dX12_free_25 (by decide) ?_ ?_
      · refine g_iconst (v := 1) B dX12_free_28 (by decide) ?_
        refine g_iload_n B dX12_free_29 2 rfl ?_
        refine g_ishl B dX12_free_30 ?_
        refine g_goto B 35 dX12_free_31 (by decide) ?_
        refine g_sub (lv' := [(0, .ref a0), (2, .int x2)]) [0, 2] rfl ?_
        exact g12_free_J35 B hS9 hr (p12_free_L9 n) ih a0 x2 x1 ((1 : Int32) <<< (x2 &&& 31)) M
      · refine g_iconst (v := 0) B dX12_free_34 (by decide) ?_
        refine g_sub (lv' := [(0, .ref a0), (2, .int x2)]) [0, 2] rfl ?_
        exact g12_free_J35 B hS9 hr (p12_free_L9 n) ih a0 x2 x1 0 M
    · refine g_iload_n B dX12_free_43 1 rfl ?_
      exact g_ireturn B hr rfl (by decide) (by decide) rfl dX12_free_44
set_option maxRecDepth 20000 in
set_option maxHeartbeats 2000000 in
theorem g12_free {X : gX} {p : Program} {l : Launch} {e : Env} {s : State} {m : MethodId} {args : Array Value} {below : List Frame} {meth : Method} {c : Code} (B : gB X p (rm12_free) s m args meth c RX12 cX12_free 3 (rm12_free)) (hS9 : gS X s) (hr : meth.sig.returnType = some .int) (a0 : Nat) (M : mMem) : GG X p l e (rm12_free) s m args below meth c (gP X below args s 0 0 (fun r9 : (Int32 × mMem) => (some (.int r9.1), r9.2))) 3 0 0 0 [(0, .ref a0)] [] M (p12_free a0 M) := by
  unfold p12_free
  refine g_gd ?_
  refine g_aload_n B dX12_free_0 0 rfl ?_
  refine g_iconst (v := 0) B dX12_free_1 (by decide) ?_
  refine g_putI (ci := 11) (T0 := TX12) (N := 27) B (by decide) rfl in_11 tyX12 tyX12_ok nmX12 (k := 0) (by decide) wd_1641 (fun _ h => h) rfl rfl (ty := .int) (by decide +kernel) rfl rfl dX12_free_2 (fun M_1 => ?_)
  refine g_iconst (v := 0) B dX12_free_5 (by decide) ?_
  refine g_istore_n (lv' := [(1, .int 0), (0, .ref a0)]) B dX12_free_6 (by decide) [0, 1] rfl ?_
  refine g_iconst (v := 0) B dX12_free_7 (by decide) ?_
  refine g_istore_n (lv' := [(2, .int 0), (1, .int 0), (0, .ref a0)]) B dX12_free_8 (by decide) [0, 1, 2] rfl ?_
  refine g_sub (lv' := [(0, .ref a0), (1, .int 0), (2, .int 0)]) [2, 1, 0] rfl ?_
  exact (g12_free_L9 B hS9 hr) gF a0 0 0 M_1
theorem c12_free (X : gX) (l : Launch) (a0 : Nat) (M : mMem) : Con X l yX12_free cX12_free 3 (some .int) rm12_free (fun r9 : (Int32 × mMem) => (some (.int r9.1), r9.2)) [.ref a0] M (p12_free a0 M) := g_con (own := RX12) (by decide +kernel) rfl (Nat.le_of_ble_eq_true rfl) (fun p e s m args below meth c B hS9 hr hn => g12_free B hS9 hr a0 M)
theorem mf12_odds : gMF yX12_odds cX12_odds 16 (some .int) 3 := ⟨wd_2328, wd_13, ⟨by decide, by decide⟩, by decide +kernel⟩
set_option maxRecDepth 20000 in
set_option maxHeartbeats 2000000 in
theorem g12_odds_J49 {X : gX} {p : Program} {l : Launch} {e : Env} {s : State} {m : MethodId} {args : Array Value} {below : List Frame} {meth : Method} {c : Code} (B : gB X p (rm12_odds) s m args meth c RX12 cX12_odds 16 (rm12_odds)) (hS9 : gS X s) (hr : meth.sig.returnType = some .int) (M : mMem) : GG X p l e (rm12_odds) s m args below meth c (gP X below args s 0 0 (fun r9 : (Int32 × mMem) => (some (.int r9.1), r9.2))) 16 0 0 49 [] [] M (p12_odds_J49 M) := by
  unfold p12_odds_J49
  refine g_iconst (v := 0) B dX12_odds_49 (by decide) ?_
  exact g_ireturn B hr rfl (by decide) (by decide) rfl dX12_odds_50
set_option maxRecDepth 20000 in
set_option maxHeartbeats 2000000 in
theorem g12_odds_J110 {X : gX} {p : Program} {l : Launch} {e : Env} {s : State} {m : MethodId} {args : Array Value} {below : List Frame} {meth : Method} {c : Code} (B : gB X p (rm12_odds) s m args meth c RX12 cX12_odds 16 (rm12_odds)) (hS9 : gS X s) (hr : meth.sig.returnType = some .int) (rec76 : Nat → Int32 → Int32 → Int32 → Int32 → Int64 → Int32 → mMem → Option (Int32 × mMem)) (hrec76 : ∀ (a0 : Nat) (x1 : Int32) (x2 : Int32) (x3 : Int32) (x4 : Int32) (y5 : Int64) (x7 : Int32) (M : mMem), GG X p l e (rm12_odds) s m args below meth c (gP X below args s 0 0 (fun r9 : (Int32 × mMem) => (some (.int r9.1), r9.2))) 16 0 0 76 [(0, .ref a0), (1, .int x1), (2, .int x2), (3, .int x3), (4, .int x4), (5, .long y5), (7, .int x7)] [] M (rec76 a0 x1 x2 x3 x4 y5 x7 M)) (a0 : Nat) (x1 : Int32) (x2 : Int32) (x3 : Int32) (x4 : Int32) (x7 : Int32) (w0 : Int64) (w1 : Int64) (M : mMem) : GG X p l e (rm12_odds) s m args below meth c (gP X below args s 0 0 (fun r9 : (Int32 × mMem) => (some (.int r9.1), r9.2))) 16 0 0 110 [(0, .ref a0), (1, .int x1), (2, .int x2), (3, .int x3), (4, .int x4), (7, .int x7)] [.long w1, .long w0] M (p12_odds_J110 rec76 a0 x1 x2 x3 x4 x7 w0 w1 M) := by
  unfold p12_odds_J110
  refine g_ladd B dX12_odds_110 ?_
  refine g_lstore (lv' := [(5, .long (w0 + w1)), (0, .ref a0), (1, .int x1), (2, .int x2), (3, .int x3), (4, .int x4), (7, .int x7)]) B dX12_odds_111 (by decide) [0, 1, 2, 3, 4, 5, 6] rfl ?_
  refine g_iinc (v := (x7 + 1)) (lv' := [(7, .int (x7 + 1)), (5, .long (w0 + w1)), (0, .ref a0), (1, .int x1), (2, .int x2), (3, .int x3), (4, .int x4)]) B dX12_odds_113 6 rfl rfl (by decide) [0, 1, 2, 3, 4, 5, 6] rfl ?_
  refine g_goto B 76 dX12_odds_116 (by decide) ?_
  refine g_sub (lv' := [(0, .ref a0), (1, .int x1), (2, .int x2), (3, .int x3), (4, .int x4), (5, .long (w0 + w1)), (7, .int (x7 + 1))]) [2, 3, 4, 5, 6, 1, 0] rfl ?_
  exact hrec76 a0 x1 x2 x3 x4 (w0 + w1) (x7 + 1) M
set_option maxRecDepth 20000 in
set_option maxHeartbeats 2000000 in
theorem g12_odds_L76 {X : gX} {p : Program} {l : Launch} {e : Env} {s : State} {m : MethodId} {args : Array Value} {below : List Frame} {meth : Method} {c : Code} (B : gB X p (rm12_odds) s m args meth c RX12 cX12_odds 16 (rm12_odds)) (hS9 : gS X s) (hr : meth.sig.returnType = some .int) (k119 : Nat → Int32 → Int32 → Int32 → Int32 → Int64 → mMem → Option (Int32 × mMem)) (hk119 : ∀ (a0 : Nat) (x1 : Int32) (x2 : Int32) (x3 : Int32) (x4 : Int32) (y5 : Int64) (M : mMem), GG X p l e (rm12_odds) s m args below meth c (gP X below args s 0 0 (fun r9 : (Int32 × mMem) => (some (.int r9.1), r9.2))) 16 0 0 119 [(0, .ref a0), (1, .int x1), (2, .int x2), (3, .int x3), (4, .int x4), (5, .long y5)] [] M (k119 a0 x1 x2 x3 x4 y5 M)) : ∀ (n : Nat) (a0 : Nat) (x1 : Int32) (x2 : Int32) (x3 : Int32) (x4 : Int32) (y5 : Int64) (x7 : Int32) (M : mMem), GG X p l e (rm12_odds) s m args below meth c (gP X below args s 0 0 (fun r9 : (Int32 × mMem) => (some (.int r9.1), r9.2))) 16 0 0 76 [(0, .ref a0), (1, .int x1), (2, .int x2), (3, .int x3), (4, .int x4), (5, .long y5), (7, .int x7)] [] M (p12_odds_L76 k119 n a0 x1 x2 x3 x4 y5 x7 M) := by
  intro n
  induction n with
  | zero => intro a0 x1 x2 x3 x4 y5 x7 M; exact g_none
  | succ n ih =>
    intro a0 x1 x2 x3 x4 y5 x7 M
    rw [p12_odds_L76]
    refine g_iload B dX12_odds_76 6 rfl ?_
    refine g_aload_n B dX12_odds_78 0 rfl ?_
    refine g_callV_ip [] (ci := 11) (T0 := TX12) (N := 27) B hS9 mf12_people wd_1793 (gw B wp_51) wd_1791 (by decide) rfl (fun h => (gd_ne h).1) (c12_people X l a0 M) (by decide) (by decide) (by decide) rfl (Nat.le_of_ble_eq_true rfl) dX12_odds_79 rfl (fun v_1 => ?_)
    refine g_icmp_ge B 119 dX12_odds_82 (by decide) ?_ ?_
    · refine g_lload B dX12_odds_85 5 rfl ?_
      refine g_aload_n B dX12_odds_87 0 rfl ?_
      refine g_iload B dX12_odds_88 6 rfl ?_
      refine g_iload_n B dX12_odds_90 1 rfl ?_
      refine g_callV_ip [.int x7, .int x1] (ci := 11) (T0 := TX12) (N := 27) B hS9 mf12_governs wd_1955 (gw B wp_81) wd_1953 (by decide) rfl (fun h => (gd_ne h).1) (c12_governs X l a0 x7 x1 M) (by decide) (by decide) (by decide) rfl (Nat.le_of_ble_eq_true rfl) dX12_odds_91 rfl (fun v_2 => ?_)
      refine g_if_eq B 109 dX12_odds_94 (by decide) ?_ ?_
      · refine g_lconst (v := 0) B dX12_odds_109 (by decide) ?_
        refine g_sub (lv' := [(0, .ref a0), (1, .int x1), (2, .int x2), (3, .int x3), (4, .int x4), (7, .int x7)]) [0, 1, 2, 3, 4, 6] rfl ?_
        exact g12_odds_J110 B hS9 hr (p12_odds_L76 k119 n) ih a0 x1 x2 x3 x4 x7 y5 0 M
      · refine g_aload_n B dX12_odds_97 0 rfl ?_
        refine g_iload B dX12_odds_98 6 rfl ?_
        refine g_bipush (v := 6) B dX12_odds_100 (by decide) ?_
        refine g_callV_ip [.int x7, .int 6] (ci := 11) (T0 := TX12) (N := 27) B hS9 mf12_of wd_1846 (gw B wp_61) wd_1844 (by decide) rfl (fun h => (gd_ne h).1) (c12_of X l a0 x7 6 M) (by decide) (by decide) (by decide) rfl (Nat.le_of_ble_eq_true rfl) dX12_odds_102 rfl (fun v_3 => ?_)
        refine g_i2l B dX12_odds_105 ?_
        refine g_goto B 110 dX12_odds_106 (by decide) ?_
        refine g_sub (lv' := [(0, .ref a0), (1, .int x1), (2, .int x2), (3, .int x3), (4, .int x4), (7, .int x7)]) [0, 1, 2, 3, 4, 6] rfl ?_
        exact g12_odds_J110 B hS9 hr (p12_odds_L76 k119 n) ih a0 x1 x2 x3 x4 x7 y5 (v_3.toInt64) M
    · refine g_sub (lv' := [(0, .ref a0), (1, .int x1), (2, .int x2), (3, .int x3), (4, .int x4), (5, .long y5)]) [0, 1, 2, 3, 4, 5] rfl ?_
      exact hk119 a0 x1 x2 x3 x4 y5 M
set_option maxRecDepth 20000 in
set_option maxHeartbeats 2000000 in
theorem g12_odds_J168 {X : gX} {p : Program} {l : Launch} {e : Env} {s : State} {m : MethodId} {args : Array Value} {below : List Frame} {meth : Method} {c : Code} (B : gB X p (rm12_odds) s m args meth c RX12 cX12_odds 16 (rm12_odds)) (hS9 : gS X s) (hr : meth.sig.returnType = some .int) (rec146 : Nat → Int32 → Int32 → Int64 → Int64 → Int64 → Int32 → mMem → Option (Int32 × mMem)) (hrec146 : ∀ (a0 : Nat) (x2 : Int32) (x3 : Int32) (y7 : Int64) (y9 : Int64) (y11 : Int64) (x13 : Int32) (M : mMem), GG X p l e (rm12_odds) s m args below meth c (gP X below args s 0 0 (fun r9 : (Int32 × mMem) => (some (.int r9.1), r9.2))) 16 0 0 146 [(0, .ref a0), (2, .int x2), (3, .int x3), (7, .long y7), (9, .long y9), (11, .long y11), (13, .int x13)] [] M (rec146 a0 x2 x3 y7 y9 y11 x13 M)) (a0 : Nat) (x2 : Int32) (x3 : Int32) (y7 : Int64) (y9 : Int64) (y11 : Int64) (x13 : Int32) (b0 : Nat) (u1 : Int32) (w2 : Int64) (M : mMem) : GG X p l e (rm12_odds) s m args below meth c (gP X below args s 0 0 (fun r9 : (Int32 × mMem) => (some (.int r9.1), r9.2))) 16 0 0 168 [(0, .ref a0), (2, .int x2), (3, .int x3), (7, .long y7), (9, .long y9), (11, .long y11), (13, .int x13)] [.long w2, .int u1, .ref b0] M (p12_odds_J168 rec146 a0 x2 x3 y7 y9 y11 x13 b0 u1 w2 M) := by
  unfold p12_odds_J168
  refine g_lastore B dX12_odds_168 (fun M_1 => ?_)
  refine g_iinc (v := (x13 + 1)) (lv' := [(13, .int (x13 + 1)), (0, .ref a0), (2, .int x2), (3, .int x3), (7, .long y7), (9, .long y9), (11, .long y11)]) B dX12_odds_169 6 rfl rfl (by decide) [0, 1, 2, 3, 4, 5, 6] rfl ?_
  refine g_goto B 146 dX12_odds_172 (by decide) ?_
  refine g_sub (lv' := [(0, .ref a0), (2, .int x2), (3, .int x3), (7, .long y7), (9, .long y9), (11, .long y11), (13, .int (x13 + 1))]) [1, 2, 3, 4, 5, 6, 0] rfl ?_
  exact hrec146 a0 x2 x3 y7 y9 y11 (x13 + 1) M_1
set_option maxRecDepth 20000 in
set_option maxHeartbeats 2000000 in
theorem g12_odds_L146 {X : gX} {p : Program} {l : Launch} {e : Env} {s : State} {m : MethodId} {args : Array Value} {below : List Frame} {meth : Method} {c : Code} (B : gB X p (rm12_odds) s m args meth c RX12 cX12_odds 16 (rm12_odds)) (hS9 : gS X s) (hr : meth.sig.returnType = some .int) (k175 : Nat → Int32 → Int32 → Int64 → Int64 → Int64 → mMem → Option (Int32 × mMem)) (hk175 : ∀ (a0 : Nat) (x2 : Int32) (x3 : Int32) (y7 : Int64) (y9 : Int64) (y11 : Int64) (M : mMem), GG X p l e (rm12_odds) s m args below meth c (gP X below args s 0 0 (fun r9 : (Int32 × mMem) => (some (.int r9.1), r9.2))) 16 0 0 175 [(0, .ref a0), (2, .int x2), (3, .int x3), (7, .long y7), (9, .long y9), (11, .long y11)] [] M (k175 a0 x2 x3 y7 y9 y11 M)) : ∀ (n : Nat) (a0 : Nat) (x2 : Int32) (x3 : Int32) (y7 : Int64) (y9 : Int64) (y11 : Int64) (x13 : Int32) (M : mMem), GG X p l e (rm12_odds) s m args below meth c (gP X below args s 0 0 (fun r9 : (Int32 × mMem) => (some (.int r9.1), r9.2))) 16 0 0 146 [(0, .ref a0), (2, .int x2), (3, .int x3), (7, .long y7), (9, .long y9), (11, .long y11), (13, .int x13)] [] M (p12_odds_L146 k175 n a0 x2 x3 y7 y9 y11 x13 M) := by
  intro n
  induction n with
  | zero => intro a0 x2 x3 y7 y9 y11 x13 M; exact g_none
  | succ n ih =>
    intro a0 x2 x3 y7 y9 y11 x13 M
    rw [p12_odds_L146]
    refine g_iload B dX12_odds_146 6 rfl ?_
    refine g_iconst (v := 3) B dX12_odds_148 (by decide) ?_
    refine g_icmp_gt B 175 dX12_odds_149 (by decide) ?_ ?_
    · refine g_sub (lv' := [(0, .ref a0), (2, .int x2), (3, .int x3), (7, .long y7), (9, .long y9), (11, .long y11)]) [0, 1, 2, 3, 4, 5] rfl ?_
      exact hk175 a0 x2 x3 y7 y9 y11 M
    · refine g_aload_n B dX12_odds_152 0 rfl ?_
      refine g_getR (ci := 11) (T0 := TX12) (N := 27) B (by decide) rfl in_11 (k := 26) (by decide) rfl wd_1667 (fun _ h => h) dX12_odds_153 (fun v_1 => ?_)
      refine g_iload B dX12_odds_156 6 rfl ?_
      refine g_iload B dX12_odds_158 6 rfl ?_
      refine g_if_ne B 167 dX12_odds_160 (by decide) ?_ ?_
      · refine g_lconst (v := 1) B dX12_odds_163 (by decide) ?_
        refine g_goto B 168 dX12_odds_164 (by decide) ?_
        refine g_sub (lv' := [(0, .ref a0), (2, .int x2), (3, .int x3), (7, .long y7), (9, .long y9), (11, .long y11), (13, .int x13)]) [0, 1, 2, 3, 4, 5, 6] rfl ?_
        exact g12_odds_J168 B hS9 hr (p12_odds_L146 k175 n) ih a0 x2 x3 y7 y9 y11 x13 v_1 x13 1 M
      · refine g_lconst (v := 0) B dX12_odds_167 (by decide) ?_
        refine g_sub (lv' := [(0, .ref a0), (2, .int x2), (3, .int x3), (7, .long y7), (9, .long y9), (11, .long y11), (13, .int x13)]) [0, 1, 2, 3, 4, 5, 6] rfl ?_
        exact g12_odds_J168 B hS9 hr (p12_odds_L146 k175 n) ih a0 x2 x3 y7 y9 y11 x13 v_1 x13 0 M
set_option maxRecDepth 20000 in
set_option maxHeartbeats 2000000 in
theorem g12_odds_J232 {X : gX} {p : Program} {l : Launch} {e : Env} {s : State} {m : MethodId} {args : Array Value} {below : List Frame} {meth : Method} {c : Code} (B : gB X p (rm12_odds) s m args meth c RX12 cX12_odds 16 (rm12_odds)) (hS9 : gS X s) (hr : meth.sig.returnType = some .int) (rec187 : Nat → Int32 → Int32 → Int64 → Int64 → Int64 → Int32 → Int32 → mMem → Option (Int32 × mMem)) (hrec187 : ∀ (a0 : Nat) (x2 : Int32) (x3 : Int32) (y7 : Int64) (y9 : Int64) (y11 : Int64) (x13 : Int32) (x14 : Int32) (M : mMem), GG X p l e (rm12_odds) s m args below meth c (gP X below args s 0 0 (fun r9 : (Int32 × mMem) => (some (.int r9.1), r9.2))) 16 0 0 187 [(0, .ref a0), (2, .int x2), (3, .int x3), (7, .long y7), (9, .long y9), (11, .long y11), (13, .int x13), (14, .int x14)] [] M (rec187 a0 x2 x3 y7 y9 y11 x13 x14 M)) (a0 : Nat) (x2 : Int32) (x3 : Int32) (y7 : Int64) (y9 : Int64) (y11 : Int64) (x13 : Int32) (x14 : Int32) (b0 : Nat) (u1 : Int32) (w2 : Int64) (w3 : Int64) (M : mMem) : GG X p l e (rm12_odds) s m args below meth c (gP X below args s 0 0 (fun r9 : (Int32 × mMem) => (some (.int r9.1), r9.2))) 16 0 0 232 [(0, .ref a0), (2, .int x2), (3, .int x3), (7, .long y7), (9, .long y9), (11, .long y11), (13, .int x13), (14, .int x14)] [.long w3, .long w2, .int u1, .ref b0] M (p12_odds_J232 rec187 a0 x2 x3 y7 y9 y11 x13 x14 b0 u1 w2 w3 M) := by
  unfold p12_odds_J232
  refine g_ladd B dX12_odds_232 ?_
  refine g_lastore B dX12_odds_233 (fun M_1 => ?_)
  refine g_iinc (v := (x14 + (-1))) (lv' := [(14, .int (x14 + (-1))), (0, .ref a0), (2, .int x2), (3, .int x3), (7, .long y7), (9, .long y9), (11, .long y11), (13, .int x13)]) B dX12_odds_234 7 rfl rfl (by decide) [0, 1, 2, 3, 4, 5, 6, 7] rfl ?_
  refine g_goto B 187 dX12_odds_237 (by decide) ?_
  refine g_sub (lv' := [(0, .ref a0), (2, .int x2), (3, .int x3), (7, .long y7), (9, .long y9), (11, .long y11), (13, .int x13), (14, .int (x14 + (-1)))]) [1, 2, 3, 4, 5, 6, 7, 0] rfl ?_
  exact hrec187 a0 x2 x3 y7 y9 y11 x13 (x14 + (-1)) M_1
set_option maxRecDepth 20000 in
set_option maxHeartbeats 2000000 in
theorem g12_odds_L187 {X : gX} {p : Program} {l : Launch} {e : Env} {s : State} {m : MethodId} {args : Array Value} {below : List Frame} {meth : Method} {c : Code} (B : gB X p (rm12_odds) s m args meth c RX12 cX12_odds 16 (rm12_odds)) (hS9 : gS X s) (hr : meth.sig.returnType = some .int) (k240 : Nat → Int32 → Int32 → Int64 → Int64 → Int64 → Int32 → mMem → Option (Int32 × mMem)) (hk240 : ∀ (a0 : Nat) (x2 : Int32) (x3 : Int32) (y7 : Int64) (y9 : Int64) (y11 : Int64) (x13 : Int32) (M : mMem), GG X p l e (rm12_odds) s m args below meth c (gP X below args s 0 0 (fun r9 : (Int32 × mMem) => (some (.int r9.1), r9.2))) 16 0 0 240 [(0, .ref a0), (2, .int x2), (3, .int x3), (7, .long y7), (9, .long y9), (11, .long y11), (13, .int x13)] [] M (k240 a0 x2 x3 y7 y9 y11 x13 M)) : ∀ (n : Nat) (a0 : Nat) (x2 : Int32) (x3 : Int32) (y7 : Int64) (y9 : Int64) (y11 : Int64) (x13 : Int32) (x14 : Int32) (M : mMem), GG X p l e (rm12_odds) s m args below meth c (gP X below args s 0 0 (fun r9 : (Int32 × mMem) => (some (.int r9.1), r9.2))) 16 0 0 187 [(0, .ref a0), (2, .int x2), (3, .int x3), (7, .long y7), (9, .long y9), (11, .long y11), (13, .int x13), (14, .int x14)] [] M (p12_odds_L187 k240 n a0 x2 x3 y7 y9 y11 x13 x14 M) := by
  intro n
  induction n with
  | zero => intro a0 x2 x3 y7 y9 y11 x13 x14 M; exact g_none
  | succ n ih =>
    intro a0 x2 x3 y7 y9 y11 x13 x14 M
    rw [p12_odds_L187]
    refine g_iload B dX12_odds_187 7 rfl ?_
    refine g_if_lt B 240 dX12_odds_189 (by decide) ?_ ?_
    · refine g_sub (lv' := [(0, .ref a0), (2, .int x2), (3, .int x3), (7, .long y7), (9, .long y9), (11, .long y11), (13, .int x13)]) [0, 1, 2, 3, 4, 5, 6] rfl ?_
      exact hk240 a0 x2 x3 y7 y9 y11 x13 M
    · refine g_aload_n B dX12_odds_192 0 rfl ?_
      refine g_getR (ci := 11) (T0 := TX12) (N := 27) B (by decide) rfl in_11 (k := 26) (by decide) rfl wd_1667 (fun _ h => h) dX12_odds_193 (fun v_1 => ?_)
      refine g_iload B dX12_odds_196 7 rfl ?_
      refine g_aload_n B dX12_odds_198 0 rfl ?_
      refine g_getR (ci := 11) (T0 := TX12) (N := 27) B (by decide) rfl in_11 (k := 26) (by decide) rfl wd_1667 (fun _ h => h) dX12_odds_199 (fun v_2 => ?_)
      refine g_iload B dX12_odds_202 7 rfl ?_
      refine g_laload B dX12_odds_204 (fun v_3 => ?_)
      refine g_lload B dX12_odds_205 4 rfl ?_
      refine g_lload B dX12_odds_207 3 rfl ?_
      refine g_lsub B dX12_odds_209 ?_
      refine g_lmul B dX12_odds_210 ?_
      refine g_iload B dX12_odds_211 7 rfl ?_
      refine g_if_ne B 220 dX12_odds_213 (by decide) ?_ ?_
      · refine g_lconst (v := 0) B dX12_odds_216 (by decide) ?_
        refine g_goto B 232 dX12_odds_217 (by decide) ?_
        refine g_sub (lv' := [(0, .ref a0), (2, .int x2), (3, .int x3), (7, .long y7), (9, .long y9), (11, .long y11), (13, .int x13), (14, .int x14)]) [0, 1, 2, 3, 4, 5, 6, 7] rfl ?_
        exact g12_odds_J232 B hS9 hr (p12_odds_L187 k240 n) ih a0 x2 x3 y7 y9 y11 x13 x14 v_1 x14 (v_3 * (y9 - y7)) 0 M
      · refine g_aload_n B dX12_odds_220 0 rfl ?_
        refine g_getR (ci := 11) (T0 := TX12) (N := 27) B (by decide) rfl in_11 (k := 26) (by decide) rfl wd_1667 (fun _ h => h) dX12_odds_221 (fun v_4 => ?_)
        refine g_iload B dX12_odds_224 7 rfl ?_
        refine g_iconst (v := 1) B dX12_odds_226 (by decide) ?_
        refine g_isub B dX12_odds_227 ?_
        refine g_laload B dX12_odds_228 (fun v_5 => ?_)
        refine g_lload B dX12_odds_229 3 rfl ?_
        refine g_lmul B dX12_odds_231 ?_
        refine g_sub (lv' := [(0, .ref a0), (2, .int x2), (3, .int x3), (7, .long y7), (9, .long y9), (11, .long y11), (13, .int x13), (14, .int x14)]) [0, 1, 2, 3, 4, 5, 6, 7] rfl ?_
        exact g12_odds_J232 B hS9 hr (p12_odds_L187 k240 n) ih a0 x2 x3 y7 y9 y11 x13 x14 v_1 x14 (v_3 * (y9 - y7)) (v_5 * y7) M
set_option maxRecDepth 20000 in
set_option maxHeartbeats 2000000 in
theorem g12_odds_J240 {X : gX} {p : Program} {l : Launch} {e : Env} {s : State} {m : MethodId} {args : Array Value} {below : List Frame} {meth : Method} {c : Code} (B : gB X p (rm12_odds) s m args meth c RX12 cX12_odds 16 (rm12_odds)) (hS9 : gS X s) (hr : meth.sig.returnType = some .int) (rec178 : Nat → Int32 → Int32 → Int64 → Int64 → Int64 → Int32 → mMem → Option (Int32 × mMem)) (hrec178 : ∀ (a0 : Nat) (x2 : Int32) (x3 : Int32) (y7 : Int64) (y9 : Int64) (y11 : Int64) (x13 : Int32) (M : mMem), GG X p l e (rm12_odds) s m args below meth c (gP X below args s 0 0 (fun r9 : (Int32 × mMem) => (some (.int r9.1), r9.2))) 16 0 0 178 [(0, .ref a0), (2, .int x2), (3, .int x3), (7, .long y7), (9, .long y9), (11, .long y11), (13, .int x13)] [] M (rec178 a0 x2 x3 y7 y9 y11 x13 M)) (a0 : Nat) (x2 : Int32) (x3 : Int32) (y7 : Int64) (y9 : Int64) (y11 : Int64) (x13 : Int32) (M : mMem) : GG X p l e (rm12_odds) s m args below meth c (gP X below args s 0 0 (fun r9 : (Int32 × mMem) => (some (.int r9.1), r9.2))) 16 0 0 240 [(0, .ref a0), (2, .int x2), (3, .int x3), (7, .long y7), (9, .long y9), (11, .long y11), (13, .int x13)] [] M (p12_odds_J240 rec178 a0 x2 x3 y7 y9 y11 x13 M) := by
  unfold p12_odds_J240
  refine g_lload B dX12_odds_240 5 rfl ?_
  refine g_lload B dX12_odds_242 4 rfl ?_
  refine g_lmul B dX12_odds_244 ?_
  refine g_lstore (lv' := [(11, .long (y11 * y9)), (0, .ref a0), (2, .int x2), (3, .int x3), (7, .long y7), (9, .long y9), (13, .int x13)]) B dX12_odds_245 (by decide) [0, 1, 2, 3, 4, 5, 6] rfl ?_
  refine g_iinc (v := (x13 + 1)) (lv' := [(13, .int (x13 + 1)), (11, .long (y11 * y9)), (0, .ref a0), (2, .int x2), (3, .int x3), (7, .long y7), (9, .long y9)]) B dX12_odds_247 6 rfl rfl (by decide) [0, 1, 2, 3, 4, 5, 6] rfl ?_
  refine g_goto B 178 dX12_odds_250 (by decide) ?_
  refine g_sub (lv' := [(0, .ref a0), (2, .int x2), (3, .int x3), (7, .long y7), (9, .long y9), (11, .long (y11 * y9)), (13, .int (x13 + 1))]) [2, 3, 4, 5, 6, 1, 0] rfl ?_
  exact hrec178 a0 x2 x3 y7 y9 (y11 * y9) (x13 + 1) M
set_option maxRecDepth 20000 in
set_option maxHeartbeats 2000000 in
theorem g12_odds_L178 {X : gX} {p : Program} {l : Launch} {e : Env} {s : State} {m : MethodId} {args : Array Value} {below : List Frame} {meth : Method} {c : Code} (B : gB X p (rm12_odds) s m args meth c RX12 cX12_odds 16 (rm12_odds)) (hS9 : gS X s) (hr : meth.sig.returnType = some .int) (k253 : Nat → Int32 → Int64 → mMem → Option (Int32 × mMem)) (hk253 : ∀ (a0 : Nat) (x3 : Int32) (y11 : Int64) (M : mMem), GG X p l e (rm12_odds) s m args below meth c (gP X below args s 0 0 (fun r9 : (Int32 × mMem) => (some (.int r9.1), r9.2))) 16 0 0 253 [(0, .ref a0), (3, .int x3), (11, .long y11)] [] M (k253 a0 x3 y11 M)) : ∀ (n : Nat) (a0 : Nat) (x2 : Int32) (x3 : Int32) (y7 : Int64) (y9 : Int64) (y11 : Int64) (x13 : Int32) (M : mMem), GG X p l e (rm12_odds) s m args below meth c (gP X below args s 0 0 (fun r9 : (Int32 × mMem) => (some (.int r9.1), r9.2))) 16 0 0 178 [(0, .ref a0), (2, .int x2), (3, .int x3), (7, .long y7), (9, .long y9), (11, .long y11), (13, .int x13)] [] M (p12_odds_L178 k253 n a0 x2 x3 y7 y9 y11 x13 M) := by
  intro n
  induction n with
  | zero => intro a0 x2 x3 y7 y9 y11 x13 M; exact g_none
  | succ n ih =>
    intro a0 x2 x3 y7 y9 y11 x13 M
    rw [p12_odds_L178]
    refine g_iload B dX12_odds_178 6 rfl ?_
    refine g_iload_n B dX12_odds_180 1 rfl ?_
    refine g_icmp_ge B 253 dX12_odds_181 (by decide) ?_ ?_
    · refine g_iconst (v := 3) B dX12_odds_184 (by decide) ?_
      refine g_istore (lv' := [(14, .int 3), (0, .ref a0), (2, .int x2), (3, .int x3), (7, .long y7), (9, .long y9), (11, .long y11), (13, .int x13)]) B dX12_odds_185 (by decide) [0, 1, 2, 3, 4, 5, 6, 7] rfl ?_
      refine g_sub (lv' := [(0, .ref a0), (2, .int x2), (3, .int x3), (7, .long y7), (9, .long y9), (11, .long y11), (13, .int x13), (14, .int 3)]) [1, 2, 3, 4, 5, 6, 7, 0] rfl ?_
      exact (g12_odds_L187 B hS9 hr (p12_odds_J240 (p12_odds_L178 k253 n)) (fun e0 e1 e2 e3 e4 e5 e6 e7 => g12_odds_J240 B hS9 hr (p12_odds_L178 k253 n) ih e0 e1 e2 e3 e4 e5 e6 e7)) gF a0 x2 x3 y7 y9 y11 x13 3 M
    · refine g_sub (lv' := [(0, .ref a0), (3, .int x3), (11, .long y11)]) [0, 2, 5] rfl ?_
      exact hk253 a0 x3 y11 M
set_option maxRecDepth 20000 in
set_option maxHeartbeats 2000000 in
theorem g12_odds_L259 {X : gX} {p : Program} {l : Launch} {e : Env} {s : State} {m : MethodId} {args : Array Value} {below : List Frame} {meth : Method} {c : Code} (B : gB X p (rm12_odds) s m args meth c RX12 cX12_odds 16 (rm12_odds)) (hS9 : gS X s) (hr : meth.sig.returnType = some .int) : ∀ (n : Nat) (a0 : Nat) (y11 : Int64) (y13 : Int64) (x15 : Int32) (M : mMem), GG X p l e (rm12_odds) s m args below meth c (gP X below args s 0 0 (fun r9 : (Int32 × mMem) => (some (.int r9.1), r9.2))) 16 0 0 259 [(0, .ref a0), (11, .long y11), (13, .long y13), (15, .int x15)] [] M (p12_odds_L259 n a0 y11 y13 x15 M) := by
  intro n
  induction n with
  | zero => intro a0 y11 y13 x15 M; exact g_none
  | succ n ih =>
    intro a0 y11 y13 x15 M
    rw [p12_odds_L259]
    refine g_iload B dX12_odds_259 3 rfl ?_
    refine g_iconst (v := 3) B dX12_odds_261 (by decide) ?_
    refine g_icmp_gt B 283 dX12_odds_262 (by decide) ?_ ?_
    · refine g_ldc2 B dX12_odds_283 wd_2329 ?_
      refine g_lload B dX12_odds_286 2 rfl ?_
      refine g_lmul B dX12_odds_288 ?_
      refine g_lload B dX12_odds_289 1 rfl ?_
      refine g_ldiv B dX12_odds_291 (fun v_1 => ?_)
      refine g_l2i B dX12_odds_292 ?_
      exact g_ireturn B hr rfl (by decide) (by decide) rfl dX12_odds_293
    · refine g_lload B dX12_odds_265 2 rfl ?_
      refine g_aload_n B dX12_odds_267 0 rfl ?_
      refine g_getR (ci := 11) (T0 := TX12) (N := 27) B (by decide) rfl in_11 (k := 26) (by decide) rfl wd_1667 (fun _ h => h) dX12_odds_268 (fun v_2 => ?_)
      refine g_iload B dX12_odds_271 3 rfl ?_
      refine g_laload B dX12_odds_273 (fun v_3 => ?_)
      refine g_ladd B dX12_odds_274 ?_
      refine g_lstore (lv' := [(13, .long (y13 + v_3)), (0, .ref a0), (11, .long y11), (15, .int x15)]) B dX12_odds_275 (by decide) [0, 1, 2, 3] rfl ?_
      refine g_iinc (v := (x15 + 1)) (lv' := [(15, .int (x15 + 1)), (13, .long (y13 + v_3)), (0, .ref a0), (11, .long y11)]) B dX12_odds_277 3 rfl rfl (by decide) [0, 1, 2, 3] rfl ?_
      refine g_goto B 259 dX12_odds_280 (by decide) ?_
      refine g_sub (lv' := [(0, .ref a0), (11, .long y11), (13, .long (y13 + v_3)), (15, .int (x15 + 1))]) [2, 3, 1, 0] rfl ?_
      exact ih a0 y11 (y13 + v_3) (x15 + 1) M
set_option maxRecDepth 20000 in
set_option maxHeartbeats 2000000 in
theorem g12_odds_J253 {X : gX} {p : Program} {l : Launch} {e : Env} {s : State} {m : MethodId} {args : Array Value} {below : List Frame} {meth : Method} {c : Code} (B : gB X p (rm12_odds) s m args meth c RX12 cX12_odds 16 (rm12_odds)) (hS9 : gS X s) (hr : meth.sig.returnType = some .int) (a0 : Nat) (x3 : Int32) (y11 : Int64) (M : mMem) : GG X p l e (rm12_odds) s m args below meth c (gP X below args s 0 0 (fun r9 : (Int32 × mMem) => (some (.int r9.1), r9.2))) 16 0 0 253 [(0, .ref a0), (3, .int x3), (11, .long y11)] [] M (p12_odds_J253 a0 x3 y11 M) := by
  unfold p12_odds_J253
  refine g_lconst (v := 0) B dX12_odds_253 (by decide) ?_
  refine g_lstore (lv' := [(13, .long 0), (0, .ref a0), (3, .int x3), (11, .long y11)]) B dX12_odds_254 (by decide) [0, 1, 2, 3] rfl ?_
  refine g_iload_n B dX12_odds_256 2 rfl ?_
  refine g_istore (lv' := [(15, .int x3), (13, .long 0), (0, .ref a0), (3, .int x3), (11, .long y11)]) B dX12_odds_257 (by decide) [0, 1, 2, 3, 4] rfl ?_
  refine g_sub (lv' := [(0, .ref a0), (11, .long y11), (13, .long 0), (15, .int x3)]) [2, 4, 1, 0] rfl ?_
  exact (g12_odds_L259 B hS9 hr) gF a0 y11 0 x3 M
set_option maxRecDepth 20000 in
set_option maxHeartbeats 2000000 in
theorem g12_odds_J175 {X : gX} {p : Program} {l : Launch} {e : Env} {s : State} {m : MethodId} {args : Array Value} {below : List Frame} {meth : Method} {c : Code} (B : gB X p (rm12_odds) s m args meth c RX12 cX12_odds 16 (rm12_odds)) (hS9 : gS X s) (hr : meth.sig.returnType = some .int) (a0 : Nat) (x2 : Int32) (x3 : Int32) (y7 : Int64) (y9 : Int64) (y11 : Int64) (M : mMem) : GG X p l e (rm12_odds) s m args below meth c (gP X below args s 0 0 (fun r9 : (Int32 × mMem) => (some (.int r9.1), r9.2))) 16 0 0 175 [(0, .ref a0), (2, .int x2), (3, .int x3), (7, .long y7), (9, .long y9), (11, .long y11)] [] M (p12_odds_J175 a0 x2 x3 y7 y9 y11 M) := by
  unfold p12_odds_J175
  refine g_iconst (v := 0) B dX12_odds_175 (by decide) ?_
  refine g_istore (lv' := [(13, .int 0), (0, .ref a0), (2, .int x2), (3, .int x3), (7, .long y7), (9, .long y9), (11, .long y11)]) B dX12_odds_176 (by decide) [0, 1, 2, 3, 4, 5, 6] rfl ?_
  refine g_sub (lv' := [(0, .ref a0), (2, .int x2), (3, .int x3), (7, .long y7), (9, .long y9), (11, .long y11), (13, .int 0)]) [1, 2, 3, 4, 5, 6, 0] rfl ?_
  exact (g12_odds_L178 B hS9 hr p12_odds_J253 (fun e0 e1 e2 e3 => g12_odds_J253 B hS9 hr e0 e1 e2 e3)) gF a0 x2 x3 y7 y9 y11 0 M
set_option maxRecDepth 20000 in
set_option maxHeartbeats 2000000 in
theorem g12_odds_J119 {X : gX} {p : Program} {l : Launch} {e : Env} {s : State} {m : MethodId} {args : Array Value} {below : List Frame} {meth : Method} {c : Code} (B : gB X p (rm12_odds) s m args meth c RX12 cX12_odds 16 (rm12_odds)) (hS9 : gS X s) (hr : meth.sig.returnType = some .int) (a0 : Nat) (x1 : Int32) (x2 : Int32) (x3 : Int32) (x4 : Int32) (y5 : Int64) (M : mMem) : GG X p l e (rm12_odds) s m args below meth c (gP X below args s 0 0 (fun r9 : (Int32 × mMem) => (some (.int r9.1), r9.2))) 16 0 0 119 [(0, .ref a0), (1, .int x1), (2, .int x2), (3, .int x3), (4, .int x4), (5, .long y5)] [] M (p12_odds_J119 a0 x1 x2 x3 x4 y5 M) := by
  unfold p12_odds_J119
  refine g_aload_n B dX12_odds_119 0 rfl ?_
  refine g_iload_n B dX12_odds_120 1 rfl ?_
  refine g_iconst (v := 5) B dX12_odds_121 (by decide) ?_
  refine g_callV_ip [.int x1, .int 5] (ci := 11) (T0 := TX12) (N := 27) B hS9 mf12_of wd_1846 (gw B wp_61) wd_1844 (by decide) rfl (fun h => (gd_ne h).1) (c12_of X l a0 x1 5 M) (by decide) (by decide) (by decide) rfl (by decide) dX12_odds_122 rfl (fun v_1 => ?_)
  refine g_i2l B dX12_odds_125 ?_
  refine g_lload B dX12_odds_126 5 rfl ?_
  refine g_lmul B dX12_odds_128 ?_
  refine g_lstore (lv' := [(7, .long ((v_1.toInt64) * y5)), (0, .ref a0), (1, .int x1), (2, .int x2), (3, .int x3), (4, .int x4), (5, .long y5)]) B dX12_odds_129 (by decide) [0, 1, 2, 3, 4, 5, 6] rfl ?_
  refine g_ldc2 B dX12_odds_131 wd_2329 ?_
  refine g_iload B dX12_odds_134 5 rfl ?_
  refine g_i2l B dX12_odds_136 ?_
  refine g_lmul B dX12_odds_137 ?_
  refine g_lstore (lv' := [(9, .long ((10000 : Int64) * (x4.toInt64))), (7, .long ((v_1.toInt64) * y5)), (0, .ref a0), (1, .int x1), (2, .int x2), (3, .int x3), (4, .int x4), (5, .long y5)]) B dX12_odds_138 (by decide) [0, 1, 2, 3, 4, 5, 6, 7] rfl ?_
  refine g_lconst (v := 1) B dX12_odds_140 (by decide) ?_
  refine g_lstore (lv' := [(11, .long 1), (9, .long ((10000 : Int64) * (x4.toInt64))), (7, .long ((v_1.toInt64) * y5)), (0, .ref a0), (1, .int x1), (2, .int x2), (3, .int x3), (4, .int x4), (5, .long y5)]) B dX12_odds_141 (by decide) [0, 1, 2, 3, 4, 5, 6, 7, 8] rfl ?_
  refine g_iconst (v := 0) B dX12_odds_143 (by decide) ?_
  refine g_istore (lv' := [(13, .int 0), (11, .long 1), (9, .long ((10000 : Int64) * (x4.toInt64))), (7, .long ((v_1.toInt64) * y5)), (0, .ref a0), (1, .int x1), (2, .int x2), (3, .int x3), (4, .int x4), (5, .long y5)]) B dX12_odds_144 (by decide) [0, 1, 2, 3, 4, 5, 6, 7, 8, 9] rfl ?_
  refine g_sub (lv' := [(0, .ref a0), (2, .int x2), (3, .int x3), (7, .long ((v_1.toInt64) * y5)), (9, .long ((10000 : Int64) * (x4.toInt64))), (11, .long 1), (13, .int 0)]) [4, 6, 7, 3, 2, 1, 0] rfl ?_
  exact (g12_odds_L146 B hS9 hr p12_odds_J175 (fun e0 e1 e2 e3 e4 e5 e6 => g12_odds_J175 B hS9 hr e0 e1 e2 e3 e4 e5 e6)) gF a0 x2 x3 ((v_1.toInt64) * y5) ((10000 : Int64) * (x4.toInt64)) 1 0 M
set_option maxRecDepth 20000 in
set_option maxHeartbeats 2000000 in
theorem g12_odds_J42 {X : gX} {p : Program} {l : Launch} {e : Env} {s : State} {m : MethodId} {args : Array Value} {below : List Frame} {meth : Method} {c : Code} (B : gB X p (rm12_odds) s m args meth c RX12 cX12_odds 16 (rm12_odds)) (hS9 : gS X s) (hr : meth.sig.returnType = some .int) (a0 : Nat) (x1 : Int32) (x2 : Int32) (x3 : Int32) (b0 : Nat) (u1 : Int32) (M : mMem) : GG X p l e (rm12_odds) s m args below meth c (gP X below args s 0 0 (fun r9 : (Int32 × mMem) => (some (.int r9.1), r9.2))) 16 0 0 42 [(0, .ref a0), (1, .int x1), (2, .int x2), (3, .int x3)] [.int u1, .ref b0] M (p12_odds_J42 a0 x1 x2 x3 b0 u1 M) := by
  unfold p12_odds_J42
  refine g_iconst (v := 2) B dX12_odds_42 (by decide) ?_
  refine g_callV_iw [.int u1, .int 2] (ci := 11) (T0 := TX12) (N := 27) B hS9 mf12_throwsIf wd_1932 (gw B wp_78) wd_1930 (by decide) rfl (fun h => (gd_ne h).1) (c12_throwsIf X l b0 u1 2 M) (by decide) (by decide) (by decide) rfl (by decide) dX12_odds_43 rfl (fun q_1 => ?_)
  refine g_if_eq B 51 dX12_odds_46 (by decide) ?_ ?_
  · refine g_aload_n B dX12_odds_51 0 rfl ?_
    refine g_iload_n B dX12_odds_52 1 rfl ?_
    refine g_bipush (v := 8) B dX12_odds_53 (by decide) ?_
    refine g_callV_ip [.int x1, .int 8] (ci := 11) (T0 := TX12) (N := 27) B hS9 mf12_of wd_1846 (gw B wp_61) wd_1844 (by decide) rfl (fun h => (gd_ne h).1) (c12_of X l a0 x1 8 q_1.2) (by decide) (by decide) (by decide) rfl (by decide) dX12_odds_55 rfl (fun v_2 => ?_)
    refine g_callS_ip [.int v_2] B hS9 mfJ6_bitCount wd_1272 wd_2093 (cJ6_bitCount X l v_2 q_1.2) (by decide) (by decide) (by decide) rfl (by decide) dX12_odds_58 rfl (fun v_3 => ?_)
    refine g_istore (lv' := [(4, .int v_3), (0, .ref a0), (1, .int x1), (2, .int x2), (3, .int x3)]) B dX12_odds_61 (by decide) [0, 1, 2, 3, 4] rfl ?_
    refine g_iload B dX12_odds_63 0 rfl ?_
    refine g_if_ne B 70 dX12_odds_65 (by decide) ?_ ?_
    · refine g_iconst (v := 0) B dX12_odds_68 (by decide) ?_
      exact g_ireturn B hr rfl (by decide) (by decide) rfl dX12_odds_69
    · refine g_lconst (v := 0) B dX12_odds_70 (by decide) ?_
      refine g_lstore (lv' := [(5, .long 0), (4, .int v_3), (0, .ref a0), (1, .int x1), (2, .int x2), (3, .int x3)]) B dX12_odds_71 (by decide) [0, 1, 2, 3, 4, 5] rfl ?_
      refine g_iconst (v := 0) B dX12_odds_73 (by decide) ?_
      refine g_istore (lv' := [(7, .int 0), (5, .long 0), (4, .int v_3), (0, .ref a0), (1, .int x1), (2, .int x2), (3, .int x3)]) B dX12_odds_74 (by decide) [0, 1, 2, 3, 4, 5, 6] rfl ?_
      refine g_sub (lv' := [(0, .ref a0), (1, .int x1), (2, .int x2), (3, .int x3), (4, .int v_3), (5, .long 0), (7, .int 0)]) [3, 4, 5, 6, 2, 1, 0] rfl ?_
      exact (g12_odds_L76 B hS9 hr p12_odds_J119 (fun e0 e1 e2 e3 e4 e5 e6 => g12_odds_J119 B hS9 hr e0 e1 e2 e3 e4 e5 e6)) gF a0 x1 x2 x3 v_3 0 0 q_1.2
  · refine g_sub (lv' := []) [] rfl ?_
    exact g12_odds_J49 B hS9 hr q_1.2
set_option maxRecDepth 20000 in
set_option maxHeartbeats 2000000 in
theorem g12_odds_J37 {X : gX} {p : Program} {l : Launch} {e : Env} {s : State} {m : MethodId} {args : Array Value} {below : List Frame} {meth : Method} {c : Code} (B : gB X p (rm12_odds) s m args meth c RX12 cX12_odds 16 (rm12_odds)) (hS9 : gS X s) (hr : meth.sig.returnType = some .int) (a0 : Nat) (x1 : Int32) (x2 : Int32) (x3 : Int32) (b0 : Nat) (M : mMem) : GG X p l e (rm12_odds) s m args below meth c (gP X below args s 0 0 (fun r9 : (Int32 × mMem) => (some (.int r9.1), r9.2))) 16 0 0 37 [(0, .ref a0), (1, .int x1), (2, .int x2), (3, .int x3)] [.ref b0] M (p12_odds_J37 a0 x1 x2 x3 b0 M) := by
  unfold p12_odds_J37
  refine g_iconst (v := 1) B dX12_odds_37 (by decide) ?_
  refine g_goto B 42 dX12_odds_38 (by decide) ?_
  refine g_sub (lv' := [(0, .ref a0), (1, .int x1), (2, .int x2), (3, .int x3)]) [0, 1, 2, 3] rfl ?_
  exact g12_odds_J42 B hS9 hr a0 x1 x2 x3 b0 1 M
set_option maxRecDepth 20000 in
set_option maxHeartbeats 2000000 in
theorem g12_odds {X : gX} {p : Program} {l : Launch} {e : Env} {s : State} {m : MethodId} {args : Array Value} {below : List Frame} {meth : Method} {c : Code} (B : gB X p (rm12_odds) s m args meth c RX12 cX12_odds 16 (rm12_odds)) (hS9 : gS X s) (hr : meth.sig.returnType = some .int) (a0 : Nat) (x1 : Int32) (x2 : Int32) (x3 : Int32) (M : mMem) : GG X p l e (rm12_odds) s m args below meth c (gP X below args s 0 0 (fun r9 : (Int32 × mMem) => (some (.int r9.1), r9.2))) 16 0 0 0 [(0, .ref a0), (1, .int x1), (2, .int x2), (3, .int x3)] [] M (p12_odds a0 x1 x2 x3 M) := by
  unfold p12_odds
  refine g_gd ?_
  refine g_aload_n B dX12_odds_0 0 rfl ?_
  refine g_iconst (v := 0) B dX12_odds_1 (by decide) ?_
  refine g_putI (ci := 11) (T0 := TX12) (N := 27) B (by decide) rfl in_11 tyX12 tyX12_ok nmX12 (k := 0) (by decide) wd_1641 (fun _ h => h) rfl rfl (ty := .int) (by decide +kernel) rfl rfl dX12_odds_2 (fun M_1 => ?_)
  refine g_aload_n B dX12_odds_5 0 rfl ?_
  refine g_aload_n B dX12_odds_6 0 rfl ?_
  refine g_iload_n B dX12_odds_7 1 rfl ?_
  refine g_callV_ip [.int x1] (ci := 11) (T0 := TX12) (N := 27) B hS9 mf12_nobody wd_1944 (gw B wp_79) wd_1942 (by decide) rfl (fun h => (gd_ne h).1) (c12_nobody X l a0 x1 M_1) (by decide) (by decide) (by decide) rfl (Nat.le_of_ble_eq_true rfl) dX12_odds_8 rfl (fun v_2 => ?_)
  refine g_iconst (v := 1) B dX12_odds_11 (by decide) ?_
  refine g_callV_iw [.int v_2, .int 1] (ci := 11) (T0 := TX12) (N := 27) B hS9 mf12_throwsIf wd_1932 (gw B wp_78) wd_1930 (by decide) rfl (fun h => (gd_ne h).1) (c12_throwsIf X l a0 v_2 1 M_1) (by decide) (by decide) (by decide) rfl (by decide) dX12_odds_12 rfl (fun q_3 => ?_)
  refine g_if_ne B 49 dX12_odds_15 (by decide) ?_ ?_
  · refine g_aload_n B dX12_odds_18 0 rfl ?_
    refine g_iload_n B dX12_odds_19 2 rfl ?_
    refine g_iconst (v := 0) B dX12_odds_20 (by decide) ?_
    refine g_iconst (v := 3) B dX12_odds_21 (by decide) ?_
    refine g_callS_ip [.int x2, .int 0, .int 3] B hS9 mf12_in wd_1947 wd_1946 (c12_in X l x2 0 3 q_3.2) (by decide) (by decide) (by decide) rfl (Nat.le_of_ble_eq_true rfl) dX12_odds_22 rfl (fun v_4 => ?_)
    refine g_if_eq B 37 dX12_odds_25 (by decide) ?_ ?_
    · refine g_sub (lv' := [(0, .ref a0), (1, .int x1), (2, .int x2), (3, .int x3)]) [0, 1, 2, 3] rfl ?_
      exact g12_odds_J37 B hS9 hr a0 x1 x2 x3 a0 q_3.2
    · refine g_iload_n B dX12_odds_28 3 rfl ?_
      refine g_iconst (v := 0) B dX12_odds_29 (by decide) ?_
      refine g_iconst (v := 3) B dX12_odds_30 (by decide) ?_
      refine g_callS_ip [.int x3, .int 0, .int 3] B hS9 mf12_in wd_1947 wd_1946 (c12_in X l x3 0 3 q_3.2) (by decide) (by decide) (by decide) rfl (Nat.le_of_ble_eq_true rfl) dX12_odds_31 rfl (fun v_5 => ?_)
      refine g_if_ne B 41 dX12_odds_34 (by decide) ?_ ?_
      · refine g_sub (lv' := [(0, .ref a0), (1, .int x1), (2, .int x2), (3, .int x3)]) [0, 1, 2, 3] rfl ?_
        exact g12_odds_J37 B hS9 hr a0 x1 x2 x3 a0 q_3.2
      · refine g_iconst (v := 0) B dX12_odds_41 (by decide) ?_
        refine g_sub (lv' := [(0, .ref a0), (1, .int x1), (2, .int x2), (3, .int x3)]) [0, 1, 2, 3] rfl ?_
        exact g12_odds_J42 B hS9 hr a0 x1 x2 x3 a0 0 q_3.2
  · refine g_sub (lv' := []) [] rfl ?_
    exact g12_odds_J49 B hS9 hr q_3.2
theorem c12_odds (X : gX) (l : Launch) (a0 : Nat) (x1 : Int32) (x2 : Int32) (x3 : Int32) (M : mMem) : Con X l yX12_odds cX12_odds 16 (some .int) rm12_odds (fun r9 : (Int32 × mMem) => (some (.int r9.1), r9.2)) [.ref a0, .int x1, .int x2, .int x3] M (p12_odds a0 x1 x2 x3 M) := g_con (own := RX12) (by decide +kernel) rfl (Nat.le_of_ble_eq_true rfl) (fun p e s m args below meth c B hS9 hr hn => g12_odds B hS9 hr a0 x1 x2 x3 M)
theorem mf12_twins : gMF yX12_twins cX12_twins 4 (some .int) 0 := ⟨wd_2333, wd_13, ⟨by decide, by decide⟩, by decide +kernel⟩
set_option maxRecDepth 20000 in
set_option maxHeartbeats 2000000 in
theorem g12_twins_J45 {X : gX} {p : Program} {l : Launch} {e : Env} {s : State} {m : MethodId} {args : Array Value} {below : List Frame} {meth : Method} {c : Code} (B : gB X p (rm12_twins) s m args meth c RX12 cX12_twins 4 (rm12_twins)) (hS9 : gS X s) (hr : meth.sig.returnType = some .int) (rec19 : Nat → Int32 → Int32 → Int32 → mMem → Option (Int32 × mMem)) (hrec19 : ∀ (a0 : Nat) (x1 : Int32) (x2 : Int32) (x3 : Int32) (M : mMem), GG X p l e (rm12_twins) s m args below meth c (gP X below args s 0 0 (fun r9 : (Int32 × mMem) => (some (.int r9.1), r9.2))) 4 0 0 19 [(0, .ref a0), (1, .int x1), (2, .int x2), (3, .int x3)] [] M (rec19 a0 x1 x2 x3 M)) (a0 : Nat) (x2 : Int32) (x3 : Int32) (u0 : Int32) (u1 : Int32) (M : mMem) : GG X p l e (rm12_twins) s m args below meth c (gP X below args s 0 0 (fun r9 : (Int32 × mMem) => (some (.int r9.1), r9.2))) 4 0 0 45 [(0, .ref a0), (2, .int x2), (3, .int x3)] [.int u1, .int u0] M (p12_twins_J45 rec19 a0 x2 x3 u0 u1 M) := by
  unfold p12_twins_J45
  refine g_iadd B dX12_twins_45 ?_
  refine g_istore_n (lv' := [(1, .int (u0 + u1)), (0, .ref a0), (2, .int x2), (3, .int x3)]) B dX12_twins_46 (by decide) [0, 1, 2, 3] rfl ?_
  refine g_iinc (v := (x3 + 1)) (lv' := [(3, .int (x3 + 1)), (1, .int (u0 + u1)), (0, .ref a0), (2, .int x2)]) B dX12_twins_47 3 rfl rfl (by decide) [0, 1, 2, 3] rfl ?_
  refine g_goto B 19 dX12_twins_50 (by decide) ?_
  refine g_sub (lv' := [(0, .ref a0), (1, .int (u0 + u1)), (2, .int x2), (3, .int (x3 + 1))]) [2, 1, 3, 0] rfl ?_
  exact hrec19 a0 (u0 + u1) x2 (x3 + 1) M
set_option maxRecDepth 20000 in
set_option maxHeartbeats 2000000 in
theorem g12_twins_L19 {X : gX} {p : Program} {l : Launch} {e : Env} {s : State} {m : MethodId} {args : Array Value} {below : List Frame} {meth : Method} {c : Code} (B : gB X p (rm12_twins) s m args meth c RX12 cX12_twins 4 (rm12_twins)) (hS9 : gS X s) (hr : meth.sig.returnType = some .int) (k53 : Nat → Int32 → Int32 → mMem → Option (Int32 × mMem)) (hk53 : ∀ (a0 : Nat) (x1 : Int32) (x2 : Int32) (M : mMem), GG X p l e (rm12_twins) s m args below meth c (gP X below args s 0 0 (fun r9 : (Int32 × mMem) => (some (.int r9.1), r9.2))) 4 0 0 53 [(0, .ref a0), (1, .int x1), (2, .int x2)] [] M (k53 a0 x1 x2 M)) : ∀ (n : Nat) (a0 : Nat) (x1 : Int32) (x2 : Int32) (x3 : Int32) (M : mMem), GG X p l e (rm12_twins) s m args below meth c (gP X below args s 0 0 (fun r9 : (Int32 × mMem) => (some (.int r9.1), r9.2))) 4 0 0 19 [(0, .ref a0), (1, .int x1), (2, .int x2), (3, .int x3)] [] M (p12_twins_L19 k53 n a0 x1 x2 x3 M) := by
  intro n
  induction n with
  | zero => intro a0 x1 x2 x3 M; exact g_none
  | succ n ih =>
    intro a0 x1 x2 x3 M
    rw [p12_twins_L19]
    refine g_iload_n B dX12_twins_19 3 rfl ?_
    refine g_iload_n B dX12_twins_20 2 rfl ?_
    refine g_icmp_ge B 53 dX12_twins_21 (by decide) ?_ ?_
    · refine g_iload_n B dX12_twins_24 1 rfl ?_
      refine g_aload_n B dX12_twins_25 0 rfl ?_
      refine g_iload_n B dX12_twins_26 2 rfl ?_
      refine g_iconst (v := 0) B dX12_twins_27 (by decide) ?_
      refine g_callV_ip [.int x2, .int 0] (ci := 11) (T0 := TX12) (N := 27) B hS9 mf12_of wd_1846 (gw B wp_61) wd_1844 (by decide) rfl (fun h => (gd_ne h).1) (c12_of X l a0 x2 0 M) (by decide) (by decide) (by decide) rfl (Nat.le_of_ble_eq_true rfl) dX12_twins_28 rfl (fun v_1 => ?_)
      refine g_aload_n B dX12_twins_31 0 rfl ?_
      refine g_iload_n B dX12_twins_32 3 rfl ?_
      refine g_iconst (v := 0) B dX12_twins_33 (by decide) ?_
      refine g_callV_ip [.int x3, .int 0] (ci := 11) (T0 := TX12) (N := 27) B hS9 mf12_of wd_1846 (gw B wp_61) wd_1844 (by decide) rfl (fun h => (gd_ne h).1) (c12_of X l a0 x3 0 M) (by decide) (by decide) (by decide) rfl (Nat.le_of_ble_eq_true rfl) dX12_twins_34 rfl (fun v_2 => ?_)
      refine g_icmp_ne B 44 dX12_twins_37 (by decide) ?_ ?_
      · refine g_iconst (v := 1) B dX12_twins_40 (by decide) ?_
        refine g_goto B 45 dX12_twins_41 (by decide) ?_
        refine g_sub (lv' := [(0, .ref a0), (2, .int x2), (3, .int x3)]) [0, 2, 3] rfl ?_
        exact g12_twins_J45 B hS9 hr (p12_twins_L19 k53 n) ih a0 x2 x3 x1 1 M
      · refine g_iconst (v := 0) B dX12_twins_44 (by decide) ?_
        refine g_sub (lv' := [(0, .ref a0), (2, .int x2), (3, .int x3)]) [0, 2, 3] rfl ?_
        exact g12_twins_J45 B hS9 hr (p12_twins_L19 k53 n) ih a0 x2 x3 x1 0 M
    · refine g_sub (lv' := [(0, .ref a0), (1, .int x1), (2, .int x2)]) [0, 1, 2] rfl ?_
      exact hk53 a0 x1 x2 M
set_option maxRecDepth 20000 in
set_option maxHeartbeats 2000000 in
theorem g12_twins_J53 {X : gX} {p : Program} {l : Launch} {e : Env} {s : State} {m : MethodId} {args : Array Value} {below : List Frame} {meth : Method} {c : Code} (B : gB X p (rm12_twins) s m args meth c RX12 cX12_twins 4 (rm12_twins)) (hS9 : gS X s) (hr : meth.sig.returnType = some .int) (rec9 : Nat → Int32 → Int32 → mMem → Option (Int32 × mMem)) (hrec9 : ∀ (a0 : Nat) (x1 : Int32) (x2 : Int32) (M : mMem), GG X p l e (rm12_twins) s m args below meth c (gP X below args s 0 0 (fun r9 : (Int32 × mMem) => (some (.int r9.1), r9.2))) 4 0 0 9 [(0, .ref a0), (1, .int x1), (2, .int x2)] [] M (rec9 a0 x1 x2 M)) (a0 : Nat) (x1 : Int32) (x2 : Int32) (M : mMem) : GG X p l e (rm12_twins) s m args below meth c (gP X below args s 0 0 (fun r9 : (Int32 × mMem) => (some (.int r9.1), r9.2))) 4 0 0 53 [(0, .ref a0), (1, .int x1), (2, .int x2)] [] M (p12_twins_J53 rec9 a0 x1 x2 M) := by
  unfold p12_twins_J53
  refine g_iinc (v := (x2 + 1)) (lv' := [(2, .int (x2 + 1)), (0, .ref a0), (1, .int x1)]) B dX12_twins_53 2 rfl rfl (by decide) [0, 1, 2] rfl ?_
  refine g_goto B 9 dX12_twins_56 (by decide) ?_
  refine g_sub (lv' := [(0, .ref a0), (1, .int x1), (2, .int (x2 + 1))]) [1, 2, 0] rfl ?_
  exact hrec9 a0 x1 (x2 + 1) M
set_option maxRecDepth 20000 in
set_option maxHeartbeats 2000000 in
theorem g12_twins_L9 {X : gX} {p : Program} {l : Launch} {e : Env} {s : State} {m : MethodId} {args : Array Value} {below : List Frame} {meth : Method} {c : Code} (B : gB X p (rm12_twins) s m args meth c RX12 cX12_twins 4 (rm12_twins)) (hS9 : gS X s) (hr : meth.sig.returnType = some .int) : ∀ (n : Nat) (a0 : Nat) (x1 : Int32) (x2 : Int32) (M : mMem), GG X p l e (rm12_twins) s m args below meth c (gP X below args s 0 0 (fun r9 : (Int32 × mMem) => (some (.int r9.1), r9.2))) 4 0 0 9 [(0, .ref a0), (1, .int x1), (2, .int x2)] [] M (p12_twins_L9 n a0 x1 x2 M) := by
  intro n
  induction n with
  | zero => intro a0 x1 x2 M; exact g_none
  | succ n ih =>
    intro a0 x1 x2 M
    rw [p12_twins_L9]
    refine g_iload_n B dX12_twins_9 2 rfl ?_
    refine g_aload_n B dX12_twins_10 0 rfl ?_
    refine g_callV_ip [] (ci := 11) (T0 := TX12) (N := 27) B hS9 mf12_people wd_1793 (gw B wp_51) wd_1791 (by decide) rfl (fun h => (gd_ne h).1) (c12_people X l a0 M) (by decide) (by decide) (by decide) rfl (Nat.le_of_ble_eq_true rfl) dX12_twins_11 rfl (fun v_1 => ?_)
    refine g_icmp_ge B 59 dX12_twins_14 (by decide) ?_ ?_
    · refine g_iconst (v := 0) B dX12_twins_17 (by decide) ?_
      refine g_istore_n (lv' := [(3, .int 0), (0, .ref a0), (1, .int x1), (2, .int x2)]) B dX12_twins_18 (by decide) [0, 1, 2, 3] rfl ?_
      refine g_sub (lv' := [(0, .ref a0), (1, .int x1), (2, .int x2), (3, .int 0)]) [1, 2, 3, 0] rfl ?_
      exact (g12_twins_L19 B hS9 hr (p12_twins_J53 (p12_twins_L9 n)) (fun e0 e1 e2 e3 => g12_twins_J53 B hS9 hr (p12_twins_L9 n) ih e0 e1 e2 e3)) gF a0 x1 x2 0 M
    · refine g_iload_n B dX12_twins_59 1 rfl ?_
      exact g_ireturn B hr rfl (by decide) (by decide) rfl dX12_twins_60
set_option maxRecDepth 20000 in
set_option maxHeartbeats 2000000 in
theorem g12_twins {X : gX} {p : Program} {l : Launch} {e : Env} {s : State} {m : MethodId} {args : Array Value} {below : List Frame} {meth : Method} {c : Code} (B : gB X p (rm12_twins) s m args meth c RX12 cX12_twins 4 (rm12_twins)) (hS9 : gS X s) (hr : meth.sig.returnType = some .int) (a0 : Nat) (M : mMem) : GG X p l e (rm12_twins) s m args below meth c (gP X below args s 0 0 (fun r9 : (Int32 × mMem) => (some (.int r9.1), r9.2))) 4 0 0 0 [(0, .ref a0)] [] M (p12_twins a0 M) := by
  unfold p12_twins
  refine g_gd ?_
  refine g_aload_n B dX12_twins_0 0 rfl ?_
  refine g_iconst (v := 0) B dX12_twins_1 (by decide) ?_
  refine g_putI (ci := 11) (T0 := TX12) (N := 27) B (by decide) rfl in_11 tyX12 tyX12_ok nmX12 (k := 0) (by decide) wd_1641 (fun _ h => h) rfl rfl (ty := .int) (by decide +kernel) rfl rfl dX12_twins_2 (fun M_1 => ?_)
  refine g_iconst (v := 0) B dX12_twins_5 (by decide) ?_
  refine g_istore_n (lv' := [(1, .int 0), (0, .ref a0)]) B dX12_twins_6 (by decide) [0, 1] rfl ?_
  refine g_iconst (v := 0) B dX12_twins_7 (by decide) ?_
  refine g_istore_n (lv' := [(2, .int 0), (1, .int 0), (0, .ref a0)]) B dX12_twins_8 (by decide) [0, 1, 2] rfl ?_
  refine g_sub (lv' := [(0, .ref a0), (1, .int 0), (2, .int 0)]) [2, 1, 0] rfl ?_
  exact (g12_twins_L9 B hS9 hr) gF a0 0 0 M_1
theorem c12_twins (X : gX) (l : Launch) (a0 : Nat) (M : mMem) : Con X l yX12_twins cX12_twins 4 (some .int) rm12_twins (fun r9 : (Int32 × mMem) => (some (.int r9.1), r9.2)) [.ref a0] M (p12_twins a0 M) := g_con (own := RX12) (by decide +kernel) rfl (Nat.le_of_ble_eq_true rfl) (fun p e s m args below meth c B hS9 hr hn => g12_twins B hS9 hr a0 M)
theorem mf12_agesOfAll : gMF yX12_agesOfAll cX12_agesOfAll 1 (some .int) 0 := ⟨wd_2341, wd_13, ⟨by decide, by decide⟩, by decide +kernel⟩
set_option maxRecDepth 20000 in
set_option maxHeartbeats 2000000 in
theorem g12_agesOfAll {X : gX} {p : Program} {l : Launch} {e : Env} {s : State} {m : MethodId} {args : Array Value} {below : List Frame} {meth : Method} {c : Code} (B : gB X p (rm12_agesOfAll) s m args meth c RX12 cX12_agesOfAll 1 (rm12_agesOfAll)) (hS9 : gS X s) (hr : meth.sig.returnType = some .int) {M : mMem} (a0 : Nat) : GG X p l e (rm12_agesOfAll) s m args below meth c (gP X below args s 0 0 (fun r9 : Int32 => (some (.int r9), M))) 1 0 0 0 [(0, .ref a0)] [] M (p12_agesOfAll a0 M) := by
  unfold p12_agesOfAll
  refine g_gd ?_
  refine g_aload_n B dX12_agesOfAll_0 0 rfl ?_
  refine g_iconst (v := 1) B dX12_agesOfAll_1 (by decide) ?_
  refine g_aload_n B dX12_agesOfAll_2 0 rfl ?_
  refine g_callV_ip [] (ci := 11) (T0 := TX12) (N := 27) B hS9 mf12_people wd_1793 (gw B wp_51) wd_1791 (by decide) rfl (fun h => (gd_ne h).1) (c12_people X l a0 M) (by decide) (by decide) (by decide) rfl (Nat.le_of_ble_eq_true rfl) dX12_agesOfAll_3 rfl (fun v_1 => ?_)
  refine g_ishl B dX12_agesOfAll_6 ?_
  refine g_iconst (v := 1) B dX12_agesOfAll_7 (by decide) ?_
  refine g_isub B dX12_agesOfAll_8 ?_
  refine g_callV_ip [.int (((1 : Int32) <<< (v_1 &&& 31)) - 1)] (ci := 11) (T0 := TX12) (N := 27) B hS9 mf12_agesOf wd_2299 (gw B wp_127) wd_2297 (by decide) rfl (fun h => (gd_ne h).1) (c12_agesOf X l a0 (((1 : Int32) <<< (v_1 &&& 31)) - 1) M) (by decide) (by decide) (by decide) rfl (by decide) dX12_agesOfAll_9 rfl (fun v_2 => ?_)
  exact g_ireturn B hr rfl (by decide) (by decide) rfl dX12_agesOfAll_12
theorem c12_agesOfAll (X : gX) (l : Launch) (a0 : Nat) (M : mMem) : Con X l yX12_agesOfAll cX12_agesOfAll 1 (some .int) rm12_agesOfAll (fun r9 : Int32 => (some (.int r9), M)) [.ref a0] M (p12_agesOfAll a0 M) := g_con (own := RX12) (by decide +kernel) rfl (Nat.le_of_ble_eq_true rfl) (fun p e s m args below meth c B hS9 hr hn => g12_agesOfAll B hS9 hr a0)
theorem mf12_mean : gMF yX12_mean cX12_mean 1 (some .int) 0 := ⟨wd_2337, wd_13, ⟨by decide, by decide⟩, by decide +kernel⟩
set_option maxRecDepth 20000 in
set_option maxHeartbeats 2000000 in
theorem g12_mean_J25 {X : gX} {p : Program} {l : Launch} {e : Env} {s : State} {m : MethodId} {args : Array Value} {below : List Frame} {meth : Method} {c : Code} (B : gB X p (rm12_mean) s m args meth c RX12 cX12_mean 1 (rm12_mean)) (hS9 : gS X s) (hr : meth.sig.returnType = some .int) (u0 : Int32) (M : mMem) : GG X p l e (rm12_mean) s m args below meth c (gP X below args s 0 0 (fun r9 : (Int32 × mMem) => (some (.int r9.1), r9.2))) 1 0 0 25 [] [.int u0] M (p12_mean_J25 u0 M) := by
  unfold p12_mean_J25
  exact g_ireturn B hr rfl (by decide) (by decide) rfl dX12_mean_25
set_option maxRecDepth 20000 in
set_option maxHeartbeats 2000000 in
theorem g12_mean {X : gX} {p : Program} {l : Launch} {e : Env} {s : State} {m : MethodId} {args : Array Value} {below : List Frame} {meth : Method} {c : Code} (B : gB X p (rm12_mean) s m args meth c RX12 cX12_mean 1 (rm12_mean)) (hS9 : gS X s) (hr : meth.sig.returnType = some .int) (a0 : Nat) (M : mMem) : GG X p l e (rm12_mean) s m args below meth c (gP X below args s 0 0 (fun r9 : (Int32 × mMem) => (some (.int r9.1), r9.2))) 1 0 0 0 [(0, .ref a0)] [] M (p12_mean a0 M) := by
  unfold p12_mean
  refine g_gd ?_
  refine g_aload_n B dX12_mean_0 0 rfl ?_
  refine g_iconst (v := 0) B dX12_mean_1 (by decide) ?_
  refine g_putI (ci := 11) (T0 := TX12) (N := 27) B (by decide) rfl in_11 tyX12 tyX12_ok nmX12 (k := 0) (by decide) wd_1641 (fun _ h => h) rfl rfl (ty := .int) (by decide +kernel) rfl rfl dX12_mean_2 (fun M_1 => ?_)
  refine g_aload_n B dX12_mean_5 0 rfl ?_
  refine g_callV_ip [] (ci := 11) (T0 := TX12) (N := 27) B hS9 mf12_people wd_1793 (gw B wp_51) wd_1791 (by decide) rfl (fun h => (gd_ne h).1) (c12_people X l a0 M_1) (by decide) (by decide) (by decide) rfl (by decide) dX12_mean_6 rfl (fun v_2 => ?_)
  refine g_if_ne B 16 dX12_mean_9 (by decide) ?_ ?_
  · refine g_iconst (v := 0) B dX12_mean_12 (by decide) ?_
    refine g_goto B 25 dX12_mean_13 (by decide) ?_
    refine g_sub (lv' := []) [] rfl ?_
    exact g12_mean_J25 B hS9 hr 0 M_1
  · refine g_aload_n B dX12_mean_16 0 rfl ?_
    refine g_callV_ip [] (ci := 11) (T0 := TX12) (N := 27) B hS9 mf12_agesOfAll wd_2340 (gw B wp_130) wd_2338 (by decide) rfl (fun h => (gd_ne h).1) (c12_agesOfAll X l a0 M_1) (by decide) (by decide) (by decide) rfl (by decide) dX12_mean_17 rfl (fun v_3 => ?_)
    refine g_aload_n B dX12_mean_20 0 rfl ?_
    refine g_callV_ip [] (ci := 11) (T0 := TX12) (N := 27) B hS9 mf12_people wd_1793 (gw B wp_51) wd_1791 (by decide) rfl (fun h => (gd_ne h).1) (c12_people X l a0 M_1) (by decide) (by decide) (by decide) rfl (Nat.le_of_ble_eq_true rfl) dX12_mean_21 rfl (fun v_4 => ?_)
    refine g_idiv B dX12_mean_24 (fun v_5 => ?_)
    refine g_sub (lv' := []) [] rfl ?_
    exact g12_mean_J25 B hS9 hr v_5 M_1
theorem c12_mean (X : gX) (l : Launch) (a0 : Nat) (M : mMem) : Con X l yX12_mean cX12_mean 1 (some .int) rm12_mean (fun r9 : (Int32 × mMem) => (some (.int r9.1), r9.2)) [.ref a0] M (p12_mean a0 M) := g_con (own := RX12) (by decide +kernel) rfl (Nat.le_of_ble_eq_true rfl) (fun p e s m args below meth c B hS9 hr hn => g12_mean B hS9 hr a0 M)
theorem mf12_oldest : gMF yX12_oldest cX12_oldest 3 (some .int) 0 := ⟨wd_2345, wd_13, ⟨by decide, by decide⟩, by decide +kernel⟩
set_option maxRecDepth 20000 in
set_option maxHeartbeats 2000000 in
theorem g12_oldest_J39 {X : gX} {p : Program} {l : Launch} {e : Env} {s : State} {m : MethodId} {args : Array Value} {below : List Frame} {meth : Method} {c : Code} (B : gB X p (rm12_oldest) s m args meth c RX12 cX12_oldest 3 (rm12_oldest)) (hS9 : gS X s) (hr : meth.sig.returnType = some .int) (rec9 : Nat → Int32 → Int32 → mMem → Option (Int32 × mMem)) (hrec9 : ∀ (a0 : Nat) (x1 : Int32) (x2 : Int32) (M : mMem), GG X p l e (rm12_oldest) s m args below meth c (gP X below args s 0 0 (fun r9 : (Int32 × mMem) => (some (.int r9.1), r9.2))) 3 0 0 9 [(0, .ref a0), (1, .int x1), (2, .int x2)] [] M (rec9 a0 x1 x2 M)) (a0 : Nat) (x1 : Int32) (x2 : Int32) (M : mMem) : GG X p l e (rm12_oldest) s m args below meth c (gP X below args s 0 0 (fun r9 : (Int32 × mMem) => (some (.int r9.1), r9.2))) 3 0 0 39 [(0, .ref a0), (1, .int x1), (2, .int x2)] [] M (p12_oldest_J39 rec9 a0 x1 x2 M) := by
  unfold p12_oldest_J39
  refine g_iinc (v := (x2 + 1)) (lv' := [(2, .int (x2 + 1)), (0, .ref a0), (1, .int x1)]) B dX12_oldest_39 2 rfl rfl (by decide) [0, 1, 2] rfl ?_
  refine g_goto B 9 dX12_oldest_42 (by decide) ?_
  refine g_sub (lv' := [(0, .ref a0), (1, .int x1), (2, .int (x2 + 1))]) [1, 2, 0] rfl ?_
  exact hrec9 a0 x1 (x2 + 1) M
set_option maxRecDepth 20000 in
set_option maxHeartbeats 2000000 in
theorem g12_oldest_J37 {X : gX} {p : Program} {l : Launch} {e : Env} {s : State} {m : MethodId} {args : Array Value} {below : List Frame} {meth : Method} {c : Code} (B : gB X p (rm12_oldest) s m args meth c RX12 cX12_oldest 3 (rm12_oldest)) (hS9 : gS X s) (hr : meth.sig.returnType = some .int) (rec9 : Nat → Int32 → Int32 → mMem → Option (Int32 × mMem)) (hrec9 : ∀ (a0 : Nat) (x1 : Int32) (x2 : Int32) (M : mMem), GG X p l e (rm12_oldest) s m args below meth c (gP X below args s 0 0 (fun r9 : (Int32 × mMem) => (some (.int r9.1), r9.2))) 3 0 0 9 [(0, .ref a0), (1, .int x1), (2, .int x2)] [] M (rec9 a0 x1 x2 M)) (a0 : Nat) (x2 : Int32) (M : mMem) : GG X p l e (rm12_oldest) s m args below meth c (gP X below args s 0 0 (fun r9 : (Int32 × mMem) => (some (.int r9.1), r9.2))) 3 0 0 37 [(0, .ref a0), (2, .int x2)] [] M (p12_oldest_J37 rec9 a0 x2 M) := by
  unfold p12_oldest_J37
  refine g_iload_n B dX12_oldest_37 1 rfl ?_
  refine g_istore_n (lv' := [(1, .int x2), (0, .ref a0), (2, .int x2)]) B dX12_oldest_38 (by decide) [0, 1, 2] rfl ?_
  refine g_sub (lv' := [(0, .ref a0), (1, .int x2), (2, .int x2)]) [1, 0, 2] rfl ?_
  exact g12_oldest_J39 B hS9 hr rec9 hrec9 a0 x2 x2 M
set_option maxRecDepth 20000 in
set_option maxHeartbeats 2000000 in
theorem g12_oldest_L9 {X : gX} {p : Program} {l : Launch} {e : Env} {s : State} {m : MethodId} {args : Array Value} {below : List Frame} {meth : Method} {c : Code} (B : gB X p (rm12_oldest) s m args meth c RX12 cX12_oldest 3 (rm12_oldest)) (hS9 : gS X s) (hr : meth.sig.returnType = some .int) : ∀ (n : Nat) (a0 : Nat) (x1 : Int32) (x2 : Int32) (M : mMem), GG X p l e (rm12_oldest) s m args below meth c (gP X below args s 0 0 (fun r9 : (Int32 × mMem) => (some (.int r9.1), r9.2))) 3 0 0 9 [(0, .ref a0), (1, .int x1), (2, .int x2)] [] M (p12_oldest_L9 n a0 x1 x2 M) := by
  intro n
  induction n with
  | zero => intro a0 x1 x2 M; exact g_none
  | succ n ih =>
    intro a0 x1 x2 M
    rw [p12_oldest_L9]
    refine g_iload_n B dX12_oldest_9 2 rfl ?_
    refine g_aload_n B dX12_oldest_10 0 rfl ?_
    refine g_callV_ip [] (ci := 11) (T0 := TX12) (N := 27) B hS9 mf12_people wd_1793 (gw B wp_51) wd_1791 (by decide) rfl (fun h => (gd_ne h).1) (c12_people X l a0 M) (by decide) (by decide) (by decide) rfl (Nat.le_of_ble_eq_true rfl) dX12_oldest_11 rfl (fun v_1 => ?_)
    refine g_icmp_ge B 45 dX12_oldest_14 (by decide) ?_ ?_
    · refine g_iload_n B dX12_oldest_17 1 rfl ?_
      refine g_iconst (v := (-1)) B dX12_oldest_18 (by decide) ?_
      refine g_icmp_eq B 37 dX12_oldest_19 (by decide) ?_ ?_
      · refine g_sub (lv' := [(0, .ref a0), (2, .int x2)]) [0, 2] rfl ?_
        exact g12_oldest_J37 B hS9 hr (p12_oldest_L9 n) ih a0 x2 M
      · refine g_aload_n B dX12_oldest_22 0 rfl ?_
        refine g_iload_n B dX12_oldest_23 2 rfl ?_
        refine g_iconst (v := 0) B dX12_oldest_24 (by decide) ?_
        refine g_callV_ip [.int x2, .int 0] (ci := 11) (T0 := TX12) (N := 27) B hS9 mf12_of wd_1846 (gw B wp_61) wd_1844 (by decide) rfl (fun h => (gd_ne h).1) (c12_of X l a0 x2 0 M) (by decide) (by decide) (by decide) rfl (by decide) dX12_oldest_25 rfl (fun v_2 => ?_)
        refine g_aload_n B dX12_oldest_28 0 rfl ?_
        refine g_iload_n B dX12_oldest_29 1 rfl ?_
        refine g_iconst (v := 0) B dX12_oldest_30 (by decide) ?_
        refine g_callV_ip [.int x1, .int 0] (ci := 11) (T0 := TX12) (N := 27) B hS9 mf12_of wd_1846 (gw B wp_61) wd_1844 (by decide) rfl (fun h => (gd_ne h).1) (c12_of X l a0 x1 0 M) (by decide) (by decide) (by decide) rfl (Nat.le_of_ble_eq_true rfl) dX12_oldest_31 rfl (fun v_3 => ?_)
        refine g_icmp_le B 39 dX12_oldest_34 (by decide) ?_ ?_
        · refine g_sub (lv' := [(0, .ref a0), (2, .int x2)]) [0, 2] rfl ?_
          exact g12_oldest_J37 B hS9 hr (p12_oldest_L9 n) ih a0 x2 M
        · refine g_sub (lv' := [(0, .ref a0), (1, .int x1), (2, .int x2)]) [0, 1, 2] rfl ?_
          exact g12_oldest_J39 B hS9 hr (p12_oldest_L9 n) ih a0 x1 x2 M
    · refine g_iload_n B dX12_oldest_45 1 rfl ?_
      exact g_ireturn B hr rfl (by decide) (by decide) rfl dX12_oldest_46
set_option maxRecDepth 20000 in
set_option maxHeartbeats 2000000 in
theorem g12_oldest {X : gX} {p : Program} {l : Launch} {e : Env} {s : State} {m : MethodId} {args : Array Value} {below : List Frame} {meth : Method} {c : Code} (B : gB X p (rm12_oldest) s m args meth c RX12 cX12_oldest 3 (rm12_oldest)) (hS9 : gS X s) (hr : meth.sig.returnType = some .int) (a0 : Nat) (M : mMem) : GG X p l e (rm12_oldest) s m args below meth c (gP X below args s 0 0 (fun r9 : (Int32 × mMem) => (some (.int r9.1), r9.2))) 3 0 0 0 [(0, .ref a0)] [] M (p12_oldest a0 M) := by
  unfold p12_oldest
  refine g_gd ?_
  refine g_aload_n B dX12_oldest_0 0 rfl ?_
  refine g_iconst (v := 0) B dX12_oldest_1 (by decide) ?_
  refine g_putI (ci := 11) (T0 := TX12) (N := 27) B (by decide) rfl in_11 tyX12 tyX12_ok nmX12 (k := 0) (by decide) wd_1641 (fun _ h => h) rfl rfl (ty := .int) (by decide +kernel) rfl rfl dX12_oldest_2 (fun M_1 => ?_)
  refine g_iconst (v := (-1)) B dX12_oldest_5 (by decide) ?_
  refine g_istore_n (lv' := [(1, .int (-1)), (0, .ref a0)]) B dX12_oldest_6 (by decide) [0, 1] rfl ?_
  refine g_iconst (v := 0) B dX12_oldest_7 (by decide) ?_
  refine g_istore_n (lv' := [(2, .int 0), (1, .int (-1)), (0, .ref a0)]) B dX12_oldest_8 (by decide) [0, 1, 2] rfl ?_
  refine g_sub (lv' := [(0, .ref a0), (1, .int (-1)), (2, .int 0)]) [2, 1, 0] rfl ?_
  exact (g12_oldest_L9 B hS9 hr) gF a0 (-1) 0 M_1
theorem c12_oldest (X : gX) (l : Launch) (a0 : Nat) (M : mMem) : Con X l yX12_oldest cX12_oldest 3 (some .int) rm12_oldest (fun r9 : (Int32 × mMem) => (some (.int r9.1), r9.2)) [.ref a0] M (p12_oldest a0 M) := g_con (own := RX12) (by decide +kernel) rfl (Nat.le_of_ble_eq_true rfl) (fun p e s m args below meth c B hS9 hr hn => g12_oldest B hS9 hr a0 M)
theorem mf12_youngest : gMF yX12_youngest cX12_youngest 3 (some .int) 0 := ⟨wd_2349, wd_13, ⟨by decide, by decide⟩, by decide +kernel⟩
set_option maxRecDepth 20000 in
set_option maxHeartbeats 2000000 in
theorem g12_youngest_J39 {X : gX} {p : Program} {l : Launch} {e : Env} {s : State} {m : MethodId} {args : Array Value} {below : List Frame} {meth : Method} {c : Code} (B : gB X p (rm12_youngest) s m args meth c RX12 cX12_youngest 3 (rm12_youngest)) (hS9 : gS X s) (hr : meth.sig.returnType = some .int) (rec9 : Nat → Int32 → Int32 → mMem → Option (Int32 × mMem)) (hrec9 : ∀ (a0 : Nat) (x1 : Int32) (x2 : Int32) (M : mMem), GG X p l e (rm12_youngest) s m args below meth c (gP X below args s 0 0 (fun r9 : (Int32 × mMem) => (some (.int r9.1), r9.2))) 3 0 0 9 [(0, .ref a0), (1, .int x1), (2, .int x2)] [] M (rec9 a0 x1 x2 M)) (a0 : Nat) (x1 : Int32) (x2 : Int32) (M : mMem) : GG X p l e (rm12_youngest) s m args below meth c (gP X below args s 0 0 (fun r9 : (Int32 × mMem) => (some (.int r9.1), r9.2))) 3 0 0 39 [(0, .ref a0), (1, .int x1), (2, .int x2)] [] M (p12_youngest_J39 rec9 a0 x1 x2 M) := by
  unfold p12_youngest_J39
  refine g_iinc (v := (x2 + 1)) (lv' := [(2, .int (x2 + 1)), (0, .ref a0), (1, .int x1)]) B dX12_youngest_39 2 rfl rfl (by decide) [0, 1, 2] rfl ?_
  refine g_goto B 9 dX12_youngest_42 (by decide) ?_
  refine g_sub (lv' := [(0, .ref a0), (1, .int x1), (2, .int (x2 + 1))]) [1, 2, 0] rfl ?_
  exact hrec9 a0 x1 (x2 + 1) M
set_option maxRecDepth 20000 in
set_option maxHeartbeats 2000000 in
theorem g12_youngest_J37 {X : gX} {p : Program} {l : Launch} {e : Env} {s : State} {m : MethodId} {args : Array Value} {below : List Frame} {meth : Method} {c : Code} (B : gB X p (rm12_youngest) s m args meth c RX12 cX12_youngest 3 (rm12_youngest)) (hS9 : gS X s) (hr : meth.sig.returnType = some .int) (rec9 : Nat → Int32 → Int32 → mMem → Option (Int32 × mMem)) (hrec9 : ∀ (a0 : Nat) (x1 : Int32) (x2 : Int32) (M : mMem), GG X p l e (rm12_youngest) s m args below meth c (gP X below args s 0 0 (fun r9 : (Int32 × mMem) => (some (.int r9.1), r9.2))) 3 0 0 9 [(0, .ref a0), (1, .int x1), (2, .int x2)] [] M (rec9 a0 x1 x2 M)) (a0 : Nat) (x2 : Int32) (M : mMem) : GG X p l e (rm12_youngest) s m args below meth c (gP X below args s 0 0 (fun r9 : (Int32 × mMem) => (some (.int r9.1), r9.2))) 3 0 0 37 [(0, .ref a0), (2, .int x2)] [] M (p12_youngest_J37 rec9 a0 x2 M) := by
  unfold p12_youngest_J37
  refine g_iload_n B dX12_youngest_37 1 rfl ?_
  refine g_istore_n (lv' := [(1, .int x2), (0, .ref a0), (2, .int x2)]) B dX12_youngest_38 (by decide) [0, 1, 2] rfl ?_
  refine g_sub (lv' := [(0, .ref a0), (1, .int x2), (2, .int x2)]) [1, 0, 2] rfl ?_
  exact g12_youngest_J39 B hS9 hr rec9 hrec9 a0 x2 x2 M
set_option maxRecDepth 20000 in
set_option maxHeartbeats 2000000 in
theorem g12_youngest_L9 {X : gX} {p : Program} {l : Launch} {e : Env} {s : State} {m : MethodId} {args : Array Value} {below : List Frame} {meth : Method} {c : Code} (B : gB X p (rm12_youngest) s m args meth c RX12 cX12_youngest 3 (rm12_youngest)) (hS9 : gS X s) (hr : meth.sig.returnType = some .int) : ∀ (n : Nat) (a0 : Nat) (x1 : Int32) (x2 : Int32) (M : mMem), GG X p l e (rm12_youngest) s m args below meth c (gP X below args s 0 0 (fun r9 : (Int32 × mMem) => (some (.int r9.1), r9.2))) 3 0 0 9 [(0, .ref a0), (1, .int x1), (2, .int x2)] [] M (p12_youngest_L9 n a0 x1 x2 M) := by
  intro n
  induction n with
  | zero => intro a0 x1 x2 M; exact g_none
  | succ n ih =>
    intro a0 x1 x2 M
    rw [p12_youngest_L9]
    refine g_iload_n B dX12_youngest_9 2 rfl ?_
    refine g_aload_n B dX12_youngest_10 0 rfl ?_
    refine g_callV_ip [] (ci := 11) (T0 := TX12) (N := 27) B hS9 mf12_people wd_1793 (gw B wp_51) wd_1791 (by decide) rfl (fun h => (gd_ne h).1) (c12_people X l a0 M) (by decide) (by decide) (by decide) rfl (Nat.le_of_ble_eq_true rfl) dX12_youngest_11 rfl (fun v_1 => ?_)
    refine g_icmp_ge B 45 dX12_youngest_14 (by decide) ?_ ?_
    · refine g_iload_n B dX12_youngest_17 1 rfl ?_
      refine g_iconst (v := (-1)) B dX12_youngest_18 (by decide) ?_
      refine g_icmp_eq B 37 dX12_youngest_19 (by decide) ?_ ?_
      · refine g_sub (lv' := [(0, .ref a0), (2, .int x2)]) [0, 2] rfl ?_
        exact g12_youngest_J37 B hS9 hr (p12_youngest_L9 n) ih a0 x2 M
      · refine g_aload_n B dX12_youngest_22 0 rfl ?_
        refine g_iload_n B dX12_youngest_23 2 rfl ?_
        refine g_iconst (v := 0) B dX12_youngest_24 (by decide) ?_
        refine g_callV_ip [.int x2, .int 0] (ci := 11) (T0 := TX12) (N := 27) B hS9 mf12_of wd_1846 (gw B wp_61) wd_1844 (by decide) rfl (fun h => (gd_ne h).1) (c12_of X l a0 x2 0 M) (by decide) (by decide) (by decide) rfl (by decide) dX12_youngest_25 rfl (fun v_2 => ?_)
        refine g_aload_n B dX12_youngest_28 0 rfl ?_
        refine g_iload_n B dX12_youngest_29 1 rfl ?_
        refine g_iconst (v := 0) B dX12_youngest_30 (by decide) ?_
        refine g_callV_ip [.int x1, .int 0] (ci := 11) (T0 := TX12) (N := 27) B hS9 mf12_of wd_1846 (gw B wp_61) wd_1844 (by decide) rfl (fun h => (gd_ne h).1) (c12_of X l a0 x1 0 M) (by decide) (by decide) (by decide) rfl (Nat.le_of_ble_eq_true rfl) dX12_youngest_31 rfl (fun v_3 => ?_)
        refine g_icmp_ge B 39 dX12_youngest_34 (by decide) ?_ ?_
        · refine g_sub (lv' := [(0, .ref a0), (2, .int x2)]) [0, 2] rfl ?_
          exact g12_youngest_J37 B hS9 hr (p12_youngest_L9 n) ih a0 x2 M
        · refine g_sub (lv' := [(0, .ref a0), (1, .int x1), (2, .int x2)]) [0, 1, 2] rfl ?_
          exact g12_youngest_J39 B hS9 hr (p12_youngest_L9 n) ih a0 x1 x2 M
    · refine g_iload_n B dX12_youngest_45 1 rfl ?_
      exact g_ireturn B hr rfl (by decide) (by decide) rfl dX12_youngest_46
set_option maxRecDepth 20000 in
set_option maxHeartbeats 2000000 in
theorem g12_youngest {X : gX} {p : Program} {l : Launch} {e : Env} {s : State} {m : MethodId} {args : Array Value} {below : List Frame} {meth : Method} {c : Code} (B : gB X p (rm12_youngest) s m args meth c RX12 cX12_youngest 3 (rm12_youngest)) (hS9 : gS X s) (hr : meth.sig.returnType = some .int) (a0 : Nat) (M : mMem) : GG X p l e (rm12_youngest) s m args below meth c (gP X below args s 0 0 (fun r9 : (Int32 × mMem) => (some (.int r9.1), r9.2))) 3 0 0 0 [(0, .ref a0)] [] M (p12_youngest a0 M) := by
  unfold p12_youngest
  refine g_gd ?_
  refine g_aload_n B dX12_youngest_0 0 rfl ?_
  refine g_iconst (v := 0) B dX12_youngest_1 (by decide) ?_
  refine g_putI (ci := 11) (T0 := TX12) (N := 27) B (by decide) rfl in_11 tyX12 tyX12_ok nmX12 (k := 0) (by decide) wd_1641 (fun _ h => h) rfl rfl (ty := .int) (by decide +kernel) rfl rfl dX12_youngest_2 (fun M_1 => ?_)
  refine g_iconst (v := (-1)) B dX12_youngest_5 (by decide) ?_
  refine g_istore_n (lv' := [(1, .int (-1)), (0, .ref a0)]) B dX12_youngest_6 (by decide) [0, 1] rfl ?_
  refine g_iconst (v := 0) B dX12_youngest_7 (by decide) ?_
  refine g_istore_n (lv' := [(2, .int 0), (1, .int (-1)), (0, .ref a0)]) B dX12_youngest_8 (by decide) [0, 1, 2] rfl ?_
  refine g_sub (lv' := [(0, .ref a0), (1, .int (-1)), (2, .int 0)]) [2, 1, 0] rfl ?_
  exact (g12_youngest_L9 B hS9 hr) gF a0 (-1) 0 M_1
theorem c12_youngest (X : gX) (l : Launch) (a0 : Nat) (M : mMem) : Con X l yX12_youngest cX12_youngest 3 (some .int) rm12_youngest (fun r9 : (Int32 × mMem) => (some (.int r9.1), r9.2)) [.ref a0] M (p12_youngest a0 M) := g_con (own := RX12) (by decide +kernel) rfl (Nat.le_of_ble_eq_true rfl) (fun p e s m args below meth c B hS9 hr hn => g12_youngest B hS9 hr a0 M)
theorem mf12_crib : gMF yX12_crib cX12_crib 1 (some .int) 0 := ⟨wd_2353, wd_13, ⟨by decide, by decide⟩, by decide +kernel⟩
set_option maxRecDepth 20000 in
set_option maxHeartbeats 2000000 in
theorem g12_crib {X : gX} {p : Program} {l : Launch} {e : Env} {s : State} {m : MethodId} {args : Array Value} {below : List Frame} {meth : Method} {c : Code} (B : gB X p (rm12_crib) s m args meth c RX12 cX12_crib 1 (rm12_crib)) (hS9 : gS X s) (hr : meth.sig.returnType = some .int) (a0 : Nat) (M : mMem) : GG X p l e (rm12_crib) s m args below meth c (gP X below args s 0 0 (fun r9 : (Int32 × mMem) => (some (.int r9.1), r9.2))) 1 0 0 0 [(0, .ref a0)] [] M (p12_crib a0 M) := by
  unfold p12_crib
  refine g_gd ?_
  refine g_aload_n B dX12_crib_0 0 rfl ?_
  refine g_iconst (v := 0) B dX12_crib_1 (by decide) ?_
  refine g_putI (ci := 11) (T0 := TX12) (N := 27) B (by decide) rfl in_11 tyX12 tyX12_ok nmX12 (k := 0) (by decide) wd_1641 (fun _ h => h) rfl rfl (ty := .int) (by decide +kernel) rfl rfl dX12_crib_2 (fun M_1 => ?_)
  refine g_aload_n B dX12_crib_5 0 rfl ?_
  refine g_callV_ip [] (ci := 11) (T0 := TX12) (N := 27) B hS9 mf12_cribOnes wd_2107 (gw B wp_102) wd_2105 (by decide) rfl (fun h => (gd_ne h).1) (c12_cribOnes X l a0 M_1) (by decide) (by decide) (by decide) rfl (by decide) dX12_crib_6 rfl (fun v_2 => ?_)
  exact g_ireturn B hr rfl (by decide) (by decide) rfl dX12_crib_9
theorem c12_crib (X : gX) (l : Launch) (a0 : Nat) (M : mMem) : Con X l yX12_crib cX12_crib 1 (some .int) rm12_crib (fun r9 : (Int32 × mMem) => (some (.int r9.1), r9.2)) [.ref a0] M (p12_crib a0 M) := g_con (own := RX12) (by decide +kernel) rfl (Nat.le_of_ble_eq_true rfl) (fun p e s m args below meth c B hS9 hr hn => g12_crib B hS9 hr a0 M)
theorem mf12_spread : gMF yX12_spread cX12_spread 5 (some .int) 0 := ⟨wd_2357, wd_13, ⟨by decide, by decide⟩, by decide +kernel⟩
set_option maxRecDepth 20000 in
set_option maxHeartbeats 2000000 in
theorem g12_spread_L23 {X : gX} {p : Program} {l : Launch} {e : Env} {s : State} {m : MethodId} {args : Array Value} {below : List Frame} {meth : Method} {c : Code} (B : gB X p (rm12_spread) s m args meth c RX12 cX12_spread 5 (rm12_spread)) (hS9 : gS X s) (hr : meth.sig.returnType = some .int) (k71 : Nat → Int32 → Int32 → Int32 → mMem → Option (Int32 × mMem)) (hk71 : ∀ (a0 : Nat) (x1 : Int32) (x2 : Int32) (x3 : Int32) (M : mMem), GG X p l e (rm12_spread) s m args below meth c (gP X below args s 0 0 (fun r9 : (Int32 × mMem) => (some (.int r9.1), r9.2))) 5 0 0 71 [(0, .ref a0), (1, .int x1), (2, .int x2), (3, .int x3)] [] M (k71 a0 x1 x2 x3 M)) : ∀ (n : Nat) (a0 : Nat) (x1 : Int32) (x2 : Int32) (x3 : Int32) (x4 : Int32) (M : mMem), GG X p l e (rm12_spread) s m args below meth c (gP X below args s 0 0 (fun r9 : (Int32 × mMem) => (some (.int r9.1), r9.2))) 5 0 0 23 [(0, .ref a0), (1, .int x1), (2, .int x2), (3, .int x3), (4, .int x4)] [] M (p12_spread_L23 k71 n a0 x1 x2 x3 x4 M) := by
  intro n
  induction n with
  | zero => intro a0 x1 x2 x3 x4 M; exact g_none
  | succ n ih =>
    intro a0 x1 x2 x3 x4 M
    rw [p12_spread_L23]
    refine g_iload B dX12_spread_23 4 rfl ?_
    refine g_aload_n B dX12_spread_25 0 rfl ?_
    refine g_callV_ip [] (ci := 11) (T0 := TX12) (N := 27) B hS9 mf12_people wd_1793 (gw B wp_51) wd_1791 (by decide) rfl (fun h => (gd_ne h).1) (c12_people X l a0 M) (by decide) (by decide) (by decide) rfl (Nat.le_of_ble_eq_true rfl) dX12_spread_26 rfl (fun v_1 => ?_)
    refine g_icmp_ge B 71 dX12_spread_29 (by decide) ?_ ?_
    · refine g_iload_n B dX12_spread_32 3 rfl ?_
      refine g_aload_n B dX12_spread_33 0 rfl ?_
      refine g_iload B dX12_spread_34 4 rfl ?_
      refine g_iconst (v := 0) B dX12_spread_36 (by decide) ?_
      refine g_callV_ip [.int x4, .int 0] (ci := 11) (T0 := TX12) (N := 27) B hS9 mf12_of wd_1846 (gw B wp_61) wd_1844 (by decide) rfl (fun h => (gd_ne h).1) (c12_of X l a0 x4 0 M) (by decide) (by decide) (by decide) rfl (Nat.le_of_ble_eq_true rfl) dX12_spread_37 rfl (fun v_2 => ?_)
      refine g_aload_n B dX12_spread_40 0 rfl ?_
      refine g_iload_n B dX12_spread_41 2 rfl ?_
      refine g_iconst (v := 0) B dX12_spread_42 (by decide) ?_
      refine g_callV_ip [.int x2, .int 0] (ci := 11) (T0 := TX12) (N := 27) B hS9 mf12_of wd_1846 (gw B wp_61) wd_1844 (by decide) rfl (fun h => (gd_ne h).1) (c12_of X l a0 x2 0 M) (by decide) (by decide) (by decide) rfl (Nat.le_of_ble_eq_true rfl) dX12_spread_43 rfl (fun v_3 => ?_)
      refine g_isub B dX12_spread_46 ?_
      refine g_aload_n B dX12_spread_47 0 rfl ?_
      refine g_getR (ci := 11) (T0 := TX12) (N := 27) B (by decide) rfl in_11 (k := 1) (by decide) rfl wd_1642 (fun _ h => h) dX12_spread_48 (fun v_4 => ?_)
      refine g_iconst (v := 4) B dX12_spread_51 (by decide) ?_
      refine g_iaload B dX12_spread_52 (fun v_5 => ?_)
      refine g_iadd B dX12_spread_53 ?_
      refine g_aload_n B dX12_spread_54 0 rfl ?_
      refine g_getR (ci := 11) (T0 := TX12) (N := 27) B (by decide) rfl in_11 (k := 1) (by decide) rfl wd_1642 (fun _ h => h) dX12_spread_55 (fun v_6 => ?_)
      refine g_iconst (v := 4) B dX12_spread_58 (by decide) ?_
      refine g_iaload B dX12_spread_59 (fun v_7 => ?_)
      refine g_irem B dX12_spread_60 (fun v_8 => ?_)
      refine g_max B wd_1869 wd_516 wd_15 wd_517 (by decide) (Nat.le_of_ble_eq_true rfl) (by decide) dX12_spread_61 ?_
      refine g_istore_n (lv' := [(3, .int (maxI x3 v_8)), (0, .ref a0), (1, .int x1), (2, .int x2), (4, .int x4)]) B dX12_spread_64 (by decide) [0, 1, 2, 3, 4] rfl ?_
      refine g_iinc (v := (x4 + 1)) (lv' := [(4, .int (x4 + 1)), (3, .int (maxI x3 v_8)), (0, .ref a0), (1, .int x1), (2, .int x2)]) B dX12_spread_65 4 rfl rfl (by decide) [0, 1, 2, 3, 4] rfl ?_
      refine g_goto B 23 dX12_spread_68 (by decide) ?_
      refine g_sub (lv' := [(0, .ref a0), (1, .int x1), (2, .int x2), (3, .int (maxI x3 v_8)), (4, .int (x4 + 1))]) [2, 3, 4, 1, 0] rfl ?_
      exact ih a0 x1 x2 (maxI x3 v_8) (x4 + 1) M
    · refine g_sub (lv' := [(0, .ref a0), (1, .int x1), (2, .int x2), (3, .int x3)]) [0, 1, 2, 3] rfl ?_
      exact hk71 a0 x1 x2 x3 M
set_option maxRecDepth 20000 in
set_option maxHeartbeats 2000000 in
theorem g12_spread_J71 {X : gX} {p : Program} {l : Launch} {e : Env} {s : State} {m : MethodId} {args : Array Value} {below : List Frame} {meth : Method} {c : Code} (B : gB X p (rm12_spread) s m args meth c RX12 cX12_spread 5 (rm12_spread)) (hS9 : gS X s) (hr : meth.sig.returnType = some .int) (rec10 : Nat → Int32 → Int32 → mMem → Option (Int32 × mMem)) (hrec10 : ∀ (a0 : Nat) (x1 : Int32) (x2 : Int32) (M : mMem), GG X p l e (rm12_spread) s m args below meth c (gP X below args s 0 0 (fun r9 : (Int32 × mMem) => (some (.int r9.1), r9.2))) 5 0 0 10 [(0, .ref a0), (1, .int x1), (2, .int x2)] [] M (rec10 a0 x1 x2 M)) (a0 : Nat) (x1 : Int32) (x2 : Int32) (x3 : Int32) (M : mMem) : GG X p l e (rm12_spread) s m args below meth c (gP X below args s 0 0 (fun r9 : (Int32 × mMem) => (some (.int r9.1), r9.2))) 5 0 0 71 [(0, .ref a0), (1, .int x1), (2, .int x2), (3, .int x3)] [] M (p12_spread_J71 rec10 a0 x1 x2 x3 M) := by
  unfold p12_spread_J71
  refine g_iload_n B dX12_spread_71 1 rfl ?_
  refine g_iload_n B dX12_spread_72 3 rfl ?_
  refine g_min B wd_2007 wd_538 wd_15 wd_539 (by decide) (Nat.le_of_ble_eq_true rfl) (by decide) dX12_spread_73 ?_
  refine g_istore_n (lv' := [(1, .int (minI x1 x3)), (0, .ref a0), (2, .int x2), (3, .int x3)]) B dX12_spread_76 (by decide) [0, 1, 2, 3] rfl ?_
  refine g_iinc (v := (x2 + 1)) (lv' := [(2, .int (x2 + 1)), (1, .int (minI x1 x3)), (0, .ref a0), (3, .int x3)]) B dX12_spread_77 2 rfl rfl (by decide) [0, 1, 2, 3] rfl ?_
  refine g_goto B 10 dX12_spread_80 (by decide) ?_
  refine g_sub (lv' := [(0, .ref a0), (1, .int (minI x1 x3)), (2, .int (x2 + 1))]) [2, 1, 0] rfl ?_
  exact hrec10 a0 (minI x1 x3) (x2 + 1) M
set_option maxRecDepth 20000 in
set_option maxHeartbeats 2000000 in
theorem g12_spread_L10 {X : gX} {p : Program} {l : Launch} {e : Env} {s : State} {m : MethodId} {args : Array Value} {below : List Frame} {meth : Method} {c : Code} (B : gB X p (rm12_spread) s m args meth c RX12 cX12_spread 5 (rm12_spread)) (hS9 : gS X s) (hr : meth.sig.returnType = some .int) (k83 : Int32 → mMem → Option (Int32 × mMem)) (hk83 : ∀ (x1 : Int32) (M : mMem), GG X p l e (rm12_spread) s m args below meth c (gP X below args s 0 0 (fun r9 : (Int32 × mMem) => (some (.int r9.1), r9.2))) 5 0 0 83 [(1, .int x1)] [] M (k83 x1 M)) : ∀ (n : Nat) (a0 : Nat) (x1 : Int32) (x2 : Int32) (M : mMem), GG X p l e (rm12_spread) s m args below meth c (gP X below args s 0 0 (fun r9 : (Int32 × mMem) => (some (.int r9.1), r9.2))) 5 0 0 10 [(0, .ref a0), (1, .int x1), (2, .int x2)] [] M (p12_spread_L10 k83 n a0 x1 x2 M) := by
  intro n
  induction n with
  | zero => intro a0 x1 x2 M; exact g_none
  | succ n ih =>
    intro a0 x1 x2 M
    rw [p12_spread_L10]
    refine g_iload_n B dX12_spread_10 2 rfl ?_
    refine g_aload_n B dX12_spread_11 0 rfl ?_
    refine g_callV_ip [] (ci := 11) (T0 := TX12) (N := 27) B hS9 mf12_people wd_1793 (gw B wp_51) wd_1791 (by decide) rfl (fun h => (gd_ne h).1) (c12_people X l a0 M) (by decide) (by decide) (by decide) rfl (Nat.le_of_ble_eq_true rfl) dX12_spread_12 rfl (fun v_1 => ?_)
    refine g_icmp_ge B 83 dX12_spread_15 (by decide) ?_ ?_
    · refine g_iconst (v := 0) B dX12_spread_18 (by decide) ?_
      refine g_istore_n (lv' := [(3, .int 0), (0, .ref a0), (1, .int x1), (2, .int x2)]) B dX12_spread_19 (by decide) [0, 1, 2, 3] rfl ?_
      refine g_iconst (v := 0) B dX12_spread_20 (by decide) ?_
      refine g_istore (lv' := [(4, .int 0), (3, .int 0), (0, .ref a0), (1, .int x1), (2, .int x2)]) B dX12_spread_21 (by decide) [0, 1, 2, 3, 4] rfl ?_
      refine g_sub (lv' := [(0, .ref a0), (1, .int x1), (2, .int x2), (3, .int 0), (4, .int 0)]) [2, 3, 4, 1, 0] rfl ?_
      exact (g12_spread_L23 B hS9 hr (p12_spread_J71 (p12_spread_L10 k83 n)) (fun e0 e1 e2 e3 e4 => g12_spread_J71 B hS9 hr (p12_spread_L10 k83 n) ih e0 e1 e2 e3 e4)) gF a0 x1 x2 0 0 M
    · refine g_sub (lv' := [(1, .int x1)]) [1] rfl ?_
      exact hk83 x1 M
set_option maxRecDepth 20000 in
set_option maxHeartbeats 2000000 in
theorem g12_spread_J94 {X : gX} {p : Program} {l : Launch} {e : Env} {s : State} {m : MethodId} {args : Array Value} {below : List Frame} {meth : Method} {c : Code} (B : gB X p (rm12_spread) s m args meth c RX12 cX12_spread 5 (rm12_spread)) (hS9 : gS X s) (hr : meth.sig.returnType = some .int) (u0 : Int32) (M : mMem) : GG X p l e (rm12_spread) s m args below meth c (gP X below args s 0 0 (fun r9 : (Int32 × mMem) => (some (.int r9.1), r9.2))) 5 0 0 94 [] [.int u0] M (p12_spread_J94 u0 M) := by
  unfold p12_spread_J94
  exact g_ireturn B hr rfl (by decide) (by decide) rfl dX12_spread_94
set_option maxRecDepth 20000 in
set_option maxHeartbeats 2000000 in
theorem g12_spread_J83 {X : gX} {p : Program} {l : Launch} {e : Env} {s : State} {m : MethodId} {args : Array Value} {below : List Frame} {meth : Method} {c : Code} (B : gB X p (rm12_spread) s m args meth c RX12 cX12_spread 5 (rm12_spread)) (hS9 : gS X s) (hr : meth.sig.returnType = some .int) (x1 : Int32) (M : mMem) : GG X p l e (rm12_spread) s m args below meth c (gP X below args s 0 0 (fun r9 : (Int32 × mMem) => (some (.int r9.1), r9.2))) 5 0 0 83 [(1, .int x1)] [] M (p12_spread_J83 x1 M) := by
  unfold p12_spread_J83
  refine g_iload_n B dX12_spread_83 0 rfl ?_
  refine g_ldc B dX12_spread_84 wd_1815 ?_
  refine g_icmp_ne B 93 dX12_spread_86 (by decide) ?_ ?_
  · refine g_iconst (v := 0) B dX12_spread_89 (by decide) ?_
    refine g_goto B 94 dX12_spread_90 (by decide) ?_
    refine g_sub (lv' := []) [] rfl ?_
    exact g12_spread_J94 B hS9 hr 0 M
  · refine g_iload_n B dX12_spread_93 0 rfl ?_
    refine g_sub (lv' := []) [] rfl ?_
    exact g12_spread_J94 B hS9 hr x1 M
set_option maxRecDepth 20000 in
set_option maxHeartbeats 2000000 in
theorem g12_spread {X : gX} {p : Program} {l : Launch} {e : Env} {s : State} {m : MethodId} {args : Array Value} {below : List Frame} {meth : Method} {c : Code} (B : gB X p (rm12_spread) s m args meth c RX12 cX12_spread 5 (rm12_spread)) (hS9 : gS X s) (hr : meth.sig.returnType = some .int) (a0 : Nat) (M : mMem) : GG X p l e (rm12_spread) s m args below meth c (gP X below args s 0 0 (fun r9 : (Int32 × mMem) => (some (.int r9.1), r9.2))) 5 0 0 0 [(0, .ref a0)] [] M (p12_spread a0 M) := by
  unfold p12_spread
  refine g_gd ?_
  refine g_aload_n B dX12_spread_0 0 rfl ?_
  refine g_iconst (v := 0) B dX12_spread_1 (by decide) ?_
  refine g_putI (ci := 11) (T0 := TX12) (N := 27) B (by decide) rfl in_11 tyX12 tyX12_ok nmX12 (k := 0) (by decide) wd_1641 (fun _ h => h) rfl rfl (ty := .int) (by decide +kernel) rfl rfl dX12_spread_2 (fun M_1 => ?_)
  refine g_ldc B dX12_spread_5 wd_1815 ?_
  refine g_istore_n (lv' := [(1, .int 1000000), (0, .ref a0)]) B dX12_spread_7 (by decide) [0, 1] rfl ?_
  refine g_iconst (v := 0) B dX12_spread_8 (by decide) ?_
  refine g_istore_n (lv' := [(2, .int 0), (1, .int 1000000), (0, .ref a0)]) B dX12_spread_9 (by decide) [0, 1, 2] rfl ?_
  refine g_sub (lv' := [(0, .ref a0), (1, .int 1000000), (2, .int 0)]) [2, 1, 0] rfl ?_
  exact (g12_spread_L10 B hS9 hr p12_spread_J83 (fun e0 e1 => g12_spread_J83 B hS9 hr e0 e1)) gF a0 1000000 0 M_1
theorem c12_spread (X : gX) (l : Launch) (a0 : Nat) (M : mMem) : Con X l yX12_spread cX12_spread 5 (some .int) rm12_spread (fun r9 : (Int32 × mMem) => (some (.int r9.1), r9.2)) [.ref a0] M (p12_spread a0 M) := g_con (own := RX12) (by decide +kernel) rfl (Nat.le_of_ble_eq_true rfl) (fun p e s m args below meth c B hS9 hr hn => g12_spread B hS9 hr a0 M)
