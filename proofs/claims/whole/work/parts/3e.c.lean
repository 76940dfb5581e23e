theorem mf7_wouldRather : gMF yX7_wouldRather cX7_wouldRather 4 (some .boolean) 2 := ⟨wd_611, wd_11, ⟨by decide, by decide⟩, by decide +kernel⟩
set_option maxRecDepth 20000 in
set_option maxHeartbeats 2000000 in
theorem g7_wouldRather_J43 {X : gX} {p : Program} {l : Launch} {e : Env} {s : State} {m : MethodId} {args : Array Value} {below : List Frame} {meth : Method} {c : Code} (B : gB X p (rm7_wouldRather) s m args meth c RX7 cX7_wouldRather 4 (rm7_wouldRather)) (hS9 : gS X s) (hr : meth.sig.returnType = some .boolean) {M : mMem} (u0 : Int32) : GG X p l e (rm7_wouldRather) s m args below meth c (gP X below args s 0 0 (fun r9 : Int32 => (some (.int r9), M))) 4 0 0 43 [] [.int u0] M (p7_wouldRather_J43 M u0) := by
  unfold p7_wouldRather_J43
  exact g_zreturn (f := fun z => z) B hr (by decide) (by decide) rfl dX7_wouldRather_43
set_option maxRecDepth 20000 in
set_option maxHeartbeats 2000000 in
theorem g7_wouldRather_J38 {X : gX} {p : Program} {l : Launch} {e : Env} {s : State} {m : MethodId} {args : Array Value} {below : List Frame} {meth : Method} {c : Code} (B : gB X p (rm7_wouldRather) s m args meth c RX7 cX7_wouldRather 4 (rm7_wouldRather)) (hS9 : gS X s) (hr : meth.sig.returnType = some .boolean) {M : mMem} : GG X p l e (rm7_wouldRather) s m args below meth c (gP X below args s 0 0 (fun r9 : Int32 => (some (.int r9), M))) 4 0 0 38 [] [] M (p7_wouldRather_J38 M) := by
  unfold p7_wouldRather_J38
  refine g_iconst (v := 1) B dX7_wouldRather_38 (by decide) ?_
  refine g_goto B 43 dX7_wouldRather_39 (by decide) ?_
  refine g_sub (lv' := []) [] rfl ?_
  exact g7_wouldRather_J43 B hS9 hr 1
set_option maxRecDepth 20000 in
set_option maxHeartbeats 2000000 in
theorem g7_wouldRather {X : gX} {p : Program} {l : Launch} {e : Env} {s : State} {m : MethodId} {args : Array Value} {below : List Frame} {meth : Method} {c : Code} (B : gB X p (rm7_wouldRather) s m args meth c RX7 cX7_wouldRather 4 (rm7_wouldRather)) (hS9 : gS X s) (hr : meth.sig.returnType = some .boolean) {M : mMem} (a0 : Nat) (x1 : Int32) (x2 : Int32) : GG X p l e (rm7_wouldRather) s m args below meth c (gP X below args s 0 0 (fun r9 : Int32 => (some (.int r9), M))) 4 0 0 0 [(0, .ref a0), (1, .int x1), (2, .int x2)] [] M (p7_wouldRather a0 x1 x2 M) := by
  unfold p7_wouldRather
  refine g_gd ?_
  refine g_aload_n B dX7_wouldRather_0 0 rfl ?_
  refine g_getR (ci := 7) (T0 := TX7) (N := 6) B (by decide) rfl in_7 (k := 0) (by decide) rfl wd_351 (fun _ h => h) dX7_wouldRather_1 (fun v_1 => ?_)
  refine g_iload_n B dX7_wouldRather_4 1 rfl ?_
  refine g_callV_ap [.int x1] (ci := 2) (T0 := TX2) (N := 11) B hS9 mf2_at wd_466 (gw B wd_467) wd_586 (by decide) rfl (fun h => (gd_ne h).1) (c2_at X l v_1 x1 M) (by decide) (by decide) (by decide) rfl (by decide) dX7_wouldRather_5 rfl (fun v_2 => ?_)
  refine g_getI (ci := 8) (T0 := TX8) (N := 9) B (by decide) rfl in_8 (k := 4) (by decide) rfl wd_74 (fun _ h => h) dX7_wouldRather_8 (fun v_3 => ?_)
  refine g_istore_n (lv' := [(3, .int v_3), (0, .ref a0), (1, .int x1), (2, .int x2)]) B dX7_wouldRather_11 (by decide) [0, 1, 2, 3] rfl ?_
  refine g_iload_n B dX7_wouldRather_12 0 rfl ?_
  refine g_iconst (v := (-1)) B dX7_wouldRather_13 (by decide) ?_
  refine g_icmp_eq B 38 dX7_wouldRather_14 (by decide) ?_ ?_
  · refine g_sub (lv' := []) [] rfl ?_
    exact g7_wouldRather_J38 B hS9 hr
  · refine g_aload_n B dX7_wouldRather_17 1 rfl ?_
    refine g_getR (ci := 7) (T0 := TX7) (N := 6) B (by decide) rfl in_7 (k := 0) (by decide) rfl wd_351 (fun _ h => h) dX7_wouldRather_18 (fun v_4 => ?_)
    refine g_iload_n B dX7_wouldRather_21 2 rfl ?_
    refine g_iload_n B dX7_wouldRather_22 3 rfl ?_
    refine g_callV_ip [.int x1, .int x2] (ci := 2) (T0 := TX2) (N := 11) B hS9 mf2_gapOf wd_596 (gw B wd_597) wd_595 (by decide) rfl (fun h => (gd_ne h).1) (c2_gapOf X l v_4 x1 x2 M) (by decide) (by decide) (by decide) rfl (by decide) dX7_wouldRather_23 rfl (fun v_5 => ?_)
    refine g_aload_n B dX7_wouldRather_26 1 rfl ?_
    refine g_getR (ci := 7) (T0 := TX7) (N := 6) B (by decide) rfl in_7 (k := 0) (by decide) rfl wd_351 (fun _ h => h) dX7_wouldRather_27 (fun v_6 => ?_)
    refine g_iload_n B dX7_wouldRather_30 2 rfl ?_
    refine g_iload_n B dX7_wouldRather_31 0 rfl ?_
    refine g_callV_ip [.int x1, .int v_3] (ci := 2) (T0 := TX2) (N := 11) B hS9 mf2_gapOf wd_596 (gw B wd_597) wd_595 (by decide) rfl (fun h => (gd_ne h).1) (c2_gapOf X l v_6 x1 v_3 M) (by decide) (by decide) (by decide) rfl (Nat.le_of_ble_eq_true rfl) dX7_wouldRather_32 rfl (fun v_7 => ?_)
    refine g_icmp_ge B 42 dX7_wouldRather_35 (by decide) ?_ ?_
    · refine g_sub (lv' := []) [] rfl ?_
      exact g7_wouldRather_J38 B hS9 hr
    · refine g_iconst (v := 0) B dX7_wouldRather_42 (by decide) ?_
      refine g_sub (lv' := []) [] rfl ?_
      exact g7_wouldRather_J43 B hS9 hr 0
theorem c7_wouldRather (X : gX) (l : Launch) (a0 : Nat) (x1 : Int32) (x2 : Int32) (M : mMem) : Con X l yX7_wouldRather cX7_wouldRather 4 (some .boolean) rm7_wouldRather (fun r9 : Int32 => (some (.int r9), M)) [.ref a0, .int x1, .int x2] M (p7_wouldRather a0 x1 x2 M) := g_con (own := RX7) (by decide +kernel) rfl (Nat.le_of_ble_eq_true rfl) (fun p e s m args below meth c B hS9 hr hn => g7_wouldRather B hS9 hr a0 x1 x2)
theorem mf7_runaways : gMF yX7_runaways cX7_runaways 4 (some .int) 0 := ⟨wd_606, wd_11, ⟨by decide, by decide⟩, by decide +kernel⟩
set_option maxRecDepth 20000 in
set_option maxHeartbeats 2000000 in
theorem g7_runaways_J90 {X : gX} {p : Program} {l : Launch} {e : Env} {s : State} {m : MethodId} {args : Array Value} {below : List Frame} {meth : Method} {c : Code} (B : gB X p (rm7_runaways) s m args meth c RX7 cX7_runaways 4 (rm7_runaways)) (hS9 : gS X s) (hr : meth.sig.returnType = some .int) {M : mMem} (rec17 : Nat → Int32 → Int32 → Int32 → Option Int32) (hrec17 : ∀ (a0 : Nat) (x1 : Int32) (x2 : Int32) (x3 : Int32), GG X p l e (rm7_runaways) s m args below meth c (gP X below args s 0 0 (fun r9 : Int32 => (some (.int r9), M))) 4 0 0 17 [(0, .ref a0), (1, .int x1), (2, .int x2), (3, .int x3)] [] M (rec17 a0 x1 x2 x3)) (a0 : Nat) (x1 : Int32) (x2 : Int32) (x3 : Int32) : GG X p l e (rm7_runaways) s m args below meth c (gP X below args s 0 0 (fun r9 : Int32 => (some (.int r9), M))) 4 0 0 90 [(0, .ref a0), (1, .int x1), (2, .int x2), (3, .int x3)] [] M (p7_runaways_J90 M rec17 a0 x1 x2 x3) := by
  unfold p7_runaways_J90
  refine g_iinc (v := (x3 + 1)) (lv' := [(3, .int (x3 + 1)), (0, .ref a0), (1, .int x1), (2, .int x2)]) B dX7_runaways_90 3 rfl rfl (by decide) [0, 1, 2, 3] rfl ?_
  refine g_goto B 17 dX7_runaways_93 (by decide) ?_
  refine g_sub (lv' := [(0, .ref a0), (1, .int x1), (2, .int x2), (3, .int (x3 + 1))]) [1, 2, 3, 0] rfl ?_
  exact hrec17 a0 x1 x2 (x3 + 1)
set_option maxRecDepth 20000 in
set_option maxHeartbeats 2000000 in
theorem g7_runaways_L17 {X : gX} {p : Program} {l : Launch} {e : Env} {s : State} {m : MethodId} {args : Array Value} {below : List Frame} {meth : Method} {c : Code} (B : gB X p (rm7_runaways) s m args meth c RX7 cX7_runaways 4 (rm7_runaways)) (hS9 : gS X s) (hr : meth.sig.returnType = some .int) {M : mMem} (k96 : Nat → Int32 → Int32 → Option Int32) (hk96 : ∀ (a0 : Nat) (x1 : Int32) (x2 : Int32), GG X p l e (rm7_runaways) s m args below meth c (gP X below args s 0 0 (fun r9 : Int32 => (some (.int r9), M))) 4 0 0 96 [(0, .ref a0), (1, .int x1), (2, .int x2)] [] M (k96 a0 x1 x2)) : ∀ (n : Nat) (a0 : Nat) (x1 : Int32) (x2 : Int32) (x3 : Int32), GG X p l e (rm7_runaways) s m args below meth c (gP X below args s 0 0 (fun r9 : Int32 => (some (.int r9), M))) 4 0 0 17 [(0, .ref a0), (1, .int x1), (2, .int x2), (3, .int x3)] [] M (p7_runaways_L17 M k96 n a0 x1 x2 x3) := by
  intro n
  induction n with
  | zero => intro a0 x1 x2 x3; exact g_none
  | succ n ih =>
    intro a0 x1 x2 x3
    rw [p7_runaways_L17]
    refine g_iload_n B dX7_runaways_17 3 rfl ?_
    refine g_aload_n B dX7_runaways_18 0 rfl ?_
    refine g_getR (ci := 7) (T0 := TX7) (N := 6) B (by decide) rfl in_7 (k := 0) (by decide) rfl wd_351 (fun _ h => h) dX7_runaways_19 (fun v_1 => ?_)
    refine g_getI (ci := 2) (T0 := TX2) (N := 11) B (by decide) rfl in_2 (k := 4) (by decide) rfl wd_143 (fun _ h => h) dX7_runaways_22 (fun v_2 => ?_)
    refine g_icmp_ge B 96 dX7_runaways_25 (by decide) ?_ ?_
    · refine g_aload_n B dX7_runaways_28 0 rfl ?_
      refine g_getR (ci := 7) (T0 := TX7) (N := 6) B (by decide) rfl in_7 (k := 0) (by decide) rfl wd_351 (fun _ h => h) dX7_runaways_29 (fun v_3 => ?_)
      refine g_iload_n B dX7_runaways_32 2 rfl ?_
      refine g_callV_ap [.int x2] (ci := 2) (T0 := TX2) (N := 11) B hS9 mf2_at wd_466 (gw B wd_467) wd_586 (by decide) rfl (fun h => (gd_ne h).1) (c2_at X l v_3 x2 M) (by decide) (by decide) (by decide) rfl (by decide) dX7_runaways_33 rfl (fun v_4 => ?_)
      refine g_getI (ci := 8) (T0 := TX8) (N := 9) B (by decide) rfl in_8 (k := 2) (by decide) rfl wd_65 (fun _ h => h) dX7_runaways_36 (fun v_5 => ?_)
      refine g_if_ne B 90 dX7_runaways_39 (by decide) ?_ ?_
      · refine g_aload_n B dX7_runaways_42 0 rfl ?_
        refine g_getR (ci := 7) (T0 := TX7) (N := 6) B (by decide) rfl in_7 (k := 0) (by decide) rfl wd_351 (fun _ h => h) dX7_runaways_43 (fun v_6 => ?_)
        refine g_iload_n B dX7_runaways_46 3 rfl ?_
        refine g_callV_ap [.int x3] (ci := 2) (T0 := TX2) (N := 11) B hS9 mf2_at wd_466 (gw B wd_467) wd_586 (by decide) rfl (fun h => (gd_ne h).1) (c2_at X l v_6 x3 M) (by decide) (by decide) (by decide) rfl (by decide) dX7_runaways_47 rfl (fun v_7 => ?_)
        refine g_getI (ci := 8) (T0 := TX8) (N := 9) B (by decide) rfl in_8 (k := 2) (by decide) rfl wd_65 (fun _ h => h) dX7_runaways_50 (fun v_8 => ?_)
        refine g_iconst (v := 1) B dX7_runaways_53 (by decide) ?_
        refine g_icmp_ne B 90 dX7_runaways_54 (by decide) ?_ ?_
        · refine g_aload_n B dX7_runaways_57 0 rfl ?_
          refine g_getR (ci := 7) (T0 := TX7) (N := 6) B (by decide) rfl in_7 (k := 0) (by decide) rfl wd_351 (fun _ h => h) dX7_runaways_58 (fun v_9 => ?_)
          refine g_iload_n B dX7_runaways_61 2 rfl ?_
          refine g_iload_n B dX7_runaways_62 3 rfl ?_
          refine g_callV_ip [.int x2, .int x3] (ci := 2) (T0 := TX2) (N := 11) B hS9 mf2_areParentAndChild wd_592 (gw B wd_593) wd_607 (by decide) rfl (fun h => (gd_ne h).1) (c2_areParentAndChild X l v_9 x2 x3 M) (by decide) (by decide) (by decide) rfl (by decide) dX7_runaways_63 rfl (fun v_10 => ?_)
          refine g_if_ne B 90 dX7_runaways_66 (by decide) ?_ ?_
          · refine g_aload_n B dX7_runaways_69 0 rfl ?_
            refine g_iload_n B dX7_runaways_70 2 rfl ?_
            refine g_iload_n B dX7_runaways_71 3 rfl ?_
            refine g_callV_ip [.int x2, .int x3] (ci := 7) (T0 := TX7) (N := 6) B hS9 mf7_wouldRather wd_610 (gw B wp_7) wd_608 (by decide) rfl (fun h => (gd_ne h).1) (c7_wouldRather X l a0 x2 x3 M) (by decide) (by decide) (by decide) rfl (by decide) dX7_runaways_72 rfl (fun v_11 => ?_)
            refine g_if_eq B 90 dX7_runaways_75 (by decide) ?_ ?_
            · refine g_sub (lv' := [(0, .ref a0), (1, .int x1), (2, .int x2), (3, .int x3)]) [0, 1, 2, 3] rfl ?_
              exact g7_runaways_J90 B hS9 hr (p7_runaways_L17 M k96 n) ih a0 x1 x2 x3
            · refine g_aload_n B dX7_runaways_78 0 rfl ?_
              refine g_iload_n B dX7_runaways_79 3 rfl ?_
              refine g_iload_n B dX7_runaways_80 2 rfl ?_
              refine g_callV_ip [.int x3, .int x2] (ci := 7) (T0 := TX7) (N := 6) B hS9 mf7_wouldRather wd_610 (gw B wp_7) wd_608 (by decide) rfl (fun h => (gd_ne h).1) (c7_wouldRather X l a0 x3 x2 M) (by decide) (by decide) (by decide) rfl (by decide) dX7_runaways_81 rfl (fun v_12 => ?_)
              refine g_if_eq B 90 dX7_runaways_84 (by decide) ?_ ?_
              · refine g_sub (lv' := [(0, .ref a0), (1, .int x1), (2, .int x2), (3, .int x3)]) [0, 1, 2, 3] rfl ?_
                exact g7_runaways_J90 B hS9 hr (p7_runaways_L17 M k96 n) ih a0 x1 x2 x3
              · refine g_iinc (v := (x1 + 1)) (lv' := [(1, .int (x1 + 1)), (0, .ref a0), (2, .int x2), (3, .int x3)]) B dX7_runaways_87 1 rfl rfl (by decide) [0, 1, 2, 3] rfl ?_
                refine g_sub (lv' := [(0, .ref a0), (1, .int (x1 + 1)), (2, .int x2), (3, .int x3)]) [1, 0, 2, 3] rfl ?_
                exact g7_runaways_J90 B hS9 hr (p7_runaways_L17 M k96 n) ih a0 (x1 + 1) x2 x3
          · refine g_sub (lv' := [(0, .ref a0), (1, .int x1), (2, .int x2), (3, .int x3)]) [0, 1, 2, 3] rfl ?_
            exact g7_runaways_J90 B hS9 hr (p7_runaways_L17 M k96 n) ih a0 x1 x2 x3
        · refine g_sub (lv' := [(0, .ref a0), (1, .int x1), (2, .int x2), (3, .int x3)]) [0, 1, 2, 3] rfl ?_
          exact g7_runaways_J90 B hS9 hr (p7_runaways_L17 M k96 n) ih a0 x1 x2 x3
      · refine g_sub (lv' := [(0, .ref a0), (1, .int x1), (2, .int x2), (3, .int x3)]) [0, 1, 2, 3] rfl ?_
        exact g7_runaways_J90 B hS9 hr (p7_runaways_L17 M k96 n) ih a0 x1 x2 x3
    · refine g_sub (lv' := [(0, .ref a0), (1, .int x1), (2, .int x2)]) [0, 1, 2] rfl ?_
      exact hk96 a0 x1 x2
set_option maxRecDepth 20000 in
set_option maxHeartbeats 2000000 in
theorem g7_runaways_J96 {X : gX} {p : Program} {l : Launch} {e : Env} {s : State} {m : MethodId} {args : Array Value} {below : List Frame} {meth : Method} {c : Code} (B : gB X p (rm7_runaways) s m args meth c RX7 cX7_runaways 4 (rm7_runaways)) (hS9 : gS X s) (hr : meth.sig.returnType = some .int) {M : mMem} (rec4 : Nat → Int32 → Int32 → Option Int32) (hrec4 : ∀ (a0 : Nat) (x1 : Int32) (x2 : Int32), GG X p l e (rm7_runaways) s m args below meth c (gP X below args s 0 0 (fun r9 : Int32 => (some (.int r9), M))) 4 0 0 4 [(0, .ref a0), (1, .int x1), (2, .int x2)] [] M (rec4 a0 x1 x2)) (a0 : Nat) (x1 : Int32) (x2 : Int32) : GG X p l e (rm7_runaways) s m args below meth c (gP X below args s 0 0 (fun r9 : Int32 => (some (.int r9), M))) 4 0 0 96 [(0, .ref a0), (1, .int x1), (2, .int x2)] [] M (p7_runaways_J96 M rec4 a0 x1 x2) := by
  unfold p7_runaways_J96
  refine g_iinc (v := (x2 + 1)) (lv' := [(2, .int (x2 + 1)), (0, .ref a0), (1, .int x1)]) B dX7_runaways_96 2 rfl rfl (by decide) [0, 1, 2] rfl ?_
  refine g_goto B 4 dX7_runaways_99 (by decide) ?_
  refine g_sub (lv' := [(0, .ref a0), (1, .int x1), (2, .int (x2 + 1))]) [1, 2, 0] rfl ?_
  exact hrec4 a0 x1 (x2 + 1)
set_option maxRecDepth 20000 in
set_option maxHeartbeats 2000000 in
theorem g7_runaways_L4 {X : gX} {p : Program} {l : Launch} {e : Env} {s : State} {m : MethodId} {args : Array Value} {below : List Frame} {meth : Method} {c : Code} (B : gB X p (rm7_runaways) s m args meth c RX7 cX7_runaways 4 (rm7_runaways)) (hS9 : gS X s) (hr : meth.sig.returnType = some .int) {M : mMem} : ∀ (n : Nat) (a0 : Nat) (x1 : Int32) (x2 : Int32), GG X p l e (rm7_runaways) s m args below meth c (gP X below args s 0 0 (fun r9 : Int32 => (some (.int r9), M))) 4 0 0 4 [(0, .ref a0), (1, .int x1), (2, .int x2)] [] M (p7_runaways_L4 M n a0 x1 x2) := by
  intro n
  induction n with
  | zero => intro a0 x1 x2; exact g_none
  | succ n ih =>
    intro a0 x1 x2
    rw [p7_runaways_L4]
    refine g_iload_n B dX7_runaways_4 2 rfl ?_
    refine g_aload_n B dX7_runaways_5 0 rfl ?_
    refine g_getR (ci := 7) (T0 := TX7) (N := 6) B (by decide) rfl in_7 (k := 0) (by decide) rfl wd_351 (fun _ h => h) dX7_runaways_6 (fun v_1 => ?_)
    refine g_getI (ci := 2) (T0 := TX2) (N := 11) B (by decide) rfl in_2 (k := 4) (by decide) rfl wd_143 (fun _ h => h) dX7_runaways_9 (fun v_2 => ?_)
    refine g_icmp_ge B 102 dX7_runaways_12 (by decide) ?_ ?_
    · refine g_iconst (v := 0) B dX7_runaways_15 (by decide) ?_
      refine g_istore_n (lv' := [(3, .int 0), (0, .ref a0), (1, .int x1), (2, .int x2)]) B dX7_runaways_16 (by decide) [0, 1, 2, 3] rfl ?_
      refine g_sub (lv' := [(0, .ref a0), (1, .int x1), (2, .int x2), (3, .int 0)]) [1, 2, 3, 0] rfl ?_
      exact (g7_runaways_L17 B hS9 hr (p7_runaways_J96 M (p7_runaways_L4 M n)) (fun e0 e1 e2 => g7_runaways_J96 B hS9 hr (p7_runaways_L4 M n) ih e0 e1 e2)) gF a0 x1 x2 0
    · refine g_iload_n B dX7_runaways_102 1 rfl ?_
      exact g_ireturn B hr rfl (by decide) (by decide) rfl dX7_runaways_103
set_option maxRecDepth 20000 in
set_option maxHeartbeats 2000000 in
theorem g7_runaways {X : gX} {p : Program} {l : Launch} {e : Env} {s : State} {m : MethodId} {args : Array Value} {below : List Frame} {meth : Method} {c : Code} (B : gB X p (rm7_runaways) s m args meth c RX7 cX7_runaways 4 (rm7_runaways)) (hS9 : gS X s) (hr : meth.sig.returnType = some .int) {M : mMem} (a0 : Nat) : GG X p l e (rm7_runaways) s m args below meth c (gP X below args s 0 0 (fun r9 : Int32 => (some (.int r9), M))) 4 0 0 0 [(0, .ref a0)] [] M (p7_runaways a0 M) := by
  unfold p7_runaways
  refine g_gd ?_
  refine g_iconst (v := 0) B dX7_runaways_0 (by decide) ?_
  refine g_istore_n (lv' := [(1, .int 0), (0, .ref a0)]) B dX7_runaways_1 (by decide) [0, 1] rfl ?_
  refine g_iconst (v := 0) B dX7_runaways_2 (by decide) ?_
  refine g_istore_n (lv' := [(2, .int 0), (1, .int 0), (0, .ref a0)]) B dX7_runaways_3 (by decide) [0, 1, 2] rfl ?_
  refine g_sub (lv' := [(0, .ref a0), (1, .int 0), (2, .int 0)]) [2, 1, 0] rfl ?_
  exact (g7_runaways_L4 B hS9 hr) gF a0 0 0
theorem c7_runaways (X : gX) (l : Launch) (a0 : Nat) (M : mMem) : Con X l yX7_runaways cX7_runaways 4 (some .int) rm7_runaways (fun r9 : Int32 => (some (.int r9), M)) [.ref a0] M (p7_runaways a0 M) := g_con (own := RX7) (by decide +kernel) rfl (Nat.le_of_ble_eq_true rfl) (fun p e s m args below meth c B hS9 hr hn => g7_runaways B hS9 hr a0)
theorem mf9_isLetter : gMF yX9_isLetter cX9_isLetter 1 (some .boolean) 1 := ⟨wd_753, wd_6, ⟨by decide, by decide⟩, by decide +kernel⟩
set_option maxRecDepth 20000 in
set_option maxHeartbeats 2000000 in
theorem g9_isLetter_J17 {X : gX} {p : Program} {l : Launch} {e : Env} {s : State} {m : MethodId} {args : Array Value} {below : List Frame} {meth : Method} {c : Code} (B : gB X p (rm9_isLetter) s m args meth c RX9 cX9_isLetter 1 (rm9_isLetter)) (hS9 : gS X s) (hr : meth.sig.returnType = some .boolean) {M : mMem} (u0 : Int32) : GG X p l e (rm9_isLetter) s m args below meth c (gP X below args s 0 0 (fun r9 : Int32 => (some (.int r9), M))) 1 0 0 17 [] [.int u0] M (p9_isLetter_J17 M u0) := by
  unfold p9_isLetter_J17
  exact g_zreturn (f := fun z => z) B hr (by decide) (by decide) rfl dX9_isLetter_17
set_option maxRecDepth 20000 in
set_option maxHeartbeats 2000000 in
theorem g9_isLetter_J16 {X : gX} {p : Program} {l : Launch} {e : Env} {s : State} {m : MethodId} {args : Array Value} {below : List Frame} {meth : Method} {c : Code} (B : gB X p (rm9_isLetter) s m args meth c RX9 cX9_isLetter 1 (rm9_isLetter)) (hS9 : gS X s) (hr : meth.sig.returnType = some .boolean) {M : mMem} : GG X p l e (rm9_isLetter) s m args below meth c (gP X below args s 0 0 (fun r9 : Int32 => (some (.int r9), M))) 1 0 0 16 [] [] M (p9_isLetter_J16 M) := by
  unfold p9_isLetter_J16
  refine g_iconst (v := 0) B dX9_isLetter_16 (by decide) ?_
  refine g_sub (lv' := []) [] rfl ?_
  exact g9_isLetter_J17 B hS9 hr 0
set_option maxRecDepth 20000 in
set_option maxHeartbeats 2000000 in
theorem g9_isLetter {X : gX} {p : Program} {l : Launch} {e : Env} {s : State} {m : MethodId} {args : Array Value} {below : List Frame} {meth : Method} {c : Code} (B : gB X p (rm9_isLetter) s m args meth c RX9 cX9_isLetter 1 (rm9_isLetter)) (hS9 : gS X s) (hr : meth.sig.returnType = some .boolean) {M : mMem} (x0 : Int32) : GG X p l e (rm9_isLetter) s m args below meth c (gP X below args s 0 0 (fun r9 : Int32 => (some (.int r9), M))) 1 0 0 0 [(0, .int x0)] [] M (p9_isLetter x0 M) := by
  unfold p9_isLetter
  refine g_iload_n B dX9_isLetter_0 0 rfl ?_
  refine g_bipush (v := 97) B dX9_isLetter_1 (by decide) ?_
  refine g_icmp_lt B 16 dX9_isLetter_3 (by decide) ?_ ?_
  · refine g_sub (lv' := []) [] rfl ?_
    exact g9_isLetter_J16 B hS9 hr
  · refine g_iload_n B dX9_isLetter_6 0 rfl ?_
    refine g_bipush (v := 122) B dX9_isLetter_7 (by decide) ?_
    refine g_icmp_gt B 16 dX9_isLetter_9 (by decide) ?_ ?_
    · refine g_sub (lv' := []) [] rfl ?_
      exact g9_isLetter_J16 B hS9 hr
    · refine g_iconst (v := 1) B dX9_isLetter_12 (by decide) ?_
      refine g_goto B 17 dX9_isLetter_13 (by decide) ?_
      refine g_sub (lv' := []) [] rfl ?_
      exact g9_isLetter_J17 B hS9 hr 1
theorem c9_isLetter (X : gX) (l : Launch) (x0 : Int32) (M : mMem) : Con X l yX9_isLetter cX9_isLetter 1 (some .boolean) rm9_isLetter (fun r9 : Int32 => (some (.int r9), M)) [.int x0] M (p9_isLetter x0 M) := g_con (own := RX9) (by decide +kernel) rfl (Nat.le_of_ble_eq_true rfl) (fun p e s m args below meth c B hS9 hr hn => g9_isLetter B hS9 hr x0)
theorem mf9_isDigit : gMF yX9_isDigit cX9_isDigit 1 (some .boolean) 1 := ⟨wd_756, wd_6, ⟨by decide, by decide⟩, by decide +kernel⟩
set_option maxRecDepth 20000 in
set_option maxHeartbeats 2000000 in
theorem g9_isDigit_J17 {X : gX} {p : Program} {l : Launch} {e : Env} {s : State} {m : MethodId} {args : Array Value} {below : List Frame} {meth : Method} {c : Code} (B : gB X p (rm9_isDigit) s m args meth c RX9 cX9_isDigit 1 (rm9_isDigit)) (hS9 : gS X s) (hr : meth.sig.returnType = some .boolean) {M : mMem} (u0 : Int32) : GG X p l e (rm9_isDigit) s m args below meth c (gP X below args s 0 0 (fun r9 : Int32 => (some (.int r9), M))) 1 0 0 17 [] [.int u0] M (p9_isDigit_J17 M u0) := by
  unfold p9_isDigit_J17
  exact g_zreturn (f := fun z => z) B hr (by decide) (by decide) rfl dX9_isDigit_17
set_option maxRecDepth 20000 in
set_option maxHeartbeats 2000000 in
theorem g9_isDigit_J16 {X : gX} {p : Program} {l : Launch} {e : Env} {s : State} {m : MethodId} {args : Array Value} {below : List Frame} {meth : Method} {c : Code} (B : gB X p (rm9_isDigit) s m args meth c RX9 cX9_isDigit 1 (rm9_isDigit)) (hS9 : gS X s) (hr : meth.sig.returnType = some .boolean) {M : mMem} : GG X p l e (rm9_isDigit) s m args below meth c (gP X below args s 0 0 (fun r9 : Int32 => (some (.int r9), M))) 1 0 0 16 [] [] M (p9_isDigit_J16 M) := by
  unfold p9_isDigit_J16
  refine g_iconst (v := 0) B dX9_isDigit_16 (by decide) ?_
  refine g_sub (lv' := []) [] rfl ?_
  exact g9_isDigit_J17 B hS9 hr 0
set_option maxRecDepth 20000 in
set_option maxHeartbeats 2000000 in
theorem g9_isDigit {X : gX} {p : Program} {l : Launch} {e : Env} {s : State} {m : MethodId} {args : Array Value} {below : List Frame} {meth : Method} {c : Code} (B : gB X p (rm9_isDigit) s m args meth c RX9 cX9_isDigit 1 (rm9_isDigit)) (hS9 : gS X s) (hr : meth.sig.returnType = some .boolean) {M : mMem} (x0 : Int32) : GG X p l e (rm9_isDigit) s m args below meth c (gP X below args s 0 0 (fun r9 : Int32 => (some (.int r9), M))) 1 0 0 0 [(0, .int x0)] [] M (p9_isDigit x0 M) := by
  unfold p9_isDigit
  refine g_iload_n B dX9_isDigit_0 0 rfl ?_
  refine g_bipush (v := 48) B dX9_isDigit_1 (by decide) ?_
  refine g_icmp_lt B 16 dX9_isDigit_3 (by decide) ?_ ?_
  · refine g_sub (lv' := []) [] rfl ?_
    exact g9_isDigit_J16 B hS9 hr
  · refine g_iload_n B dX9_isDigit_6 0 rfl ?_
    refine g_bipush (v := 57) B dX9_isDigit_7 (by decide) ?_
    refine g_icmp_gt B 16 dX9_isDigit_9 (by decide) ?_ ?_
    · refine g_sub (lv' := []) [] rfl ?_
      exact g9_isDigit_J16 B hS9 hr
    · refine g_iconst (v := 1) B dX9_isDigit_12 (by decide) ?_
      refine g_goto B 17 dX9_isDigit_13 (by decide) ?_
      refine g_sub (lv' := []) [] rfl ?_
      exact g9_isDigit_J17 B hS9 hr 1
theorem c9_isDigit (X : gX) (l : Launch) (x0 : Int32) (M : mMem) : Con X l yX9_isDigit cX9_isDigit 1 (some .boolean) rm9_isDigit (fun r9 : Int32 => (some (.int r9), M)) [.int x0] M (p9_isDigit x0 M) := g_con (own := RX9) (by decide +kernel) rfl (Nat.le_of_ble_eq_true rfl) (fun p e s m args below meth c B hS9 hr hn => g9_isDigit B hS9 hr x0)
theorem mf3_endOfThing : gMF yX9_endOfThing cX9_endOfThing 5 (some .int) 2 := ⟨wd_750, wd_6, ⟨by decide, by decide⟩, by decide +kernel⟩
set_option maxRecDepth 20000 in
set_option maxHeartbeats 2000000 in
theorem g3_endOfThing_J72 {X : gX} {p : Program} {l : Launch} {e : Env} {s : State} {m : MethodId} {args : Array Value} {below : List Frame} {meth : Method} {c : Code} (B : gB X p (rm3_endOfThing) s m args meth c RX9 cX9_endOfThing 5 (rm3_endOfThing)) (hS9 : gS X s) (hr : meth.sig.returnType = some .int) {M : mMem} (a0 : Nat) : GG X p l e (rm3_endOfThing) s m args below meth c (gP X below args s 0 0 (fun r9 : Int32 => (some (.int r9), M))) 5 0 0 72 [(0, .ref a0)] [] M (p3_endOfThing_J72 M a0) := by
  unfold p3_endOfThing_J72
  refine g_aload_n B dX9_endOfThing_72 0 rfl ?_
  refine g_getI (ci := 3) (T0 := TX3) (N := 9) B (by decide) rfl in_3 (k := 5) (by decide) rfl wd_245 (fun _ h => h) dX9_endOfThing_73 (fun v_1 => ?_)
  exact g_ireturn B hr rfl (by decide) (by decide) rfl dX9_endOfThing_76
set_option maxRecDepth 20000 in
set_option maxHeartbeats 2000000 in
theorem g3_endOfThing_J57 {X : gX} {p : Program} {l : Launch} {e : Env} {s : State} {m : MethodId} {args : Array Value} {below : List Frame} {meth : Method} {c : Code} (B : gB X p (rm3_endOfThing) s m args meth c RX9 cX9_endOfThing 5 (rm3_endOfThing)) (hS9 : gS X s) (hr : meth.sig.returnType = some .int) {M : mMem} (rec2 : Nat → Nat → Int32 → Int32 → Option Int32) (hrec2 : ∀ (a0 : Nat) (a1 : Nat) (x2 : Int32) (x3 : Int32), GG X p l e (rm3_endOfThing) s m args below meth c (gP X below args s 0 0 (fun r9 : Int32 => (some (.int r9), M))) 5 0 0 2 [(0, .ref a0), (1, .ref a1), (2, .int x2), (3, .int x3)] [] M (rec2 a0 a1 x2 x3)) (a0 : Nat) (a1 : Nat) (x2 : Int32) (x3 : Int32) (u0 : Int32) : GG X p l e (rm3_endOfThing) s m args below meth c (gP X below args s 0 0 (fun r9 : Int32 => (some (.int r9), M))) 5 0 0 57 [(0, .ref a0), (1, .ref a1), (2, .int x2), (3, .int x3)] [.int u0] M (p3_endOfThing_J57 M rec2 a0 a1 x2 x3 u0) := by
  unfold p3_endOfThing_J57
  refine g_istore (lv' := [(4, .int u0), (0, .ref a0), (1, .ref a1), (2, .int x2), (3, .int x3)]) B dX9_endOfThing_57 (by decide) [0, 1, 2, 3, 4] rfl ?_
  refine g_iload B dX9_endOfThing_59 0 rfl ?_
  refine g_if_ne B 66 dX9_endOfThing_61 (by decide) ?_ ?_
  · refine g_iload_n B dX9_endOfThing_64 4 rfl ?_
    exact g_ireturn B hr rfl (by decide) (by decide) rfl dX9_endOfThing_65
  · refine g_iinc (v := (x3 + 1)) (lv' := [(3, .int (x3 + 1)), (4, .int u0), (0, .ref a0), (1, .ref a1), (2, .int x2)]) B dX9_endOfThing_66 4 rfl rfl (by decide) [0, 1, 2, 3, 4] rfl ?_
    refine g_goto B 2 dX9_endOfThing_69 (by decide) ?_
    refine g_sub (lv' := [(0, .ref a0), (1, .ref a1), (2, .int x2), (3, .int (x3 + 1))]) [2, 3, 4, 0] rfl ?_
    exact hrec2 a0 a1 x2 (x3 + 1)
set_option maxRecDepth 20000 in
set_option maxHeartbeats 2000000 in
theorem g3_endOfThing_J56 {X : gX} {p : Program} {l : Launch} {e : Env} {s : State} {m : MethodId} {args : Array Value} {below : List Frame} {meth : Method} {c : Code} (B : gB X p (rm3_endOfThing) s m args meth c RX9 cX9_endOfThing 5 (rm3_endOfThing)) (hS9 : gS X s) (hr : meth.sig.returnType = some .int) {M : mMem} (rec2 : Nat → Nat → Int32 → Int32 → Option Int32) (hrec2 : ∀ (a0 : Nat) (a1 : Nat) (x2 : Int32) (x3 : Int32), GG X p l e (rm3_endOfThing) s m args below meth c (gP X below args s 0 0 (fun r9 : Int32 => (some (.int r9), M))) 5 0 0 2 [(0, .ref a0), (1, .ref a1), (2, .int x2), (3, .int x3)] [] M (rec2 a0 a1 x2 x3)) (a0 : Nat) (a1 : Nat) (x2 : Int32) (x3 : Int32) : GG X p l e (rm3_endOfThing) s m args below meth c (gP X below args s 0 0 (fun r9 : Int32 => (some (.int r9), M))) 5 0 0 56 [(0, .ref a0), (1, .ref a1), (2, .int x2), (3, .int x3)] [] M (p3_endOfThing_J56 M rec2 a0 a1 x2 x3) := by
  unfold p3_endOfThing_J56
  refine g_iconst (v := 0) B dX9_endOfThing_56 (by decide) ?_
  refine g_sub (lv' := [(0, .ref a0), (1, .ref a1), (2, .int x2), (3, .int x3)]) [0, 1, 2, 3] rfl ?_
  exact g3_endOfThing_J57 B hS9 hr rec2 hrec2 a0 a1 x2 x3 0
set_option maxRecDepth 20000 in
set_option maxHeartbeats 2000000 in
theorem g3_endOfThing_J52 {X : gX} {p : Program} {l : Launch} {e : Env} {s : State} {m : MethodId} {args : Array Value} {below : List Frame} {meth : Method} {c : Code} (B : gB X p (rm3_endOfThing) s m args meth c RX9 cX9_endOfThing 5 (rm3_endOfThing)) (hS9 : gS X s) (hr : meth.sig.returnType = some .int) {M : mMem} (rec2 : Nat → Nat → Int32 → Int32 → Option Int32) (hrec2 : ∀ (a0 : Nat) (a1 : Nat) (x2 : Int32) (x3 : Int32), GG X p l e (rm3_endOfThing) s m args below meth c (gP X below args s 0 0 (fun r9 : Int32 => (some (.int r9), M))) 5 0 0 2 [(0, .ref a0), (1, .ref a1), (2, .int x2), (3, .int x3)] [] M (rec2 a0 a1 x2 x3)) (a0 : Nat) (a1 : Nat) (x2 : Int32) (x3 : Int32) : GG X p l e (rm3_endOfThing) s m args below meth c (gP X below args s 0 0 (fun r9 : Int32 => (some (.int r9), M))) 5 0 0 52 [(0, .ref a0), (1, .ref a1), (2, .int x2), (3, .int x3)] [] M (p3_endOfThing_J52 M rec2 a0 a1 x2 x3) := by
  unfold p3_endOfThing_J52
  refine g_iconst (v := 1) B dX9_endOfThing_52 (by decide) ?_
  refine g_goto B 57 dX9_endOfThing_53 (by decide) ?_
  refine g_sub (lv' := [(0, .ref a0), (1, .ref a1), (2, .int x2), (3, .int x3)]) [0, 1, 2, 3] rfl ?_
  exact g3_endOfThing_J57 B hS9 hr rec2 hrec2 a0 a1 x2 x3 1
set_option maxRecDepth 20000 in
set_option maxHeartbeats 2000000 in
theorem g3_endOfThing_J34 {X : gX} {p : Program} {l : Launch} {e : Env} {s : State} {m : MethodId} {args : Array Value} {below : List Frame} {meth : Method} {c : Code} (B : gB X p (rm3_endOfThing) s m args meth c RX9 cX9_endOfThing 5 (rm3_endOfThing)) (hS9 : gS X s) (hr : meth.sig.returnType = some .int) {M : mMem} (rec2 : Nat → Nat → Int32 → Int32 → Option Int32) (hrec2 : ∀ (a0 : Nat) (a1 : Nat) (x2 : Int32) (x3 : Int32), GG X p l e (rm3_endOfThing) s m args below meth c (gP X below args s 0 0 (fun r9 : Int32 => (some (.int r9), M))) 5 0 0 2 [(0, .ref a0), (1, .ref a1), (2, .int x2), (3, .int x3)] [] M (rec2 a0 a1 x2 x3)) (a0 : Nat) (a1 : Nat) (x2 : Int32) (x3 : Int32) : GG X p l e (rm3_endOfThing) s m args below meth c (gP X below args s 0 0 (fun r9 : Int32 => (some (.int r9), M))) 5 0 0 34 [(0, .ref a0), (1, .ref a1), (2, .int x2), (3, .int x3)] [] M (p3_endOfThing_J34 M rec2 a0 a1 x2 x3) := by
  unfold p3_endOfThing_J34
  refine g_aload_n B dX9_endOfThing_34 1 rfl ?_
  refine g_iload_n B dX9_endOfThing_35 2 rfl ?_
  refine g_iaload B dX9_endOfThing_36 (fun v_1 => ?_)
  refine g_callS_ip [.int v_1] B hS9 mf9_isDigit wd_755 wd_754 (c9_isDigit X l v_1 M) (by decide) (by decide) (by decide) rfl (by decide) dX9_endOfThing_37 rfl (fun v_2 => ?_)
  refine g_if_eq B 56 dX9_endOfThing_40 (by decide) ?_ ?_
  · refine g_sub (lv' := [(0, .ref a0), (1, .ref a1), (2, .int x2), (3, .int x3)]) [0, 1, 2, 3] rfl ?_
    exact g3_endOfThing_J56 B hS9 hr rec2 hrec2 a0 a1 x2 x3
  · refine g_aload_n B dX9_endOfThing_43 1 rfl ?_
    refine g_iload_n B dX9_endOfThing_44 3 rfl ?_
    refine g_iaload B dX9_endOfThing_45 (fun v_3 => ?_)
    refine g_callS_ip [.int v_3] B hS9 mf9_isDigit wd_755 wd_754 (c9_isDigit X l v_3 M) (by decide) (by decide) (by decide) rfl (by decide) dX9_endOfThing_46 rfl (fun v_4 => ?_)
    refine g_if_eq B 56 dX9_endOfThing_49 (by decide) ?_ ?_
    · refine g_sub (lv' := [(0, .ref a0), (1, .ref a1), (2, .int x2), (3, .int x3)]) [0, 1, 2, 3] rfl ?_
      exact g3_endOfThing_J56 B hS9 hr rec2 hrec2 a0 a1 x2 x3
    · refine g_sub (lv' := [(0, .ref a0), (1, .ref a1), (2, .int x2), (3, .int x3)]) [0, 1, 2, 3] rfl ?_
      exact g3_endOfThing_J52 B hS9 hr rec2 hrec2 a0 a1 x2 x3
set_option maxRecDepth 20000 in
set_option maxHeartbeats 2000000 in
theorem g3_endOfThing_L2 {X : gX} {p : Program} {l : Launch} {e : Env} {s : State} {m : MethodId} {args : Array Value} {below : List Frame} {meth : Method} {c : Code} (B : gB X p (rm3_endOfThing) s m args meth c RX9 cX9_endOfThing 5 (rm3_endOfThing)) (hS9 : gS X s) (hr : meth.sig.returnType = some .int) {M : mMem} : ∀ (n : Nat) (a0 : Nat) (a1 : Nat) (x2 : Int32) (x3 : Int32), GG X p l e (rm3_endOfThing) s m args below meth c (gP X below args s 0 0 (fun r9 : Int32 => (some (.int r9), M))) 5 0 0 2 [(0, .ref a0), (1, .ref a1), (2, .int x2), (3, .int x3)] [] M (p3_endOfThing_L2 M n a0 a1 x2 x3) := by
  intro n
  induction n with
  | zero => intro a0 a1 x2 x3; exact g_none
  | succ n ih =>
    intro a0 a1 x2 x3
    rw [p3_endOfThing_L2]
    refine g_iload_n B dX9_endOfThing_2 3 rfl ?_
    refine g_aload_n B dX9_endOfThing_3 0 rfl ?_
    refine g_getI (ci := 3) (T0 := TX3) (N := 9) B (by decide) rfl in_3 (k := 5) (by decide) rfl wd_245 (fun _ h => h) dX9_endOfThing_4 (fun v_1 => ?_)
    refine g_icmp_ge B 72 dX9_endOfThing_7 (by decide) ?_ ?_
    · refine g_iload_n B dX9_endOfThing_10 3 rfl ?_
      refine g_aload_n B dX9_endOfThing_11 1 rfl ?_
      refine g_alen B dX9_endOfThing_12 (fun v_2 => ?_)
      refine g_icmp_ge B 72 dX9_endOfThing_13 (by decide) ?_ ?_
      · refine g_aload_n B dX9_endOfThing_16 1 rfl ?_
        refine g_iload_n B dX9_endOfThing_17 2 rfl ?_
        refine g_iaload B dX9_endOfThing_18 (fun v_3 => ?_)
        refine g_callS_ip [.int v_3] B hS9 mf9_isLetter wd_752 wd_751 (c9_isLetter X l v_3 M) (by decide) (by decide) (by decide) rfl (by decide) dX9_endOfThing_19 rfl (fun v_4 => ?_)
        refine g_if_eq B 34 dX9_endOfThing_22 (by decide) ?_ ?_
        · refine g_sub (lv' := [(0, .ref a0), (1, .ref a1), (2, .int x2), (3, .int x3)]) [0, 1, 2, 3] rfl ?_
          exact g3_endOfThing_J34 B hS9 hr (p3_endOfThing_L2 M n) ih a0 a1 x2 x3
        · refine g_aload_n B dX9_endOfThing_25 1 rfl ?_
          refine g_iload_n B dX9_endOfThing_26 3 rfl ?_
          refine g_iaload B dX9_endOfThing_27 (fun v_5 => ?_)
          refine g_callS_ip [.int v_5] B hS9 mf9_isLetter wd_752 wd_751 (c9_isLetter X l v_5 M) (by decide) (by decide) (by decide) rfl (by decide) dX9_endOfThing_28 rfl (fun v_6 => ?_)
          refine g_if_ne B 52 dX9_endOfThing_31 (by decide) ?_ ?_
          · refine g_sub (lv' := [(0, .ref a0), (1, .ref a1), (2, .int x2), (3, .int x3)]) [0, 1, 2, 3] rfl ?_
            exact g3_endOfThing_J34 B hS9 hr (p3_endOfThing_L2 M n) ih a0 a1 x2 x3
          · refine g_sub (lv' := [(0, .ref a0), (1, .ref a1), (2, .int x2), (3, .int x3)]) [0, 1, 2, 3] rfl ?_
            exact g3_endOfThing_J52 B hS9 hr (p3_endOfThing_L2 M n) ih a0 a1 x2 x3
      · refine g_sub (lv' := [(0, .ref a0)]) [0] rfl ?_
        exact g3_endOfThing_J72 B hS9 hr a0
    · refine g_sub (lv' := [(0, .ref a0)]) [0] rfl ?_
      exact g3_endOfThing_J72 B hS9 hr a0
set_option maxRecDepth 20000 in
set_option maxHeartbeats 2000000 in
theorem g3_endOfThing {X : gX} {p : Program} {l : Launch} {e : Env} {s : State} {m : MethodId} {args : Array Value} {below : List Frame} {meth : Method} {c : Code} (B : gB X p (rm3_endOfThing) s m args meth c RX9 cX9_endOfThing 5 (rm3_endOfThing)) (hS9 : gS X s) (hr : meth.sig.returnType = some .int) {M : mMem} (a0 : Nat) (a1 : Nat) (x2 : Int32) : GG X p l e (rm3_endOfThing) s m args below meth c (gP X below args s 0 0 (fun r9 : Int32 => (some (.int r9), M))) 5 0 0 0 [(0, .ref a0), (1, .ref a1), (2, .int x2)] [] M (p3_endOfThing a0 a1 x2 M) := by
  unfold p3_endOfThing
  refine g_gd ?_
  refine g_iload_n B dX9_endOfThing_0 2 rfl ?_
  refine g_istore_n (lv' := [(3, .int x2), (0, .ref a0), (1, .ref a1), (2, .int x2)]) B dX9_endOfThing_1 (by decide) [0, 1, 2, 3] rfl ?_
  refine g_sub (lv' := [(0, .ref a0), (1, .ref a1), (2, .int x2), (3, .int x2)]) [1, 2, 3, 0] rfl ?_
  exact (g3_endOfThing_L2 B hS9 hr) gF a0 a1 x2 x2
theorem c3_endOfThing (X : gX) (l : Launch) (a0 : Nat) (a1 : Nat) (x2 : Int32) (M : mMem) : Con X l yX9_endOfThing cX9_endOfThing 5 (some .int) rm3_endOfThing (fun r9 : Int32 => (some (.int r9), M)) [.ref a0, .ref a1, .int x2] M (p3_endOfThing a0 a1 x2 M) := g_con (own := RX9) (by decide +kernel) rfl (Nat.le_of_ble_eq_true rfl) (fun p e s m args below meth c B hS9 hr hn => g3_endOfThing B hS9 hr a0 a1 x2)
theorem mf9_reads : gMF yX9_reads cX9_reads 5 (some .boolean) 4 := ⟨wd_768, wd_6, ⟨by decide, by decide⟩, by decide +kernel⟩
set_option maxRecDepth 20000 in
set_option maxHeartbeats 2000000 in
theorem g9_reads_J20 {X : gX} {p : Program} {l : Launch} {e : Env} {s : State} {m : MethodId} {args : Array Value} {below : List Frame} {meth : Method} {c : Code} (B : gB X p (rm9_reads) s m args meth c RX9 cX9_reads 5 (rm9_reads)) (hS9 : gS X s) (hr : meth.sig.returnType = some .boolean) {M : mMem} : GG X p l e (rm9_reads) s m args below meth c (gP X below args s 0 0 (fun r9 : Int32 => (some (.int r9), M))) 5 0 0 20 [] [] M (p9_reads_J20 M) := by
  unfold p9_reads_J20
  refine g_iconst (v := 0) B dX9_reads_20 (by decide) ?_
  exact g_ireturn B hr rfl (by decide) (by decide) rfl dX9_reads_21
set_option maxRecDepth 20000 in
set_option maxHeartbeats 2000000 in
theorem g9_reads_L25 {X : gX} {p : Program} {l : Launch} {e : Env} {s : State} {m : MethodId} {args : Array Value} {below : List Frame} {meth : Method} {c : Code} (B : gB X p (rm9_reads) s m args meth c RX9 cX9_reads 5 (rm9_reads)) (hS9 : gS X s) (hr : meth.sig.returnType = some .boolean) {M : mMem} : ∀ (n : Nat) (a0 : Nat) (x1 : Int32) (s3 : Nat) (x4 : Int32), GG X p l e (rm9_reads) s m args below meth c (gP X below args s 0 0 (fun r9 : Int32 => (some (.int r9), M))) 5 0 0 25 [(0, .ref a0), (1, .int x1), (3, .ref (X.2.2.2.1 s3)), (4, .int x4)] [] M (p9_reads_L25 M n a0 x1 s3 x4) := by
  intro n
  induction n with
  | zero => intro a0 x1 s3 x4; exact g_none
  | succ n ih =>
    intro a0 x1 s3 x4
    rw [p9_reads_L25]
    refine g_iload B dX9_reads_25 3 rfl ?_
    refine g_aload_n B dX9_reads_27 2 rfl ?_
    refine g_slen B hS9 wd_769 (by decide) (by decide) (by decide) (Nat.le_of_ble_eq_true rfl) dX9_reads_28 (fun v_1 => ?_)
    refine g_icmp_ge B 57 dX9_reads_31 (by decide) ?_ ?_
    · refine g_aload_n B dX9_reads_34 0 rfl ?_
      refine g_iload_n B dX9_reads_35 1 rfl ?_
      refine g_iload B dX9_reads_36 3 rfl ?_
      refine g_iadd B dX9_reads_38 ?_
      refine g_iaload B dX9_reads_39 (fun v_2 => ?_)
      refine g_aload_n B dX9_reads_40 2 rfl ?_
      refine g_iload B dX9_reads_41 3 rfl ?_
      refine g_sat B hS9 wd_779 (by decide) (by decide) (by decide) (Nat.le_of_ble_eq_true rfl) dX9_reads_43 (fun v_3 => ?_)
      refine g_icmp_eq B 51 dX9_reads_46 (by decide) ?_ ?_
      · refine g_iinc (v := (x4 + 1)) (lv' := [(4, .int (x4 + 1)), (0, .ref a0), (1, .int x1), (3, .ref (X.2.2.2.1 s3))]) B dX9_reads_51 3 rfl rfl (by decide) [0, 1, 2, 3] rfl ?_
        refine g_goto B 25 dX9_reads_54 (by decide) ?_
        refine g_sub (lv' := [(0, .ref a0), (1, .int x1), (3, .ref (X.2.2.2.1 s3)), (4, .int (x4 + 1))]) [1, 2, 3, 0] rfl ?_
        exact ih a0 x1 s3 (x4 + 1)
      · refine g_iconst (v := 0) B dX9_reads_49 (by decide) ?_
        exact g_ireturn B hr rfl (by decide) (by decide) rfl dX9_reads_50
    · refine g_iconst (v := 1) B dX9_reads_57 (by decide) ?_
      exact g_ireturn B hr rfl (by decide) (by decide) rfl dX9_reads_58
set_option maxRecDepth 20000 in
set_option maxHeartbeats 2000000 in
theorem g9_reads {X : gX} {p : Program} {l : Launch} {e : Env} {s : State} {m : MethodId} {args : Array Value} {below : List Frame} {meth : Method} {c : Code} (B : gB X p (rm9_reads) s m args meth c RX9 cX9_reads 5 (rm9_reads)) (hS9 : gS X s) (hr : meth.sig.returnType = some .boolean) {M : mMem} (a0 : Nat) (x1 : Int32) (x2 : Int32) (s3 : Nat) : GG X p l e (rm9_reads) s m args below meth c (gP X below args s 0 0 (fun r9 : Int32 => (some (.int r9), M))) 5 0 0 0 [(0, .ref a0), (1, .int x1), (2, .int x2), (3, .ref (X.2.2.2.1 s3))] [] M (p9_reads a0 x1 x2 s3 M) := by
  unfold p9_reads
  refine g_iload_n B dX9_reads_0 2 rfl ?_
  refine g_iload_n B dX9_reads_1 1 rfl ?_
  refine g_isub B dX9_reads_2 ?_
  refine g_aload_n B dX9_reads_3 3 rfl ?_
  refine g_slen B hS9 wd_769 (by decide) (by decide) (by decide) (Nat.le_of_ble_eq_true rfl) dX9_reads_4 (fun v_1 => ?_)
  refine g_icmp_ne B 20 dX9_reads_7 (by decide) ?_ ?_
  · refine g_iload_n B dX9_reads_10 1 rfl ?_
    refine g_if_lt B 20 dX9_reads_11 (by decide) ?_ ?_
    · refine g_sub (lv' := []) [] rfl ?_
      exact g9_reads_J20 B hS9 hr
    · refine g_iload_n B dX9_reads_14 2 rfl ?_
      refine g_aload_n B dX9_reads_15 0 rfl ?_
      refine g_alen B dX9_reads_16 (fun v_2 => ?_)
      refine g_icmp_le B 22 dX9_reads_17 (by decide) ?_ ?_
      · refine g_sub (lv' := []) [] rfl ?_
        exact g9_reads_J20 B hS9 hr
      · refine g_iconst (v := 0) B dX9_reads_22 (by decide) ?_
        refine g_istore (lv' := [(4, .int 0), (0, .ref a0), (1, .int x1), (2, .int x2), (3, .ref (X.2.2.2.1 s3))]) B dX9_reads_23 (by decide) [0, 1, 2, 3, 4] rfl ?_
        refine g_sub (lv' := [(0, .ref a0), (1, .int x1), (3, .ref (X.2.2.2.1 s3)), (4, .int 0)]) [1, 2, 4, 0] rfl ?_
        exact (g9_reads_L25 B hS9 hr) gF a0 x1 s3 0
  · refine g_sub (lv' := []) [] rfl ?_
    exact g9_reads_J20 B hS9 hr
theorem c9_reads (X : gX) (l : Launch) (a0 : Nat) (x1 : Int32) (x2 : Int32) (s3 : Nat) (M : mMem) : Con X l yX9_reads cX9_reads 5 (some .boolean) rm9_reads (fun r9 : Int32 => (some (.int r9), M)) [.ref a0, .int x1, .int x2, .ref (X.2.2.2.1 s3)] M (p9_reads a0 x1 x2 s3 M) := g_con (own := RX9) (by decide +kernel) rfl (Nat.le_of_ble_eq_true rfl) (fun p e s m args below meth c B hS9 hr hn => g9_reads B hS9 hr a0 x1 x2 s3)
theorem mf9_wordOf : gMF yX9_wordOf cX9_wordOf 3 (some .int) 3 := ⟨wd_764, wd_6, ⟨by decide, by decide⟩, by decide +kernel⟩
set_option maxRecDepth 20000 in
set_option maxHeartbeats 2000000 in
theorem g9_wordOf {X : gX} {p : Program} {l : Launch} {e : Env} {s : State} {m : MethodId} {args : Array Value} {below : List Frame} {meth : Method} {c : Code} (B : gB X p (rm9_wordOf) s m args meth c RX9 cX9_wordOf 3 (rm9_wordOf)) (hS9 : gS X s) (hr : meth.sig.returnType = some .int) {M : mMem} (a0 : Nat) (x1 : Int32) (x2 : Int32) : GG X p l e (rm9_wordOf) s m args below meth c (gP X below args s 0 0 (fun r9 : Int32 => (some (.int r9), M))) 3 0 0 0 [(0, .ref a0), (1, .int x1), (2, .int x2)] [] M (p9_wordOf a0 x1 x2 M) := by
  unfold p9_wordOf
  refine g_aload_n B dX9_wordOf_0 0 rfl ?_
  refine g_iload_n B dX9_wordOf_1 1 rfl ?_
  refine g_iload_n B dX9_wordOf_2 2 rfl ?_
  refine g_ldcS (i := 0) B hS9 dX9_wordOf_3 (List.mem_of_getElem? (i := 0) rfl) ?_
  refine g_callS_ip [.ref a0, .int x1, .int x2, .ref (X.2.2.2.1 0)] B hS9 mf9_reads wd_767 wd_766 (c9_reads X l a0 x1 x2 0 M) (by decide) (by decide) (by decide) rfl (by decide) dX9_wordOf_5 rfl (fun v_1 => ?_)
  refine g_if_eq B 13 dX9_wordOf_8 (by decide) ?_ ?_
  · refine g_aload_n B dX9_wordOf_13 0 rfl ?_
    refine g_iload_n B dX9_wordOf_14 1 rfl ?_
    refine g_iload_n B dX9_wordOf_15 2 rfl ?_
    refine g_ldcS (i := 1) B hS9 dX9_wordOf_16 (List.mem_of_getElem? (i := 1) rfl) ?_
    refine g_callS_ip [.ref a0, .int x1, .int x2, .ref (X.2.2.2.1 1)] B hS9 mf9_reads wd_767 wd_766 (c9_reads X l a0 x1 x2 1 M) (by decide) (by decide) (by decide) rfl (by decide) dX9_wordOf_18 rfl (fun v_2 => ?_)
    refine g_if_eq B 26 dX9_wordOf_21 (by decide) ?_ ?_
    · refine g_aload_n B dX9_wordOf_26 0 rfl ?_
      refine g_iload_n B dX9_wordOf_27 1 rfl ?_
      refine g_iload_n B dX9_wordOf_28 2 rfl ?_
      refine g_ldcS (i := 2) B hS9 dX9_wordOf_29 (List.mem_of_getElem? (i := 2) rfl) ?_
      refine g_callS_ip [.ref a0, .int x1, .int x2, .ref (X.2.2.2.1 2)] B hS9 mf9_reads wd_767 wd_766 (c9_reads X l a0 x1 x2 2 M) (by decide) (by decide) (by decide) rfl (by decide) dX9_wordOf_31 rfl (fun v_3 => ?_)
      refine g_if_eq B 39 dX9_wordOf_34 (by decide) ?_ ?_
      · refine g_aload_n B dX9_wordOf_39 0 rfl ?_
        refine g_iload_n B dX9_wordOf_40 1 rfl ?_
        refine g_iload_n B dX9_wordOf_41 2 rfl ?_
        refine g_ldcS (i := 3) B hS9 dX9_wordOf_42 (List.mem_of_getElem? (i := 3) rfl) ?_
        refine g_callS_ip [.ref a0, .int x1, .int x2, .ref (X.2.2.2.1 3)] B hS9 mf9_reads wd_767 wd_766 (c9_reads X l a0 x1 x2 3 M) (by decide) (by decide) (by decide) rfl (by decide) dX9_wordOf_44 rfl (fun v_4 => ?_)
        refine g_if_eq B 53 dX9_wordOf_47 (by decide) ?_ ?_
        · refine g_aload_n B dX9_wordOf_53 0 rfl ?_
          refine g_iload_n B dX9_wordOf_54 1 rfl ?_
          refine g_iload_n B dX9_wordOf_55 2 rfl ?_
          refine g_ldcS (i := 4) B hS9 dX9_wordOf_56 (List.mem_of_getElem? (i := 4) rfl) ?_
          refine g_callS_ip [.ref a0, .int x1, .int x2, .ref (X.2.2.2.1 4)] B hS9 mf9_reads wd_767 wd_766 (c9_reads X l a0 x1 x2 4 M) (by decide) (by decide) (by decide) rfl (by decide) dX9_wordOf_58 rfl (fun v_5 => ?_)
          refine g_if_eq B 67 dX9_wordOf_61 (by decide) ?_ ?_
          · refine g_aload_n B dX9_wordOf_67 0 rfl ?_
            refine g_iload_n B dX9_wordOf_68 1 rfl ?_
            refine g_iload_n B dX9_wordOf_69 2 rfl ?_
            refine g_ldcS (i := 5) B hS9 dX9_wordOf_70 (List.mem_of_getElem? (i := 5) rfl) ?_
            refine g_callS_ip [.ref a0, .int x1, .int x2, .ref (X.2.2.2.1 5)] B hS9 mf9_reads wd_767 wd_766 (c9_reads X l a0 x1 x2 5 M) (by decide) (by decide) (by decide) rfl (by decide) dX9_wordOf_72 rfl (fun v_6 => ?_)
            refine g_if_eq B 81 dX9_wordOf_75 (by decide) ?_ ?_
            · refine g_aload_n B dX9_wordOf_81 0 rfl ?_
              refine g_iload_n B dX9_wordOf_82 1 rfl ?_
              refine g_iload_n B dX9_wordOf_83 2 rfl ?_
              refine g_ldcS (i := 6) B hS9 dX9_wordOf_84 (List.mem_of_getElem? (i := 6) rfl) ?_
              refine g_callS_ip [.ref a0, .int x1, .int x2, .ref (X.2.2.2.1 6)] B hS9 mf9_reads wd_767 wd_766 (c9_reads X l a0 x1 x2 6 M) (by decide) (by decide) (by decide) rfl (by decide) dX9_wordOf_86 rfl (fun v_7 => ?_)
              refine g_if_eq B 95 dX9_wordOf_89 (by decide) ?_ ?_
              · refine g_aload_n B dX9_wordOf_95 0 rfl ?_
                refine g_iload_n B dX9_wordOf_96 1 rfl ?_
                refine g_iload_n B dX9_wordOf_97 2 rfl ?_
                refine g_ldcS (i := 7) B hS9 dX9_wordOf_98 (List.mem_of_getElem? (i := 7) rfl) ?_
                refine g_callS_ip [.ref a0, .int x1, .int x2, .ref (X.2.2.2.1 7)] B hS9 mf9_reads wd_767 wd_766 (c9_reads X l a0 x1 x2 7 M) (by decide) (by decide) (by decide) rfl (by decide) dX9_wordOf_100 rfl (fun v_8 => ?_)
                refine g_if_eq B 109 dX9_wordOf_103 (by decide) ?_ ?_
                · refine g_aload_n B dX9_wordOf_109 0 rfl ?_
                  refine g_iload_n B dX9_wordOf_110 1 rfl ?_
                  refine g_iload_n B dX9_wordOf_111 2 rfl ?_
                  refine g_ldcS (i := 8) B hS9 dX9_wordOf_112 (List.mem_of_getElem? (i := 8) rfl) ?_
                  refine g_callS_ip [.ref a0, .int x1, .int x2, .ref (X.2.2.2.1 8)] B hS9 mf9_reads wd_767 wd_766 (c9_reads X l a0 x1 x2 8 M) (by decide) (by decide) (by decide) rfl (by decide) dX9_wordOf_114 rfl (fun v_9 => ?_)
                  refine g_if_eq B 123 dX9_wordOf_117 (by decide) ?_ ?_
                  · refine g_aload_n B dX9_wordOf_123 0 rfl ?_
                    refine g_iload_n B dX9_wordOf_124 1 rfl ?_
                    refine g_iload_n B dX9_wordOf_125 2 rfl ?_
                    refine g_ldcS (i := 9) B hS9 dX9_wordOf_126 (List.mem_of_getElem? (i := 9) rfl) ?_
                    refine g_callS_ip [.ref a0, .int x1, .int x2, .ref (X.2.2.2.1 9)] B hS9 mf9_reads wd_767 wd_766 (c9_reads X l a0 x1 x2 9 M) (by decide) (by decide) (by decide) rfl (by decide) dX9_wordOf_128 rfl (fun v_10 => ?_)
                    refine g_if_eq B 137 dX9_wordOf_131 (by decide) ?_ ?_
                    · refine g_aload_n B dX9_wordOf_137 0 rfl ?_
                      refine g_iload_n B dX9_wordOf_138 1 rfl ?_
                      refine g_iload_n B dX9_wordOf_139 2 rfl ?_
                      refine g_ldcS (i := 10) B hS9 dX9_wordOf_140 (List.mem_of_getElem? (i := 10) rfl) ?_
                      refine g_callS_ip [.ref a0, .int x1, .int x2, .ref (X.2.2.2.1 10)] B hS9 mf9_reads wd_767 wd_766 (c9_reads X l a0 x1 x2 10 M) (by decide) (by decide) (by decide) rfl (by decide) dX9_wordOf_142 rfl (fun v_11 => ?_)
                      refine g_if_eq B 151 dX9_wordOf_145 (by decide) ?_ ?_
                      · refine g_aload_n B dX9_wordOf_151 0 rfl ?_
                        refine g_iload_n B dX9_wordOf_152 1 rfl ?_
                        refine g_iload_n B dX9_wordOf_153 2 rfl ?_
                        refine g_ldcS (i := 11) B hS9 dX9_wordOf_154 (List.mem_of_getElem? (i := 11) rfl) ?_
                        refine g_callS_ip [.ref a0, .int x1, .int x2, .ref (X.2.2.2.1 11)] B hS9 mf9_reads wd_767 wd_766 (c9_reads X l a0 x1 x2 11 M) (by decide) (by decide) (by decide) rfl (by decide) dX9_wordOf_156 rfl (fun v_12 => ?_)
                        refine g_if_eq B 165 dX9_wordOf_159 (by decide) ?_ ?_
                        · refine g_aload_n B dX9_wordOf_165 0 rfl ?_
                          refine g_iload_n B dX9_wordOf_166 1 rfl ?_
                          refine g_iload_n B dX9_wordOf_167 2 rfl ?_
                          refine g_ldcS (i := 12) B hS9 dX9_wordOf_168 (List.mem_of_getElem? (i := 12) rfl) ?_
                          refine g_callS_ip [.ref a0, .int x1, .int x2, .ref (X.2.2.2.1 12)] B hS9 mf9_reads wd_767 wd_766 (c9_reads X l a0 x1 x2 12 M) (by decide) (by decide) (by decide) rfl (by decide) dX9_wordOf_170 rfl (fun v_13 => ?_)
                          refine g_if_eq B 179 dX9_wordOf_173 (by decide) ?_ ?_
                          · refine g_aload_n B dX9_wordOf_179 0 rfl ?_
                            refine g_iload_n B dX9_wordOf_180 1 rfl ?_
                            refine g_iload_n B dX9_wordOf_181 2 rfl ?_
                            refine g_ldcS (i := 13) B hS9 dX9_wordOf_182 (List.mem_of_getElem? (i := 13) rfl) ?_
                            refine g_callS_ip [.ref a0, .int x1, .int x2, .ref (X.2.2.2.1 13)] B hS9 mf9_reads wd_767 wd_766 (c9_reads X l a0 x1 x2 13 M) (by decide) (by decide) (by decide) rfl (by decide) dX9_wordOf_184 rfl (fun v_14 => ?_)
                            refine g_if_eq B 193 dX9_wordOf_187 (by decide) ?_ ?_
                            · refine g_aload_n B dX9_wordOf_193 0 rfl ?_
                              refine g_iload_n B dX9_wordOf_194 1 rfl ?_
                              refine g_iload_n B dX9_wordOf_195 2 rfl ?_
                              refine g_ldcS (i := 14) B hS9 dX9_wordOf_196 (List.mem_of_getElem? (i := 14) rfl) ?_
                              refine g_callS_ip [.ref a0, .int x1, .int x2, .ref (X.2.2.2.1 14)] B hS9 mf9_reads wd_767 wd_766 (c9_reads X l a0 x1 x2 14 M) (by decide) (by decide) (by decide) rfl (by decide) dX9_wordOf_198 rfl (fun v_15 => ?_)
                              refine g_if_eq B 207 dX9_wordOf_201 (by decide) ?_ ?_
                              · refine g_aload_n B dX9_wordOf_207 0 rfl ?_
                                refine g_iload_n B dX9_wordOf_208 1 rfl ?_
                                refine g_iload_n B dX9_wordOf_209 2 rfl ?_
                                refine g_ldcS (i := 15) B hS9 dX9_wordOf_210 (List.mem_of_getElem? (i := 15) rfl) ?_
                                refine g_callS_ip [.ref a0, .int x1, .int x2, .ref (X.2.2.2.1 15)] B hS9 mf9_reads wd_767 wd_766 (c9_reads X l a0 x1 x2 15 M) (by decide) (by decide) (by decide) rfl (by decide) dX9_wordOf_212 rfl (fun v_16 => ?_)
                                refine g_if_eq B 221 dX9_wordOf_215 (by decide) ?_ ?_
                                · refine g_aload_n B dX9_wordOf_221 0 rfl ?_
                                  refine g_iload_n B dX9_wordOf_222 1 rfl ?_
                                  refine g_iload_n B dX9_wordOf_223 2 rfl ?_
                                  refine g_ldcS (i := 16) B hS9 dX9_wordOf_224 (List.mem_of_getElem? (i := 16) rfl) ?_
                                  refine g_callS_ip [.ref a0, .int x1, .int x2, .ref (X.2.2.2.1 16)] B hS9 mf9_reads wd_767 wd_766 (c9_reads X l a0 x1 x2 16 M) (by decide) (by decide) (by decide) rfl (by decide) dX9_wordOf_226 rfl (fun v_17 => ?_)
                                  refine g_if_eq B 235 dX9_wordOf_229 (by decide) ?_ ?_
                                  · refine g_aload_n B dX9_wordOf_235 0 rfl ?_
                                    refine g_iload_n B dX9_wordOf_236 1 rfl ?_
                                    refine g_iload_n B dX9_wordOf_237 2 rfl ?_
                                    refine g_ldcS (i := 17) B hS9 dX9_wordOf_238 (List.mem_of_getElem? (i := 17) rfl) ?_
                                    refine g_callS_ip [.ref a0, .int x1, .int x2, .ref (X.2.2.2.1 17)] B hS9 mf9_reads wd_767 wd_766 (c9_reads X l a0 x1 x2 17 M) (by decide) (by decide) (by decide) rfl (by decide) dX9_wordOf_240 rfl (fun v_18 => ?_)
                                    refine g_if_eq B 249 dX9_wordOf_243 (by decide) ?_ ?_
                                    · refine g_aload_n B dX9_wordOf_249 0 rfl ?_
                                      refine g_iload_n B dX9_wordOf_250 1 rfl ?_
                                      refine g_iload_n B dX9_wordOf_251 2 rfl ?_
                                      refine g_ldcS (i := 18) B hS9 dX9_wordOf_252 (List.mem_of_getElem? (i := 18) rfl) ?_
                                      refine g_callS_ip [.ref a0, .int x1, .int x2, .ref (X.2.2.2.1 18)] B hS9 mf9_reads wd_767 wd_766 (c9_reads X l a0 x1 x2 18 M) (by decide) (by decide) (by decide) rfl (by decide) dX9_wordOf_254 rfl (fun v_19 => ?_)
                                      refine g_if_eq B 263 dX9_wordOf_257 (by decide) ?_ ?_
                                      · refine g_aload_n B dX9_wordOf_263 0 rfl ?_
                                        refine g_iload_n B dX9_wordOf_264 1 rfl ?_
                                        refine g_iload_n B dX9_wordOf_265 2 rfl ?_
                                        refine g_ldcS (i := 19) B hS9 dX9_wordOf_266 (List.mem_of_getElem? (i := 19) rfl) ?_
                                        refine g_callS_ip [.ref a0, .int x1, .int x2, .ref (X.2.2.2.1 19)] B hS9 mf9_reads wd_767 wd_766 (c9_reads X l a0 x1 x2 19 M) (by decide) (by decide) (by decide) rfl (by decide) dX9_wordOf_268 rfl (fun v_20 => ?_)
                                        refine g_if_eq B 277 dX9_wordOf_271 (by decide) ?_ ?_
                                        · refine g_aload_n B dX9_wordOf_277 0 rfl ?_
                                          refine g_iload_n B dX9_wordOf_278 1 rfl ?_
                                          refine g_iload_n B dX9_wordOf_279 2 rfl ?_
                                          refine g_ldcS (i := 20) B hS9 dX9_wordOf_280 (List.mem_of_getElem? (i := 20) rfl) ?_
                                          refine g_callS_ip [.ref a0, .int x1, .int x2, .ref (X.2.2.2.1 20)] B hS9 mf9_reads wd_767 wd_766 (c9_reads X l a0 x1 x2 20 M) (by decide) (by decide) (by decide) rfl (by decide) dX9_wordOf_282 rfl (fun v_21 => ?_)
                                          refine g_if_eq B 291 dX9_wordOf_285 (by decide) ?_ ?_
                                          · refine g_aload_n B dX9_wordOf_291 0 rfl ?_
                                            refine g_iload_n B dX9_wordOf_292 1 rfl ?_
                                            refine g_iload_n B dX9_wordOf_293 2 rfl ?_
                                            refine g_ldcS (i := 21) B hS9 dX9_wordOf_294 (List.mem_of_getElem? (i := 21) rfl) ?_
                                            refine g_callS_ip [.ref a0, .int x1, .int x2, .ref (X.2.2.2.1 21)] B hS9 mf9_reads wd_767 wd_766 (c9_reads X l a0 x1 x2 21 M) (by decide) (by decide) (by decide) rfl (by decide) dX9_wordOf_296 rfl (fun v_22 => ?_)
                                            refine g_if_eq B 305 dX9_wordOf_299 (by decide) ?_ ?_
                                            · refine g_aload_n B dX9_wordOf_305 0 rfl ?_
                                              refine g_iload_n B dX9_wordOf_306 1 rfl ?_
                                              refine g_iload_n B dX9_wordOf_307 2 rfl ?_
                                              refine g_ldcS (i := 22) B hS9 dX9_wordOf_308 (List.mem_of_getElem? (i := 22) rfl) ?_
                                              refine g_callS_ip [.ref a0, .int x1, .int x2, .ref (X.2.2.2.1 22)] B hS9 mf9_reads wd_767 wd_766 (c9_reads X l a0 x1 x2 22 M) (by decide) (by decide) (by decide) rfl (by decide) dX9_wordOf_310 rfl (fun v_23 => ?_)
                                              refine g_if_eq B 319 dX9_wordOf_313 (by decide) ?_ ?_
                                              · refine g_aload_n B dX9_wordOf_319 0 rfl ?_
                                                refine g_iload_n B dX9_wordOf_320 1 rfl ?_
                                                refine g_iload_n B dX9_wordOf_321 2 rfl ?_
                                                refine g_ldcS (i := 23) B hS9 dX9_wordOf_322 (List.mem_of_getElem? (i := 23) rfl) ?_
                                                refine g_callS_ip [.ref a0, .int x1, .int x2, .ref (X.2.2.2.1 23)] B hS9 mf9_reads wd_767 wd_766 (c9_reads X l a0 x1 x2 23 M) (by decide) (by decide) (by decide) rfl (by decide) dX9_wordOf_324 rfl (fun v_24 => ?_)
                                                refine g_if_eq B 333 dX9_wordOf_327 (by decide) ?_ ?_
                                                · refine g_aload_n B dX9_wordOf_333 0 rfl ?_
                                                  refine g_iload_n B dX9_wordOf_334 1 rfl ?_
                                                  refine g_iload_n B dX9_wordOf_335 2 rfl ?_
                                                  refine g_ldcS (i := 24) B hS9 dX9_wordOf_336 (List.mem_of_getElem? (i := 24) rfl) ?_
                                                  refine g_callS_ip [.ref a0, .int x1, .int x2, .ref (X.2.2.2.1 24)] B hS9 mf9_reads wd_767 wd_766 (c9_reads X l a0 x1 x2 24 M) (by decide) (by decide) (by decide) rfl (by decide) dX9_wordOf_338 rfl (fun v_25 => ?_)
                                                  refine g_if_eq B 347 dX9_wordOf_341 (by decide) ?_ ?_
                                                  · refine g_aload_n B dX9_wordOf_347 0 rfl ?_
                                                    refine g_iload_n B dX9_wordOf_348 1 rfl ?_
                                                    refine g_iload_n B dX9_wordOf_349 2 rfl ?_
                                                    refine g_ldcS (i := 25) B hS9 dX9_wordOf_350 (List.mem_of_getElem? (i := 25) rfl) ?_
                                                    refine g_callS_ip [.ref a0, .int x1, .int x2, .ref (X.2.2.2.1 25)] B hS9 mf9_reads wd_767 wd_766 (c9_reads X l a0 x1 x2 25 M) (by decide) (by decide) (by decide) rfl (by decide) dX9_wordOf_352 rfl (fun v_26 => ?_)
                                                    refine g_if_eq B 361 dX9_wordOf_355 (by decide) ?_ ?_
                                                    · refine g_aload_n B dX9_wordOf_361 0 rfl ?_
                                                      refine g_iload_n B dX9_wordOf_362 1 rfl ?_
                                                      refine g_iload_n B dX9_wordOf_363 2 rfl ?_
                                                      refine g_ldcS (i := 26) B hS9 dX9_wordOf_364 (List.mem_of_getElem? (i := 26) rfl) ?_
                                                      refine g_callS_ip [.ref a0, .int x1, .int x2, .ref (X.2.2.2.1 26)] B hS9 mf9_reads wd_767 wd_766 (c9_reads X l a0 x1 x2 26 M) (by decide) (by decide) (by decide) rfl (by decide) dX9_wordOf_366 rfl (fun v_27 => ?_)
                                                      refine g_if_eq B 375 dX9_wordOf_369 (by decide) ?_ ?_
                                                      · refine g_iconst (v := 0) B dX9_wordOf_375 (by decide) ?_
                                                        exact g_ireturn B hr rfl (by decide) (by decide) rfl dX9_wordOf_376
                                                      · refine g_bipush (v := 29) B dX9_wordOf_372 (by decide) ?_
                                                        exact g_ireturn B hr rfl (by decide) (by decide) rfl dX9_wordOf_374
                                                    · refine g_bipush (v := 28) B dX9_wordOf_358 (by decide) ?_
                                                      exact g_ireturn B hr rfl (by decide) (by decide) rfl dX9_wordOf_360
                                                  · refine g_bipush (v := 27) B dX9_wordOf_344 (by decide) ?_
                                                    exact g_ireturn B hr rfl (by decide) (by decide) rfl dX9_wordOf_346
                                                · refine g_bipush (v := 26) B dX9_wordOf_330 (by decide) ?_
                                                  exact g_ireturn B hr rfl (by decide) (by decide) rfl dX9_wordOf_332
                                              · refine g_bipush (v := 25) B dX9_wordOf_316 (by decide) ?_
                                                exact g_ireturn B hr rfl (by decide) (by decide) rfl dX9_wordOf_318
                                            · refine g_bipush (v := 24) B dX9_wordOf_302 (by decide) ?_
                                              exact g_ireturn B hr rfl (by decide) (by decide) rfl dX9_wordOf_304
                                          · refine g_bipush (v := 23) B dX9_wordOf_288 (by decide) ?_
                                            exact g_ireturn B hr rfl (by decide) (by decide) rfl dX9_wordOf_290
                                        · refine g_bipush (v := 22) B dX9_wordOf_274 (by decide) ?_
                                          exact g_ireturn B hr rfl (by decide) (by decide) rfl dX9_wordOf_276
                                      · refine g_bipush (v := 21) B dX9_wordOf_260 (by decide) ?_
                                        exact g_ireturn B hr rfl (by decide) (by decide) rfl dX9_wordOf_262
                                    · refine g_bipush (v := 20) B dX9_wordOf_246 (by decide) ?_
                                      exact g_ireturn B hr rfl (by decide) (by decide) rfl dX9_wordOf_248
                                  · refine g_bipush (v := 19) B dX9_wordOf_232 (by decide) ?_
                                    exact g_ireturn B hr rfl (by decide) (by decide) rfl dX9_wordOf_234
                                · refine g_bipush (v := 18) B dX9_wordOf_218 (by decide) ?_
                                  exact g_ireturn B hr rfl (by decide) (by decide) rfl dX9_wordOf_220
                              · refine g_bipush (v := 17) B dX9_wordOf_204 (by decide) ?_
                                exact g_ireturn B hr rfl (by decide) (by decide) rfl dX9_wordOf_206
                            · refine g_bipush (v := 16) B dX9_wordOf_190 (by decide) ?_
                              exact g_ireturn B hr rfl (by decide) (by decide) rfl dX9_wordOf_192
                          · refine g_bipush (v := 15) B dX9_wordOf_176 (by decide) ?_
                            exact g_ireturn B hr rfl (by decide) (by decide) rfl dX9_wordOf_178
                        · refine g_bipush (v := 14) B dX9_wordOf_162 (by decide) ?_
                          exact g_ireturn B hr rfl (by decide) (by decide) rfl dX9_wordOf_164
                      · refine g_bipush (v := 13) B dX9_wordOf_148 (by decide) ?_
                        exact g_ireturn B hr rfl (by decide) (by decide) rfl dX9_wordOf_150
                    · refine g_bipush (v := 12) B dX9_wordOf_134 (by decide) ?_
                      exact g_ireturn B hr rfl (by decide) (by decide) rfl dX9_wordOf_136
                  · refine g_bipush (v := 11) B dX9_wordOf_120 (by decide) ?_
                    exact g_ireturn B hr rfl (by decide) (by decide) rfl dX9_wordOf_122
                · refine g_bipush (v := 10) B dX9_wordOf_106 (by decide) ?_
                  exact g_ireturn B hr rfl (by decide) (by decide) rfl dX9_wordOf_108
              · refine g_bipush (v := 9) B dX9_wordOf_92 (by decide) ?_
                exact g_ireturn B hr rfl (by decide) (by decide) rfl dX9_wordOf_94
            · refine g_bipush (v := 8) B dX9_wordOf_78 (by decide) ?_
              exact g_ireturn B hr rfl (by decide) (by decide) rfl dX9_wordOf_80
          · refine g_bipush (v := 7) B dX9_wordOf_64 (by decide) ?_
            exact g_ireturn B hr rfl (by decide) (by decide) rfl dX9_wordOf_66
        · refine g_bipush (v := 6) B dX9_wordOf_50 (by decide) ?_
          exact g_ireturn B hr rfl (by decide) (by decide) rfl dX9_wordOf_52
      · refine g_iconst (v := 5) B dX9_wordOf_37 (by decide) ?_
        exact g_ireturn B hr rfl (by decide) (by decide) rfl dX9_wordOf_38
    · refine g_iconst (v := 4) B dX9_wordOf_24 (by decide) ?_
      exact g_ireturn B hr rfl (by decide) (by decide) rfl dX9_wordOf_25
  · refine g_iconst (v := 3) B dX9_wordOf_11 (by decide) ?_
    exact g_ireturn B hr rfl (by decide) (by decide) rfl dX9_wordOf_12
theorem c9_wordOf (X : gX) (l : Launch) (a0 : Nat) (x1 : Int32) (x2 : Int32) (M : mMem) : Con X l yX9_wordOf cX9_wordOf 3 (some .int) rm9_wordOf (fun r9 : Int32 => (some (.int r9), M)) [.ref a0, .int x1, .int x2] M (p9_wordOf a0 x1 x2 M) := g_con (own := RX9) (by decide +kernel) rfl (Nat.le_of_ble_eq_true rfl) (fun p e s m args below meth c B hS9 hr hn => g9_wordOf B hS9 hr a0 x1 x2)
theorem mf9_numberOf : gMF yX9_numberOf cX9_numberOf 5 (some .int) 3 := ⟨wd_845, wd_6, ⟨by decide, by decide⟩, by decide +kernel⟩
set_option maxRecDepth 20000 in
set_option maxHeartbeats 2000000 in
theorem g9_numberOf_J37 {X : gX} {p : Program} {l : Launch} {e : Env} {s : State} {m : MethodId} {args : Array Value} {below : List Frame} {meth : Method} {c : Code} (B : gB X p (rm9_numberOf) s m args meth c RX9 cX9_numberOf 5 (rm9_numberOf)) (hS9 : gS X s) (hr : meth.sig.returnType = some .int) {M : mMem} (x3 : Int32) : GG X p l e (rm9_numberOf) s m args below meth c (gP X below args s 0 0 (fun r9 : Int32 => (some (.int r9), M))) 5 0 0 37 [(3, .int x3)] [] M (p9_numberOf_J37 M x3) := by
  unfold p9_numberOf_J37
  refine g_iload_n B dX9_numberOf_37 0 rfl ?_
  exact g_ireturn B hr rfl (by decide) (by decide) rfl dX9_numberOf_38
set_option maxRecDepth 20000 in
set_option maxHeartbeats 2000000 in
theorem g9_numberOf_L5 {X : gX} {p : Program} {l : Launch} {e : Env} {s : State} {m : MethodId} {args : Array Value} {below : List Frame} {meth : Method} {c : Code} (B : gB X p (rm9_numberOf) s m args meth c RX9 cX9_numberOf 5 (rm9_numberOf)) (hS9 : gS X s) (hr : meth.sig.returnType = some .int) {M : mMem} : ∀ (n : Nat) (a0 : Nat) (x2 : Int32) (x3 : Int32) (x4 : Int32), GG X p l e (rm9_numberOf) s m args below meth c (gP X below args s 0 0 (fun r9 : Int32 => (some (.int r9), M))) 5 0 0 5 [(0, .ref a0), (2, .int x2), (3, .int x3), (4, .int x4)] [] M (p9_numberOf_L5 M n a0 x2 x3 x4) := by
  intro n
  induction n with
  | zero => intro a0 x2 x3 x4; exact g_none
  | succ n ih =>
    intro a0 x2 x3 x4
    rw [p9_numberOf_L5]
    refine g_iload B dX9_numberOf_5 3 rfl ?_
    refine g_iload_n B dX9_numberOf_7 1 rfl ?_
    refine g_icmp_ge B 37 dX9_numberOf_8 (by decide) ?_ ?_
    · refine g_iload B dX9_numberOf_11 3 rfl ?_
      refine g_aload_n B dX9_numberOf_13 0 rfl ?_
      refine g_alen B dX9_numberOf_14 (fun v_1 => ?_)
      refine g_icmp_ge B 37 dX9_numberOf_15 (by decide) ?_ ?_
      · refine g_bipush (v := 10) B dX9_numberOf_18 (by decide) ?_
        refine g_iload_n B dX9_numberOf_20 2 rfl ?_
        refine g_imul B dX9_numberOf_21 ?_
        refine g_aload_n B dX9_numberOf_22 0 rfl ?_
        refine g_iload B dX9_numberOf_23 3 rfl ?_
        refine g_iaload B dX9_numberOf_25 (fun v_2 => ?_)
        refine g_iadd B dX9_numberOf_26 ?_
        refine g_bipush (v := 48) B dX9_numberOf_27 (by decide) ?_
        refine g_isub B dX9_numberOf_29 ?_
        refine g_istore_n (lv' := [(3, .int ((((10 : Int32) * x3) + v_2) - 48)), (0, .ref a0), (2, .int x2), (4, .int x4)]) B dX9_numberOf_30 (by decide) [0, 1, 2, 3] rfl ?_
        refine g_iinc (v := (x4 + 1)) (lv' := [(4, .int (x4 + 1)), (3, .int ((((10 : Int32) * x3) + v_2) - 48)), (0, .ref a0), (2, .int x2)]) B dX9_numberOf_31 3 rfl rfl (by decide) [0, 1, 2, 3] rfl ?_
        refine g_goto B 5 dX9_numberOf_34 (by decide) ?_
        refine g_sub (lv' := [(0, .ref a0), (2, .int x2), (3, .int ((((10 : Int32) * x3) + v_2) - 48)), (4, .int (x4 + 1))]) [2, 3, 1, 0] rfl ?_
        exact ih a0 x2 ((((10 : Int32) * x3) + v_2) - 48) (x4 + 1)
      · refine g_sub (lv' := [(3, .int x3)]) [2] rfl ?_
        exact g9_numberOf_J37 B hS9 hr x3
    · refine g_sub (lv' := [(3, .int x3)]) [2] rfl ?_
      exact g9_numberOf_J37 B hS9 hr x3
set_option maxRecDepth 20000 in
set_option maxHeartbeats 2000000 in
theorem g9_numberOf {X : gX} {p : Program} {l : Launch} {e : Env} {s : State} {m : MethodId} {args : Array Value} {below : List Frame} {meth : Method} {c : Code} (B : gB X p (rm9_numberOf) s m args meth c RX9 cX9_numberOf 5 (rm9_numberOf)) (hS9 : gS X s) (hr : meth.sig.returnType = some .int) {M : mMem} (a0 : Nat) (x1 : Int32) (x2 : Int32) : GG X p l e (rm9_numberOf) s m args below meth c (gP X below args s 0 0 (fun r9 : Int32 => (some (.int r9), M))) 5 0 0 0 [(0, .ref a0), (1, .int x1), (2, .int x2)] [] M (p9_numberOf a0 x1 x2 M) := by
  unfold p9_numberOf
  refine g_iconst (v := 0) B dX9_numberOf_0 (by decide) ?_
  refine g_istore_n (lv' := [(3, .int 0), (0, .ref a0), (1, .int x1), (2, .int x2)]) B dX9_numberOf_1 (by decide) [0, 1, 2, 3] rfl ?_
  refine g_iload_n B dX9_numberOf_2 2 rfl ?_
  refine g_istore (lv' := [(4, .int x1), (3, .int 0), (0, .ref a0), (1, .int x1), (2, .int x2)]) B dX9_numberOf_3 (by decide) [0, 1, 2, 3, 4] rfl ?_
  refine g_sub (lv' := [(0, .ref a0), (2, .int x2), (3, .int 0), (4, .int x1)]) [2, 4, 1, 0] rfl ?_
  exact (g9_numberOf_L5 B hS9 hr) gF a0 x2 0 x1
theorem c9_numberOf (X : gX) (l : Launch) (a0 : Nat) (x1 : Int32) (x2 : Int32) (M : mMem) : Con X l yX9_numberOf cX9_numberOf 5 (some .int) rm9_numberOf (fun r9 : Int32 => (some (.int r9), M)) [.ref a0, .int x1, .int x2] M (p9_numberOf a0 x1 x2 M) := g_con (own := RX9) (by decide +kernel) rfl (Nat.le_of_ble_eq_true rfl) (fun p e s m args below meth c B hS9 hr hn => g9_numberOf B hS9 hr a0 x1 x2)
theorem mf9_isSign : gMF yX9_isSign cX9_isSign 1 (some .boolean) 1 := ⟨wd_848, wd_6, ⟨by decide, by decide⟩, by decide +kernel⟩
set_option maxRecDepth 20000 in
set_option maxHeartbeats 2000000 in
theorem g9_isSign_J41 {X : gX} {p : Program} {l : Launch} {e : Env} {s : State} {m : MethodId} {args : Array Value} {below : List Frame} {meth : Method} {c : Code} (B : gB X p (rm9_isSign) s m args meth c RX9 cX9_isSign 1 (rm9_isSign)) (hS9 : gS X s) (hr : meth.sig.returnType = some .boolean) {M : mMem} (u0 : Int32) : GG X p l e (rm9_isSign) s m args below meth c (gP X below args s 0 0 (fun r9 : Int32 => (some (.int r9), M))) 1 0 0 41 [] [.int u0] M (p9_isSign_J41 M u0) := by
  unfold p9_isSign_J41
  exact g_zreturn (f := fun z => z) B hr (by decide) (by decide) rfl dX9_isSign_41
set_option maxRecDepth 20000 in
set_option maxHeartbeats 2000000 in
theorem g9_isSign_J36 {X : gX} {p : Program} {l : Launch} {e : Env} {s : State} {m : MethodId} {args : Array Value} {below : List Frame} {meth : Method} {c : Code} (B : gB X p (rm9_isSign) s m args meth c RX9 cX9_isSign 1 (rm9_isSign)) (hS9 : gS X s) (hr : meth.sig.returnType = some .boolean) {M : mMem} : GG X p l e (rm9_isSign) s m args below meth c (gP X below args s 0 0 (fun r9 : Int32 => (some (.int r9), M))) 1 0 0 36 [] [] M (p9_isSign_J36 M) := by
  unfold p9_isSign_J36
  refine g_iconst (v := 1) B dX9_isSign_36 (by decide) ?_
  refine g_goto B 41 dX9_isSign_37 (by decide) ?_
  refine g_sub (lv' := []) [] rfl ?_
  exact g9_isSign_J41 B hS9 hr 1
set_option maxRecDepth 20000 in
set_option maxHeartbeats 2000000 in
theorem g9_isSign {X : gX} {p : Program} {l : Launch} {e : Env} {s : State} {m : MethodId} {args : Array Value} {below : List Frame} {meth : Method} {c : Code} (B : gB X p (rm9_isSign) s m args meth c RX9 cX9_isSign 1 (rm9_isSign)) (hS9 : gS X s) (hr : meth.sig.returnType = some .boolean) {M : mMem} (x0 : Int32) : GG X p l e (rm9_isSign) s m args below meth c (gP X below args s 0 0 (fun r9 : Int32 => (some (.int r9), M))) 1 0 0 0 [(0, .int x0)] [] M (p9_isSign x0 M) := by
  unfold p9_isSign
  refine g_iload_n B dX9_isSign_0 0 rfl ?_
  refine g_bipush (v := 59) B dX9_isSign_1 (by decide) ?_
  refine g_icmp_eq B 36 dX9_isSign_3 (by decide) ?_ ?_
  · refine g_sub (lv' := []) [] rfl ?_
    exact g9_isSign_J36 B hS9 hr
  · refine g_iload_n B dX9_isSign_6 0 rfl ?_
    refine g_bipush (v := 40) B dX9_isSign_7 (by decide) ?_
    refine g_icmp_eq B 36 dX9_isSign_9 (by decide) ?_ ?_
    · refine g_sub (lv' := []) [] rfl ?_
      exact g9_isSign_J36 B hS9 hr
    · refine g_iload_n B dX9_isSign_12 0 rfl ?_
      refine g_bipush (v := 41) B dX9_isSign_13 (by decide) ?_
      refine g_icmp_eq B 36 dX9_isSign_15 (by decide) ?_ ?_
      · refine g_sub (lv' := []) [] rfl ?_
        exact g9_isSign_J36 B hS9 hr
      · refine g_iload_n B dX9_isSign_18 0 rfl ?_
        refine g_bipush (v := 60) B dX9_isSign_19 (by decide) ?_
        refine g_icmp_eq B 36 dX9_isSign_21 (by decide) ?_ ?_
        · refine g_sub (lv' := []) [] rfl ?_
          exact g9_isSign_J36 B hS9 hr
        · refine g_iload_n B dX9_isSign_24 0 rfl ?_
          refine g_bipush (v := 62) B dX9_isSign_25 (by decide) ?_
          refine g_icmp_eq B 36 dX9_isSign_27 (by decide) ?_ ?_
          · refine g_sub (lv' := []) [] rfl ?_
            exact g9_isSign_J36 B hS9 hr
          · refine g_iload_n B dX9_isSign_30 0 rfl ?_
            refine g_bipush (v := 43) B dX9_isSign_31 (by decide) ?_
            refine g_icmp_ne B 40 dX9_isSign_33 (by decide) ?_ ?_
            · refine g_sub (lv' := []) [] rfl ?_
              exact g9_isSign_J36 B hS9 hr
            · refine g_iconst (v := 0) B dX9_isSign_40 (by decide) ?_
              refine g_sub (lv' := []) [] rfl ?_
              exact g9_isSign_J41 B hS9 hr 0
theorem c9_isSign (X : gX) (l : Launch) (x0 : Int32) (M : mMem) : Con X l yX9_isSign cX9_isSign 1 (some .boolean) rm9_isSign (fun r9 : Int32 => (some (.int r9), M)) [.int x0] M (p9_isSign x0 M) := g_con (own := RX9) (by decide +kernel) rfl (Nat.le_of_ble_eq_true rfl) (fun p e s m args below meth c B hS9 hr hn => g9_isSign B hS9 hr x0)
theorem mf3_addThing : gMF yX9_addThing cX9_addThing 4 (none) 3 := ⟨wd_761, wd_6, ⟨by decide, by decide⟩, by decide +kernel⟩
set_option maxRecDepth 20000 in
set_option maxHeartbeats 2000000 in
theorem g3_addThing_J19 {X : gX} {p : Program} {l : Launch} {e : Env} {s : State} {m : MethodId} {args : Array Value} {below : List Frame} {meth : Method} {c : Code} (B : gB X p (rm3_addThing) s m args meth c RX9 cX9_addThing 4 (rm3_addThing)) (hS9 : gS X s) (hr : meth.sig.returnType = none) (M : mMem) : GG X p l e (rm3_addThing) s m args below meth c (gP X below args s 0 0 (fun M9 : mMem => (none, M9))) 4 0 0 19 [] [] M (p3_addThing_J19 M) := by
  unfold p3_addThing_J19
  exact g_vreturn B hr (by decide) (by decide) rfl dX9_addThing_19
set_option maxRecDepth 20000 in
set_option maxHeartbeats 2000000 in
theorem g3_addThing_J151 {X : gX} {p : Program} {l : Launch} {e : Env} {s : State} {m : MethodId} {args : Array Value} {below : List Frame} {meth : Method} {c : Code} (B : gB X p (rm3_addThing) s m args meth c RX9 cX9_addThing 4 (rm3_addThing)) (hS9 : gS X s) (hr : meth.sig.returnType = none) (a0 : Nat) (M : mMem) : GG X p l e (rm3_addThing) s m args below meth c (gP X below args s 0 0 (fun M9 : mMem => (none, M9))) 4 0 0 151 [(0, .ref a0)] [] M (p3_addThing_J151 a0 M) := by
  unfold p3_addThing_J151
  refine g_aload_n B dX9_addThing_151 0 rfl ?_
  refine g_dup B dX9_addThing_152 rfl ?_
  refine g_getI (ci := 3) (T0 := TX3) (N := 9) B (by decide) rfl in_3 (k := 4) (by decide) rfl wd_244 (fun _ h => h) dX9_addThing_153 (fun v_1 => ?_)
  refine g_iconst (v := 1) B dX9_addThing_156 (by decide) ?_
  refine g_iadd B dX9_addThing_157 ?_
  refine g_putI (ci := 3) (T0 := TX3) (N := 9) B (by decide) rfl in_3 tyX3 tyX3_ok nmX3 (k := 4) (by decide) wd_244 (fun _ h => h) rfl rfl (ty := .int) (by decide +kernel) rfl rfl dX9_addThing_158 (fun M_2 => ?_)
  exact g_vreturn B hr (by decide) (by decide) rfl dX9_addThing_161
set_option maxRecDepth 20000 in
set_option maxHeartbeats 2000000 in
theorem g3_addThing_J150 {X : gX} {p : Program} {l : Launch} {e : Env} {s : State} {m : MethodId} {args : Array Value} {below : List Frame} {meth : Method} {c : Code} (B : gB X p (rm3_addThing) s m args meth c RX9 cX9_addThing 4 (rm3_addThing)) (hS9 : gS X s) (hr : meth.sig.returnType = none) (a0 : Nat) (b0 : Nat) (u1 : Int32) (u2 : Int32) (M : mMem) : GG X p l e (rm3_addThing) s m args below meth c (gP X below args s 0 0 (fun M9 : mMem => (none, M9))) 4 0 0 150 [(0, .ref a0)] [.int u2, .int u1, .ref b0] M (p3_addThing_J150 a0 b0 u1 u2 M) := by
  unfold p3_addThing_J150
  refine g_iastore B dX9_addThing_150 (fun M_1 => ?_)
  refine g_sub (lv' := [(0, .ref a0)]) [0] rfl ?_
  exact g3_addThing_J151 B hS9 hr a0 M_1
set_option maxRecDepth 20000 in
set_option maxHeartbeats 2000000 in
theorem g3_addThing_J122 {X : gX} {p : Program} {l : Launch} {e : Env} {s : State} {m : MethodId} {args : Array Value} {below : List Frame} {meth : Method} {c : Code} (B : gB X p (rm3_addThing) s m args meth c RX9 cX9_addThing 4 (rm3_addThing)) (hS9 : gS X s) (hr : meth.sig.returnType = none) (a0 : Nat) (b0 : Nat) (u1 : Int32) (u2 : Int32) (M : mMem) : GG X p l e (rm3_addThing) s m args below meth c (gP X below args s 0 0 (fun M9 : mMem => (none, M9))) 4 0 0 122 [(0, .ref a0)] [.int u2, .int u1, .ref b0] M (p3_addThing_J122 a0 b0 u1 u2 M) := by
  unfold p3_addThing_J122
  refine g_iastore B dX9_addThing_122 (fun M_1 => ?_)
  refine g_goto B 151 dX9_addThing_123 (by decide) ?_
  refine g_sub (lv' := [(0, .ref a0)]) [0] rfl ?_
  exact g3_addThing_J151 B hS9 hr a0 M_1
set_option maxRecDepth 20000 in
set_option maxHeartbeats 2000000 in
theorem g3_addThing_J96 {X : gX} {p : Program} {l : Launch} {e : Env} {s : State} {m : MethodId} {args : Array Value} {below : List Frame} {meth : Method} {c : Code} (B : gB X p (rm3_addThing) s m args meth c RX9 cX9_addThing 4 (rm3_addThing)) (hS9 : gS X s) (hr : meth.sig.returnType = none) (a0 : Nat) (a1 : Nat) (x2 : Int32) (x3 : Int32) (b0 : Nat) (u1 : Int32) (u2 : Int32) (M : mMem) : GG X p l e (rm3_addThing) s m args below meth c (gP X below args s 0 0 (fun M9 : mMem => (none, M9))) 4 0 0 96 [(0, .ref a0), (1, .ref a1), (2, .int x2), (3, .int x3)] [.int u2, .int u1, .ref b0] M (p3_addThing_J96 a0 a1 x2 x3 b0 u1 u2 M) := by
  unfold p3_addThing_J96
  refine g_iastore B dX9_addThing_96 (fun M_1 => ?_)
  refine g_aload_n B dX9_addThing_97 0 rfl ?_
  refine g_getR (ci := 3) (T0 := TX3) (N := 9) B (by decide) rfl in_3 (k := 2) (by decide) rfl wd_242 (fun _ h => h) dX9_addThing_98 (fun v_2 => ?_)
  refine g_aload_n B dX9_addThing_101 0 rfl ?_
  refine g_getI (ci := 3) (T0 := TX3) (N := 9) B (by decide) rfl in_3 (k := 4) (by decide) rfl wd_244 (fun _ h => h) dX9_addThing_102 (fun v_3 => ?_)
  refine g_iload_n B dX9_addThing_105 3 rfl ?_
  refine g_iload_n B dX9_addThing_106 2 rfl ?_
  refine g_isub B dX9_addThing_107 ?_
  refine g_iconst (v := 3) B dX9_addThing_108 (by decide) ?_
  refine g_icmp_le B 116 dX9_addThing_109 (by decide) ?_ ?_
  · refine g_iconst (v := 0) B dX9_addThing_112 (by decide) ?_
    refine g_goto B 122 dX9_addThing_113 (by decide) ?_
    refine g_sub (lv' := [(0, .ref a0)]) [0] rfl ?_
    exact g3_addThing_J122 B hS9 hr a0 v_2 v_3 0 M_1
  · refine g_aload_n B dX9_addThing_116 1 rfl ?_
    refine g_iload_n B dX9_addThing_117 2 rfl ?_
    refine g_iload_n B dX9_addThing_118 3 rfl ?_
    refine g_callS_ip [.ref a1, .int x2, .int x3] B hS9 mf9_numberOf wd_844 wd_843 (c9_numberOf X l a1 x2 x3 M_1) (by decide) (by decide) (by decide) rfl (Nat.le_of_ble_eq_true rfl) dX9_addThing_119 rfl (fun v_4 => ?_)
    refine g_sub (lv' := [(0, .ref a0)]) [0] rfl ?_
    exact g3_addThing_J122 B hS9 hr a0 v_2 v_3 v_4 M_1
set_option maxRecDepth 20000 in
set_option maxHeartbeats 2000000 in
theorem g3_addThing {X : gX} {p : Program} {l : Launch} {e : Env} {s : State} {m : MethodId} {args : Array Value} {below : List Frame} {meth : Method} {c : Code} (B : gB X p (rm3_addThing) s m args meth c RX9 cX9_addThing 4 (rm3_addThing)) (hS9 : gS X s) (hr : meth.sig.returnType = none) (a0 : Nat) (a1 : Nat) (x2 : Int32) (x3 : Int32) (M : mMem) : GG X p l e (rm3_addThing) s m args below meth c (gP X below args s 0 0 (fun M9 : mMem => (none, M9))) 4 0 0 0 [(0, .ref a0), (1, .ref a1), (2, .int x2), (3, .int x3)] [] M (p3_addThing a0 a1 x2 x3 M) := by
  unfold p3_addThing
  refine g_gd ?_
  refine g_aload_n B dX9_addThing_0 0 rfl ?_
  refine g_getI (ci := 3) (T0 := TX3) (N := 9) B (by decide) rfl in_3 (k := 4) (by decide) rfl wd_244 (fun _ h => h) dX9_addThing_1 (fun v_1 => ?_)
  refine g_if_lt B 19 dX9_addThing_4 (by decide) ?_ ?_
  · refine g_sub (lv' := []) [] rfl ?_
    exact g3_addThing_J19 B hS9 hr M
  · refine g_aload_n B dX9_addThing_7 0 rfl ?_
    refine g_getI (ci := 3) (T0 := TX3) (N := 9) B (by decide) rfl in_3 (k := 4) (by decide) rfl wd_244 (fun _ h => h) dX9_addThing_8 (fun v_2 => ?_)
    refine g_aload_n B dX9_addThing_11 0 rfl ?_
    refine g_getR (ci := 3) (T0 := TX3) (N := 9) B (by decide) rfl in_3 (k := 0) (by decide) rfl wd_240 (fun _ h => h) dX9_addThing_12 (fun v_3 => ?_)
    refine g_alen B dX9_addThing_15 (fun v_4 => ?_)
    refine g_icmp_lt B 20 dX9_addThing_16 (by decide) ?_ ?_
    · refine g_aload_n B dX9_addThing_20 0 rfl ?_
      refine g_getR (ci := 3) (T0 := TX3) (N := 9) B (by decide) rfl in_3 (k := 1) (by decide) rfl wd_241 (fun _ h => h) dX9_addThing_21 (fun v_5 => ?_)
      refine g_aload_n B dX9_addThing_24 0 rfl ?_
      refine g_getI (ci := 3) (T0 := TX3) (N := 9) B (by decide) rfl in_3 (k := 4) (by decide) rfl wd_244 (fun _ h => h) dX9_addThing_25 (fun v_6 => ?_)
      refine g_iload_n B dX9_addThing_28 2 rfl ?_
      refine g_iastore B dX9_addThing_29 (fun M_7 => ?_)
      refine g_aload_n B dX9_addThing_30 0 rfl ?_
      refine g_getR (ci := 3) (T0 := TX3) (N := 9) B (by decide) rfl in_3 (k := 2) (by decide) rfl wd_242 (fun _ h => h) dX9_addThing_31 (fun v_8 => ?_)
      refine g_aload_n B dX9_addThing_34 0 rfl ?_
      refine g_getI (ci := 3) (T0 := TX3) (N := 9) B (by decide) rfl in_3 (k := 4) (by decide) rfl wd_244 (fun _ h => h) dX9_addThing_35 (fun v_9 => ?_)
      refine g_iconst (v := 0) B dX9_addThing_38 (by decide) ?_
      refine g_iastore B dX9_addThing_39 (fun M_10 => ?_)
      refine g_aload_n B dX9_addThing_40 1 rfl ?_
      refine g_iload_n B dX9_addThing_41 2 rfl ?_
      refine g_iaload B dX9_addThing_42 (fun v_11 => ?_)
      refine g_callS_ip [.int v_11] B hS9 mf9_isLetter wd_752 wd_751 (c9_isLetter X l v_11 M_10) (by decide) (by decide) (by decide) rfl (by decide) dX9_addThing_43 rfl (fun v_12 => ?_)
      refine g_if_eq B 67 dX9_addThing_46 (by decide) ?_ ?_
      · refine g_aload_n B dX9_addThing_67 1 rfl ?_
        refine g_iload_n B dX9_addThing_68 2 rfl ?_
        refine g_iaload B dX9_addThing_69 (fun v_13 => ?_)
        refine g_callS_ip [.int v_13] B hS9 mf9_isDigit wd_755 wd_754 (c9_isDigit X l v_13 M_10) (by decide) (by decide) (by decide) rfl (by decide) dX9_addThing_70 rfl (fun v_14 => ?_)
        refine g_if_eq B 126 dX9_addThing_73 (by decide) ?_ ?_
        · refine g_aload_n B dX9_addThing_126 0 rfl ?_
          refine g_getR (ci := 3) (T0 := TX3) (N := 9) B (by decide) rfl in_3 (k := 0) (by decide) rfl wd_240 (fun _ h => h) dX9_addThing_127 (fun v_15 => ?_)
          refine g_aload_n B dX9_addThing_130 0 rfl ?_
          refine g_getI (ci := 3) (T0 := TX3) (N := 9) B (by decide) rfl in_3 (k := 4) (by decide) rfl wd_244 (fun _ h => h) dX9_addThing_131 (fun v_16 => ?_)
          refine g_aload_n B dX9_addThing_134 1 rfl ?_
          refine g_iload_n B dX9_addThing_135 2 rfl ?_
          refine g_iaload B dX9_addThing_136 (fun v_17 => ?_)
          refine g_callS_ip [.int v_17] B hS9 mf9_isSign wd_847 wd_846 (c9_isSign X l v_17 M_10) (by decide) (by decide) (by decide) rfl (Nat.le_of_ble_eq_true rfl) dX9_addThing_137 rfl (fun v_18 => ?_)
          refine g_if_eq B 149 dX9_addThing_140 (by decide) ?_ ?_
          · refine g_iconst (v := 0) B dX9_addThing_149 (by decide) ?_
            refine g_sub (lv' := [(0, .ref a0)]) [0] rfl ?_
            exact g3_addThing_J150 B hS9 hr a0 v_15 v_16 0 M_10
          · refine g_aload_n B dX9_addThing_143 1 rfl ?_
            refine g_iload_n B dX9_addThing_144 2 rfl ?_
            refine g_iaload B dX9_addThing_145 (fun v_19 => ?_)
            refine g_goto B 150 dX9_addThing_146 (by decide) ?_
            refine g_sub (lv' := [(0, .ref a0)]) [0] rfl ?_
            exact g3_addThing_J150 B hS9 hr a0 v_15 v_16 v_19 M_10
        · refine g_aload_n B dX9_addThing_76 0 rfl ?_
          refine g_getR (ci := 3) (T0 := TX3) (N := 9) B (by decide) rfl in_3 (k := 0) (by decide) rfl wd_240 (fun _ h => h) dX9_addThing_77 (fun v_20 => ?_)
          refine g_aload_n B dX9_addThing_80 0 rfl ?_
          refine g_getI (ci := 3) (T0 := TX3) (N := 9) B (by decide) rfl in_3 (k := 4) (by decide) rfl wd_244 (fun _ h => h) dX9_addThing_81 (fun v_21 => ?_)
          refine g_iload_n B dX9_addThing_84 3 rfl ?_
          refine g_iload_n B dX9_addThing_85 2 rfl ?_
          refine g_isub B dX9_addThing_86 ?_
          refine g_iconst (v := 3) B dX9_addThing_87 (by decide) ?_
          refine g_icmp_le B 95 dX9_addThing_88 (by decide) ?_ ?_
          · refine g_iconst (v := 0) B dX9_addThing_91 (by decide) ?_
            refine g_goto B 96 dX9_addThing_92 (by decide) ?_
            refine g_sub (lv' := [(0, .ref a0), (1, .ref a1), (2, .int x2), (3, .int x3)]) [0, 1, 2, 3] rfl ?_
            exact g3_addThing_J96 B hS9 hr a0 a1 x2 x3 v_20 v_21 0 M_10
          · refine g_iconst (v := 2) B dX9_addThing_95 (by decide) ?_
            refine g_sub (lv' := [(0, .ref a0), (1, .ref a1), (2, .int x2), (3, .int x3)]) [0, 1, 2, 3] rfl ?_
            exact g3_addThing_J96 B hS9 hr a0 a1 x2 x3 v_20 v_21 2 M_10
      · refine g_aload_n B dX9_addThing_49 0 rfl ?_
        refine g_getR (ci := 3) (T0 := TX3) (N := 9) B (by decide) rfl in_3 (k := 0) (by decide) rfl wd_240 (fun _ h => h) dX9_addThing_50 (fun v_22 => ?_)
        refine g_aload_n B dX9_addThing_53 0 rfl ?_
        refine g_getI (ci := 3) (T0 := TX3) (N := 9) B (by decide) rfl in_3 (k := 4) (by decide) rfl wd_244 (fun _ h => h) dX9_addThing_54 (fun v_23 => ?_)
        refine g_aload_n B dX9_addThing_57 1 rfl ?_
        refine g_iload_n B dX9_addThing_58 2 rfl ?_
        refine g_iload_n B dX9_addThing_59 3 rfl ?_
        refine g_callS_ip [.ref a1, .int x2, .int x3] B hS9 mf9_wordOf wd_763 wd_762 (c9_wordOf X l a1 x2 x3 M_10) (by decide) (by decide) (by decide) rfl (Nat.le_of_ble_eq_true rfl) dX9_addThing_60 rfl (fun v_24 => ?_)
        refine g_iastore B dX9_addThing_63 (fun M_25 => ?_)
        refine g_goto B 151 dX9_addThing_64 (by decide) ?_
        refine g_sub (lv' := [(0, .ref a0)]) [0] rfl ?_
        exact g3_addThing_J151 B hS9 hr a0 M_25
    · refine g_sub (lv' := []) [] rfl ?_
      exact g3_addThing_J19 B hS9 hr M
theorem c3_addThing (X : gX) (l : Launch) (a0 : Nat) (a1 : Nat) (x2 : Int32) (x3 : Int32) (M : mMem) : Con X l yX9_addThing cX9_addThing 4 (none) rm3_addThing (fun M9 : mMem => (none, M9)) [.ref a0, .ref a1, .int x2, .int x3] M (p3_addThing a0 a1 x2 x3 M) := g_con (own := RX9) (by decide +kernel) rfl (Nat.le_of_ble_eq_true rfl) (fun p e s m args below meth c B hS9 hr hn => g3_addThing B hS9 hr a0 a1 x2 x3 M)
theorem mf3_partText : gMF yX9_partText cX9_partText 5 (none) 2 := ⟨wd_746, wd_6, ⟨by decide, by decide⟩, by decide +kernel⟩
set_option maxRecDepth 20000 in
set_option maxHeartbeats 2000000 in
theorem g3_partText_J56 {X : gX} {p : Program} {l : Launch} {e : Env} {s : State} {m : MethodId} {args : Array Value} {below : List Frame} {meth : Method} {c : Code} (B : gB X p (rm3_partText) s m args meth c RX9 cX9_partText 5 (rm3_partText)) (hS9 : gS X s) (hr : meth.sig.returnType = none) (rec15 : Nat → Nat → Int32 → mMem → Option mMem) (hrec15 : ∀ (a0 : Nat) (a1 : Nat) (x4 : Int32) (M : mMem), GG X p l e (rm3_partText) s m args below meth c (gP X below args s 0 0 (fun M9 : mMem => (none, M9))) 5 0 0 15 [(0, .ref a0), (1, .ref a1), (4, .int x4)] [] M (rec15 a0 a1 x4 M)) (a0 : Nat) (a1 : Nat) (x3 : Int32) (x4 : Int32) (M : mMem) : GG X p l e (rm3_partText) s m args below meth c (gP X below args s 0 0 (fun M9 : mMem => (none, M9))) 5 0 0 56 [(0, .ref a0), (1, .ref a1), (3, .int x3), (4, .int x4)] [] M (p3_partText_J56 rec15 a0 a1 x3 x4 M) := by
  unfold p3_partText_J56
  refine g_iload B dX9_partText_56 3 rfl ?_
  refine g_iconst (v := 1) B dX9_partText_58 (by decide) ?_
  refine g_iadd B dX9_partText_59 ?_
  refine g_iload_n B dX9_partText_60 2 rfl ?_
  refine g_max B wd_757 wd_516 wd_15 wd_517 (by decide) (Nat.le_of_ble_eq_true rfl) (by decide) dX9_partText_61 ?_
  refine g_istore (lv' := [(4, .int (maxI (x4 + 1) x3)), (0, .ref a0), (1, .ref a1), (3, .int x3)]) B dX9_partText_64 (by decide) [0, 1, 2, 3] rfl ?_
  refine g_goto B 15 dX9_partText_66 (by decide) ?_
  refine g_sub (lv' := [(0, .ref a0), (1, .ref a1), (4, .int (maxI (x4 + 1) x3))]) [1, 2, 0] rfl ?_
  exact hrec15 a0 a1 (maxI (x4 + 1) x3) M
set_option maxRecDepth 20000 in
set_option maxHeartbeats 2000000 in
theorem g3_partText_L15 {X : gX} {p : Program} {l : Launch} {e : Env} {s : State} {m : MethodId} {args : Array Value} {below : List Frame} {meth : Method} {c : Code} (B : gB X p (rm3_partText) s m args meth c RX9 cX9_partText 5 (rm3_partText)) (hS9 : gS X s) (hr : meth.sig.returnType = none) : ∀ (n : Nat) (a0 : Nat) (a1 : Nat) (x4 : Int32) (M : mMem), GG X p l e (rm3_partText) s m args below meth c (gP X below args s 0 0 (fun M9 : mMem => (none, M9))) 5 0 0 15 [(0, .ref a0), (1, .ref a1), (4, .int x4)] [] M (p3_partText_L15 n a0 a1 x4 M) := by
  intro n
  induction n with
  | zero => intro a0 a1 x4 M; exact g_none
  | succ n ih =>
    intro a0 a1 x4 M
    rw [p3_partText_L15]
    refine g_iload B dX9_partText_15 2 rfl ?_
    refine g_aload_n B dX9_partText_17 0 rfl ?_
    refine g_getI (ci := 3) (T0 := TX3) (N := 9) B (by decide) rfl in_3 (k := 5) (by decide) rfl wd_245 (fun _ h => h) dX9_partText_18 (fun v_1 => ?_)
    refine g_icmp_ge B 69 dX9_partText_21 (by decide) ?_ ?_
    · refine g_aload_n B dX9_partText_24 0 rfl ?_
      refine g_aload_n B dX9_partText_25 1 rfl ?_
      refine g_iload B dX9_partText_26 2 rfl ?_
      refine g_callV_ip [.ref a1, .int x4] (ci := 3) (T0 := TX3) (N := 9) B hS9 mf3_endOfThing wd_749 (gw B wq_FR_endOfThing) wd_747 (by decide) rfl (fun h => (gd_ne h).1) (c3_endOfThing X l a0 a1 x4 M) (by decide) (by decide) (by decide) rfl (by decide) dX9_partText_28 rfl (fun v_2 => ?_)
      refine g_istore_n (lv' := [(3, .int v_2), (0, .ref a0), (1, .ref a1), (4, .int x4)]) B dX9_partText_31 (by decide) [0, 1, 2, 3] rfl ?_
      refine g_aload_n B dX9_partText_32 2 rfl ?_
      refine g_iload B dX9_partText_33 3 rfl ?_
      refine g_iaload B dX9_partText_35 (fun v_3 => ?_)
      refine g_bipush (v := 32) B dX9_partText_36 (by decide) ?_
      refine g_icmp_eq B 56 dX9_partText_38 (by decide) ?_ ?_
      · refine g_sub (lv' := [(0, .ref a0), (1, .ref a1), (3, .int v_2), (4, .int x4)]) [1, 2, 0, 3] rfl ?_
        exact g3_partText_J56 B hS9 hr (p3_partText_L15 n) ih a0 a1 v_2 x4 M
      · refine g_aload_n B dX9_partText_41 1 rfl ?_
        refine g_aload_n B dX9_partText_42 2 rfl ?_
        refine g_iload B dX9_partText_43 3 rfl ?_
        refine g_iload B dX9_partText_45 3 rfl ?_
        refine g_iconst (v := 1) B dX9_partText_47 (by decide) ?_
        refine g_iadd B dX9_partText_48 ?_
        refine g_iload_n B dX9_partText_49 0 rfl ?_
        refine g_max B wd_757 wd_516 wd_15 wd_517 (by decide) (Nat.le_of_ble_eq_true rfl) (by decide) dX9_partText_50 ?_
        refine g_callV_vw [.ref a1, .int x4, .int (maxI (x4 + 1) v_2)] (ci := 3) (T0 := TX3) (N := 9) B hS9 mf3_addThing wd_760 (gw B wq_FR_addThing) wd_758 (by decide) rfl (fun h => (gd_ne h).1) (c3_addThing X l a0 a1 x4 (maxI (x4 + 1) v_2) M) (by decide) (by decide) (by decide) rfl (by decide) dX9_partText_53 rfl (fun q_4 => ?_)
        refine g_sub (lv' := [(0, .ref a0), (1, .ref a1), (3, .int v_2), (4, .int x4)]) [1, 2, 0, 3] rfl ?_
        exact g3_partText_J56 B hS9 hr (p3_partText_L15 n) ih a0 a1 v_2 x4 q_4
    · exact g_vreturn B hr (by decide) (by decide) rfl dX9_partText_69
set_option maxRecDepth 20000 in
set_option maxHeartbeats 2000000 in
theorem g3_partText {X : gX} {p : Program} {l : Launch} {e : Env} {s : State} {m : MethodId} {args : Array Value} {below : List Frame} {meth : Method} {c : Code} (B : gB X p (rm3_partText) s m args meth c RX9 cX9_partText 5 (rm3_partText)) (hS9 : gS X s) (hr : meth.sig.returnType = none) (a0 : Nat) (a1 : Nat) (x2 : Int32) (M : mMem) : GG X p l e (rm3_partText) s m args below meth c (gP X below args s 0 0 (fun M9 : mMem => (none, M9))) 5 0 0 0 [(0, .ref a0), (1, .ref a1), (2, .int x2)] [] M (p3_partText a0 a1 x2 M) := by
  unfold p3_partText
  refine g_gd ?_
  refine g_aload_n B dX9_partText_0 0 rfl ?_
  refine g_iconst (v := 0) B dX9_partText_1 (by decide) ?_
  refine g_putI (ci := 3) (T0 := TX3) (N := 9) B (by decide) rfl in_3 tyX3 tyX3_ok nmX3 (k := 4) (by decide) wd_244 (fun _ h => h) rfl rfl (ty := .int) (by decide +kernel) rfl rfl dX9_partText_2 (fun M_1 => ?_)
  refine g_aload_n B dX9_partText_5 0 rfl ?_
  refine g_iload_n B dX9_partText_6 2 rfl ?_
  refine g_putI (ci := 3) (T0 := TX3) (N := 9) B (by decide) rfl in_3 tyX3 tyX3_ok nmX3 (k := 5) (by decide) wd_245 (fun _ h => h) rfl rfl (ty := .int) (by decide +kernel) rfl rfl dX9_partText_7 (fun M_2 => ?_)
  refine g_iconst (v := 0) B dX9_partText_10 (by decide) ?_
  refine g_istore_n (lv' := [(3, .int 0), (0, .ref a0), (1, .ref a1), (2, .int x2)]) B dX9_partText_11 (by decide) [0, 1, 2, 3] rfl ?_
  refine g_iconst (v := 0) B dX9_partText_12 (by decide) ?_
  refine g_istore (lv' := [(4, .int 0), (3, .int 0), (0, .ref a0), (1, .ref a1), (2, .int x2)]) B dX9_partText_13 (by decide) [0, 1, 2, 3, 4] rfl ?_
  refine g_sub (lv' := [(0, .ref a0), (1, .ref a1), (4, .int 0)]) [2, 3, 0] rfl ?_
  exact (g3_partText_L15 B hS9 hr) gF a0 a1 0 M_2
theorem c3_partText (X : gX) (l : Launch) (a0 : Nat) (a1 : Nat) (x2 : Int32) (M : mMem) : Con X l yX9_partText cX9_partText 5 (none) rm3_partText (fun M9 : mMem => (none, M9)) [.ref a0, .ref a1, .int x2] M (p3_partText a0 a1 x2 M) := g_con (own := RX9) (by decide +kernel) rfl (Nat.le_of_ble_eq_true rfl) (fun p e s m args below meth c B hS9 hr hn => g3_partText B hS9 hr a0 a1 x2 M)
theorem mf3_beginOfNext : gMF yX9_beginOfNext cX9_beginOfNext 1 (some .int) 0 := ⟨wd_972, wd_6, ⟨by decide, by decide⟩, by decide +kernel⟩
set_option maxRecDepth 20000 in
set_option maxHeartbeats 2000000 in
theorem g3_beginOfNext_J46 {X : gX} {p : Program} {l : Launch} {e : Env} {s : State} {m : MethodId} {args : Array Value} {below : List Frame} {meth : Method} {c : Code} (B : gB X p (rm3_beginOfNext) s m args meth c RX9 cX9_beginOfNext 1 (rm3_beginOfNext)) (hS9 : gS X s) (hr : meth.sig.returnType = some .int) {M : mMem} (u0 : Int32) : GG X p l e (rm3_beginOfNext) s m args below meth c (gP X below args s 0 0 (fun r9 : Int32 => (some (.int r9), M))) 1 0 0 46 [] [.int u0] M (p3_beginOfNext_J46 M u0) := by
  unfold p3_beginOfNext_J46
  exact g_ireturn B hr rfl (by decide) (by decide) rfl dX9_beginOfNext_46
set_option maxRecDepth 20000 in
set_option maxHeartbeats 2000000 in
theorem g3_beginOfNext_J42 {X : gX} {p : Program} {l : Launch} {e : Env} {s : State} {m : MethodId} {args : Array Value} {below : List Frame} {meth : Method} {c : Code} (B : gB X p (rm3_beginOfNext) s m args meth c RX9 cX9_beginOfNext 1 (rm3_beginOfNext)) (hS9 : gS X s) (hr : meth.sig.returnType = some .int) {M : mMem} (a0 : Nat) : GG X p l e (rm3_beginOfNext) s m args below meth c (gP X below args s 0 0 (fun r9 : Int32 => (some (.int r9), M))) 1 0 0 42 [(0, .ref a0)] [] M (p3_beginOfNext_J42 M a0) := by
  unfold p3_beginOfNext_J42
  refine g_aload_n B dX9_beginOfNext_42 0 rfl ?_
  refine g_getI (ci := 3) (T0 := TX3) (N := 9) B (by decide) rfl in_3 (k := 5) (by decide) rfl wd_245 (fun _ h => h) dX9_beginOfNext_43 (fun v_1 => ?_)
  refine g_sub (lv' := []) [] rfl ?_
  exact g3_beginOfNext_J46 B hS9 hr v_1
set_option maxRecDepth 20000 in
set_option maxHeartbeats 2000000 in
theorem g3_beginOfNext {X : gX} {p : Program} {l : Launch} {e : Env} {s : State} {m : MethodId} {args : Array Value} {below : List Frame} {meth : Method} {c : Code} (B : gB X p (rm3_beginOfNext) s m args meth c RX9 cX9_beginOfNext 1 (rm3_beginOfNext)) (hS9 : gS X s) (hr : meth.sig.returnType = some .int) {M : mMem} (a0 : Nat) : GG X p l e (rm3_beginOfNext) s m args below meth c (gP X below args s 0 0 (fun r9 : Int32 => (some (.int r9), M))) 1 0 0 0 [(0, .ref a0)] [] M (p3_beginOfNext a0 M) := by
  unfold p3_beginOfNext
  refine g_gd ?_
  refine g_aload_n B dX9_beginOfNext_0 0 rfl ?_
  refine g_getI (ci := 3) (T0 := TX3) (N := 9) B (by decide) rfl in_3 (k := 6) (by decide) rfl wd_246 (fun _ h => h) dX9_beginOfNext_1 (fun v_1 => ?_)
  refine g_if_lt B 42 dX9_beginOfNext_4 (by decide) ?_ ?_
  · refine g_sub (lv' := [(0, .ref a0)]) [0] rfl ?_
    exact g3_beginOfNext_J42 B hS9 hr a0
  · refine g_aload_n B dX9_beginOfNext_7 0 rfl ?_
    refine g_getI (ci := 3) (T0 := TX3) (N := 9) B (by decide) rfl in_3 (k := 6) (by decide) rfl wd_246 (fun _ h => h) dX9_beginOfNext_8 (fun v_2 => ?_)
    refine g_aload_n B dX9_beginOfNext_11 0 rfl ?_
    refine g_getI (ci := 3) (T0 := TX3) (N := 9) B (by decide) rfl in_3 (k := 4) (by decide) rfl wd_244 (fun _ h => h) dX9_beginOfNext_12 (fun v_3 => ?_)
    refine g_icmp_ge B 42 dX9_beginOfNext_15 (by decide) ?_ ?_
    · refine g_aload_n B dX9_beginOfNext_18 0 rfl ?_
      refine g_getI (ci := 3) (T0 := TX3) (N := 9) B (by decide) rfl in_3 (k := 6) (by decide) rfl wd_246 (fun _ h => h) dX9_beginOfNext_19 (fun v_4 => ?_)
      refine g_aload_n B dX9_beginOfNext_22 0 rfl ?_
      refine g_getR (ci := 3) (T0 := TX3) (N := 9) B (by decide) rfl in_3 (k := 1) (by decide) rfl wd_241 (fun _ h => h) dX9_beginOfNext_23 (fun v_5 => ?_)
      refine g_alen B dX9_beginOfNext_26 (fun v_6 => ?_)
      refine g_icmp_ge B 42 dX9_beginOfNext_27 (by decide) ?_ ?_
      · refine g_aload_n B dX9_beginOfNext_30 0 rfl ?_
        refine g_getR (ci := 3) (T0 := TX3) (N := 9) B (by decide) rfl in_3 (k := 1) (by decide) rfl wd_241 (fun _ h => h) dX9_beginOfNext_31 (fun v_7 => ?_)
        refine g_aload_n B dX9_beginOfNext_34 0 rfl ?_
        refine g_getI (ci := 3) (T0 := TX3) (N := 9) B (by decide) rfl in_3 (k := 6) (by decide) rfl wd_246 (fun _ h => h) dX9_beginOfNext_35 (fun v_8 => ?_)
        refine g_iaload B dX9_beginOfNext_38 (fun v_9 => ?_)
        refine g_goto B 46 dX9_beginOfNext_39 (by decide) ?_
        refine g_sub (lv' := []) [] rfl ?_
        exact g3_beginOfNext_J46 B hS9 hr v_9
      · refine g_sub (lv' := [(0, .ref a0)]) [0] rfl ?_
        exact g3_beginOfNext_J42 B hS9 hr a0
    · refine g_sub (lv' := [(0, .ref a0)]) [0] rfl ?_
      exact g3_beginOfNext_J42 B hS9 hr a0
theorem c3_beginOfNext (X : gX) (l : Launch) (a0 : Nat) (M : mMem) : Con X l yX9_beginOfNext cX9_beginOfNext 1 (some .int) rm3_beginOfNext (fun r9 : Int32 => (some (.int r9), M)) [.ref a0] M (p3_beginOfNext a0 M) := g_con (own := RX9) (by decide +kernel) rfl (Nat.le_of_ble_eq_true rfl) (fun p e s m args below meth c B hS9 hr hn => g3_beginOfNext B hS9 hr a0)
theorem mf3_readText : gMF yX9_readText cX9_readText 4 (some .int) 2 := ⟨wd_741, wd_6, ⟨by decide, by decide⟩, by decide +kernel⟩
set_option maxRecDepth 20000 in
set_option maxHeartbeats 2000000 in
theorem g3_readText_L28 {X : gX} {p : Program} {l : Launch} {e : Env} {s : State} {m : MethodId} {args : Array Value} {below : List Frame} {meth : Method} {c : Code} (B : gB X p (rm3_readText) s m args meth c RX9 cX9_readText 4 (rm3_readText)) (hS9 : gS X s) (hr : meth.sig.returnType = some .int) : ∀ (n : Nat) (a0 : Nat) (x3 : Int32) (M : mMem), GG X p l e (rm3_readText) s m args below meth c (gP X below args s 0 0 (fun r9 : (Int32 × mMem) => (some (.int r9.1), r9.2))) 4 0 0 28 [(0, .ref a0), (3, .int x3)] [] M (p3_readText_L28 n a0 x3 M) := by
  intro n
  induction n with
  | zero => intro a0 x3 M; exact g_none
  | succ n ih =>
    intro a0 x3 M
    rw [p3_readText_L28]
    refine g_iload_n B dX9_readText_28 1 rfl ?_
    refine g_aload_n B dX9_readText_29 0 rfl ?_
    refine g_getI (ci := 3) (T0 := TX3) (N := 9) B (by decide) rfl in_3 (k := 3) (by decide) rfl wd_243 (fun _ h => h) dX9_readText_30 (fun v_1 => ?_)
    refine g_icmp_ge B 78 dX9_readText_33 (by decide) ?_ ?_
    · refine g_aload_n B dX9_readText_36 0 rfl ?_
      refine g_callU_iw (x := ⟨"CribLine$Reader", "readLine", "()Z"⟩) (owner := "CribLine$Reader") [] (ci := 3) (T0 := TX3) (N := 9) B hS9 mf3_readLine wd_859 (gw B wd_858) wd_855 wd_857 (va_Decl.abs (hS9.2.2.2.2.1 _ (List.mem_of_getElem? (i := 1) rfl))) (by decide +kernel) (by decide) rfl (fun h => (gd_ne h).1) (c3_readLine X l a0 M) (by decide) (by decide) (by decide) rfl (by decide) dX9_readText_37 rfl (fun q_3 => ?_)
      refine g_if_ne B 48 dX9_readText_40 (by decide) ?_ ?_
      · refine g_aload_n B dX9_readText_43 0 rfl ?_
        refine g_callV_ip [] (ci := 3) (T0 := TX3) (N := 9) B hS9 mf3_beginOfNext wd_971 (gw B wq_FR_beginOfNext) wd_969 (by decide) rfl (fun h => (gd_ne h).1) (c3_beginOfNext X l a0 q_3.2) (by decide) (by decide) (by decide) rfl (by decide) dX9_readText_44 rfl (fun v_7 => ?_)
        exact g_ireturn B hr rfl (by decide) (by decide) rfl dX9_readText_47
      · refine g_aload_n B dX9_readText_48 0 rfl ?_
        refine g_callV_ip [] (ci := 3) (T0 := TX3) (N := 9) B hS9 mf3_next wd_850 (gw B wd_852) wd_849 (by decide) rfl (fun h => (gd_ne h).1) (c3_next X l a0 q_3.2) (by decide) (by decide) (by decide) rfl (by decide) dX9_readText_49 rfl (fun v_4 => ?_)
        refine g_iconst (v := 1) B dX9_readText_52 (by decide) ?_
        refine g_icmp_ne B 58 dX9_readText_53 (by decide) ?_ ?_
        · refine g_iconst (v := (-1)) B dX9_readText_56 (by decide) ?_
          exact g_ireturn B hr rfl (by decide) (by decide) rfl dX9_readText_57
        · refine g_aload_n B dX9_readText_58 0 rfl ?_
          refine g_bipush (v := 59) B dX9_readText_59 (by decide) ?_
          refine g_callV_iw [.int 59] (ci := 3) (T0 := TX3) (N := 9) B hS9 mf3_took wd_873 (gw B wd_2387) wd_973 (by decide) rfl (fun h => (gd_ne h).1) (c3_took X l a0 59 q_3.2) (by decide) (by decide) (by decide) rfl (by decide) dX9_readText_61 rfl (fun q_5 => ?_)
          refine g_if_ne B 72 dX9_readText_64 (by decide) ?_ ?_
          · refine g_aload_n B dX9_readText_67 0 rfl ?_
            refine g_callV_ip [] (ci := 3) (T0 := TX3) (N := 9) B hS9 mf3_beginOfNext wd_971 (gw B wq_FR_beginOfNext) wd_969 (by decide) rfl (fun h => (gd_ne h).1) (c3_beginOfNext X l a0 q_5.2) (by decide) (by decide) (by decide) rfl (by decide) dX9_readText_68 rfl (fun v_6 => ?_)
            exact g_ireturn B hr rfl (by decide) (by decide) rfl dX9_readText_71
          · refine g_iinc (v := (x3 + 1)) (lv' := [(3, .int (x3 + 1)), (0, .ref a0)]) B dX9_readText_72 1 rfl rfl (by decide) [0, 1] rfl ?_
            refine g_goto B 28 dX9_readText_75 (by decide) ?_
            refine g_sub (lv' := [(0, .ref a0), (3, .int (x3 + 1))]) [1, 0] rfl ?_
            exact ih a0 (x3 + 1) q_5.2
    · refine g_aload_n B dX9_readText_78 0 rfl ?_
      refine g_callV_ip [] (ci := 3) (T0 := TX3) (N := 9) B hS9 mf3_beginOfNext wd_971 (gw B wq_FR_beginOfNext) wd_969 (by decide) rfl (fun h => (gd_ne h).1) (c3_beginOfNext X l a0 M) (by decide) (by decide) (by decide) rfl (by decide) dX9_readText_79 rfl (fun v_2 => ?_)
      exact g_ireturn B hr rfl (by decide) (by decide) rfl dX9_readText_82
set_option maxRecDepth 20000 in
set_option maxHeartbeats 2000000 in
theorem g3_readText {X : gX} {p : Program} {l : Launch} {e : Env} {s : State} {m : MethodId} {args : Array Value} {below : List Frame} {meth : Method} {c : Code} (B : gB X p (rm3_readText) s m args meth c RX9 cX9_readText 4 (rm3_readText)) (hS9 : gS X s) (hr : meth.sig.returnType = some .int) (a0 : Nat) (a1 : Nat) (x2 : Int32) (M : mMem) : GG X p l e (rm3_readText) s m args below meth c (gP X below args s 0 0 (fun r9 : (Int32 × mMem) => (some (.int r9.1), r9.2))) 4 0 0 0 [(0, .ref a0), (1, .ref a1), (2, .int x2)] [] M (p3_readText a0 a1 x2 M) := by
  unfold p3_readText
  refine g_gd ?_
  refine g_aload_n B dX9_readText_0 0 rfl ?_
  refine g_aload_n B dX9_readText_1 1 rfl ?_
  refine g_iload_n B dX9_readText_2 2 rfl ?_
  refine g_aload_n B dX9_readText_3 1 rfl ?_
  refine g_alen B dX9_readText_4 (fun v_1 => ?_)
  refine g_min B wd_742 wd_538 wd_15 wd_539 (by decide) (Nat.le_of_ble_eq_true rfl) (by decide) dX9_readText_5 ?_
  refine g_callV_vw [.ref a1, .int (minI x2 v_1)] (ci := 3) (T0 := TX3) (N := 9) B hS9 mf3_partText wd_745 (gw B wq_FR_partText) wd_743 (by decide) rfl (fun h => (gd_ne h).1) (c3_partText X l a0 a1 (minI x2 v_1) M) (by decide) (by decide) (by decide) rfl (by decide) dX9_readText_8 rfl (fun q_2 => ?_)
  refine g_aload_n B dX9_readText_11 0 rfl ?_
  refine g_iconst (v := 0) B dX9_readText_12 (by decide) ?_
  refine g_putI (ci := 3) (T0 := TX3) (N := 9) B (by decide) rfl in_3 tyX3 tyX3_ok nmX3 (k := 6) (by decide) wd_246 (fun _ h => h) rfl rfl (ty := .int) (by decide +kernel) rfl rfl dX9_readText_13 (fun M_3 => ?_)
  refine g_aload_n B dX9_readText_16 0 rfl ?_
  refine g_callV_ip [] (ci := 3) (T0 := TX3) (N := 9) B hS9 mf3_next wd_850 (gw B wd_852) wd_849 (by decide) rfl (fun h => (gd_ne h).1) (c3_next X l a0 M_3) (by decide) (by decide) (by decide) rfl (by decide) dX9_readText_17 rfl (fun v_4 => ?_)
  refine g_iconst (v := 1) B dX9_readText_20 (by decide) ?_
  refine g_icmp_ne B 26 dX9_readText_21 (by decide) ?_ ?_
  · refine g_iconst (v := (-1)) B dX9_readText_24 (by decide) ?_
    exact g_ireturn B hr rfl (by decide) (by decide) rfl dX9_readText_25
  · refine g_iconst (v := 0) B dX9_readText_26 (by decide) ?_
    refine g_istore_n (lv' := [(3, .int 0), (0, .ref a0), (1, .ref a1), (2, .int x2)]) B dX9_readText_27 (by decide) [0, 1, 2, 3] rfl ?_
    refine g_sub (lv' := [(0, .ref a0), (3, .int 0)]) [1, 0] rfl ?_
    exact (g3_readText_L28 B hS9 hr) gF a0 0 M_3
theorem c3_readText (X : gX) (l : Launch) (a0 : Nat) (a1 : Nat) (x2 : Int32) (M : mMem) : Con X l yX9_readText cX9_readText 4 (some .int) rm3_readText (fun r9 : (Int32 × mMem) => (some (.int r9.1), r9.2)) [.ref a0, .ref a1, .int x2] M (p3_readText a0 a1 x2 M) := g_con (own := RX9) (by decide +kernel) rfl (Nat.le_of_ble_eq_true rfl) (fun p e s m args below meth c B hS9 hr hn => g3_readText B hS9 hr a0 a1 x2 M)
theorem mf5_endOfThing : gMF yX9_endOfThing cX9_endOfThing 5 (some .int) 2 := ⟨wd_750, wd_6, ⟨by decide, by decide⟩, by decide +kernel⟩
set_option maxRecDepth 20000 in
set_option maxHeartbeats 2000000 in
theorem g5_endOfThing_J72 {X : gX} {p : Program} {l : Launch} {e : Env} {s : State} {m : MethodId} {args : Array Value} {below : List Frame} {meth : Method} {c : Code} (B : gB X p (rm5_endOfThing) s m args meth c RX9 cX9_endOfThing 5 (rm5_endOfThing)) (hS9 : gS X s) (hr : meth.sig.returnType = some .int) {M : mMem} (a0 : Nat) : GG X p l e (rm5_endOfThing) s m args below meth c (gP X below args s 0 0 (fun r9 : Int32 => (some (.int r9), M))) 5 0 0 72 [(0, .ref a0)] [] M (p5_endOfThing_J72 M a0) := by
  unfold p5_endOfThing_J72
  refine g_aload_n B dX9_endOfThing_72 0 rfl ?_
  refine g_getI (ci := 5) (T0 := TX5) (N := 9) B (by decide) rfl in_5 (k := 5) (by decide) rfl wd_245 (fun _ h => h) dX9_endOfThing_73 (fun v_1 => ?_)
  exact g_ireturn B hr rfl (by decide) (by decide) rfl dX9_endOfThing_76
set_option maxRecDepth 20000 in
set_option maxHeartbeats 2000000 in
theorem g5_endOfThing_J57 {X : gX} {p : Program} {l : Launch} {e : Env} {s : State} {m : MethodId} {args : Array Value} {below : List Frame} {meth : Method} {c : Code} (B : gB X p (rm5_endOfThing) s m args meth c RX9 cX9_endOfThing 5 (rm5_endOfThing)) (hS9 : gS X s) (hr : meth.sig.returnType = some .int) {M : mMem} (rec2 : Nat → Nat → Int32 → Int32 → Option Int32) (hrec2 : ∀ (a0 : Nat) (a1 : Nat) (x2 : Int32) (x3 : Int32), GG X p l e (rm5_endOfThing) s m args below meth c (gP X below args s 0 0 (fun r9 : Int32 => (some (.int r9), M))) 5 0 0 2 [(0, .ref a0), (1, .ref a1), (2, .int x2), (3, .int x3)] [] M (rec2 a0 a1 x2 x3)) (a0 : Nat) (a1 : Nat) (x2 : Int32) (x3 : Int32) (u0 : Int32) : GG X p l e (rm5_endOfThing) s m args below meth c (gP X below args s 0 0 (fun r9 : Int32 => (some (.int r9), M))) 5 0 0 57 [(0, .ref a0), (1, .ref a1), (2, .int x2), (3, .int x3)] [.int u0] M (p5_endOfThing_J57 M rec2 a0 a1 x2 x3 u0) := by
  unfold p5_endOfThing_J57
  refine g_istore (lv' := [(4, .int u0), (0, .ref a0), (1, .ref a1), (2, .int x2), (3, .int x3)]) B dX9_endOfThing_57 (by decide) [0, 1, 2, 3, 4] rfl ?_
  refine g_iload B dX9_endOfThing_59 0 rfl ?_
  refine g_if_ne B 66 dX9_endOfThing_61 (by decide) ?_ ?_
  · refine g_iload_n B dX9_endOfThing_64 4 rfl ?_
    exact g_ireturn B hr rfl (by decide) (by decide) rfl dX9_endOfThing_65
  · refine g_iinc (v := (x3 + 1)) (lv' := [(3, .int (x3 + 1)), (4, .int u0), (0, .ref a0), (1, .ref a1), (2, .int x2)]) B dX9_endOfThing_66 4 rfl rfl (by decide) [0, 1, 2, 3, 4] rfl ?_
    refine g_goto B 2 dX9_endOfThing_69 (by decide) ?_
    refine g_sub (lv' := [(0, .ref a0), (1, .ref a1), (2, .int x2), (3, .int (x3 + 1))]) [2, 3, 4, 0] rfl ?_
    exact hrec2 a0 a1 x2 (x3 + 1)
set_option maxRecDepth 20000 in
set_option maxHeartbeats 2000000 in
theorem g5_endOfThing_J56 {X : gX} {p : Program} {l : Launch} {e : Env} {s : State} {m : MethodId} {args : Array Value} {below : List Frame} {meth : Method} {c : Code} (B : gB X p (rm5_endOfThing) s m args meth c RX9 cX9_endOfThing 5 (rm5_endOfThing)) (hS9 : gS X s) (hr : meth.sig.returnType = some .int) {M : mMem} (rec2 : Nat → Nat → Int32 → Int32 → Option Int32) (hrec2 : ∀ (a0 : Nat) (a1 : Nat) (x2 : Int32) (x3 : Int32), GG X p l e (rm5_endOfThing) s m args below meth c (gP X below args s 0 0 (fun r9 : Int32 => (some (.int r9), M))) 5 0 0 2 [(0, .ref a0), (1, .ref a1), (2, .int x2), (3, .int x3)] [] M (rec2 a0 a1 x2 x3)) (a0 : Nat) (a1 : Nat) (x2 : Int32) (x3 : Int32) : GG X p l e (rm5_endOfThing) s m args below meth c (gP X below args s 0 0 (fun r9 : Int32 => (some (.int r9), M))) 5 0 0 56 [(0, .ref a0), (1, .ref a1), (2, .int x2), (3, .int x3)] [] M (p5_endOfThing_J56 M rec2 a0 a1 x2 x3) := by
  unfold p5_endOfThing_J56
  refine g_iconst (v := 0) B dX9_endOfThing_56 (by decide) ?_
  refine g_sub (lv' := [(0, .ref a0), (1, .ref a1), (2, .int x2), (3, .int x3)]) [0, 1, 2, 3] rfl ?_
  exact g5_endOfThing_J57 B hS9 hr rec2 hrec2 a0 a1 x2 x3 0
set_option maxRecDepth 20000 in
set_option maxHeartbeats 2000000 in
theorem g5_endOfThing_J52 {X : gX} {p : Program} {l : Launch} {e : Env} {s : State} {m : MethodId} {args : Array Value} {below : List Frame} {meth : Method} {c : Code} (B : gB X p (rm5_endOfThing) s m args meth c RX9 cX9_endOfThing 5 (rm5_endOfThing)) (hS9 : gS X s) (hr : meth.sig.returnType = some .int) {M : mMem} (rec2 : Nat → Nat → Int32 → Int32 → Option Int32) (hrec2 : ∀ (a0 : Nat) (a1 : Nat) (x2 : Int32) (x3 : Int32), GG X p l e (rm5_endOfThing) s m args below meth c (gP X below args s 0 0 (fun r9 : Int32 => (some (.int r9), M))) 5 0 0 2 [(0, .ref a0), (1, .ref a1), (2, .int x2), (3, .int x3)] [] M (rec2 a0 a1 x2 x3)) (a0 : Nat) (a1 : Nat) (x2 : Int32) (x3 : Int32) : GG X p l e (rm5_endOfThing) s m args below meth c (gP X below args s 0 0 (fun r9 : Int32 => (some (.int r9), M))) 5 0 0 52 [(0, .ref a0), (1, .ref a1), (2, .int x2), (3, .int x3)] [] M (p5_endOfThing_J52 M rec2 a0 a1 x2 x3) := by
  unfold p5_endOfThing_J52
  refine g_iconst (v := 1) B dX9_endOfThing_52 (by decide) ?_
  refine g_goto B 57 dX9_endOfThing_53 (by decide) ?_
  refine g_sub (lv' := [(0, .ref a0), (1, .ref a1), (2, .int x2), (3, .int x3)]) [0, 1, 2, 3] rfl ?_
  exact g5_endOfThing_J57 B hS9 hr rec2 hrec2 a0 a1 x2 x3 1
set_option maxRecDepth 20000 in
set_option maxHeartbeats 2000000 in
theorem g5_endOfThing_J34 {X : gX} {p : Program} {l : Launch} {e : Env} {s : State} {m : MethodId} {args : Array Value} {below : List Frame} {meth : Method} {c : Code} (B : gB X p (rm5_endOfThing) s m args meth c RX9 cX9_endOfThing 5 (rm5_endOfThing)) (hS9 : gS X s) (hr : meth.sig.returnType = some .int) {M : mMem} (rec2 : Nat → Nat → Int32 → Int32 → Option Int32) (hrec2 : ∀ (a0 : Nat) (a1 : Nat) (x2 : Int32) (x3 : Int32), GG X p l e (rm5_endOfThing) s m args below meth c (gP X below args s 0 0 (fun r9 : Int32 => (some (.int r9), M))) 5 0 0 2 [(0, .ref a0), (1, .ref a1), (2, .int x2), (3, .int x3)] [] M (rec2 a0 a1 x2 x3)) (a0 : Nat) (a1 : Nat) (x2 : Int32) (x3 : Int32) : GG X p l e (rm5_endOfThing) s m args below meth c (gP X below args s 0 0 (fun r9 : Int32 => (some (.int r9), M))) 5 0 0 34 [(0, .ref a0), (1, .ref a1), (2, .int x2), (3, .int x3)] [] M (p5_endOfThing_J34 M rec2 a0 a1 x2 x3) := by
  unfold p5_endOfThing_J34
  refine g_aload_n B dX9_endOfThing_34 1 rfl ?_
  refine g_iload_n B dX9_endOfThing_35 2 rfl ?_
  refine g_iaload B dX9_endOfThing_36 (fun v_1 => ?_)
  refine g_callS_ip [.int v_1] B hS9 mf9_isDigit wd_755 wd_754 (c9_isDigit X l v_1 M) (by decide) (by decide) (by decide) rfl (by decide) dX9_endOfThing_37 rfl (fun v_2 => ?_)
  refine g_if_eq B 56 dX9_endOfThing_40 (by decide) ?_ ?_
  · refine g_sub (lv' := [(0, .ref a0), (1, .ref a1), (2, .int x2), (3, .int x3)]) [0, 1, 2, 3] rfl ?_
    exact g5_endOfThing_J56 B hS9 hr rec2 hrec2 a0 a1 x2 x3
  · refine g_aload_n B dX9_endOfThing_43 1 rfl ?_
    refine g_iload_n B dX9_endOfThing_44 3 rfl ?_
    refine g_iaload B dX9_endOfThing_45 (fun v_3 => ?_)
    refine g_callS_ip [.int v_3] B hS9 mf9_isDigit wd_755 wd_754 (c9_isDigit X l v_3 M) (by decide) (by decide) (by decide) rfl (by decide) dX9_endOfThing_46 rfl (fun v_4 => ?_)
    refine g_if_eq B 56 dX9_endOfThing_49 (by decide) ?_ ?_
    · refine g_sub (lv' := [(0, .ref a0), (1, .ref a1), (2, .int x2), (3, .int x3)]) [0, 1, 2, 3] rfl ?_
      exact g5_endOfThing_J56 B hS9 hr rec2 hrec2 a0 a1 x2 x3
    · refine g_sub (lv' := [(0, .ref a0), (1, .ref a1), (2, .int x2), (3, .int x3)]) [0, 1, 2, 3] rfl ?_
      exact g5_endOfThing_J52 B hS9 hr rec2 hrec2 a0 a1 x2 x3
set_option maxRecDepth 20000 in
set_option maxHeartbeats 2000000 in
theorem g5_endOfThing_L2 {X : gX} {p : Program} {l : Launch} {e : Env} {s : State} {m : MethodId} {args : Array Value} {below : List Frame} {meth : Method} {c : Code} (B : gB X p (rm5_endOfThing) s m args meth c RX9 cX9_endOfThing 5 (rm5_endOfThing)) (hS9 : gS X s) (hr : meth.sig.returnType = some .int) {M : mMem} : ∀ (n : Nat) (a0 : Nat) (a1 : Nat) (x2 : Int32) (x3 : Int32), GG X p l e (rm5_endOfThing) s m args below meth c (gP X below args s 0 0 (fun r9 : Int32 => (some (.int r9), M))) 5 0 0 2 [(0, .ref a0), (1, .ref a1), (2, .int x2), (3, .int x3)] [] M (p5_endOfThing_L2 M n a0 a1 x2 x3) := by
  intro n
  induction n with
  | zero => intro a0 a1 x2 x3; exact g_none
  | succ n ih =>
    intro a0 a1 x2 x3
    rw [p5_endOfThing_L2]
    refine g_iload_n B dX9_endOfThing_2 3 rfl ?_
    refine g_aload_n B dX9_endOfThing_3 0 rfl ?_
    refine g_getI (ci := 5) (T0 := TX5) (N := 9) B (by decide) rfl in_5 (k := 5) (by decide) rfl wd_245 (fun _ h => h) dX9_endOfThing_4 (fun v_1 => ?_)
    refine g_icmp_ge B 72 dX9_endOfThing_7 (by decide) ?_ ?_
    · refine g_iload_n B dX9_endOfThing_10 3 rfl ?_
      refine g_aload_n B dX9_endOfThing_11 1 rfl ?_
      refine g_alen B dX9_endOfThing_12 (fun v_2 => ?_)
      refine g_icmp_ge B 72 dX9_endOfThing_13 (by decide) ?_ ?_
      · refine g_aload_n B dX9_endOfThing_16 1 rfl ?_
        refine g_iload_n B dX9_endOfThing_17 2 rfl ?_
        refine g_iaload B dX9_endOfThing_18 (fun v_3 => ?_)
        refine g_callS_ip [.int v_3] B hS9 mf9_isLetter wd_752 wd_751 (c9_isLetter X l v_3 M) (by decide) (by decide) (by decide) rfl (by decide) dX9_endOfThing_19 rfl (fun v_4 => ?_)
        refine g_if_eq B 34 dX9_endOfThing_22 (by decide) ?_ ?_
        · refine g_sub (lv' := [(0, .ref a0), (1, .ref a1), (2, .int x2), (3, .int x3)]) [0, 1, 2, 3] rfl ?_
          exact g5_endOfThing_J34 B hS9 hr (p5_endOfThing_L2 M n) ih a0 a1 x2 x3
        · refine g_aload_n B dX9_endOfThing_25 1 rfl ?_
          refine g_iload_n B dX9_endOfThing_26 3 rfl ?_
          refine g_iaload B dX9_endOfThing_27 (fun v_5 => ?_)
          refine g_callS_ip [.int v_5] B hS9 mf9_isLetter wd_752 wd_751 (c9_isLetter X l v_5 M) (by decide) (by decide) (by decide) rfl (by decide) dX9_endOfThing_28 rfl (fun v_6 => ?_)
          refine g_if_ne B 52 dX9_endOfThing_31 (by decide) ?_ ?_
          · refine g_sub (lv' := [(0, .ref a0), (1, .ref a1), (2, .int x2), (3, .int x3)]) [0, 1, 2, 3] rfl ?_
            exact g5_endOfThing_J34 B hS9 hr (p5_endOfThing_L2 M n) ih a0 a1 x2 x3
          · refine g_sub (lv' := [(0, .ref a0), (1, .ref a1), (2, .int x2), (3, .int x3)]) [0, 1, 2, 3] rfl ?_
            exact g5_endOfThing_J52 B hS9 hr (p5_endOfThing_L2 M n) ih a0 a1 x2 x3
      · refine g_sub (lv' := [(0, .ref a0)]) [0] rfl ?_
        exact g5_endOfThing_J72 B hS9 hr a0
    · refine g_sub (lv' := [(0, .ref a0)]) [0] rfl ?_
      exact g5_endOfThing_J72 B hS9 hr a0
set_option maxRecDepth 20000 in
set_option maxHeartbeats 2000000 in
theorem g5_endOfThing {X : gX} {p : Program} {l : Launch} {e : Env} {s : State} {m : MethodId} {args : Array Value} {below : List Frame} {meth : Method} {c : Code} (B : gB X p (rm5_endOfThing) s m args meth c RX9 cX9_endOfThing 5 (rm5_endOfThing)) (hS9 : gS X s) (hr : meth.sig.returnType = some .int) {M : mMem} (a0 : Nat) (a1 : Nat) (x2 : Int32) : GG X p l e (rm5_endOfThing) s m args below meth c (gP X below args s 0 0 (fun r9 : Int32 => (some (.int r9), M))) 5 0 0 0 [(0, .ref a0), (1, .ref a1), (2, .int x2)] [] M (p5_endOfThing a0 a1 x2 M) := by
  unfold p5_endOfThing
  refine g_gd ?_
  refine g_iload_n B dX9_endOfThing_0 2 rfl ?_
  refine g_istore_n (lv' := [(3, .int x2), (0, .ref a0), (1, .ref a1), (2, .int x2)]) B dX9_endOfThing_1 (by decide) [0, 1, 2, 3] rfl ?_
  refine g_sub (lv' := [(0, .ref a0), (1, .ref a1), (2, .int x2), (3, .int x2)]) [1, 2, 3, 0] rfl ?_
  exact (g5_endOfThing_L2 B hS9 hr) gF a0 a1 x2 x2
theorem c5_endOfThing (X : gX) (l : Launch) (a0 : Nat) (a1 : Nat) (x2 : Int32) (M : mMem) : Con X l yX9_endOfThing cX9_endOfThing 5 (some .int) rm5_endOfThing (fun r9 : Int32 => (some (.int r9), M)) [.ref a0, .ref a1, .int x2] M (p5_endOfThing a0 a1 x2 M) := g_con (own := RX9) (by decide +kernel) rfl (Nat.le_of_ble_eq_true rfl) (fun p e s m args below meth c B hS9 hr hn => g5_endOfThing B hS9 hr a0 a1 x2)
theorem mf5_addThing : gMF yX9_addThing cX9_addThing 4 (none) 3 := ⟨wd_761, wd_6, ⟨by decide, by decide⟩, by decide +kernel⟩
set_option maxRecDepth 20000 in
set_option maxHeartbeats 2000000 in
theorem g5_addThing_J19 {X : gX} {p : Program} {l : Launch} {e : Env} {s : State} {m : MethodId} {args : Array Value} {below : List Frame} {meth : Method} {c : Code} (B : gB X p (rm5_addThing) s m args meth c RX9 cX9_addThing 4 (rm5_addThing)) (hS9 : gS X s) (hr : meth.sig.returnType = none) (M : mMem) : GG X p l e (rm5_addThing) s m args below meth c (gP X below args s 0 0 (fun M9 : mMem => (none, M9))) 4 0 0 19 [] [] M (p5_addThing_J19 M) := by
  unfold p5_addThing_J19
  exact g_vreturn B hr (by decide) (by decide) rfl dX9_addThing_19
set_option maxRecDepth 20000 in
set_option maxHeartbeats 2000000 in
theorem g5_addThing_J151 {X : gX} {p : Program} {l : Launch} {e : Env} {s : State} {m : MethodId} {args : Array Value} {below : List Frame} {meth : Method} {c : Code} (B : gB X p (rm5_addThing) s m args meth c RX9 cX9_addThing 4 (rm5_addThing)) (hS9 : gS X s) (hr : meth.sig.returnType = none) (a0 : Nat) (M : mMem) : GG X p l e (rm5_addThing) s m args below meth c (gP X below args s 0 0 (fun M9 : mMem => (none, M9))) 4 0 0 151 [(0, .ref a0)] [] M (p5_addThing_J151 a0 M) := by
  unfold p5_addThing_J151
  refine g_aload_n B dX9_addThing_151 0 rfl ?_
  refine g_dup B dX9_addThing_152 rfl ?_
  refine g_getI (ci := 5) (T0 := TX5) (N := 9) B (by decide) rfl in_5 (k := 4) (by decide) rfl wd_244 (fun _ h => h) dX9_addThing_153 (fun v_1 => ?_)
  refine g_iconst (v := 1) B dX9_addThing_156 (by decide) ?_
  refine g_iadd B dX9_addThing_157 ?_
  refine g_putI (ci := 5) (T0 := TX5) (N := 9) B (by decide) rfl in_5 tyX5 tyX5_ok nmX5 (k := 4) (by decide) wd_244 (fun _ h => h) rfl rfl (ty := .int) (by decide +kernel) rfl rfl dX9_addThing_158 (fun M_2 => ?_)
  exact g_vreturn B hr (by decide) (by decide) rfl dX9_addThing_161
set_option maxRecDepth 20000 in
set_option maxHeartbeats 2000000 in
theorem g5_addThing_J150 {X : gX} {p : Program} {l : Launch} {e : Env} {s : State} {m : MethodId} {args : Array Value} {below : List Frame} {meth : Method} {c : Code} (B : gB X p (rm5_addThing) s m args meth c RX9 cX9_addThing 4 (rm5_addThing)) (hS9 : gS X s) (hr : meth.sig.returnType = none) (a0 : Nat) (b0 : Nat) (u1 : Int32) (u2 : Int32) (M : mMem) : GG X p l e (rm5_addThing) s m args below meth c (gP X below args s 0 0 (fun M9 : mMem => (none, M9))) 4 0 0 150 [(0, .ref a0)] [.int u2, .int u1, .ref b0] M (p5_addThing_J150 a0 b0 u1 u2 M) := by
  unfold p5_addThing_J150
  refine g_iastore B dX9_addThing_150 (fun M_1 => ?_)
  refine g_sub (lv' := [(0, .ref a0)]) [0] rfl ?_
  exact g5_addThing_J151 B hS9 hr a0 M_1
set_option maxRecDepth 20000 in
set_option maxHeartbeats 2000000 in
theorem g5_addThing_J122 {X : gX} {p : Program} {l : Launch} {e : Env} {s : State} {m : MethodId} {args : Array Value} {below : List Frame} {meth : Method} {c : Code} (B : gB X p (rm5_addThing) s m args meth c RX9 cX9_addThing 4 (rm5_addThing)) (hS9 : gS X s) (hr : meth.sig.returnType = none) (a0 : Nat) (b0 : Nat) (u1 : Int32) (u2 : Int32) (M : mMem) : GG X p l e (rm5_addThing) s m args below meth c (gP X below args s 0 0 (fun M9 : mMem => (none, M9))) 4 0 0 122 [(0, .ref a0)] [.int u2, .int u1, .ref b0] M (p5_addThing_J122 a0 b0 u1 u2 M) := by
  unfold p5_addThing_J122
  refine g_iastore B dX9_addThing_122 (fun M_1 => ?_)
  refine g_goto B 151 dX9_addThing_123 (by decide) ?_
  refine g_sub (lv' := [(0, .ref a0)]) [0] rfl ?_
  exact g5_addThing_J151 B hS9 hr a0 M_1
set_option maxRecDepth 20000 in
set_option maxHeartbeats 2000000 in
theorem g5_addThing_J96 {X : gX} {p : Program} {l : Launch} {e : Env} {s : State} {m : MethodId} {args : Array Value} {below : List Frame} {meth : Method} {c : Code} (B : gB X p (rm5_addThing) s m args meth c RX9 cX9_addThing 4 (rm5_addThing)) (hS9 : gS X s) (hr : meth.sig.returnType = none) (a0 : Nat) (a1 : Nat) (x2 : Int32) (x3 : Int32) (b0 : Nat) (u1 : Int32) (u2 : Int32) (M : mMem) : GG X p l e (rm5_addThing) s m args below meth c (gP X below args s 0 0 (fun M9 : mMem => (none, M9))) 4 0 0 96 [(0, .ref a0), (1, .ref a1), (2, .int x2), (3, .int x3)] [.int u2, .int u1, .ref b0] M (p5_addThing_J96 a0 a1 x2 x3 b0 u1 u2 M) := by
  unfold p5_addThing_J96
  refine g_iastore B dX9_addThing_96 (fun M_1 => ?_)
  refine g_aload_n B dX9_addThing_97 0 rfl ?_
  refine g_getR (ci := 5) (T0 := TX5) (N := 9) B (by decide) rfl in_5 (k := 2) (by decide) rfl wd_242 (fun _ h => h) dX9_addThing_98 (fun v_2 => ?_)
  refine g_aload_n B dX9_addThing_101 0 rfl ?_
  refine g_getI (ci := 5) (T0 := TX5) (N := 9) B (by decide) rfl in_5 (k := 4) (by decide) rfl wd_244 (fun _ h => h) dX9_addThing_102 (fun v_3 => ?_)
  refine g_iload_n B dX9_addThing_105 3 rfl ?_
  refine g_iload_n B dX9_addThing_106 2 rfl ?_
  refine g_isub B dX9_addThing_107 ?_
  refine g_iconst (v := 3) B dX9_addThing_108 (by decide) ?_
  refine g_icmp_le B 116 dX9_addThing_109 (by decide) ?_ ?_
  · refine g_iconst (v := 0) B dX9_addThing_112 (by decide) ?_
    refine g_goto B 122 dX9_addThing_113 (by decide) ?_
    refine g_sub (lv' := [(0, .ref a0)]) [0] rfl ?_
    exact g5_addThing_J122 B hS9 hr a0 v_2 v_3 0 M_1
  · refine g_aload_n B dX9_addThing_116 1 rfl ?_
    refine g_iload_n B dX9_addThing_117 2 rfl ?_
    refine g_iload_n B dX9_addThing_118 3 rfl ?_
    refine g_callS_ip [.ref a1, .int x2, .int x3] B hS9 mf9_numberOf wd_844 wd_843 (c9_numberOf X l a1 x2 x3 M_1) (by decide) (by decide) (by decide) rfl (Nat.le_of_ble_eq_true rfl) dX9_addThing_119 rfl (fun v_4 => ?_)
    refine g_sub (lv' := [(0, .ref a0)]) [0] rfl ?_
    exact g5_addThing_J122 B hS9 hr a0 v_2 v_3 v_4 M_1
set_option maxRecDepth 20000 in
set_option maxHeartbeats 2000000 in
theorem g5_addThing {X : gX} {p : Program} {l : Launch} {e : Env} {s : State} {m : MethodId} {args : Array Value} {below : List Frame} {meth : Method} {c : Code} (B : gB X p (rm5_addThing) s m args meth c RX9 cX9_addThing 4 (rm5_addThing)) (hS9 : gS X s) (hr : meth.sig.returnType = none) (a0 : Nat) (a1 : Nat) (x2 : Int32) (x3 : Int32) (M : mMem) : GG X p l e (rm5_addThing) s m args below meth c (gP X below args s 0 0 (fun M9 : mMem => (none, M9))) 4 0 0 0 [(0, .ref a0), (1, .ref a1), (2, .int x2), (3, .int x3)] [] M (p5_addThing a0 a1 x2 x3 M) := by
  unfold p5_addThing
  refine g_gd ?_
  refine g_aload_n B dX9_addThing_0 0 rfl ?_
  refine g_getI (ci := 5) (T0 := TX5) (N := 9) B (by decide) rfl in_5 (k := 4) (by decide) rfl wd_244 (fun _ h => h) dX9_addThing_1 (fun v_1 => ?_)
  refine g_if_lt B 19 dX9_addThing_4 (by decide) ?_ ?_
  · refine g_sub (lv' := []) [] rfl ?_
    exact g5_addThing_J19 B hS9 hr M
  · refine g_aload_n B dX9_addThing_7 0 rfl ?_
    refine g_getI (ci := 5) (T0 := TX5) (N := 9) B (by decide) rfl in_5 (k := 4) (by decide) rfl wd_244 (fun _ h => h) dX9_addThing_8 (fun v_2 => ?_)
    refine g_aload_n B dX9_addThing_11 0 rfl ?_
    refine g_getR (ci := 5) (T0 := TX5) (N := 9) B (by decide) rfl in_5 (k := 0) (by decide) rfl wd_240 (fun _ h => h) dX9_addThing_12 (fun v_3 => ?_)
    refine g_alen B dX9_addThing_15 (fun v_4 => ?_)
    refine g_icmp_lt B 20 dX9_addThing_16 (by decide) ?_ ?_
    · refine g_aload_n B dX9_addThing_20 0 rfl ?_
      refine g_getR (ci := 5) (T0 := TX5) (N := 9) B (by decide) rfl in_5 (k := 1) (by decide) rfl wd_241 (fun _ h => h) dX9_addThing_21 (fun v_5 => ?_)
      refine g_aload_n B dX9_addThing_24 0 rfl ?_
      refine g_getI (ci := 5) (T0 := TX5) (N := 9) B (by decide) rfl in_5 (k := 4) (by decide) rfl wd_244 (fun _ h => h) dX9_addThing_25 (fun v_6 => ?_)
      refine g_iload_n B dX9_addThing_28 2 rfl ?_
      refine g_iastore B dX9_addThing_29 (fun M_7 => ?_)
      refine g_aload_n B dX9_addThing_30 0 rfl ?_
      refine g_getR (ci := 5) (T0 := TX5) (N := 9) B (by decide) rfl in_5 (k := 2) (by decide) rfl wd_242 (fun _ h => h) dX9_addThing_31 (fun v_8 => ?_)
      refine g_aload_n B dX9_addThing_34 0 rfl ?_
      refine g_getI (ci := 5) (T0 := TX5) (N := 9) B (by decide) rfl in_5 (k := 4) (by decide) rfl wd_244 (fun _ h => h) dX9_addThing_35 (fun v_9 => ?_)
      refine g_iconst (v := 0) B dX9_addThing_38 (by decide) ?_
      refine g_iastore B dX9_addThing_39 (fun M_10 => ?_)
      refine g_aload_n B dX9_addThing_40 1 rfl ?_
      refine g_iload_n B dX9_addThing_41 2 rfl ?_
      refine g_iaload B dX9_addThing_42 (fun v_11 => ?_)
      refine g_callS_ip [.int v_11] B hS9 mf9_isLetter wd_752 wd_751 (c9_isLetter X l v_11 M_10) (by decide) (by decide) (by decide) rfl (by decide) dX9_addThing_43 rfl (fun v_12 => ?_)
      refine g_if_eq B 67 dX9_addThing_46 (by decide) ?_ ?_
      · refine g_aload_n B dX9_addThing_67 1 rfl ?_
        refine g_iload_n B dX9_addThing_68 2 rfl ?_
        refine g_iaload B dX9_addThing_69 (fun v_13 => ?_)
        refine g_callS_ip [.int v_13] B hS9 mf9_isDigit wd_755 wd_754 (c9_isDigit X l v_13 M_10) (by decide) (by decide) (by decide) rfl (by decide) dX9_addThing_70 rfl (fun v_14 => ?_)
        refine g_if_eq B 126 dX9_addThing_73 (by decide) ?_ ?_
        · refine g_aload_n B dX9_addThing_126 0 rfl ?_
          refine g_getR (ci := 5) (T0 := TX5) (N := 9) B (by decide) rfl in_5 (k := 0) (by decide) rfl wd_240 (fun _ h => h) dX9_addThing_127 (fun v_15 => ?_)
          refine g_aload_n B dX9_addThing_130 0 rfl ?_
          refine g_getI (ci := 5) (T0 := TX5) (N := 9) B (by decide) rfl in_5 (k := 4) (by decide) rfl wd_244 (fun _ h => h) dX9_addThing_131 (fun v_16 => ?_)
          refine g_aload_n B dX9_addThing_134 1 rfl ?_
          refine g_iload_n B dX9_addThing_135 2 rfl ?_
          refine g_iaload B dX9_addThing_136 (fun v_17 => ?_)
          refine g_callS_ip [.int v_17] B hS9 mf9_isSign wd_847 wd_846 (c9_isSign X l v_17 M_10) (by decide) (by decide) (by decide) rfl (Nat.le_of_ble_eq_true rfl) dX9_addThing_137 rfl (fun v_18 => ?_)
          refine g_if_eq B 149 dX9_addThing_140 (by decide) ?_ ?_
          · refine g_iconst (v := 0) B dX9_addThing_149 (by decide) ?_
            refine g_sub (lv' := [(0, .ref a0)]) [0] rfl ?_
            exact g5_addThing_J150 B hS9 hr a0 v_15 v_16 0 M_10
          · refine g_aload_n B dX9_addThing_143 1 rfl ?_
            refine g_iload_n B dX9_addThing_144 2 rfl ?_
            refine g_iaload B dX9_addThing_145 (fun v_19 => ?_)
            refine g_goto B 150 dX9_addThing_146 (by decide) ?_
            refine g_sub (lv' := [(0, .ref a0)]) [0] rfl ?_
            exact g5_addThing_J150 B hS9 hr a0 v_15 v_16 v_19 M_10
        · refine g_aload_n B dX9_addThing_76 0 rfl ?_
          refine g_getR (ci := 5) (T0 := TX5) (N := 9) B (by decide) rfl in_5 (k := 0) (by decide) rfl wd_240 (fun _ h => h) dX9_addThing_77 (fun v_20 => ?_)
          refine g_aload_n B dX9_addThing_80 0 rfl ?_
          refine g_getI (ci := 5) (T0 := TX5) (N := 9) B (by decide) rfl in_5 (k := 4) (by decide) rfl wd_244 (fun _ h => h) dX9_addThing_81 (fun v_21 => ?_)
          refine g_iload_n B dX9_addThing_84 3 rfl ?_
          refine g_iload_n B dX9_addThing_85 2 rfl ?_
          refine g_isub B dX9_addThing_86 ?_
          refine g_iconst (v := 3) B dX9_addThing_87 (by decide) ?_
          refine g_icmp_le B 95 dX9_addThing_88 (by decide) ?_ ?_
          · refine g_iconst (v := 0) B dX9_addThing_91 (by decide) ?_
            refine g_goto B 96 dX9_addThing_92 (by decide) ?_
            refine g_sub (lv' := [(0, .ref a0), (1, .ref a1), (2, .int x2), (3, .int x3)]) [0, 1, 2, 3] rfl ?_
            exact g5_addThing_J96 B hS9 hr a0 a1 x2 x3 v_20 v_21 0 M_10
          · refine g_iconst (v := 2) B dX9_addThing_95 (by decide) ?_
            refine g_sub (lv' := [(0, .ref a0), (1, .ref a1), (2, .int x2), (3, .int x3)]) [0, 1, 2, 3] rfl ?_
            exact g5_addThing_J96 B hS9 hr a0 a1 x2 x3 v_20 v_21 2 M_10
      · refine g_aload_n B dX9_addThing_49 0 rfl ?_
        refine g_getR (ci := 5) (T0 := TX5) (N := 9) B (by decide) rfl in_5 (k := 0) (by decide) rfl wd_240 (fun _ h => h) dX9_addThing_50 (fun v_22 => ?_)
        refine g_aload_n B dX9_addThing_53 0 rfl ?_
        refine g_getI (ci := 5) (T0 := TX5) (N := 9) B (by decide) rfl in_5 (k := 4) (by decide) rfl wd_244 (fun _ h => h) dX9_addThing_54 (fun v_23 => ?_)
        refine g_aload_n B dX9_addThing_57 1 rfl ?_
        refine g_iload_n B dX9_addThing_58 2 rfl ?_
        refine g_iload_n B dX9_addThing_59 3 rfl ?_
        refine g_callS_ip [.ref a1, .int x2, .int x3] B hS9 mf9_wordOf wd_763 wd_762 (c9_wordOf X l a1 x2 x3 M_10) (by decide) (by decide) (by decide) rfl (Nat.le_of_ble_eq_true rfl) dX9_addThing_60 rfl (fun v_24 => ?_)
        refine g_iastore B dX9_addThing_63 (fun M_25 => ?_)
        refine g_goto B 151 dX9_addThing_64 (by decide) ?_
        refine g_sub (lv' := [(0, .ref a0)]) [0] rfl ?_
        exact g5_addThing_J151 B hS9 hr a0 M_25
    · refine g_sub (lv' := []) [] rfl ?_
      exact g5_addThing_J19 B hS9 hr M
theorem c5_addThing (X : gX) (l : Launch) (a0 : Nat) (a1 : Nat) (x2 : Int32) (x3 : Int32) (M : mMem) : Con X l yX9_addThing cX9_addThing 4 (none) rm5_addThing (fun M9 : mMem => (none, M9)) [.ref a0, .ref a1, .int x2, .int x3] M (p5_addThing a0 a1 x2 x3 M) := g_con (own := RX9) (by decide +kernel) rfl (Nat.le_of_ble_eq_true rfl) (fun p e s m args below meth c B hS9 hr hn => g5_addThing B hS9 hr a0 a1 x2 x3 M)
theorem mf5_partText : gMF yX9_partText cX9_partText 5 (none) 2 := ⟨wd_746, wd_6, ⟨by decide, by decide⟩, by decide +kernel⟩
set_option maxRecDepth 20000 in
set_option maxHeartbeats 2000000 in
theorem g5_partText_J56 {X : gX} {p : Program} {l : Launch} {e : Env} {s : State} {m : MethodId} {args : Array Value} {below : List Frame} {meth : Method} {c : Code} (B : gB X p (rm5_partText) s m args meth c RX9 cX9_partText 5 (rm5_partText)) (hS9 : gS X s) (hr : meth.sig.returnType = none) (rec15 : Nat → Nat → Int32 → mMem → Option mMem) (hrec15 : ∀ (a0 : Nat) (a1 : Nat) (x4 : Int32) (M : mMem), GG X p l e (rm5_partText) s m args below meth c (gP X below args s 0 0 (fun M9 : mMem => (none, M9))) 5 0 0 15 [(0, .ref a0), (1, .ref a1), (4, .int x4)] [] M (rec15 a0 a1 x4 M)) (a0 : Nat) (a1 : Nat) (x3 : Int32) (x4 : Int32) (M : mMem) : GG X p l e (rm5_partText) s m args below meth c (gP X below args s 0 0 (fun M9 : mMem => (none, M9))) 5 0 0 56 [(0, .ref a0), (1, .ref a1), (3, .int x3), (4, .int x4)] [] M (p5_partText_J56 rec15 a0 a1 x3 x4 M) := by
  unfold p5_partText_J56
  refine g_iload B dX9_partText_56 3 rfl ?_
  refine g_iconst (v := 1) B dX9_partText_58 (by decide) ?_
  refine g_iadd B dX9_partText_59 ?_
  refine g_iload_n B dX9_partText_60 2 rfl ?_
  refine g_max B wd_757 wd_516 wd_15 wd_517 (by decide) (Nat.le_of_ble_eq_true rfl) (by decide) dX9_partText_61 ?_
  refine g_istore (lv' := [(4, .int (maxI (x4 + 1) x3)), (0, .ref a0), (1, .ref a1), (3, .int x3)]) B dX9_partText_64 (by decide) [0, 1, 2, 3] rfl ?_
  refine g_goto B 15 dX9_partText_66 (by decide) ?_
  refine g_sub (lv' := [(0, .ref a0), (1, .ref a1), (4, .int (maxI (x4 + 1) x3))]) [1, 2, 0] rfl ?_
  exact hrec15 a0 a1 (maxI (x4 + 1) x3) M
set_option maxRecDepth 20000 in
set_option maxHeartbeats 2000000 in
theorem g5_partText_L15 {X : gX} {p : Program} {l : Launch} {e : Env} {s : State} {m : MethodId} {args : Array Value} {below : List Frame} {meth : Method} {c : Code} (B : gB X p (rm5_partText) s m args meth c RX9 cX9_partText 5 (rm5_partText)) (hS9 : gS X s) (hr : meth.sig.returnType = none) : ∀ (n : Nat) (a0 : Nat) (a1 : Nat) (x4 : Int32) (M : mMem), GG X p l e (rm5_partText) s m args below meth c (gP X below args s 0 0 (fun M9 : mMem => (none, M9))) 5 0 0 15 [(0, .ref a0), (1, .ref a1), (4, .int x4)] [] M (p5_partText_L15 n a0 a1 x4 M) := by
  intro n
  induction n with
  | zero => intro a0 a1 x4 M; exact g_none
  | succ n ih =>
    intro a0 a1 x4 M
    rw [p5_partText_L15]
    refine g_iload B dX9_partText_15 2 rfl ?_
    refine g_aload_n B dX9_partText_17 0 rfl ?_
    refine g_getI (ci := 5) (T0 := TX5) (N := 9) B (by decide) rfl in_5 (k := 5) (by decide) rfl wd_245 (fun _ h => h) dX9_partText_18 (fun v_1 => ?_)
    refine g_icmp_ge B 69 dX9_partText_21 (by decide) ?_ ?_
    · refine g_aload_n B dX9_partText_24 0 rfl ?_
      refine g_aload_n B dX9_partText_25 1 rfl ?_
      refine g_iload B dX9_partText_26 2 rfl ?_
      refine g_callV_ip [.ref a1, .int x4] (ci := 5) (T0 := TX5) (N := 9) B hS9 mf5_endOfThing wd_749 (gw B wq_LR_endOfThing) wd_747 (by decide) rfl (fun h => (gd_ne h).1) (c5_endOfThing X l a0 a1 x4 M) (by decide) (by decide) (by decide) rfl (by decide) dX9_partText_28 rfl (fun v_2 => ?_)
      refine g_istore_n (lv' := [(3, .int v_2), (0, .ref a0), (1, .ref a1), (4, .int x4)]) B dX9_partText_31 (by decide) [0, 1, 2, 3] rfl ?_
      refine g_aload_n B dX9_partText_32 2 rfl ?_
      refine g_iload B dX9_partText_33 3 rfl ?_
      refine g_iaload B dX9_partText_35 (fun v_3 => ?_)
      refine g_bipush (v := 32) B dX9_partText_36 (by decide) ?_
      refine g_icmp_eq B 56 dX9_partText_38 (by decide) ?_ ?_
      · refine g_sub (lv' := [(0, .ref a0), (1, .ref a1), (3, .int v_2), (4, .int x4)]) [1, 2, 0, 3] rfl ?_
        exact g5_partText_J56 B hS9 hr (p5_partText_L15 n) ih a0 a1 v_2 x4 M
      · refine g_aload_n B dX9_partText_41 1 rfl ?_
        refine g_aload_n B dX9_partText_42 2 rfl ?_
        refine g_iload B dX9_partText_43 3 rfl ?_
        refine g_iload B dX9_partText_45 3 rfl ?_
        refine g_iconst (v := 1) B dX9_partText_47 (by decide) ?_
        refine g_iadd B dX9_partText_48 ?_
        refine g_iload_n B dX9_partText_49 0 rfl ?_
        refine g_max B wd_757 wd_516 wd_15 wd_517 (by decide) (Nat.le_of_ble_eq_true rfl) (by decide) dX9_partText_50 ?_
        refine g_callV_vw [.ref a1, .int x4, .int (maxI (x4 + 1) v_2)] (ci := 5) (T0 := TX5) (N := 9) B hS9 mf5_addThing wd_760 (gw B wq_LR_addThing) wd_758 (by decide) rfl (fun h => (gd_ne h).1) (c5_addThing X l a0 a1 x4 (maxI (x4 + 1) v_2) M) (by decide) (by decide) (by decide) rfl (by decide) dX9_partText_53 rfl (fun q_4 => ?_)
        refine g_sub (lv' := [(0, .ref a0), (1, .ref a1), (3, .int v_2), (4, .int x4)]) [1, 2, 0, 3] rfl ?_
        exact g5_partText_J56 B hS9 hr (p5_partText_L15 n) ih a0 a1 v_2 x4 q_4
    · exact g_vreturn B hr (by decide) (by decide) rfl dX9_partText_69
set_option maxRecDepth 20000 in
set_option maxHeartbeats 2000000 in
theorem g5_partText {X : gX} {p : Program} {l : Launch} {e : Env} {s : State} {m : MethodId} {args : Array Value} {below : List Frame} {meth : Method} {c : Code} (B : gB X p (rm5_partText) s m args meth c RX9 cX9_partText 5 (rm5_partText)) (hS9 : gS X s) (hr : meth.sig.returnType = none) (a0 : Nat) (a1 : Nat) (x2 : Int32) (M : mMem) : GG X p l e (rm5_partText) s m args below meth c (gP X below args s 0 0 (fun M9 : mMem => (none, M9))) 5 0 0 0 [(0, .ref a0), (1, .ref a1), (2, .int x2)] [] M (p5_partText a0 a1 x2 M) := by
  unfold p5_partText
  refine g_gd ?_
  refine g_aload_n B dX9_partText_0 0 rfl ?_
  refine g_iconst (v := 0) B dX9_partText_1 (by decide) ?_
  refine g_putI (ci := 5) (T0 := TX5) (N := 9) B (by decide) rfl in_5 tyX5 tyX5_ok nmX5 (k := 4) (by decide) wd_244 (fun _ h => h) rfl rfl (ty := .int) (by decide +kernel) rfl rfl dX9_partText_2 (fun M_1 => ?_)
  refine g_aload_n B dX9_partText_5 0 rfl ?_
  refine g_iload_n B dX9_partText_6 2 rfl ?_
  refine g_putI (ci := 5) (T0 := TX5) (N := 9) B (by decide) rfl in_5 tyX5 tyX5_ok nmX5 (k := 5) (by decide) wd_245 (fun _ h => h) rfl rfl (ty := .int) (by decide +kernel) rfl rfl dX9_partText_7 (fun M_2 => ?_)
  refine g_iconst (v := 0) B dX9_partText_10 (by decide) ?_
  refine g_istore_n (lv' := [(3, .int 0), (0, .ref a0), (1, .ref a1), (2, .int x2)]) B dX9_partText_11 (by decide) [0, 1, 2, 3] rfl ?_
  refine g_iconst (v := 0) B dX9_partText_12 (by decide) ?_
  refine g_istore (lv' := [(4, .int 0), (3, .int 0), (0, .ref a0), (1, .ref a1), (2, .int x2)]) B dX9_partText_13 (by decide) [0, 1, 2, 3, 4] rfl ?_
  refine g_sub (lv' := [(0, .ref a0), (1, .ref a1), (4, .int 0)]) [2, 3, 0] rfl ?_
  exact (g5_partText_L15 B hS9 hr) gF a0 a1 0 M_2
theorem c5_partText (X : gX) (l : Launch) (a0 : Nat) (a1 : Nat) (x2 : Int32) (M : mMem) : Con X l yX9_partText cX9_partText 5 (none) rm5_partText (fun M9 : mMem => (none, M9)) [.ref a0, .ref a1, .int x2] M (p5_partText a0 a1 x2 M) := g_con (own := RX9) (by decide +kernel) rfl (Nat.le_of_ble_eq_true rfl) (fun p e s m args below meth c B hS9 hr hn => g5_partText B hS9 hr a0 a1 x2 M)
theorem mf5_beginOfNext : gMF yX9_beginOfNext cX9_beginOfNext 1 (some .int) 0 := ⟨wd_972, wd_6, ⟨by decide, by decide⟩, by decide +kernel⟩
set_option maxRecDepth 20000 in
set_option maxHeartbeats 2000000 in
theorem g5_beginOfNext_J46 {X : gX} {p : Program} {l : Launch} {e : Env} {s : State} {m : MethodId} {args : Array Value} {below : List Frame} {meth : Method} {c : Code} (B : gB X p (rm5_beginOfNext) s m args meth c RX9 cX9_beginOfNext 1 (rm5_beginOfNext)) (hS9 : gS X s) (hr : meth.sig.returnType = some .int) {M : mMem} (u0 : Int32) : GG X p l e (rm5_beginOfNext) s m args below meth c (gP X below args s 0 0 (fun r9 : Int32 => (some (.int r9), M))) 1 0 0 46 [] [.int u0] M (p5_beginOfNext_J46 M u0) := by
  unfold p5_beginOfNext_J46
  exact g_ireturn B hr rfl (by decide) (by decide) rfl dX9_beginOfNext_46
set_option maxRecDepth 20000 in
set_option maxHeartbeats 2000000 in
theorem g5_beginOfNext_J42 {X : gX} {p : Program} {l : Launch} {e : Env} {s : State} {m : MethodId} {args : Array Value} {below : List Frame} {meth : Method} {c : Code} (B : gB X p (rm5_beginOfNext) s m args meth c RX9 cX9_beginOfNext 1 (rm5_beginOfNext)) (hS9 : gS X s) (hr : meth.sig.returnType = some .int) {M : mMem} (a0 : Nat) : GG X p l e (rm5_beginOfNext) s m args below meth c (gP X below args s 0 0 (fun r9 : Int32 => (some (.int r9), M))) 1 0 0 42 [(0, .ref a0)] [] M (p5_beginOfNext_J42 M a0) := by
  unfold p5_beginOfNext_J42
  refine g_aload_n B dX9_beginOfNext_42 0 rfl ?_
  refine g_getI (ci := 5) (T0 := TX5) (N := 9) B (by decide) rfl in_5 (k := 5) (by decide) rfl wd_245 (fun _ h => h) dX9_beginOfNext_43 (fun v_1 => ?_)
  refine g_sub (lv' := []) [] rfl ?_
  exact g5_beginOfNext_J46 B hS9 hr v_1
set_option maxRecDepth 20000 in
set_option maxHeartbeats 2000000 in
theorem g5_beginOfNext {X : gX} {p : Program} {l : Launch} {e : Env} {s : State} {m : MethodId} {args : Array Value} {below : List Frame} {meth : Method} {c : Code} (B : gB X p (rm5_beginOfNext) s m args meth c RX9 cX9_beginOfNext 1 (rm5_beginOfNext)) (hS9 : gS X s) (hr : meth.sig.returnType = some .int) {M : mMem} (a0 : Nat) : GG X p l e (rm5_beginOfNext) s m args below meth c (gP X below args s 0 0 (fun r9 : Int32 => (some (.int r9), M))) 1 0 0 0 [(0, .ref a0)] [] M (p5_beginOfNext a0 M) := by
  unfold p5_beginOfNext
  refine g_gd ?_
  refine g_aload_n B dX9_beginOfNext_0 0 rfl ?_
  refine g_getI (ci := 5) (T0 := TX5) (N := 9) B (by decide) rfl in_5 (k := 6) (by decide) rfl wd_246 (fun _ h => h) dX9_beginOfNext_1 (fun v_1 => ?_)
  refine g_if_lt B 42 dX9_beginOfNext_4 (by decide) ?_ ?_
  · refine g_sub (lv' := [(0, .ref a0)]) [0] rfl ?_
    exact g5_beginOfNext_J42 B hS9 hr a0
  · refine g_aload_n B dX9_beginOfNext_7 0 rfl ?_
    refine g_getI (ci := 5) (T0 := TX5) (N := 9) B (by decide) rfl in_5 (k := 6) (by decide) rfl wd_246 (fun _ h => h) dX9_beginOfNext_8 (fun v_2 => ?_)
    refine g_aload_n B dX9_beginOfNext_11 0 rfl ?_
    refine g_getI (ci := 5) (T0 := TX5) (N := 9) B (by decide) rfl in_5 (k := 4) (by decide) rfl wd_244 (fun _ h => h) dX9_beginOfNext_12 (fun v_3 => ?_)
    refine g_icmp_ge B 42 dX9_beginOfNext_15 (by decide) ?_ ?_
    · refine g_aload_n B dX9_beginOfNext_18 0 rfl ?_
      refine g_getI (ci := 5) (T0 := TX5) (N := 9) B (by decide) rfl in_5 (k := 6) (by decide) rfl wd_246 (fun _ h => h) dX9_beginOfNext_19 (fun v_4 => ?_)
      refine g_aload_n B dX9_beginOfNext_22 0 rfl ?_
      refine g_getR (ci := 5) (T0 := TX5) (N := 9) B (by decide) rfl in_5 (k := 1) (by decide) rfl wd_241 (fun _ h => h) dX9_beginOfNext_23 (fun v_5 => ?_)
      refine g_alen B dX9_beginOfNext_26 (fun v_6 => ?_)
      refine g_icmp_ge B 42 dX9_beginOfNext_27 (by decide) ?_ ?_
      · refine g_aload_n B dX9_beginOfNext_30 0 rfl ?_
        refine g_getR (ci := 5) (T0 := TX5) (N := 9) B (by decide) rfl in_5 (k := 1) (by decide) rfl wd_241 (fun _ h => h) dX9_beginOfNext_31 (fun v_7 => ?_)
        refine g_aload_n B dX9_beginOfNext_34 0 rfl ?_
        refine g_getI (ci := 5) (T0 := TX5) (N := 9) B (by decide) rfl in_5 (k := 6) (by decide) rfl wd_246 (fun _ h => h) dX9_beginOfNext_35 (fun v_8 => ?_)
        refine g_iaload B dX9_beginOfNext_38 (fun v_9 => ?_)
        refine g_goto B 46 dX9_beginOfNext_39 (by decide) ?_
        refine g_sub (lv' := []) [] rfl ?_
        exact g5_beginOfNext_J46 B hS9 hr v_9
      · refine g_sub (lv' := [(0, .ref a0)]) [0] rfl ?_
        exact g5_beginOfNext_J42 B hS9 hr a0
    · refine g_sub (lv' := [(0, .ref a0)]) [0] rfl ?_
      exact g5_beginOfNext_J42 B hS9 hr a0
theorem c5_beginOfNext (X : gX) (l : Launch) (a0 : Nat) (M : mMem) : Con X l yX9_beginOfNext cX9_beginOfNext 1 (some .int) rm5_beginOfNext (fun r9 : Int32 => (some (.int r9), M)) [.ref a0] M (p5_beginOfNext a0 M) := g_con (own := RX9) (by decide +kernel) rfl (Nat.le_of_ble_eq_true rfl) (fun p e s m args below meth c B hS9 hr hn => g5_beginOfNext B hS9 hr a0)
theorem mf5_readText : gMF yX9_readText cX9_readText 4 (some .int) 2 := ⟨wd_741, wd_6, ⟨by decide, by decide⟩, by decide +kernel⟩
set_option maxRecDepth 20000 in
set_option maxHeartbeats 2000000 in
theorem g5_readText_L28 {X : gX} {p : Program} {l : Launch} {e : Env} {s : State} {m : MethodId} {args : Array Value} {below : List Frame} {meth : Method} {c : Code} (B : gB X p (rm5_readText) s m args meth c RX9 cX9_readText 4 (rm5_readText)) (hS9 : gS X s) (hr : meth.sig.returnType = some .int) : ∀ (n : Nat) (a0 : Nat) (x3 : Int32) (M : mMem), GG X p l e (rm5_readText) s m args below meth c (gP X below args s 0 0 (fun r9 : (Int32 × mMem) => (some (.int r9.1), r9.2))) 4 0 0 28 [(0, .ref a0), (3, .int x3)] [] M (p5_readText_L28 n a0 x3 M) := by
  intro n
  induction n with
  | zero => intro a0 x3 M; exact g_none
  | succ n ih =>
    intro a0 x3 M
    rw [p5_readText_L28]
    refine g_iload_n B dX9_readText_28 1 rfl ?_
    refine g_aload_n B dX9_readText_29 0 rfl ?_
    refine g_getI (ci := 5) (T0 := TX5) (N := 9) B (by decide) rfl in_5 (k := 3) (by decide) rfl wd_243 (fun _ h => h) dX9_readText_30 (fun v_1 => ?_)
    refine g_icmp_ge B 78 dX9_readText_33 (by decide) ?_ ?_
    · refine g_aload_n B dX9_readText_36 0 rfl ?_
      refine g_callU_iw (x := ⟨"CribLine$Reader", "readLine", "()Z"⟩) (owner := "CribLine$Reader") [] (ci := 5) (T0 := TX5) (N := 9) B hS9 mf5_readLine wd_923 (gw B wd_922) wd_855 wd_857 (va_Decl.abs (hS9.2.2.2.2.1 _ (List.mem_of_getElem? (i := 1) rfl))) (by decide +kernel) (by decide) rfl (fun h => (gd_ne h).1) (c5_readLine X l a0 M) (by decide) (by decide) (by decide) rfl (by decide) dX9_readText_37 rfl (fun q_3 => ?_)
      refine g_if_ne B 48 dX9_readText_40 (by decide) ?_ ?_
      · refine g_aload_n B dX9_readText_43 0 rfl ?_
        refine g_callV_ip [] (ci := 5) (T0 := TX5) (N := 9) B hS9 mf5_beginOfNext wd_971 (gw B wq_LR_beginOfNext) wd_969 (by decide) rfl (fun h => (gd_ne h).1) (c5_beginOfNext X l a0 q_3.2) (by decide) (by decide) (by decide) rfl (by decide) dX9_readText_44 rfl (fun v_7 => ?_)
        exact g_ireturn B hr rfl (by decide) (by decide) rfl dX9_readText_47
      · refine g_aload_n B dX9_readText_48 0 rfl ?_
        refine g_callV_ip [] (ci := 5) (T0 := TX5) (N := 9) B hS9 mf5_next wd_850 (gw B wd_853) wd_849 (by decide) rfl (fun h => (gd_ne h).1) (c5_next X l a0 q_3.2) (by decide) (by decide) (by decide) rfl (by decide) dX9_readText_49 rfl (fun v_4 => ?_)
        refine g_iconst (v := 1) B dX9_readText_52 (by decide) ?_
        refine g_icmp_ne B 58 dX9_readText_53 (by decide) ?_ ?_
        · refine g_iconst (v := (-1)) B dX9_readText_56 (by decide) ?_
          exact g_ireturn B hr rfl (by decide) (by decide) rfl dX9_readText_57
        · refine g_aload_n B dX9_readText_58 0 rfl ?_
          refine g_bipush (v := 59) B dX9_readText_59 (by decide) ?_
          refine g_callV_iw [.int 59] (ci := 5) (T0 := TX5) (N := 9) B hS9 mf5_took wd_873 (gw B wd_2388) wd_973 (by decide) rfl (fun h => (gd_ne h).1) (c5_took X l a0 59 q_3.2) (by decide) (by decide) (by decide) rfl (by decide) dX9_readText_61 rfl (fun q_5 => ?_)
          refine g_if_ne B 72 dX9_readText_64 (by decide) ?_ ?_
          · refine g_aload_n B dX9_readText_67 0 rfl ?_
            refine g_callV_ip [] (ci := 5) (T0 := TX5) (N := 9) B hS9 mf5_beginOfNext wd_971 (gw B wq_LR_beginOfNext) wd_969 (by decide) rfl (fun h => (gd_ne h).1) (c5_beginOfNext X l a0 q_5.2) (by decide) (by decide) (by decide) rfl (by decide) dX9_readText_68 rfl (fun v_6 => ?_)
            exact g_ireturn B hr rfl (by decide) (by decide) rfl dX9_readText_71
          · refine g_iinc (v := (x3 + 1)) (lv' := [(3, .int (x3 + 1)), (0, .ref a0)]) B dX9_readText_72 1 rfl rfl (by decide) [0, 1] rfl ?_
            refine g_goto B 28 dX9_readText_75 (by decide) ?_
            refine g_sub (lv' := [(0, .ref a0), (3, .int (x3 + 1))]) [1, 0] rfl ?_
            exact ih a0 (x3 + 1) q_5.2
    · refine g_aload_n B dX9_readText_78 0 rfl ?_
      refine g_callV_ip [] (ci := 5) (T0 := TX5) (N := 9) B hS9 mf5_beginOfNext wd_971 (gw B wq_LR_beginOfNext) wd_969 (by decide) rfl (fun h => (gd_ne h).1) (c5_beginOfNext X l a0 M) (by decide) (by decide) (by decide) rfl (by decide) dX9_readText_79 rfl (fun v_2 => ?_)
      exact g_ireturn B hr rfl (by decide) (by decide) rfl dX9_readText_82
set_option maxRecDepth 20000 in
set_option maxHeartbeats 2000000 in
theorem g5_readText {X : gX} {p : Program} {l : Launch} {e : Env} {s : State} {m : MethodId} {args : Array Value} {below : List Frame} {meth : Method} {c : Code} (B : gB X p (rm5_readText) s m args meth c RX9 cX9_readText 4 (rm5_readText)) (hS9 : gS X s) (hr : meth.sig.returnType = some .int) (a0 : Nat) (a1 : Nat) (x2 : Int32) (M : mMem) : GG X p l e (rm5_readText) s m args below meth c (gP X below args s 0 0 (fun r9 : (Int32 × mMem) => (some (.int r9.1), r9.2))) 4 0 0 0 [(0, .ref a0), (1, .ref a1), (2, .int x2)] [] M (p5_readText a0 a1 x2 M) := by
  unfold p5_readText
  refine g_gd ?_
  refine g_aload_n B dX9_readText_0 0 rfl ?_
  refine g_aload_n B dX9_readText_1 1 rfl ?_
  refine g_iload_n B dX9_readText_2 2 rfl ?_
  refine g_aload_n B dX9_readText_3 1 rfl ?_
  refine g_alen B dX9_readText_4 (fun v_1 => ?_)
  refine g_min B wd_742 wd_538 wd_15 wd_539 (by decide) (Nat.le_of_ble_eq_true rfl) (by decide) dX9_readText_5 ?_
  refine g_callV_vw [.ref a1, .int (minI x2 v_1)] (ci := 5) (T0 := TX5) (N := 9) B hS9 mf5_partText wd_745 (gw B wq_LR_partText) wd_743 (by decide) rfl (fun h => (gd_ne h).1) (c5_partText X l a0 a1 (minI x2 v_1) M) (by decide) (by decide) (by decide) rfl (by decide) dX9_readText_8 rfl (fun q_2 => ?_)
  refine g_aload_n B dX9_readText_11 0 rfl ?_
  refine g_iconst (v := 0) B dX9_readText_12 (by decide) ?_
  refine g_putI (ci := 5) (T0 := TX5) (N := 9) B (by decide) rfl in_5 tyX5 tyX5_ok nmX5 (k := 6) (by decide) wd_246 (fun _ h => h) rfl rfl (ty := .int) (by decide +kernel) rfl rfl dX9_readText_13 (fun M_3 => ?_)
  refine g_aload_n B dX9_readText_16 0 rfl ?_
  refine g_callV_ip [] (ci := 5) (T0 := TX5) (N := 9) B hS9 mf5_next wd_850 (gw B wd_853) wd_849 (by decide) rfl (fun h => (gd_ne h).1) (c5_next X l a0 M_3) (by decide) (by decide) (by decide) rfl (by decide) dX9_readText_17 rfl (fun v_4 => ?_)
  refine g_iconst (v := 1) B dX9_readText_20 (by decide) ?_
  refine g_icmp_ne B 26 dX9_readText_21 (by decide) ?_ ?_
  · refine g_iconst (v := (-1)) B dX9_readText_24 (by decide) ?_
    exact g_ireturn B hr rfl (by decide) (by decide) rfl dX9_readText_25
  · refine g_iconst (v := 0) B dX9_readText_26 (by decide) ?_
    refine g_istore_n (lv' := [(3, .int 0), (0, .ref a0), (1, .ref a1), (2, .int x2)]) B dX9_readText_27 (by decide) [0, 1, 2, 3] rfl ?_
    refine g_sub (lv' := [(0, .ref a0), (3, .int 0)]) [1, 0] rfl ?_
    exact (g5_readText_L28 B hS9 hr) gF a0 0 M_3
theorem c5_readText (X : gX) (l : Launch) (a0 : Nat) (a1 : Nat) (x2 : Int32) (M : mMem) : Con X l yX9_readText cX9_readText 4 (some .int) rm5_readText (fun r9 : (Int32 × mMem) => (some (.int r9.1), r9.2)) [.ref a0, .ref a1, .int x2] M (p5_readText a0 a1 x2 M) := g_con (own := RX9) (by decide +kernel) rfl (Nat.le_of_ble_eq_true rfl) (fun p e s m args below meth c B hS9 hr hn => g5_readText B hS9 hr a0 a1 x2 M)
theorem mf10_init : gMF yX10_init cX10_init 2 (none) 1 := ⟨wd_376, wd_12, ⟨by decide, by decide⟩, by decide +kernel⟩
set_option maxRecDepth 20000 in
set_option maxHeartbeats 2000000 in
theorem g10_init {X : gX} {p : Program} {l : Launch} {e : Env} {s : State} {m : MethodId} {args : Array Value} {below : List Frame} {meth : Method} {c : Code} (B : gB X p (rm10_init) s m args meth c RX10 cX10_init 2 (rm10_init)) (hS9 : gS X s) (hr : meth.sig.returnType = none) (hin2 : meth.name = "<init>") (a0 : Nat) (a1 : Nat) (M : mMem) : GG X p l e (rm10_init) s m args below meth c (gP X below args s 0 0 (fun M9 : mMem => (none, M9))) 2 0 0 0 [(0, .ref a0), (1, .ref a1)] [] M (p10_init a0 a1 M) := by
  unfold p10_init
  refine g_gd ?_
  refine g_aload_n B dX10_init_0 0 rfl ?_
  refine g_objinit B wd_377 wd_36 wd_37 (by decide) (by decide) dX10_init_1 ?_
  refine g_aload_n B dX10_init_4 0 rfl ?_
  refine g_aload_n B dX10_init_5 1 rfl ?_
  refine g_putRF (ci := 9) (T0 := TX10) (N := 1) B (by decide) rfl in_9 tyX10 tyX10_ok nmX10 (k := 0) (by decide) wd_378 (fun _ h => h) rfl rfl hin2 rfl (ty := (.object "CribLine$Family")) (by decide +kernel) rfl rfl dX10_init_6 (fun M_1 => ?_)
  exact g_vreturn B hr (by decide) (by decide) rfl dX10_init_9
theorem c10_init (X : gX) (l : Launch) (a0 : Nat) (a1 : Nat) (M : mMem) : Con X l yX10_init cX10_init 2 (none) rm10_init (fun M9 : mMem => (none, M9)) [.ref a0, .ref a1] M (p10_init a0 a1 M) := g_con (own := RX10) (by decide +kernel) rfl (Nat.le_of_ble_eq_true rfl) (fun p e s m args below meth c B hS9 hr hn => g10_init B hS9 hr hn a0 a1 M)
theorem mf10_netDebts : gMF yX10_netDebts cX10_netDebts 5 (some .int) 0 := ⟨wd_619, wd_12, ⟨by decide, by decide⟩, by decide +kernel⟩
set_option maxRecDepth 20000 in
set_option maxHeartbeats 2000000 in
theorem g10_netDebts_L20 {X : gX} {p : Program} {l : Launch} {e : Env} {s : State} {m : MethodId} {args : Array Value} {below : List Frame} {meth : Method} {c : Code} (B : gB X p (rm10_netDebts) s m args meth c RX10 cX10_netDebts 5 (rm10_netDebts)) (hS9 : gS X s) (hr : meth.sig.returnType = some .int) {M : mMem} (k62 : Nat → Int32 → Int32 → Int32 → Option Int32) (hk62 : ∀ (a0 : Nat) (x1 : Int32) (x2 : Int32) (x3 : Int32), GG X p l e (rm10_netDebts) s m args below meth c (gP X below args s 0 0 (fun r9 : Int32 => (some (.int r9), M))) 5 0 0 62 [(0, .ref a0), (1, .int x1), (2, .int x2), (3, .int x3)] [] M (k62 a0 x1 x2 x3)) : ∀ (n : Nat) (a0 : Nat) (x1 : Int32) (x2 : Int32) (x3 : Int32) (x4 : Int32), GG X p l e (rm10_netDebts) s m args below meth c (gP X below args s 0 0 (fun r9 : Int32 => (some (.int r9), M))) 5 0 0 20 [(0, .ref a0), (1, .int x1), (2, .int x2), (3, .int x3), (4, .int x4)] [] M (p10_netDebts_L20 M k62 n a0 x1 x2 x3 x4) := by
  intro n
  induction n with
  | zero => intro a0 x1 x2 x3 x4; exact g_none
  | succ n ih =>
    intro a0 x1 x2 x3 x4
    rw [p10_netDebts_L20]
    refine g_iload B dX10_netDebts_20 4 rfl ?_
    refine g_aload_n B dX10_netDebts_22 0 rfl ?_
    refine g_getR (ci := 9) (T0 := TX10) (N := 1) B (by decide) rfl in_9 (k := 0) (by decide) rfl wd_378 (fun _ h => h) dX10_netDebts_23 (fun v_1 => ?_)
    refine g_getI (ci := 2) (T0 := TX2) (N := 11) B (by decide) rfl in_2 (k := 4) (by decide) rfl wd_140 (fun _ h => h) dX10_netDebts_26 (fun v_2 => ?_)
    refine g_icmp_ge B 62 dX10_netDebts_29 (by decide) ?_ ?_
    · refine g_iload_n B dX10_netDebts_32 3 rfl ?_
      refine g_aload_n B dX10_netDebts_33 0 rfl ?_
      refine g_getR (ci := 9) (T0 := TX10) (N := 1) B (by decide) rfl in_9 (k := 0) (by decide) rfl wd_378 (fun _ h => h) dX10_netDebts_34 (fun v_3 => ?_)
      refine g_iload_n B dX10_netDebts_37 2 rfl ?_
      refine g_iload B dX10_netDebts_38 4 rfl ?_
      refine g_callV_ip [.int x2, .int x4] (ci := 2) (T0 := TX2) (N := 11) B hS9 mf2_lentBy wd_621 (gw B wd_622) wd_620 (by decide) rfl (fun h => (gd_ne h).1) (c2_lentBy X l v_3 x2 x4 M) (by decide) (by decide) (by decide) rfl (Nat.le_of_ble_eq_true rfl) dX10_netDebts_40 rfl (fun v_4 => ?_)
      refine g_aload_n B dX10_netDebts_43 0 rfl ?_
      refine g_getR (ci := 9) (T0 := TX10) (N := 1) B (by decide) rfl in_9 (k := 0) (by decide) rfl wd_378 (fun _ h => h) dX10_netDebts_44 (fun v_5 => ?_)
      refine g_iload B dX10_netDebts_47 4 rfl ?_
      refine g_iload_n B dX10_netDebts_49 2 rfl ?_
      refine g_callV_ip [.int x4, .int x2] (ci := 2) (T0 := TX2) (N := 11) B hS9 mf2_lentBy wd_621 (gw B wd_622) wd_620 (by decide) rfl (fun h => (gd_ne h).1) (c2_lentBy X l v_5 x4 x2 M) (by decide) (by decide) (by decide) rfl (Nat.le_of_ble_eq_true rfl) dX10_netDebts_50 rfl (fun v_6 => ?_)
      refine g_isub B dX10_netDebts_53 ?_
      refine g_iadd B dX10_netDebts_54 ?_
      refine g_istore_n (lv' := [(3, .int (x3 + (v_4 - v_6))), (0, .ref a0), (1, .int x1), (2, .int x2), (4, .int x4)]) B dX10_netDebts_55 (by decide) [0, 1, 2, 3, 4] rfl ?_
      refine g_iinc (v := (x4 + 1)) (lv' := [(4, .int (x4 + 1)), (3, .int (x3 + (v_4 - v_6))), (0, .ref a0), (1, .int x1), (2, .int x2)]) B dX10_netDebts_56 4 rfl rfl (by decide) [0, 1, 2, 3, 4] rfl ?_
      refine g_goto B 20 dX10_netDebts_59 (by decide) ?_
      refine g_sub (lv' := [(0, .ref a0), (1, .int x1), (2, .int x2), (3, .int (x3 + (v_4 - v_6))), (4, .int (x4 + 1))]) [2, 3, 4, 1, 0] rfl ?_
      exact ih a0 x1 x2 (x3 + (v_4 - v_6)) (x4 + 1)
    · refine g_sub (lv' := [(0, .ref a0), (1, .int x1), (2, .int x2), (3, .int x3)]) [0, 1, 2, 3] rfl ?_
      exact hk62 a0 x1 x2 x3
set_option maxRecDepth 20000 in
set_option maxHeartbeats 2000000 in
theorem g10_netDebts_J62 {X : gX} {p : Program} {l : Launch} {e : Env} {s : State} {m : MethodId} {args : Array Value} {below : List Frame} {meth : Method} {c : Code} (B : gB X p (rm10_netDebts) s m args meth c RX10 cX10_netDebts 5 (rm10_netDebts)) (hS9 : gS X s) (hr : meth.sig.returnType = some .int) {M : mMem} (rec4 : Nat → Int32 → Int32 → Option Int32) (hrec4 : ∀ (a0 : Nat) (x1 : Int32) (x2 : Int32), GG X p l e (rm10_netDebts) s m args below meth c (gP X below args s 0 0 (fun r9 : Int32 => (some (.int r9), M))) 5 0 0 4 [(0, .ref a0), (1, .int x1), (2, .int x2)] [] M (rec4 a0 x1 x2)) (a0 : Nat) (x1 : Int32) (x2 : Int32) (x3 : Int32) : GG X p l e (rm10_netDebts) s m args below meth c (gP X below args s 0 0 (fun r9 : Int32 => (some (.int r9), M))) 5 0 0 62 [(0, .ref a0), (1, .int x1), (2, .int x2), (3, .int x3)] [] M (p10_netDebts_J62 M rec4 a0 x1 x2 x3) := by
  unfold p10_netDebts_J62
  refine g_iload_n B dX10_netDebts_62 1 rfl ?_
  refine g_iconst (v := 0) B dX10_netDebts_63 (by decide) ?_
  refine g_iload_n B dX10_netDebts_64 3 rfl ?_
  refine g_max B wd_624 wd_516 wd_15 wd_517 (by decide) (Nat.le_of_ble_eq_true rfl) (by decide) dX10_netDebts_65 ?_
  refine g_iadd B dX10_netDebts_68 ?_
  refine g_istore_n (lv' := [(1, .int (x1 + (maxI 0 x3))), (0, .ref a0), (2, .int x2), (3, .int x3)]) B dX10_netDebts_69 (by decide) [0, 1, 2, 3] rfl ?_
  refine g_iinc (v := (x2 + 1)) (lv' := [(2, .int (x2 + 1)), (1, .int (x1 + (maxI 0 x3))), (0, .ref a0), (3, .int x3)]) B dX10_netDebts_70 2 rfl rfl (by decide) [0, 1, 2, 3] rfl ?_
  refine g_goto B 4 dX10_netDebts_73 (by decide) ?_
  refine g_sub (lv' := [(0, .ref a0), (1, .int (x1 + (maxI 0 x3))), (2, .int (x2 + 1))]) [2, 1, 0] rfl ?_
  exact hrec4 a0 (x1 + (maxI 0 x3)) (x2 + 1)
set_option maxRecDepth 20000 in
set_option maxHeartbeats 2000000 in
theorem g10_netDebts_L4 {X : gX} {p : Program} {l : Launch} {e : Env} {s : State} {m : MethodId} {args : Array Value} {below : List Frame} {meth : Method} {c : Code} (B : gB X p (rm10_netDebts) s m args meth c RX10 cX10_netDebts 5 (rm10_netDebts)) (hS9 : gS X s) (hr : meth.sig.returnType = some .int) {M : mMem} : ∀ (n : Nat) (a0 : Nat) (x1 : Int32) (x2 : Int32), GG X p l e (rm10_netDebts) s m args below meth c (gP X below args s 0 0 (fun r9 : Int32 => (some (.int r9), M))) 5 0 0 4 [(0, .ref a0), (1, .int x1), (2, .int x2)] [] M (p10_netDebts_L4 M n a0 x1 x2) := by
  intro n
  induction n with
  | zero => intro a0 x1 x2; exact g_none
  | succ n ih =>
    intro a0 x1 x2
    rw [p10_netDebts_L4]
    refine g_iload_n B dX10_netDebts_4 2 rfl ?_
    refine g_aload_n B dX10_netDebts_5 0 rfl ?_
    refine g_getR (ci := 9) (T0 := TX10) (N := 1) B (by decide) rfl in_9 (k := 0) (by decide) rfl wd_378 (fun _ h => h) dX10_netDebts_6 (fun v_1 => ?_)
    refine g_getI (ci := 2) (T0 := TX2) (N := 11) B (by decide) rfl in_2 (k := 4) (by decide) rfl wd_140 (fun _ h => h) dX10_netDebts_9 (fun v_2 => ?_)
    refine g_icmp_ge B 76 dX10_netDebts_12 (by decide) ?_ ?_
    · refine g_iconst (v := 0) B dX10_netDebts_15 (by decide) ?_
      refine g_istore_n (lv' := [(3, .int 0), (0, .ref a0), (1, .int x1), (2, .int x2)]) B dX10_netDebts_16 (by decide) [0, 1, 2, 3] rfl ?_
      refine g_iconst (v := 0) B dX10_netDebts_17 (by decide) ?_
      refine g_istore (lv' := [(4, .int 0), (3, .int 0), (0, .ref a0), (1, .int x1), (2, .int x2)]) B dX10_netDebts_18 (by decide) [0, 1, 2, 3, 4] rfl ?_
      refine g_sub (lv' := [(0, .ref a0), (1, .int x1), (2, .int x2), (3, .int 0), (4, .int 0)]) [2, 3, 4, 1, 0] rfl ?_
      exact (g10_netDebts_L20 B hS9 hr (p10_netDebts_J62 M (p10_netDebts_L4 M n)) (fun e0 e1 e2 e3 => g10_netDebts_J62 B hS9 hr (p10_netDebts_L4 M n) ih e0 e1 e2 e3)) gF a0 x1 x2 0 0
    · refine g_iload_n B dX10_netDebts_76 1 rfl ?_
      exact g_ireturn B hr rfl (by decide) (by decide) rfl dX10_netDebts_77
set_option maxRecDepth 20000 in
set_option maxHeartbeats 2000000 in
theorem g10_netDebts {X : gX} {p : Program} {l : Launch} {e : Env} {s : State} {m : MethodId} {args : Array Value} {below : List Frame} {meth : Method} {c : Code} (B : gB X p (rm10_netDebts) s m args meth c RX10 cX10_netDebts 5 (rm10_netDebts)) (hS9 : gS X s) (hr : meth.sig.returnType = some .int) {M : mMem} (a0 : Nat) : GG X p l e (rm10_netDebts) s m args below meth c (gP X below args s 0 0 (fun r9 : Int32 => (some (.int r9), M))) 5 0 0 0 [(0, .ref a0)] [] M (p10_netDebts a0 M) := by
  unfold p10_netDebts
  refine g_gd ?_
  refine g_iconst (v := 0) B dX10_netDebts_0 (by decide) ?_
  refine g_istore_n (lv' := [(1, .int 0), (0, .ref a0)]) B dX10_netDebts_1 (by decide) [0, 1] rfl ?_
  refine g_iconst (v := 0) B dX10_netDebts_2 (by decide) ?_
  refine g_istore_n (lv' := [(2, .int 0), (1, .int 0), (0, .ref a0)]) B dX10_netDebts_3 (by decide) [0, 1, 2] rfl ?_
  refine g_sub (lv' := [(0, .ref a0), (1, .int 0), (2, .int 0)]) [2, 1, 0] rfl ?_
  exact (g10_netDebts_L4 B hS9 hr) gF a0 0 0
theorem c10_netDebts (X : gX) (l : Launch) (a0 : Nat) (M : mMem) : Con X l yX10_netDebts cX10_netDebts 5 (some .int) rm10_netDebts (fun r9 : Int32 => (some (.int r9), M)) [.ref a0] M (p10_netDebts a0 M) := g_con (own := RX10) (by decide +kernel) rfl (Nat.le_of_ble_eq_true rfl) (fun p e s m args below meth c B hS9 hr hn => g10_netDebts B hS9 hr a0)
