theorem mf0_fits : gMF yX0_fits cX0_fits 6 (some .boolean) 4 := ⟨wd_1397, wd_10, ⟨by decide, by decide⟩, by decide +kernel⟩
set_option maxRecDepth 20000 in
set_option maxHeartbeats 2000000 in
theorem g0_fits_J48 {X : gX} {p : Program} {l : Launch} {e : Env} {s : State} {m : MethodId} {args : Array Value} {below : List Frame} {meth : Method} {c : Code} (B : gB X p (rm0_fits) s m args meth c RX0 cX0_fits 6 (rm0_fits)) (hS9 : gS X s) (hr : meth.sig.returnType = some .boolean) (M : mMem) : GG X p l e (rm0_fits) s m args below meth c (gP X below args s 0 0 (fun r9 : (Int32 × mMem) => (some (.int r9.1), r9.2))) 6 0 0 48 [] [] M (p0_fits_J48 M) := by
  unfold p0_fits_J48
  refine g_iconst (v := 1) B dX0_fits_48 (by decide) ?_
  exact g_ireturn B hr rfl (by decide) (by decide) rfl dX0_fits_49
set_option maxRecDepth 20000 in
set_option maxHeartbeats 2000000 in
theorem g0_fits_L3 {X : gX} {p : Program} {l : Launch} {e : Env} {s : State} {m : MethodId} {args : Array Value} {below : List Frame} {meth : Method} {c : Code} (B : gB X p (rm0_fits) s m args meth c RX0 cX0_fits 6 (rm0_fits)) (hS9 : gS X s) (hr : meth.sig.returnType = some .boolean) : ∀ (n : Nat) (a0 : Nat) (x1 : Int32) (x2 : Int32) (a3 : Nat) (x4 : Int32) (x5 : Int32) (M : mMem), GG X p l e (rm0_fits) s m args below meth c (gP X below args s 0 0 (fun r9 : (Int32 × mMem) => (some (.int r9.1), r9.2))) 6 0 0 3 [(0, .ref a0), (1, .int x1), (2, .int x2), (3, .ref a3), (4, .int x4), (5, .int x5)] [] M (p0_fits_L3 n a0 x1 x2 a3 x4 x5 M) := by
  intro n
  induction n with
  | zero => intro a0 x1 x2 a3 x4 x5 M; exact g_none
  | succ n ih =>
    intro a0 x1 x2 a3 x4 x5 M
    rw [p0_fits_L3]
    refine g_iload B dX0_fits_3 5 rfl ?_
    refine g_iconst (v := 1) B dX0_fits_5 (by decide) ?_
    refine g_iadd B dX0_fits_6 ?_
    refine g_iload B dX0_fits_7 4 rfl ?_
    refine g_icmp_ge B 48 dX0_fits_9 (by decide) ?_ ?_
    · refine g_iload B dX0_fits_12 5 rfl ?_
      refine g_iconst (v := 1) B dX0_fits_14 (by decide) ?_
      refine g_iadd B dX0_fits_15 ?_
      refine g_aload_n B dX0_fits_16 3 rfl ?_
      refine g_alen B dX0_fits_17 (fun v_1 => ?_)
      refine g_icmp_ge B 48 dX0_fits_18 (by decide) ?_ ?_
      · refine g_aload_n B dX0_fits_21 0 rfl ?_
        refine g_iload_n B dX0_fits_22 1 rfl ?_
        refine g_aload_n B dX0_fits_23 3 rfl ?_
        refine g_iload B dX0_fits_24 5 rfl ?_
        refine g_iaload B dX0_fits_26 (fun v_2 => ?_)
        refine g_iload_n B dX0_fits_27 2 rfl ?_
        refine g_callV_iw [.int x1, .int v_2, .int x2] (ci := 0) (T0 := TX0) (N := 8) B hS9 mf0_ageBehind wd_1323 (gw B wp_30) wd_1321 (by decide) rfl (fun h => (gd_ne h).1) (c0_ageBehind X l a0 x1 v_2 x2 M) (by decide) (by decide) (by decide) rfl (by decide) dX0_fits_28 rfl (fun q_3 => ?_)
        refine g_aload_n B dX0_fits_31 3 rfl ?_
        refine g_iload B dX0_fits_32 5 rfl ?_
        refine g_iconst (v := 1) B dX0_fits_34 (by decide) ?_
        refine g_iadd B dX0_fits_35 ?_
        refine g_iaload B dX0_fits_36 (fun v_4 => ?_)
        refine g_icmp_eq B 42 dX0_fits_37 (by decide) ?_ ?_
        · refine g_iinc (v := (x5 + 2)) (lv' := [(5, .int (x5 + 2)), (0, .ref a0), (1, .int x1), (2, .int x2), (3, .ref a3), (4, .int x4)]) B dX0_fits_42 5 rfl rfl (by decide) [0, 1, 2, 3, 4, 5] rfl ?_
          refine g_goto B 3 dX0_fits_45 (by decide) ?_
          refine g_sub (lv' := [(0, .ref a0), (1, .int x1), (2, .int x2), (3, .ref a3), (4, .int x4), (5, .int (x5 + 2))]) [1, 2, 3, 4, 5, 0] rfl ?_
          exact ih a0 x1 x2 a3 x4 (x5 + 2) q_3.2
        · refine g_iconst (v := 0) B dX0_fits_40 (by decide) ?_
          exact g_ireturn B hr rfl (by decide) (by decide) rfl dX0_fits_41
      · refine g_sub (lv' := []) [] rfl ?_
        exact g0_fits_J48 B hS9 hr M
    · refine g_sub (lv' := []) [] rfl ?_
      exact g0_fits_J48 B hS9 hr M
set_option maxRecDepth 20000 in
set_option maxHeartbeats 2000000 in
theorem g0_fits {X : gX} {p : Program} {l : Launch} {e : Env} {s : State} {m : MethodId} {args : Array Value} {below : List Frame} {meth : Method} {c : Code} (B : gB X p (rm0_fits) s m args meth c RX0 cX0_fits 6 (rm0_fits)) (hS9 : gS X s) (hr : meth.sig.returnType = some .boolean) (a0 : Nat) (x1 : Int32) (x2 : Int32) (a3 : Nat) (x4 : Int32) (M : mMem) : GG X p l e (rm0_fits) s m args below meth c (gP X below args s 0 0 (fun r9 : (Int32 × mMem) => (some (.int r9.1), r9.2))) 6 0 0 0 [(0, .ref a0), (1, .int x1), (2, .int x2), (3, .ref a3), (4, .int x4)] [] M (p0_fits a0 x1 x2 a3 x4 M) := by
  unfold p0_fits
  refine g_gd ?_
  refine g_iconst (v := 0) B dX0_fits_0 (by decide) ?_
  refine g_istore (lv' := [(5, .int 0), (0, .ref a0), (1, .int x1), (2, .int x2), (3, .ref a3), (4, .int x4)]) B dX0_fits_1 (by decide) [0, 1, 2, 3, 4, 5] rfl ?_
  refine g_sub (lv' := [(0, .ref a0), (1, .int x1), (2, .int x2), (3, .ref a3), (4, .int x4), (5, .int 0)]) [1, 2, 3, 4, 5, 0] rfl ?_
  exact (g0_fits_L3 B hS9 hr) gF a0 x1 x2 a3 x4 0 M
theorem c0_fits (X : gX) (l : Launch) (a0 : Nat) (x1 : Int32) (x2 : Int32) (a3 : Nat) (x4 : Int32) (M : mMem) : Con X l yX0_fits cX0_fits 6 (some .boolean) rm0_fits (fun r9 : (Int32 × mMem) => (some (.int r9.1), r9.2)) [.ref a0, .int x1, .int x2, .ref a3, .int x4] M (p0_fits a0 x1 x2 a3 x4 M) := g_con (own := RX0) (by decide +kernel) rfl (Nat.le_of_ble_eq_true rfl) (fun p e s m args below meth c B hS9 hr hn => g0_fits B hS9 hr a0 x1 x2 a3 x4 M)
theorem mf0_fitting : gMF yX0_fitting cX0_fitting 6 (some .int) 3 := ⟨wd_1393, wd_10, ⟨by decide, by decide⟩, by decide +kernel⟩
set_option maxRecDepth 20000 in
set_option maxHeartbeats 2000000 in
theorem g0_fitting_J55 {X : gX} {p : Program} {l : Launch} {e : Env} {s : State} {m : MethodId} {args : Array Value} {below : List Frame} {meth : Method} {c : Code} (B : gB X p (rm0_fitting) s m args meth c RX0 cX0_fitting 6 (rm0_fitting)) (hS9 : gS X s) (hr : meth.sig.returnType = some .int) (rec17 : Nat → Int32 → Nat → Int32 → Int32 → Int32 → mMem → Option (Int32 × mMem)) (hrec17 : ∀ (a0 : Nat) (x1 : Int32) (a2 : Nat) (x3 : Int32) (x4 : Int32) (x5 : Int32) (M : mMem), GG X p l e (rm0_fitting) s m args below meth c (gP X below args s 0 0 (fun r9 : (Int32 × mMem) => (some (.int r9.1), r9.2))) 6 0 0 17 [(0, .ref a0), (1, .int x1), (2, .ref a2), (3, .int x3), (4, .int x4), (5, .int x5)] [] M (rec17 a0 x1 a2 x3 x4 x5 M)) (a0 : Nat) (x1 : Int32) (a2 : Nat) (x3 : Int32) (x4 : Int32) (x5 : Int32) (M : mMem) : GG X p l e (rm0_fitting) s m args below meth c (gP X below args s 0 0 (fun r9 : (Int32 × mMem) => (some (.int r9.1), r9.2))) 6 0 0 55 [(0, .ref a0), (1, .int x1), (2, .ref a2), (3, .int x3), (4, .int x4), (5, .int x5)] [] M (p0_fitting_J55 rec17 a0 x1 a2 x3 x4 x5 M) := by
  unfold p0_fitting_J55
  refine g_iinc (v := (x5 + 1)) (lv' := [(5, .int (x5 + 1)), (0, .ref a0), (1, .int x1), (2, .ref a2), (3, .int x3), (4, .int x4)]) B dX0_fitting_55 5 rfl rfl (by decide) [0, 1, 2, 3, 4, 5] rfl ?_
  refine g_goto B 17 dX0_fitting_58 (by decide) ?_
  refine g_sub (lv' := [(0, .ref a0), (1, .int x1), (2, .ref a2), (3, .int x3), (4, .int x4), (5, .int (x5 + 1))]) [1, 2, 3, 4, 5, 0] rfl ?_
  exact hrec17 a0 x1 a2 x3 x4 (x5 + 1) M
set_option maxRecDepth 20000 in
set_option maxHeartbeats 2000000 in
theorem g0_fitting_L17 {X : gX} {p : Program} {l : Launch} {e : Env} {s : State} {m : MethodId} {args : Array Value} {below : List Frame} {meth : Method} {c : Code} (B : gB X p (rm0_fitting) s m args meth c RX0 cX0_fitting 6 (rm0_fitting)) (hS9 : gS X s) (hr : meth.sig.returnType = some .int) : ∀ (n : Nat) (a0 : Nat) (x1 : Int32) (a2 : Nat) (x3 : Int32) (x4 : Int32) (x5 : Int32) (M : mMem), GG X p l e (rm0_fitting) s m args below meth c (gP X below args s 0 0 (fun r9 : (Int32 × mMem) => (some (.int r9.1), r9.2))) 6 0 0 17 [(0, .ref a0), (1, .int x1), (2, .ref a2), (3, .int x3), (4, .int x4), (5, .int x5)] [] M (p0_fitting_L17 n a0 x1 a2 x3 x4 x5 M) := by
  intro n
  induction n with
  | zero => intro a0 x1 a2 x3 x4 x5 M; exact g_none
  | succ n ih =>
    intro a0 x1 a2 x3 x4 x5 M
    rw [p0_fitting_L17]
    refine g_iload B dX0_fitting_17 5 rfl ?_
    refine g_bipush (v := 16) B dX0_fitting_19 (by decide) ?_
    refine g_icmp_ge B 61 dX0_fitting_21 (by decide) ?_ ?_
    · refine g_aload_n B dX0_fitting_24 0 rfl ?_
      refine g_iload B dX0_fitting_25 5 rfl ?_
      refine g_iload_n B dX0_fitting_27 1 rfl ?_
      refine g_callV_ip [.int x5, .int x1] (ci := 0) (T0 := TX0) (N := 8) B hS9 mf0_canBeSaid wd_1318 (gw B wp_29) wd_1316 (by decide) rfl (fun h => (gd_ne h).1) (c0_canBeSaid X l a0 x5 x1 M) (by decide) (by decide) (by decide) rfl (by decide) dX0_fitting_28 rfl (fun v_1 => ?_)
      refine g_if_eq B 55 dX0_fitting_31 (by decide) ?_ ?_
      · refine g_sub (lv' := [(0, .ref a0), (1, .int x1), (2, .ref a2), (3, .int x3), (4, .int x4), (5, .int x5)]) [0, 1, 2, 3, 4, 5] rfl ?_
        exact g0_fitting_J55 B hS9 hr (p0_fitting_L17 n) ih a0 x1 a2 x3 x4 x5 M
      · refine g_aload_n B dX0_fitting_34 0 rfl ?_
        refine g_iload_n B dX0_fitting_35 1 rfl ?_
        refine g_iload B dX0_fitting_36 5 rfl ?_
        refine g_aload_n B dX0_fitting_38 2 rfl ?_
        refine g_iload_n B dX0_fitting_39 3 rfl ?_
        refine g_callV_iw [.int x1, .int x5, .ref a2, .int x3] (ci := 0) (T0 := TX0) (N := 8) B hS9 mf0_fits wd_1396 (gw B wp_32) wd_1394 (by decide) rfl (fun h => (gd_ne h).1) (c0_fits X l a0 x1 x5 a2 x3 M) (by decide) (by decide) (by decide) rfl (by decide) dX0_fitting_40 rfl (fun q_2 => ?_)
        refine g_if_eq B 55 dX0_fitting_43 (by decide) ?_ ?_
        · refine g_sub (lv' := [(0, .ref a0), (1, .int x1), (2, .ref a2), (3, .int x3), (4, .int x4), (5, .int x5)]) [0, 1, 2, 3, 4, 5] rfl ?_
          exact g0_fitting_J55 B hS9 hr (p0_fitting_L17 n) ih a0 x1 a2 x3 x4 x5 q_2.2
        · refine g_iload B dX0_fitting_46 4 rfl ?_
          refine g_iconst (v := 1) B dX0_fitting_48 (by decide) ?_
          refine g_iload B dX0_fitting_49 5 rfl ?_
          refine g_ishl B dX0_fitting_51 ?_
          refine g_ior B dX0_fitting_52 ?_
          refine g_istore (lv' := [(4, .int (x4 ||| ((1 : Int32) <<< (x5 &&& 31)))), (0, .ref a0), (1, .int x1), (2, .ref a2), (3, .int x3), (5, .int x5)]) B dX0_fitting_53 (by decide) [0, 1, 2, 3, 4, 5] rfl ?_
          refine g_sub (lv' := [(0, .ref a0), (1, .int x1), (2, .ref a2), (3, .int x3), (4, .int (x4 ||| ((1 : Int32) <<< (x5 &&& 31)))), (5, .int x5)]) [1, 2, 3, 4, 0, 5] rfl ?_
          exact g0_fitting_J55 B hS9 hr (p0_fitting_L17 n) ih a0 x1 a2 x3 (x4 ||| ((1 : Int32) <<< (x5 &&& 31))) x5 q_2.2
    · refine g_iload B dX0_fitting_61 4 rfl ?_
      exact g_ireturn B hr rfl (by decide) (by decide) rfl dX0_fitting_63
set_option maxRecDepth 20000 in
set_option maxHeartbeats 2000000 in
theorem g0_fitting {X : gX} {p : Program} {l : Launch} {e : Env} {s : State} {m : MethodId} {args : Array Value} {below : List Frame} {meth : Method} {c : Code} (B : gB X p (rm0_fitting) s m args meth c RX0 cX0_fitting 6 (rm0_fitting)) (hS9 : gS X s) (hr : meth.sig.returnType = some .int) (a0 : Nat) (x1 : Int32) (a2 : Nat) (x3 : Int32) (M : mMem) : GG X p l e (rm0_fitting) s m args below meth c (gP X below args s 0 0 (fun r9 : (Int32 × mMem) => (some (.int r9.1), r9.2))) 6 0 0 0 [(0, .ref a0), (1, .int x1), (2, .ref a2), (3, .int x3)] [] M (p0_fitting a0 x1 a2 x3 M) := by
  unfold p0_fitting
  refine g_gd ?_
  refine g_aload_n B dX0_fitting_0 0 rfl ?_
  refine g_getR (ci := 0) (T0 := TX0) (N := 8) B (by decide) rfl in_0 (k := 2) (by decide) rfl wd_322 (fun _ h => h) dX0_fitting_1 (fun v_1 => ?_)
  refine g_aload_n B dX0_fitting_4 0 rfl ?_
  refine g_getR (ci := 0) (T0 := TX0) (N := 8) B (by decide) rfl in_0 (k := 0) (by decide) rfl wd_320 (fun _ h => h) dX0_fitting_5 (fun v_2 => ?_)
  refine g_callV_vw [.ref v_2] (ci := 2) (T0 := TX2) (N := 11) B hS9 mf2_take wd_462 (gw B wd_463) wd_1305 (by decide) rfl (fun h => (gd_ne h).1) (c2_take X l v_1 v_2 M) (by decide) (by decide) (by decide) rfl (by decide) dX0_fitting_8 rfl (fun q_3 => ?_)
  refine g_iconst (v := 0) B dX0_fitting_11 (by decide) ?_
  refine g_istore (lv' := [(4, .int 0), (0, .ref a0), (1, .int x1), (2, .ref a2), (3, .int x3)]) B dX0_fitting_12 (by decide) [0, 1, 2, 3, 4] rfl ?_
  refine g_iconst (v := 0) B dX0_fitting_14 (by decide) ?_
  refine g_istore (lv' := [(5, .int 0), (4, .int 0), (0, .ref a0), (1, .int x1), (2, .ref a2), (3, .int x3)]) B dX0_fitting_15 (by decide) [0, 1, 2, 3, 4, 5] rfl ?_
  refine g_sub (lv' := [(0, .ref a0), (1, .int x1), (2, .ref a2), (3, .int x3), (4, .int 0), (5, .int 0)]) [2, 3, 4, 5, 1, 0] rfl ?_
  exact (g0_fitting_L17 B hS9 hr) gF a0 x1 a2 x3 0 0 q_3
theorem c0_fitting (X : gX) (l : Launch) (a0 : Nat) (x1 : Int32) (a2 : Nat) (x3 : Int32) (M : mMem) : Con X l yX0_fitting cX0_fitting 6 (some .int) rm0_fitting (fun r9 : (Int32 × mMem) => (some (.int r9.1), r9.2)) [.ref a0, .int x1, .ref a2, .int x3] M (p0_fitting a0 x1 a2 x3 M) := g_con (own := RX0) (by decide +kernel) rfl (Nat.le_of_ble_eq_true rfl) (fun p e s m args below meth c B hS9 hr hn => g0_fitting B hS9 hr a0 x1 a2 x3 M)
theorem mfJ6_bitCount : gMF yJ6_bitCount_0f7a4 cJ6_bitCount_0f7a4 1 (some .int) 1 := ⟨wd_1273, wd_28, ⟨by decide, by decide⟩, by decide +kernel⟩
set_option maxRecDepth 20000 in
set_option maxHeartbeats 2000000 in
theorem gJ6_bitCount {X : gX} {p : Program} {l : Launch} {e : Env} {s : State} {m : MethodId} {args : Array Value} {below : List Frame} {meth : Method} {c : Code} (B : gB X p (rmJ6_bitCount) s m args meth c RJ6 cJ6_bitCount_0f7a4 1 (rmJ6_bitCount)) (hS9 : gS X s) (hr : meth.sig.returnType = some .int) {M : mMem} (x0 : Int32) : GG X p l e (rmJ6_bitCount) s m args below meth c (gP X below args s 0 0 (fun r9 : Int32 => (some (.int r9), M))) 1 0 0 0 [(0, .int x0)] [] M (pJ6_bitCount x0 M) := by
  unfold pJ6_bitCount
  refine g_iload_n B dJ6_bitCount_0f7a4_0 0 rfl ?_
  refine g_iload_n B dJ6_bitCount_0f7a4_1 0 rfl ?_
  refine g_iconst (v := 1) B dJ6_bitCount_0f7a4_2 (by decide) ?_
  refine g_iushr B dJ6_bitCount_0f7a4_3 ?_
  refine g_ldc_w B dJ6_bitCount_0f7a4_4 wd_1274 ?_
  refine g_iand B dJ6_bitCount_0f7a4_7 ?_
  refine g_isub B dJ6_bitCount_0f7a4_8 ?_
  refine g_istore_n (lv' := [(0, .int (x0 - ((ushr x0 1) &&& 1431655765)))]) B dJ6_bitCount_0f7a4_9 (by decide) [0] rfl ?_
  refine g_iload_n B dJ6_bitCount_0f7a4_10 0 rfl ?_
  refine g_ldc_w B dJ6_bitCount_0f7a4_11 wd_1275 ?_
  refine g_iand B dJ6_bitCount_0f7a4_14 ?_
  refine g_iload_n B dJ6_bitCount_0f7a4_15 0 rfl ?_
  refine g_iconst (v := 2) B dJ6_bitCount_0f7a4_16 (by decide) ?_
  refine g_iushr B dJ6_bitCount_0f7a4_17 ?_
  refine g_ldc_w B dJ6_bitCount_0f7a4_18 wd_1275 ?_
  refine g_iand B dJ6_bitCount_0f7a4_21 ?_
  refine g_iadd B dJ6_bitCount_0f7a4_22 ?_
  refine g_istore_n (lv' := [(0, .int (((x0 - ((ushr x0 1) &&& 1431655765)) &&& 858993459) + ((ushr (x0 - ((ushr x0 1) &&& 1431655765)) 2) &&& 858993459)))]) B dJ6_bitCount_0f7a4_23 (by decide) [0] rfl ?_
  refine g_iload_n B dJ6_bitCount_0f7a4_24 0 rfl ?_
  refine g_iload_n B dJ6_bitCount_0f7a4_25 0 rfl ?_
  refine g_iconst (v := 4) B dJ6_bitCount_0f7a4_26 (by decide) ?_
  refine g_iushr B dJ6_bitCount_0f7a4_27 ?_
  refine g_iadd B dJ6_bitCount_0f7a4_28 ?_
  refine g_ldc_w B dJ6_bitCount_0f7a4_29 wd_1276 ?_
  refine g_iand B dJ6_bitCount_0f7a4_32 ?_
  refine g_istore_n (lv' := [(0, .int (((((x0 - ((ushr x0 1) &&& 1431655765)) &&& 858993459) + ((ushr (x0 - ((ushr x0 1) &&& 1431655765)) 2) &&& 858993459)) + (ushr (((x0 - ((ushr x0 1) &&& 1431655765)) &&& 858993459) + ((ushr (x0 - ((ushr x0 1) &&& 1431655765)) 2) &&& 858993459)) 4)) &&& 252645135))]) B dJ6_bitCount_0f7a4_33 (by decide) [0] rfl ?_
  refine g_iload_n B dJ6_bitCount_0f7a4_34 0 rfl ?_
  refine g_iload_n B dJ6_bitCount_0f7a4_35 0 rfl ?_
  refine g_bipush (v := 8) B dJ6_bitCount_0f7a4_36 (by decide) ?_
  refine g_iushr B dJ6_bitCount_0f7a4_38 ?_
  refine g_iadd B dJ6_bitCount_0f7a4_39 ?_
  refine g_istore_n (lv' := [(0, .int ((((((x0 - ((ushr x0 1) &&& 1431655765)) &&& 858993459) + ((ushr (x0 - ((ushr x0 1) &&& 1431655765)) 2) &&& 858993459)) + (ushr (((x0 - ((ushr x0 1) &&& 1431655765)) &&& 858993459) + ((ushr (x0 - ((ushr x0 1) &&& 1431655765)) 2) &&& 858993459)) 4)) &&& 252645135) + (ushr (((((x0 - ((ushr x0 1) &&& 1431655765)) &&& 858993459) + ((ushr (x0 - ((ushr x0 1) &&& 1431655765)) 2) &&& 858993459)) + (ushr (((x0 - ((ushr x0 1) &&& 1431655765)) &&& 858993459) + ((ushr (x0 - ((ushr x0 1) &&& 1431655765)) 2) &&& 858993459)) 4)) &&& 252645135) 8)))]) B dJ6_bitCount_0f7a4_40 (by decide) [0] rfl ?_
  refine g_iload_n B dJ6_bitCount_0f7a4_41 0 rfl ?_
  refine g_iload_n B dJ6_bitCount_0f7a4_42 0 rfl ?_
  refine g_bipush (v := 16) B dJ6_bitCount_0f7a4_43 (by decide) ?_
  refine g_iushr B dJ6_bitCount_0f7a4_45 ?_
  refine g_iadd B dJ6_bitCount_0f7a4_46 ?_
  refine g_istore_n (lv' := [(0, .int (((((((x0 - ((ushr x0 1) &&& 1431655765)) &&& 858993459) + ((ushr (x0 - ((ushr x0 1) &&& 1431655765)) 2) &&& 858993459)) + (ushr (((x0 - ((ushr x0 1) &&& 1431655765)) &&& 858993459) + ((ushr (x0 - ((ushr x0 1) &&& 1431655765)) 2) &&& 858993459)) 4)) &&& 252645135) + (ushr (((((x0 - ((ushr x0 1) &&& 1431655765)) &&& 858993459) + ((ushr (x0 - ((ushr x0 1) &&& 1431655765)) 2) &&& 858993459)) + (ushr (((x0 - ((ushr x0 1) &&& 1431655765)) &&& 858993459) + ((ushr (x0 - ((ushr x0 1) &&& 1431655765)) 2) &&& 858993459)) 4)) &&& 252645135) 8)) + (ushr ((((((x0 - ((ushr x0 1) &&& 1431655765)) &&& 858993459) + ((ushr (x0 - ((ushr x0 1) &&& 1431655765)) 2) &&& 858993459)) + (ushr (((x0 - ((ushr x0 1) &&& 1431655765)) &&& 858993459) + ((ushr (x0 - ((ushr x0 1) &&& 1431655765)) 2) &&& 858993459)) 4)) &&& 252645135) + (ushr (((((x0 - ((ushr x0 1) &&& 1431655765)) &&& 858993459) + ((ushr (x0 - ((ushr x0 1) &&& 1431655765)) 2) &&& 858993459)) + (ushr (((x0 - ((ushr x0 1) &&& 1431655765)) &&& 858993459) + ((ushr (x0 - ((ushr x0 1) &&& 1431655765)) 2) &&& 858993459)) 4)) &&& 252645135) 8)) 16)))]) B dJ6_bitCount_0f7a4_47 (by decide) [0] rfl ?_
  refine g_iload_n B dJ6_bitCount_0f7a4_48 0 rfl ?_
  refine g_bipush (v := 63) B dJ6_bitCount_0f7a4_49 (by decide) ?_
  refine g_iand B dJ6_bitCount_0f7a4_51 ?_
  exact g_ireturn B hr rfl (by decide) (by decide) rfl dJ6_bitCount_0f7a4_52
theorem cJ6_bitCount (X : gX) (l : Launch) (x0 : Int32) (M : mMem) : Con X l yJ6_bitCount_0f7a4 cJ6_bitCount_0f7a4 1 (some .int) rmJ6_bitCount (fun r9 : Int32 => (some (.int r9), M)) [.int x0] M (pJ6_bitCount x0 M) := g_con (own := RJ6) (by decide +kernel) rfl (Nat.le_of_ble_eq_true rfl) (fun p e s m args below meth c B hS9 hr hn => gJ6_bitCount B hS9 hr x0)
theorem mf0_greatestPart : gMF yX0_greatestPart cX0_greatestPart 7 (some .int) 3 := ⟨wd_1414, wd_10, ⟨by decide, by decide⟩, by decide +kernel⟩
set_option maxRecDepth 20000 in
set_option maxHeartbeats 2000000 in
theorem g0_greatestPart_J74 {X : gX} {p : Program} {l : Launch} {e : Env} {s : State} {m : MethodId} {args : Array Value} {below : List Frame} {meth : Method} {c : Code} (B : gB X p (rm0_greatestPart) s m args meth c RX0 cX0_greatestPart 7 (rm0_greatestPart)) (hS9 : gS X s) (hr : meth.sig.returnType = some .int) (rec14 : Nat → Int32 → Int32 → Int32 → Int32 → Int32 → mMem → Option (Int32 × mMem)) (hrec14 : ∀ (a0 : Nat) (x1 : Int32) (x2 : Int32) (x3 : Int32) (x4 : Int32) (x5 : Int32) (M : mMem), GG X p l e (rm0_greatestPart) s m args below meth c (gP X below args s 0 0 (fun r9 : (Int32 × mMem) => (some (.int r9.1), r9.2))) 7 0 0 14 [(0, .ref a0), (1, .int x1), (2, .int x2), (3, .int x3), (4, .int x4), (5, .int x5)] [] M (rec14 a0 x1 x2 x3 x4 x5 M)) (a0 : Nat) (x1 : Int32) (x2 : Int32) (x3 : Int32) (x4 : Int32) (x5 : Int32) (M : mMem) : GG X p l e (rm0_greatestPart) s m args below meth c (gP X below args s 0 0 (fun r9 : (Int32 × mMem) => (some (.int r9.1), r9.2))) 7 0 0 74 [(0, .ref a0), (1, .int x1), (2, .int x2), (3, .int x3), (4, .int x4), (5, .int x5)] [] M (p0_greatestPart_J74 rec14 a0 x1 x2 x3 x4 x5 M) := by
  unfold p0_greatestPart_J74
  refine g_iinc (v := (x5 + 1)) (lv' := [(5, .int (x5 + 1)), (0, .ref a0), (1, .int x1), (2, .int x2), (3, .int x3), (4, .int x4)]) B dX0_greatestPart_74 5 rfl rfl (by decide) [0, 1, 2, 3, 4, 5] rfl ?_
  refine g_goto B 14 dX0_greatestPart_77 (by decide) ?_
  refine g_sub (lv' := [(0, .ref a0), (1, .int x1), (2, .int x2), (3, .int x3), (4, .int x4), (5, .int (x5 + 1))]) [1, 2, 3, 4, 5, 0] rfl ?_
  exact hrec14 a0 x1 x2 x3 x4 (x5 + 1) M
set_option maxRecDepth 20000 in
set_option maxHeartbeats 2000000 in
theorem g0_greatestPart_L14 {X : gX} {p : Program} {l : Launch} {e : Env} {s : State} {m : MethodId} {args : Array Value} {below : List Frame} {meth : Method} {c : Code} (B : gB X p (rm0_greatestPart) s m args meth c RX0 cX0_greatestPart 7 (rm0_greatestPart)) (hS9 : gS X s) (hr : meth.sig.returnType = some .int) : ∀ (n : Nat) (a0 : Nat) (x1 : Int32) (x2 : Int32) (x3 : Int32) (x4 : Int32) (x5 : Int32) (M : mMem), GG X p l e (rm0_greatestPart) s m args below meth c (gP X below args s 0 0 (fun r9 : (Int32 × mMem) => (some (.int r9.1), r9.2))) 7 0 0 14 [(0, .ref a0), (1, .int x1), (2, .int x2), (3, .int x3), (4, .int x4), (5, .int x5)] [] M (p0_greatestPart_L14 n a0 x1 x2 x3 x4 x5 M) := by
  intro n
  induction n with
  | zero => intro a0 x1 x2 x3 x4 x5 M; exact g_none
  | succ n ih =>
    intro a0 x1 x2 x3 x4 x5 M
    rw [p0_greatestPart_L14]
    refine g_iload B dX0_greatestPart_14 5 rfl ?_
    refine g_bipush (v := 16) B dX0_greatestPart_16 (by decide) ?_
    refine g_icmp_ge B 80 dX0_greatestPart_18 (by decide) ?_ ?_
    · refine g_iload_n B dX0_greatestPart_21 3 rfl ?_
      refine g_iload B dX0_greatestPart_22 5 rfl ?_
      refine g_ishr B dX0_greatestPart_24 ?_
      refine g_iconst (v := 1) B dX0_greatestPart_25 (by decide) ?_
      refine g_iand B dX0_greatestPart_26 ?_
      refine g_iconst (v := 1) B dX0_greatestPart_27 (by decide) ?_
      refine g_icmp_ne B 74 dX0_greatestPart_28 (by decide) ?_ ?_
      · refine g_aload_n B dX0_greatestPart_31 0 rfl ?_
        refine g_iload_n B dX0_greatestPart_32 1 rfl ?_
        refine g_iload_n B dX0_greatestPart_33 2 rfl ?_
        refine g_iload B dX0_greatestPart_34 5 rfl ?_
        refine g_callV_iw [.int x1, .int x2, .int x5] (ci := 0) (T0 := TX0) (N := 8) B hS9 mf0_ageBehind wd_1323 (gw B wp_30) wd_1321 (by decide) rfl (fun h => (gd_ne h).1) (c0_ageBehind X l a0 x1 x2 x5 M) (by decide) (by decide) (by decide) rfl (by decide) dX0_greatestPart_36 rfl (fun q_1 => ?_)
        refine g_istore (lv' := [(6, .int q_1.1), (0, .ref a0), (1, .int x1), (2, .int x2), (3, .int x3), (4, .int x4), (5, .int x5)]) B dX0_greatestPart_39 (by decide) [0, 1, 2, 3, 4, 5, 6] rfl ?_
        refine g_iload B dX0_greatestPart_41 0 rfl ?_
        refine g_callS_ip [.int q_1.1] B hS9 mf0_isPlace wd_1313 wd_1312 (c0_isPlace X l q_1.1 q_1.2) (by decide) (by decide) (by decide) rfl (by decide) dX0_greatestPart_43 rfl (fun v_2 => ?_)
        refine g_if_eq B 74 dX0_greatestPart_46 (by decide) ?_ ?_
        · refine g_sub (lv' := [(0, .ref a0), (1, .int x1), (2, .int x2), (3, .int x3), (4, .int x4), (5, .int x5)]) [1, 2, 3, 4, 5, 6] rfl ?_
          exact g0_greatestPart_J74 B hS9 hr (p0_greatestPart_L14 n) ih a0 x1 x2 x3 x4 x5 q_1.2
        · refine g_aload_n B dX0_greatestPart_49 1 rfl ?_
          refine g_getR (ci := 0) (T0 := TX0) (N := 8) B (by decide) rfl in_0 (k := 6) (by decide) rfl wd_326 (fun _ h => h) dX0_greatestPart_50 (fun v_3 => ?_)
          refine g_iload B dX0_greatestPart_53 0 rfl ?_
          refine g_dup2_11 B dX0_greatestPart_55 rfl rfl ?_
          refine g_iaload B dX0_greatestPart_56 (fun v_4 => ?_)
          refine g_iconst (v := 1) B dX0_greatestPart_57 (by decide) ?_
          refine g_iadd B dX0_greatestPart_58 ?_
          refine g_iastore B dX0_greatestPart_59 (fun M_5 => ?_)
          refine g_iload B dX0_greatestPart_60 5 rfl ?_
          refine g_aload_n B dX0_greatestPart_62 1 rfl ?_
          refine g_getR (ci := 0) (T0 := TX0) (N := 8) B (by decide) rfl in_0 (k := 6) (by decide) rfl wd_326 (fun _ h => h) dX0_greatestPart_63 (fun v_6 => ?_)
          refine g_iload B dX0_greatestPart_66 0 rfl ?_
          refine g_iaload B dX0_greatestPart_68 (fun v_7 => ?_)
          refine g_max B wd_1415 wd_516 wd_15 wd_517 (by decide) (Nat.le_of_ble_eq_true rfl) (by decide) dX0_greatestPart_69 ?_
          refine g_istore (lv' := [(4, .int (maxI x4 v_7)), (6, .int q_1.1), (0, .ref a0), (1, .int x1), (2, .int x2), (3, .int x3), (5, .int x5)]) B dX0_greatestPart_72 (by decide) [0, 1, 2, 3, 4, 5, 6] rfl ?_
          refine g_sub (lv' := [(0, .ref a0), (1, .int x1), (2, .int x2), (3, .int x3), (4, .int (maxI x4 v_7)), (5, .int x5)]) [2, 3, 4, 5, 0, 6] rfl ?_
          exact g0_greatestPart_J74 B hS9 hr (p0_greatestPart_L14 n) ih a0 x1 x2 x3 (maxI x4 v_7) x5 M_5
      · refine g_sub (lv' := [(0, .ref a0), (1, .int x1), (2, .int x2), (3, .int x3), (4, .int x4), (5, .int x5)]) [0, 1, 2, 3, 4, 5] rfl ?_
        exact g0_greatestPart_J74 B hS9 hr (p0_greatestPart_L14 n) ih a0 x1 x2 x3 x4 x5 M
    · refine g_iload B dX0_greatestPart_80 4 rfl ?_
      exact g_ireturn B hr rfl (by decide) (by decide) rfl dX0_greatestPart_82
set_option maxRecDepth 20000 in
set_option maxHeartbeats 2000000 in
theorem g0_greatestPart {X : gX} {p : Program} {l : Launch} {e : Env} {s : State} {m : MethodId} {args : Array Value} {below : List Frame} {meth : Method} {c : Code} (B : gB X p (rm0_greatestPart) s m args meth c RX0 cX0_greatestPart 7 (rm0_greatestPart)) (hS9 : gS X s) (hr : meth.sig.returnType = some .int) (a0 : Nat) (x1 : Int32) (x2 : Int32) (x3 : Int32) (M : mMem) : GG X p l e (rm0_greatestPart) s m args below meth c (gP X below args s 0 0 (fun r9 : (Int32 × mMem) => (some (.int r9.1), r9.2))) 7 0 0 0 [(0, .ref a0), (1, .int x1), (2, .int x2), (3, .int x3)] [] M (p0_greatestPart a0 x1 x2 x3 M) := by
  unfold p0_greatestPart
  refine g_gd ?_
  refine g_aload_n B dX0_greatestPart_0 0 rfl ?_
  refine g_getR (ci := 0) (T0 := TX0) (N := 8) B (by decide) rfl in_0 (k := 6) (by decide) rfl wd_326 (fun _ h => h) dX0_greatestPart_1 (fun v_1 => ?_)
  refine g_iconst (v := 0) B dX0_greatestPart_4 (by decide) ?_
  refine g_callS_vw [.ref v_1, .int 0] B hS9 mfJ7_fill wd_574 wd_1306 (cJ7_fill X l v_1 0 M) (by decide) (by decide) (by decide) rfl (by decide) dX0_greatestPart_5 rfl (fun q_2 => ?_)
  refine g_iconst (v := 0) B dX0_greatestPart_8 (by decide) ?_
  refine g_istore (lv' := [(4, .int 0), (0, .ref a0), (1, .int x1), (2, .int x2), (3, .int x3)]) B dX0_greatestPart_9 (by decide) [0, 1, 2, 3, 4] rfl ?_
  refine g_iconst (v := 0) B dX0_greatestPart_11 (by decide) ?_
  refine g_istore (lv' := [(5, .int 0), (4, .int 0), (0, .ref a0), (1, .int x1), (2, .int x2), (3, .int x3)]) B dX0_greatestPart_12 (by decide) [0, 1, 2, 3, 4, 5] rfl ?_
  refine g_sub (lv' := [(0, .ref a0), (1, .int x1), (2, .int x2), (3, .int x3), (4, .int 0), (5, .int 0)]) [2, 3, 4, 5, 1, 0] rfl ?_
  exact (g0_greatestPart_L14 B hS9 hr) gF a0 x1 x2 x3 0 0 q_2
theorem c0_greatestPart (X : gX) (l : Launch) (a0 : Nat) (x1 : Int32) (x2 : Int32) (x3 : Int32) (M : mMem) : Con X l yX0_greatestPart cX0_greatestPart 7 (some .int) rm0_greatestPart (fun r9 : (Int32 × mMem) => (some (.int r9.1), r9.2)) [.ref a0, .int x1, .int x2, .int x3] M (p0_greatestPart a0 x1 x2 x3 M) := g_con (own := RX0) (by decide +kernel) rfl (Nat.le_of_ble_eq_true rfl) (fun p e s m args below meth c B hS9 hr hn => g0_greatestPart B hS9 hr a0 x1 x2 x3 M)
theorem mf0_bestToAsk : gMF yX0_bestToAsk cX0_bestToAsk 9 (some .int) 3 := ⟨wd_1408, wd_10, ⟨by decide, by decide⟩, by decide +kernel⟩
set_option maxRecDepth 20000 in
set_option maxHeartbeats 2000000 in
theorem g0_bestToAsk_J68 {X : gX} {p : Program} {l : Launch} {e : Env} {s : State} {m : MethodId} {args : Array Value} {below : List Frame} {meth : Method} {c : Code} (B : gB X p (rm0_bestToAsk) s m args meth c RX0 cX0_bestToAsk 9 (rm0_bestToAsk)) (hS9 : gS X s) (hr : meth.sig.returnType = some .int) (rec30 : Nat → Int32 → Int32 → Int32 → Int32 → Int32 → mMem → Option (Int32 × mMem)) (hrec30 : ∀ (a0 : Nat) (x1 : Int32) (x4 : Int32) (x5 : Int32) (x6 : Int32) (x7 : Int32) (M : mMem), GG X p l e (rm0_bestToAsk) s m args below meth c (gP X below args s 0 0 (fun r9 : (Int32 × mMem) => (some (.int r9.1), r9.2))) 9 0 0 30 [(0, .ref a0), (1, .int x1), (4, .int x4), (5, .int x5), (6, .int x6), (7, .int x7)] [] M (rec30 a0 x1 x4 x5 x6 x7 M)) (a0 : Nat) (x1 : Int32) (x4 : Int32) (x5 : Int32) (x6 : Int32) (x7 : Int32) (M : mMem) : GG X p l e (rm0_bestToAsk) s m args below meth c (gP X below args s 0 0 (fun r9 : (Int32 × mMem) => (some (.int r9.1), r9.2))) 9 0 0 68 [(0, .ref a0), (1, .int x1), (4, .int x4), (5, .int x5), (6, .int x6), (7, .int x7)] [] M (p0_bestToAsk_J68 rec30 a0 x1 x4 x5 x6 x7 M) := by
  unfold p0_bestToAsk_J68
  refine g_iinc (v := (x7 + 1)) (lv' := [(7, .int (x7 + 1)), (0, .ref a0), (1, .int x1), (4, .int x4), (5, .int x5), (6, .int x6)]) B dX0_bestToAsk_68 5 rfl rfl (by decide) [0, 1, 2, 3, 4, 5] rfl ?_
  refine g_goto B 30 dX0_bestToAsk_71 (by decide) ?_
  refine g_sub (lv' := [(0, .ref a0), (1, .int x1), (4, .int x4), (5, .int x5), (6, .int x6), (7, .int (x7 + 1))]) [1, 2, 3, 4, 5, 0] rfl ?_
  exact hrec30 a0 x1 x4 x5 x6 (x7 + 1) M
set_option maxRecDepth 20000 in
set_option maxHeartbeats 2000000 in
theorem g0_bestToAsk_L30 {X : gX} {p : Program} {l : Launch} {e : Env} {s : State} {m : MethodId} {args : Array Value} {below : List Frame} {meth : Method} {c : Code} (B : gB X p (rm0_bestToAsk) s m args meth c RX0 cX0_bestToAsk 9 (rm0_bestToAsk)) (hS9 : gS X s) (hr : meth.sig.returnType = some .int) : ∀ (n : Nat) (a0 : Nat) (x1 : Int32) (x4 : Int32) (x5 : Int32) (x6 : Int32) (x7 : Int32) (M : mMem), GG X p l e (rm0_bestToAsk) s m args below meth c (gP X below args s 0 0 (fun r9 : (Int32 × mMem) => (some (.int r9.1), r9.2))) 9 0 0 30 [(0, .ref a0), (1, .int x1), (4, .int x4), (5, .int x5), (6, .int x6), (7, .int x7)] [] M (p0_bestToAsk_L30 n a0 x1 x4 x5 x6 x7 M) := by
  intro n
  induction n with
  | zero => intro a0 x1 x4 x5 x6 x7 M; exact g_none
  | succ n ih =>
    intro a0 x1 x4 x5 x6 x7 M
    rw [p0_bestToAsk_L30]
    refine g_iload B dX0_bestToAsk_30 5 rfl ?_
    refine g_aload_n B dX0_bestToAsk_32 0 rfl ?_
    refine g_getR (ci := 0) (T0 := TX0) (N := 8) B (by decide) rfl in_0 (k := 0) (by decide) rfl wd_320 (fun _ h => h) dX0_bestToAsk_33 (fun v_1 => ?_)
    refine g_getI (ci := 2) (T0 := TX2) (N := 11) B (by decide) rfl in_2 (k := 5) (by decide) rfl wd_148 (fun _ h => h) dX0_bestToAsk_36 (fun v_2 => ?_)
    refine g_icmp_ge B 74 dX0_bestToAsk_39 (by decide) ?_ ?_
    · refine g_aload_n B dX0_bestToAsk_42 0 rfl ?_
      refine g_iload_n B dX0_bestToAsk_43 1 rfl ?_
      refine g_iload B dX0_bestToAsk_44 5 rfl ?_
      refine g_iload B dX0_bestToAsk_46 2 rfl ?_
      refine g_callV_iw [.int x1, .int x7, .int x4] (ci := 0) (T0 := TX0) (N := 8) B hS9 mf0_greatestPart wd_1413 (gw B wp_33) wd_1411 (by decide) rfl (fun h => (gd_ne h).1) (c0_greatestPart X l a0 x1 x7 x4 M) (by decide) (by decide) (by decide) rfl (by decide) dX0_bestToAsk_48 rfl (fun q_3 => ?_)
      refine g_istore (lv' := [(8, .int q_3.1), (0, .ref a0), (1, .int x1), (4, .int x4), (5, .int x5), (6, .int x6), (7, .int x7)]) B dX0_bestToAsk_51 (by decide) [0, 1, 2, 3, 4, 5, 6] rfl ?_
      refine g_iload B dX0_bestToAsk_53 0 rfl ?_
      refine g_iload B dX0_bestToAsk_55 5 rfl ?_
      refine g_icmp_ge B 68 dX0_bestToAsk_57 (by decide) ?_ ?_
      · refine g_iload B dX0_bestToAsk_60 0 rfl ?_
        refine g_istore (lv' := [(6, .int q_3.1), (8, .int q_3.1), (0, .ref a0), (1, .int x1), (4, .int x4), (5, .int x5), (7, .int x7)]) B dX0_bestToAsk_62 (by decide) [0, 1, 2, 3, 4, 5, 6] rfl ?_
        refine g_iload B dX0_bestToAsk_64 6 rfl ?_
        refine g_istore (lv' := [(5, .int x7), (6, .int q_3.1), (8, .int q_3.1), (0, .ref a0), (1, .int x1), (4, .int x4), (7, .int x7)]) B dX0_bestToAsk_66 (by decide) [0, 1, 2, 3, 4, 5, 6] rfl ?_
        refine g_sub (lv' := [(0, .ref a0), (1, .int x1), (4, .int x4), (5, .int x7), (6, .int q_3.1), (7, .int x7)]) [3, 4, 5, 0, 1, 6] rfl ?_
        exact g0_bestToAsk_J68 B hS9 hr (p0_bestToAsk_L30 n) ih a0 x1 x4 x7 q_3.1 x7 q_3.2
      · refine g_sub (lv' := [(0, .ref a0), (1, .int x1), (4, .int x4), (5, .int x5), (6, .int x6), (7, .int x7)]) [1, 2, 3, 4, 5, 6] rfl ?_
        exact g0_bestToAsk_J68 B hS9 hr (p0_bestToAsk_L30 n) ih a0 x1 x4 x5 x6 x7 q_3.2
    · refine g_iload B dX0_bestToAsk_74 3 rfl ?_
      exact g_ireturn B hr rfl (by decide) (by decide) rfl dX0_bestToAsk_76
set_option maxRecDepth 20000 in
set_option maxHeartbeats 2000000 in
theorem g0_bestToAsk {X : gX} {p : Program} {l : Launch} {e : Env} {s : State} {m : MethodId} {args : Array Value} {below : List Frame} {meth : Method} {c : Code} (B : gB X p (rm0_bestToAsk) s m args meth c RX0 cX0_bestToAsk 9 (rm0_bestToAsk)) (hS9 : gS X s) (hr : meth.sig.returnType = some .int) (a0 : Nat) (x1 : Int32) (a2 : Nat) (x3 : Int32) (M : mMem) : GG X p l e (rm0_bestToAsk) s m args below meth c (gP X below args s 0 0 (fun r9 : (Int32 × mMem) => (some (.int r9.1), r9.2))) 9 0 0 0 [(0, .ref a0), (1, .int x1), (2, .ref a2), (3, .int x3)] [] M (p0_bestToAsk a0 x1 a2 x3 M) := by
  unfold p0_bestToAsk
  refine g_gd ?_
  refine g_aload_n B dX0_bestToAsk_0 0 rfl ?_
  refine g_iload_n B dX0_bestToAsk_1 1 rfl ?_
  refine g_aload_n B dX0_bestToAsk_2 2 rfl ?_
  refine g_iload_n B dX0_bestToAsk_3 3 rfl ?_
  refine g_callV_iw [.int x1, .ref a2, .int x3] (ci := 0) (T0 := TX0) (N := 8) B hS9 mf0_fitting wd_1391 (gw B wd_1392) wd_1409 (by decide) rfl (fun h => (gd_ne h).1) (c0_fitting X l a0 x1 a2 x3 M) (by decide) (by decide) (by decide) rfl (by decide) dX0_bestToAsk_4 rfl (fun q_1 => ?_)
  refine g_istore (lv' := [(4, .int q_1.1), (0, .ref a0), (1, .int x1), (2, .ref a2), (3, .int x3)]) B dX0_bestToAsk_7 (by decide) [0, 1, 2, 3, 4] rfl ?_
  refine g_iload B dX0_bestToAsk_9 0 rfl ?_
  refine g_callS_ip [.int q_1.1] B hS9 mfJ6_bitCount wd_1272 wd_1410 (cJ6_bitCount X l q_1.1 q_1.2) (by decide) (by decide) (by decide) rfl (by decide) dX0_bestToAsk_11 rfl (fun v_2 => ?_)
  refine g_iconst (v := 2) B dX0_bestToAsk_14 (by decide) ?_
  refine g_icmp_ge B 20 dX0_bestToAsk_15 (by decide) ?_ ?_
  · refine g_iconst (v := (-1)) B dX0_bestToAsk_18 (by decide) ?_
    exact g_ireturn B hr rfl (by decide) (by decide) rfl dX0_bestToAsk_19
  · refine g_iconst (v := (-1)) B dX0_bestToAsk_20 (by decide) ?_
    refine g_istore (lv' := [(5, .int (-1)), (4, .int q_1.1), (0, .ref a0), (1, .int x1), (2, .ref a2), (3, .int x3)]) B dX0_bestToAsk_21 (by decide) [0, 1, 2, 3, 4, 5] rfl ?_
    refine g_bipush (v := 17) B dX0_bestToAsk_23 (by decide) ?_
    refine g_istore (lv' := [(6, .int 17), (5, .int (-1)), (4, .int q_1.1), (0, .ref a0), (1, .int x1), (2, .ref a2), (3, .int x3)]) B dX0_bestToAsk_25 (by decide) [0, 1, 2, 3, 4, 5, 6] rfl ?_
    refine g_iconst (v := 0) B dX0_bestToAsk_27 (by decide) ?_
    refine g_istore (lv' := [(7, .int 0), (6, .int 17), (5, .int (-1)), (4, .int q_1.1), (0, .ref a0), (1, .int x1), (2, .ref a2), (3, .int x3)]) B dX0_bestToAsk_28 (by decide) [0, 1, 2, 3, 4, 5, 6, 7] rfl ?_
    refine g_sub (lv' := [(0, .ref a0), (1, .int x1), (4, .int q_1.1), (5, .int (-1)), (6, .int 17), (7, .int 0)]) [4, 5, 3, 2, 1, 0] rfl ?_
    exact (g0_bestToAsk_L30 B hS9 hr) gF a0 x1 q_1.1 (-1) 17 0 q_1.2
theorem c0_bestToAsk (X : gX) (l : Launch) (a0 : Nat) (x1 : Int32) (a2 : Nat) (x3 : Int32) (M : mMem) : Con X l yX0_bestToAsk cX0_bestToAsk 9 (some .int) rm0_bestToAsk (fun r9 : (Int32 × mMem) => (some (.int r9.1), r9.2)) [.ref a0, .int x1, .ref a2, .int x3] M (p0_bestToAsk a0 x1 a2 x3 M) := g_con (own := RX0) (by decide +kernel) rfl (Nat.le_of_ble_eq_true rfl) (fun p e s m args below meth c B hS9 hr hn => g0_bestToAsk B hS9 hr a0 x1 a2 x3 M)
theorem mf1_init : gMF yX1_init cX1_init 3 (none) 2 := ⟨wd_298, wd_9, ⟨by decide, by decide⟩, by decide +kernel⟩
set_option maxRecDepth 20000 in
set_option maxHeartbeats 2000000 in
theorem g1_init {X : gX} {p : Program} {l : Launch} {e : Env} {s : State} {m : MethodId} {args : Array Value} {below : List Frame} {meth : Method} {c : Code} (B : gB X p (rm1_init) s m args meth c RX1 cX1_init 3 (rm1_init)) (hS9 : gS X s) (hr : meth.sig.returnType = none) (hin2 : meth.name = "<init>") (a0 : Nat) (a1 : Nat) (a2 : Nat) (M : mMem) : GG X p l e (rm1_init) s m args below meth c (gP X below args s 15 476 (fun M9 : mMem => (none, M9))) 3 0 0 0 [(0, .ref a0), (1, .ref a1), (2, .ref a2)] [] M (p1_init a0 a1 a2 M) := by
  unfold p1_init
  refine g_gd ?_
  refine g_aload_n B dX1_init_0 0 rfl ?_
  refine g_objinit B wd_299 wd_36 wd_37 (by decide) (by decide) dX1_init_1 ?_
  refine g_aload_n B dX1_init_4 0 rfl ?_
  refine g_new (ci := 2) (T0 := TX2) (N := 11) B (by decide) rfl in_2 tyX2 tyX2_ok df_2 wd_300 wd_39 wd_2 (by decide) dX1_init_5 (fun n_1 => ?_)
  refine g_dup B dX1_init_8 rfl ?_
  refine g_callI_vw [] B hS9 mf2_init rfl wd_41 wd_301 (c2_init X l n_1.1 n_1.2) (by decide) (by decide) (by decide) rfl (Nat.le_of_ble_eq_true rfl) dX1_init_9 rfl (fun q_2 => ?_)
  refine g_putRF (ci := 1) (T0 := TX1) (N := 3) B (by decide) rfl in_1 tyX1 tyX1_ok nmX1 (k := 2) (by decide) wd_304 (fun _ h => h) rfl rfl hin2 rfl (ty := (.object "CribLine$Family")) (by decide +kernel) rfl rfl dX1_init_12 (fun M_3 => ?_)
  refine g_aload_n B dX1_init_15 0 rfl ?_
  refine g_aload_n B dX1_init_16 1 rfl ?_
  refine g_putRF (ci := 1) (T0 := TX1) (N := 3) B (by decide) rfl in_1 tyX1 tyX1_ok nmX1 (k := 0) (by decide) wd_302 (fun _ h => h) rfl rfl hin2 rfl (ty := (.object "CribLine$Family")) (by decide +kernel) rfl rfl dX1_init_17 (fun M_4 => ?_)
  refine g_aload_n B dX1_init_20 0 rfl ?_
  refine g_aload_n B dX1_init_21 2 rfl ?_
  refine g_putRF (ci := 1) (T0 := TX1) (N := 3) B (by decide) rfl in_1 tyX1 tyX1_ok nmX1 (k := 1) (by decide) wd_303 (fun _ h => h) rfl rfl hin2 rfl (ty := (.object "CribLine$Law")) (by decide +kernel) rfl rfl dX1_init_22 (fun M_5 => ?_)
  exact g_vreturn B hr (by decide) (by decide) rfl dX1_init_25
theorem c1_init (X : gX) (l : Launch) (a0 : Nat) (a1 : Nat) (a2 : Nat) (M : mMem) : Con X l yX1_init cX1_init 3 (none) rm1_init (fun M9 : mMem => (none, M9)) [.ref a0, .ref a1, .ref a2] M (p1_init a0 a1 a2 M) := g_con (own := RX1) (by decide +kernel) rfl (Nat.le_of_ble_eq_true rfl) (fun p e s m args below meth c B hS9 hr hn => g1_init B hS9 hr hn a0 a1 a2 M)
theorem mf2_draw : gMF yX2_draw cX2_draw 1 (some .int) 0 := ⟨wd_1280, wd_2, ⟨by decide, by decide⟩, by decide +kernel⟩
set_option maxRecDepth 20000 in
set_option maxHeartbeats 2000000 in
theorem g2_draw {X : gX} {p : Program} {l : Launch} {e : Env} {s : State} {m : MethodId} {args : Array Value} {below : List Frame} {meth : Method} {c : Code} (B : gB X p (rm2_draw) s m args meth c RX2 cX2_draw 1 (rm2_draw)) (hS9 : gS X s) (hr : meth.sig.returnType = some .int) (a0 : Nat) (M : mMem) : GG X p l e (rm2_draw) s m args below meth c (gP X below args s 0 0 (fun r9 : (Int32 × mMem) => (some (.int r9.1), r9.2))) 1 0 0 0 [(0, .ref a0)] [] M (p2_draw a0 M) := by
  unfold p2_draw
  refine g_gd ?_
  refine g_aload_n B dX2_draw_0 0 rfl ?_
  refine g_ldc B dX2_draw_1 wd_1281 ?_
  refine g_aload_n B dX2_draw_3 0 rfl ?_
  refine g_getI (ci := 2) (T0 := TX2) (N := 11) B (by decide) rfl in_2 (k := 9) (by decide) rfl wd_163 (fun _ h => h) dX2_draw_4 (fun v_1 => ?_)
  refine g_imul B dX2_draw_7 ?_
  refine g_sipush (v := 12345) B dX2_draw_8 (by decide) ?_
  refine g_iadd B dX2_draw_11 ?_
  refine g_putI (ci := 2) (T0 := TX2) (N := 11) B (by decide) rfl in_2 tyX2 tyX2_ok nmX2 (k := 9) (by decide) wd_163 (fun _ h => h) rfl rfl (ty := .int) (by decide +kernel) rfl rfl dX2_draw_12 (fun M_2 => ?_)
  refine g_aload_n B dX2_draw_15 0 rfl ?_
  refine g_getI (ci := 2) (T0 := TX2) (N := 11) B (by decide) rfl in_2 (k := 9) (by decide) rfl wd_163 (fun _ h => h) dX2_draw_16 (fun v_3 => ?_)
  refine g_bipush (v := 16) B dX2_draw_19 (by decide) ?_
  refine g_iushr B dX2_draw_21 ?_
  refine g_sipush (v := 32767) B dX2_draw_22 (by decide) ?_
  refine g_iand B dX2_draw_25 ?_
  exact g_ireturn B hr rfl (by decide) (by decide) rfl dX2_draw_26
theorem c2_draw (X : gX) (l : Launch) (a0 : Nat) (M : mMem) : Con X l yX2_draw cX2_draw 1 (some .int) rm2_draw (fun r9 : (Int32 × mMem) => (some (.int r9.1), r9.2)) [.ref a0] M (p2_draw a0 M) := g_con (own := RX2) (by decide +kernel) rfl (Nat.le_of_ble_eq_true rfl) (fun p e s m args below meth c B hS9 hr hn => g2_draw B hS9 hr a0 M)
theorem mf2_governorAt : gMF yX2_governorAt cX2_governorAt 5 (some .int) 2 := ⟨wd_497, wd_2, ⟨by decide, by decide⟩, by decide +kernel⟩
set_option maxRecDepth 20000 in
set_option maxHeartbeats 2000000 in
theorem g2_governorAt_J35 {X : gX} {p : Program} {l : Launch} {e : Env} {s : State} {m : MethodId} {args : Array Value} {below : List Frame} {meth : Method} {c : Code} (B : gB X p (rm2_governorAt) s m args meth c RX2 cX2_governorAt 5 (rm2_governorAt)) (hS9 : gS X s) (hr : meth.sig.returnType = some .int) {M : mMem} (rec5 : Nat → Int32 → Int32 → Int32 → Int32 → Option Int32) (hrec5 : ∀ (a0 : Nat) (x1 : Int32) (x2 : Int32) (x3 : Int32) (x4 : Int32), GG X p l e (rm2_governorAt) s m args below meth c (gP X below args s 0 0 (fun r9 : Int32 => (some (.int r9), M))) 5 0 0 5 [(0, .ref a0), (1, .int x1), (2, .int x2), (3, .int x3), (4, .int x4)] [] M (rec5 a0 x1 x2 x3 x4)) (a0 : Nat) (x1 : Int32) (x2 : Int32) (x3 : Int32) (x4 : Int32) : GG X p l e (rm2_governorAt) s m args below meth c (gP X below args s 0 0 (fun r9 : Int32 => (some (.int r9), M))) 5 0 0 35 [(0, .ref a0), (1, .int x1), (2, .int x2), (3, .int x3), (4, .int x4)] [] M (p2_governorAt_J35 M rec5 a0 x1 x2 x3 x4) := by
  unfold p2_governorAt_J35
  refine g_iinc (v := (x4 + 1)) (lv' := [(4, .int (x4 + 1)), (0, .ref a0), (1, .int x1), (2, .int x2), (3, .int x3)]) B dX2_governorAt_35 4 rfl rfl (by decide) [0, 1, 2, 3, 4] rfl ?_
  refine g_goto B 5 dX2_governorAt_38 (by decide) ?_
  refine g_sub (lv' := [(0, .ref a0), (1, .int x1), (2, .int x2), (3, .int x3), (4, .int (x4 + 1))]) [1, 2, 3, 4, 0] rfl ?_
  exact hrec5 a0 x1 x2 x3 (x4 + 1)
set_option maxRecDepth 20000 in
set_option maxHeartbeats 2000000 in
theorem g2_governorAt_L5 {X : gX} {p : Program} {l : Launch} {e : Env} {s : State} {m : MethodId} {args : Array Value} {below : List Frame} {meth : Method} {c : Code} (B : gB X p (rm2_governorAt) s m args meth c RX2 cX2_governorAt 5 (rm2_governorAt)) (hS9 : gS X s) (hr : meth.sig.returnType = some .int) {M : mMem} : ∀ (n : Nat) (a0 : Nat) (x1 : Int32) (x2 : Int32) (x3 : Int32) (x4 : Int32), GG X p l e (rm2_governorAt) s m args below meth c (gP X below args s 0 0 (fun r9 : Int32 => (some (.int r9), M))) 5 0 0 5 [(0, .ref a0), (1, .int x1), (2, .int x2), (3, .int x3), (4, .int x4)] [] M (p2_governorAt_L5 M n a0 x1 x2 x3 x4) := by
  intro n
  induction n with
  | zero => intro a0 x1 x2 x3 x4; exact g_none
  | succ n ih =>
    intro a0 x1 x2 x3 x4
    rw [p2_governorAt_L5]
    refine g_iload B dX2_governorAt_5 4 rfl ?_
    refine g_aload_n B dX2_governorAt_7 0 rfl ?_
    refine g_getI (ci := 2) (T0 := TX2) (N := 11) B (by decide) rfl in_2 (k := 4) (by decide) rfl wd_139 (fun _ h => h) dX2_governorAt_8 (fun v_1 => ?_)
    refine g_icmp_ge B 41 dX2_governorAt_11 (by decide) ?_ ?_
    · refine g_aload_n B dX2_governorAt_14 0 rfl ?_
      refine g_iload B dX2_governorAt_15 4 rfl ?_
      refine g_iload_n B dX2_governorAt_17 1 rfl ?_
      refine g_callV_ip [.int x4, .int x1] (ci := 2) (T0 := TX2) (N := 11) B hS9 mf2_governs wd_499 (gw B wd_500) wd_498 (by decide) rfl (fun h => (gd_ne h).1) (c2_governs X l a0 x4 x1 M) (by decide) (by decide) (by decide) rfl (by decide) dX2_governorAt_18 rfl (fun v_2 => ?_)
      refine g_if_eq B 35 dX2_governorAt_21 (by decide) ?_ ?_
      · refine g_sub (lv' := [(0, .ref a0), (1, .int x1), (2, .int x2), (3, .int x3), (4, .int x4)]) [0, 1, 2, 3, 4] rfl ?_
        exact g2_governorAt_J35 B hS9 hr (p2_governorAt_L5 M n) ih a0 x1 x2 x3 x4
      · refine g_iload_n B dX2_governorAt_24 3 rfl ?_
        refine g_iload_n B dX2_governorAt_25 2 rfl ?_
        refine g_icmp_ne B 32 dX2_governorAt_26 (by decide) ?_ ?_
        · refine g_iload B dX2_governorAt_29 4 rfl ?_
          exact g_ireturn B hr rfl (by decide) (by decide) rfl dX2_governorAt_31
        · refine g_iinc (v := (x3 + 1)) (lv' := [(3, .int (x3 + 1)), (0, .ref a0), (1, .int x1), (2, .int x2), (4, .int x4)]) B dX2_governorAt_32 3 rfl rfl (by decide) [0, 1, 2, 3, 4] rfl ?_
          refine g_sub (lv' := [(0, .ref a0), (1, .int x1), (2, .int x2), (3, .int (x3 + 1)), (4, .int x4)]) [1, 2, 3, 0, 4] rfl ?_
          exact g2_governorAt_J35 B hS9 hr (p2_governorAt_L5 M n) ih a0 x1 x2 (x3 + 1) x4
    · refine g_iconst (v := (-1)) B dX2_governorAt_41 (by decide) ?_
      exact g_ireturn B hr rfl (by decide) (by decide) rfl dX2_governorAt_42
set_option maxRecDepth 20000 in
set_option maxHeartbeats 2000000 in
theorem g2_governorAt {X : gX} {p : Program} {l : Launch} {e : Env} {s : State} {m : MethodId} {args : Array Value} {below : List Frame} {meth : Method} {c : Code} (B : gB X p (rm2_governorAt) s m args meth c RX2 cX2_governorAt 5 (rm2_governorAt)) (hS9 : gS X s) (hr : meth.sig.returnType = some .int) {M : mMem} (a0 : Nat) (x1 : Int32) (x2 : Int32) : GG X p l e (rm2_governorAt) s m args below meth c (gP X below args s 0 0 (fun r9 : Int32 => (some (.int r9), M))) 5 0 0 0 [(0, .ref a0), (1, .int x1), (2, .int x2)] [] M (p2_governorAt a0 x1 x2 M) := by
  unfold p2_governorAt
  refine g_gd ?_
  refine g_iconst (v := 0) B dX2_governorAt_0 (by decide) ?_
  refine g_istore_n (lv' := [(3, .int 0), (0, .ref a0), (1, .int x1), (2, .int x2)]) B dX2_governorAt_1 (by decide) [0, 1, 2, 3] rfl ?_
  refine g_iconst (v := 0) B dX2_governorAt_2 (by decide) ?_
  refine g_istore (lv' := [(4, .int 0), (3, .int 0), (0, .ref a0), (1, .int x1), (2, .int x2)]) B dX2_governorAt_3 (by decide) [0, 1, 2, 3, 4] rfl ?_
  refine g_sub (lv' := [(0, .ref a0), (1, .int x1), (2, .int x2), (3, .int 0), (4, .int 0)]) [2, 3, 4, 1, 0] rfl ?_
  exact (g2_governorAt_L5 B hS9 hr) gF a0 x1 x2 0 0
theorem c2_governorAt (X : gX) (l : Launch) (a0 : Nat) (x1 : Int32) (x2 : Int32) (M : mMem) : Con X l yX2_governorAt cX2_governorAt 5 (some .int) rm2_governorAt (fun r9 : Int32 => (some (.int r9), M)) [.ref a0, .int x1, .int x2] M (p2_governorAt a0 x1 x2 M) := g_con (own := RX2) (by decide +kernel) rfl (Nat.le_of_ble_eq_true rfl) (fun p e s m args below meth c B hS9 hr hn => g2_governorAt B hS9 hr a0 x1 x2)
theorem mf6_add : gMF yX6_add cX6_add 7 (none) 5 := ⟨wd_547, wd_4, ⟨by decide, by decide⟩, by decide +kernel⟩
set_option maxRecDepth 20000 in
set_option maxHeartbeats 2000000 in
theorem g6_add_J25 {X : gX} {p : Program} {l : Launch} {e : Env} {s : State} {m : MethodId} {args : Array Value} {below : List Frame} {meth : Method} {c : Code} (B : gB X p (rm6_add) s m args meth c RX6 cX6_add 7 (rm6_add)) (hS9 : gS X s) (hr : meth.sig.returnType = none) (M : mMem) : GG X p l e (rm6_add) s m args below meth c (gP X below args s 0 0 (fun M9 : mMem => (none, M9))) 7 0 0 25 [] [] M (p6_add_J25 M) := by
  unfold p6_add_J25
  exact g_vreturn B hr (by decide) (by decide) rfl dX6_add_25
set_option maxRecDepth 20000 in
set_option maxHeartbeats 2000000 in
theorem g6_add_J108 {X : gX} {p : Program} {l : Launch} {e : Env} {s : State} {m : MethodId} {args : Array Value} {below : List Frame} {meth : Method} {c : Code} (B : gB X p (rm6_add) s m args meth c RX6 cX6_add 7 (rm6_add)) (hS9 : gS X s) (hr : meth.sig.returnType = none) (a0 : Nat) (b0 : Nat) (u1 : Int32) (M : mMem) : GG X p l e (rm6_add) s m args below meth c (gP X below args s 0 0 (fun M9 : mMem => (none, M9))) 7 0 0 108 [(0, .ref a0)] [.int u1, .ref b0] M (p6_add_J108 a0 b0 u1 M) := by
  unfold p6_add_J108
  refine g_putI (ci := 6) (T0 := TX6) (N := 3) B (by decide) rfl in_6 tyX6 tyX6_ok nmX6 (k := 1) (by decide) wd_124 (fun _ h => h) rfl rfl (ty := .int) (by decide +kernel) rfl rfl dX6_add_108 (fun M_1 => ?_)
  refine g_aload_n B dX6_add_111 0 rfl ?_
  refine g_bipush (v := 60) B dX6_add_112 (by decide) ?_
  refine g_aload_n B dX6_add_114 0 rfl ?_
  refine g_getI (ci := 6) (T0 := TX6) (N := 3) B (by decide) rfl in_6 (k := 2) (by decide) rfl wd_125 (fun _ h => h) dX6_add_115 (fun v_2 => ?_)
  refine g_iconst (v := 1) B dX6_add_118 (by decide) ?_
  refine g_iadd B dX6_add_119 ?_
  refine g_min B wd_548 wd_538 wd_15 wd_539 (by decide) (Nat.le_of_ble_eq_true rfl) (by decide) dX6_add_120 ?_
  refine g_putI (ci := 6) (T0 := TX6) (N := 3) B (by decide) rfl in_6 tyX6 tyX6_ok nmX6 (k := 2) (by decide) wd_125 (fun _ h => h) rfl rfl (ty := .int) (by decide +kernel) rfl rfl dX6_add_123 (fun M_3 => ?_)
  exact g_vreturn B hr (by decide) (by decide) rfl dX6_add_126
set_option maxRecDepth 20000 in
set_option maxHeartbeats 2000000 in
theorem g6_add_J74 {X : gX} {p : Program} {l : Launch} {e : Env} {s : State} {m : MethodId} {args : Array Value} {below : List Frame} {meth : Method} {c : Code} (B : gB X p (rm6_add) s m args meth c RX6 cX6_add 7 (rm6_add)) (hS9 : gS X s) (hr : meth.sig.returnType = none) (a0 : Nat) (x5 : Int32) (x6 : Int32) (b0 : Nat) (u1 : Int32) (u2 : Int32) (M : mMem) : GG X p l e (rm6_add) s m args below meth c (gP X below args s 0 0 (fun M9 : mMem => (none, M9))) 7 0 0 74 [(0, .ref a0), (5, .int x5), (6, .int x6)] [.int u2, .int u1, .ref b0] M (p6_add_J74 a0 x5 x6 b0 u1 u2 M) := by
  unfold p6_add_J74
  refine g_iastore B dX6_add_74 (fun M_1 => ?_)
  refine g_aload_n B dX6_add_75 0 rfl ?_
  refine g_getR (ci := 6) (T0 := TX6) (N := 3) B (by decide) rfl in_6 (k := 0) (by decide) rfl wd_123 (fun _ h => h) dX6_add_76 (fun v_2 => ?_)
  refine g_iload B dX6_add_79 2 rfl ?_
  refine g_iconst (v := 4) B dX6_add_81 (by decide) ?_
  refine g_iadd B dX6_add_82 ?_
  refine g_iload B dX6_add_83 1 rfl ?_
  refine g_iastore B dX6_add_85 (fun M_3 => ?_)
  refine g_aload_n B dX6_add_86 0 rfl ?_
  refine g_aload_n B dX6_add_87 0 rfl ?_
  refine g_getI (ci := 6) (T0 := TX6) (N := 3) B (by decide) rfl in_6 (k := 1) (by decide) rfl wd_124 (fun _ h => h) dX6_add_88 (fun v_4 => ?_)
  refine g_iconst (v := 1) B dX6_add_91 (by decide) ?_
  refine g_iadd B dX6_add_92 ?_
  refine g_bipush (v := 60) B dX6_add_93 (by decide) ?_
  refine g_icmp_ge B 107 dX6_add_95 (by decide) ?_ ?_
  · refine g_aload_n B dX6_add_98 0 rfl ?_
    refine g_getI (ci := 6) (T0 := TX6) (N := 3) B (by decide) rfl in_6 (k := 1) (by decide) rfl wd_124 (fun _ h => h) dX6_add_99 (fun v_5 => ?_)
    refine g_iconst (v := 1) B dX6_add_102 (by decide) ?_
    refine g_iadd B dX6_add_103 ?_
    refine g_goto B 108 dX6_add_104 (by decide) ?_
    refine g_sub (lv' := [(0, .ref a0)]) [0] rfl ?_
    exact g6_add_J108 B hS9 hr a0 a0 (v_5 + 1) M_3
  · refine g_iconst (v := 0) B dX6_add_107 (by decide) ?_
    refine g_sub (lv' := [(0, .ref a0)]) [0] rfl ?_
    exact g6_add_J108 B hS9 hr a0 a0 0 M_3
set_option maxRecDepth 20000 in
set_option maxHeartbeats 2000000 in
theorem g6_add {X : gX} {p : Program} {l : Launch} {e : Env} {s : State} {m : MethodId} {args : Array Value} {below : List Frame} {meth : Method} {c : Code} (B : gB X p (rm6_add) s m args meth c RX6 cX6_add 7 (rm6_add)) (hS9 : gS X s) (hr : meth.sig.returnType = none) (a0 : Nat) (x1 : Int32) (x2 : Int32) (x3 : Int32) (x4 : Int32) (x5 : Int32) (M : mMem) : GG X p l e (rm6_add) s m args below meth c (gP X below args s 0 0 (fun M9 : mMem => (none, M9))) 7 0 0 0 [(0, .ref a0), (1, .int x1), (2, .int x2), (3, .int x3), (4, .int x4), (5, .int x5)] [] M (p6_add a0 x1 x2 x3 x4 x5 M) := by
  unfold p6_add
  refine g_gd ?_
  refine g_aload_n B dX6_add_0 0 rfl ?_
  refine g_getI (ci := 6) (T0 := TX6) (N := 3) B (by decide) rfl in_6 (k := 1) (by decide) rfl wd_124 (fun _ h => h) dX6_add_1 (fun v_1 => ?_)
  refine g_iconst (v := 5) B dX6_add_4 (by decide) ?_
  refine g_imul B dX6_add_5 ?_
  refine g_istore (lv' := [(6, .int (v_1 * 5)), (0, .ref a0), (1, .int x1), (2, .int x2), (3, .int x3), (4, .int x4), (5, .int x5)]) B dX6_add_6 (by decide) [0, 1, 2, 3, 4, 5, 6] rfl ?_
  refine g_iload B dX6_add_8 0 rfl ?_
  refine g_if_lt B 25 dX6_add_10 (by decide) ?_ ?_
  · refine g_sub (lv' := []) [] rfl ?_
    exact g6_add_J25 B hS9 hr M
  · refine g_iload B dX6_add_13 0 rfl ?_
    refine g_iconst (v := 4) B dX6_add_15 (by decide) ?_
    refine g_iadd B dX6_add_16 ?_
    refine g_aload_n B dX6_add_17 1 rfl ?_
    refine g_getR (ci := 6) (T0 := TX6) (N := 3) B (by decide) rfl in_6 (k := 0) (by decide) rfl wd_123 (fun _ h => h) dX6_add_18 (fun v_2 => ?_)
    refine g_alen B dX6_add_21 (fun v_3 => ?_)
    refine g_icmp_lt B 26 dX6_add_22 (by decide) ?_ ?_
    · refine g_aload_n B dX6_add_26 1 rfl ?_
      refine g_getR (ci := 6) (T0 := TX6) (N := 3) B (by decide) rfl in_6 (k := 0) (by decide) rfl wd_123 (fun _ h => h) dX6_add_27 (fun v_4 => ?_)
      refine g_iload B dX6_add_30 0 rfl ?_
      refine g_iconst (v := 0) B dX6_add_32 (by decide) ?_
      refine g_iadd B dX6_add_33 ?_
      refine g_iload_n B dX6_add_34 2 rfl ?_
      refine g_iastore B dX6_add_35 (fun M_5 => ?_)
      refine g_aload_n B dX6_add_36 1 rfl ?_
      refine g_getR (ci := 6) (T0 := TX6) (N := 3) B (by decide) rfl in_6 (k := 0) (by decide) rfl wd_123 (fun _ h => h) dX6_add_37 (fun v_6 => ?_)
      refine g_iload B dX6_add_40 0 rfl ?_
      refine g_iconst (v := 1) B dX6_add_42 (by decide) ?_
      refine g_iadd B dX6_add_43 ?_
      refine g_iload_n B dX6_add_44 3 rfl ?_
      refine g_iastore B dX6_add_45 (fun M_7 => ?_)
      refine g_aload_n B dX6_add_46 1 rfl ?_
      refine g_getR (ci := 6) (T0 := TX6) (N := 3) B (by decide) rfl in_6 (k := 0) (by decide) rfl wd_123 (fun _ h => h) dX6_add_47 (fun v_8 => ?_)
      refine g_iload B dX6_add_50 0 rfl ?_
      refine g_iconst (v := 2) B dX6_add_52 (by decide) ?_
      refine g_iadd B dX6_add_53 ?_
      refine g_iload_n B dX6_add_54 4 rfl ?_
      refine g_iastore B dX6_add_55 (fun M_9 => ?_)
      refine g_aload_n B dX6_add_56 1 rfl ?_
      refine g_getR (ci := 6) (T0 := TX6) (N := 3) B (by decide) rfl in_6 (k := 0) (by decide) rfl wd_123 (fun _ h => h) dX6_add_57 (fun v_10 => ?_)
      refine g_iload B dX6_add_60 0 rfl ?_
      refine g_iconst (v := 3) B dX6_add_62 (by decide) ?_
      refine g_iadd B dX6_add_63 ?_
      refine g_iload B dX6_add_64 5 rfl ?_
      refine g_if_eq B 73 dX6_add_66 (by decide) ?_ ?_
      · refine g_iconst (v := 0) B dX6_add_73 (by decide) ?_
        refine g_sub (lv' := [(0, .ref a0), (5, .int x5), (6, .int (v_1 * 5))]) [1, 6, 0] rfl ?_
        exact g6_add_J74 B hS9 hr a0 x5 (v_1 * 5) v_10 ((v_1 * 5) + 3) 0 M_9
      · refine g_iconst (v := 1) B dX6_add_69 (by decide) ?_
        refine g_goto B 74 dX6_add_70 (by decide) ?_
        refine g_sub (lv' := [(0, .ref a0), (5, .int x5), (6, .int (v_1 * 5))]) [1, 6, 0] rfl ?_
        exact g6_add_J74 B hS9 hr a0 x5 (v_1 * 5) v_10 ((v_1 * 5) + 3) 1 M_9
    · refine g_sub (lv' := []) [] rfl ?_
      exact g6_add_J25 B hS9 hr M
theorem c6_add (X : gX) (l : Launch) (a0 : Nat) (x1 : Int32) (x2 : Int32) (x3 : Int32) (x4 : Int32) (x5 : Int32) (M : mMem) : Con X l yX6_add cX6_add 7 (none) rm6_add (fun M9 : mMem => (none, M9)) [.ref a0, .int x1, .int x2, .int x3, .int x4, .int x5] M (p6_add a0 x1 x2 x3 x4 x5 M) := g_con (own := RX6) (by decide +kernel) rfl (Nat.le_of_ble_eq_true rfl) (fun p e s m args below meth c B hS9 hr hn => g6_add B hS9 hr a0 x1 x2 x3 x4 x5 M)
theorem mf2_tell : gMF yX2_tell cX2_tell 6 (some .int) 4 := ⟨wd_535, wd_2, ⟨by decide, by decide⟩, by decide +kernel⟩
set_option maxRecDepth 20000 in
set_option maxHeartbeats 2000000 in
theorem g2_tell_J75 {X : gX} {p : Program} {l : Launch} {e : Env} {s : State} {m : MethodId} {args : Array Value} {below : List Frame} {meth : Method} {c : Code} (B : gB X p (rm2_tell) s m args meth c RX2 cX2_tell 6 (rm2_tell)) (hS9 : gS X s) (hr : meth.sig.returnType = some .int) (a0 : Nat) (x1 : Int32) (x2 : Int32) (x3 : Int32) (x4 : Int32) (a5 : Nat) (M : mMem) : GG X p l e (rm2_tell) s m args below meth c (gP X below args s 0 0 (fun r9 : (Int32 × mMem) => (some (.int r9.1), r9.2))) 6 0 0 75 [(0, .ref a0), (1, .int x1), (2, .int x2), (3, .int x3), (4, .int x4), (5, .ref a5)] [] M (p2_tell_J75 a0 x1 x2 x3 x4 a5 M) := by
  unfold p2_tell_J75
  refine g_aload B dX2_tell_75 5 rfl ?_
  refine g_aload_n B dX2_tell_77 0 rfl ?_
  refine g_aload B dX2_tell_78 5 rfl ?_
  refine g_getI (ci := 8) (T0 := TX8) (N := 9) B (by decide) rfl in_8 (k := 0) (by decide) rfl wd_53 (fun _ h => h) dX2_tell_80 (fun v_1 => ?_)
  refine g_iload B dX2_tell_83 4 rfl ?_
  refine g_iload_n B dX2_tell_85 3 rfl ?_
  refine g_callV_ip [.int v_1, .int x4, .int x3] (ci := 2) (T0 := TX2) (N := 11) B hS9 mf2_moved wd_541 (gw B wd_542) wd_540 (by decide) rfl (fun h => (gd_ne h).1) (c2_moved X l a0 v_1 x4 x3 M) (by decide) (by decide) (by decide) rfl (Nat.le_of_ble_eq_true rfl) dX2_tell_86 rfl (fun v_2 => ?_)
  refine g_putI (ci := 8) (T0 := TX8) (N := 9) B (by decide) rfl in_8 tyX8 tyX8_ok nmX8 (k := 0) (by decide) wd_53 (fun _ h => h) rfl rfl (ty := .int) (by decide +kernel) rfl rfl dX2_tell_89 (fun M_3 => ?_)
  refine g_aload_n B dX2_tell_92 0 rfl ?_
  refine g_getR (ci := 2) (T0 := TX2) (N := 11) B (by decide) rfl in_2 (k := 3) (by decide) rfl wd_137 (fun _ h => h) dX2_tell_93 (fun v_4 => ?_)
  refine g_aload_n B dX2_tell_96 0 rfl ?_
  refine g_getI (ci := 2) (T0 := TX2) (N := 11) B (by decide) rfl in_2 (k := 8) (by decide) rfl wd_159 (fun _ h => h) dX2_tell_97 (fun v_5 => ?_)
  refine g_iload_n B dX2_tell_100 1 rfl ?_
  refine g_iload_n B dX2_tell_101 2 rfl ?_
  refine g_iload_n B dX2_tell_102 3 rfl ?_
  refine g_aload B dX2_tell_103 5 rfl ?_
  refine g_getI (ci := 8) (T0 := TX8) (N := 9) B (by decide) rfl in_8 (k := 0) (by decide) rfl wd_53 (fun _ h => h) dX2_tell_105 (fun v_6 => ?_)
  refine g_callV_vw [.int v_5, .int x1, .int x2, .int x3, .int v_6] (ci := 6) (T0 := TX6) (N := 3) B hS9 mf6_add wd_545 (gw B wd_546) wd_544 (by decide) rfl (fun h => (gd_ne h).1) (c6_add X l v_4 v_5 x1 x2 x3 v_6 M_3) (by decide) (by decide) (by decide) rfl (by decide) dX2_tell_108 rfl (fun q_7 => ?_)
  refine g_aload B dX2_tell_111 5 rfl ?_
  refine g_getI (ci := 8) (T0 := TX8) (N := 9) B (by decide) rfl in_8 (k := 0) (by decide) rfl wd_53 (fun _ h => h) dX2_tell_113 (fun v_8 => ?_)
  exact g_ireturn B hr rfl (by decide) (by decide) rfl dX2_tell_116
set_option maxRecDepth 20000 in
set_option maxHeartbeats 2000000 in
theorem g2_tell_J43 {X : gX} {p : Program} {l : Launch} {e : Env} {s : State} {m : MethodId} {args : Array Value} {below : List Frame} {meth : Method} {c : Code} (B : gB X p (rm2_tell) s m args meth c RX2 cX2_tell 6 (rm2_tell)) (hS9 : gS X s) (hr : meth.sig.returnType = some .int) (a0 : Nat) (x1 : Int32) (x2 : Int32) (x3 : Int32) (x4 : Int32) (a5 : Nat) (M : mMem) : GG X p l e (rm2_tell) s m args below meth c (gP X below args s 0 0 (fun r9 : (Int32 × mMem) => (some (.int r9.1), r9.2))) 6 0 0 43 [(0, .ref a0), (1, .int x1), (2, .int x2), (3, .int x3), (4, .int x4), (5, .ref a5)] [] M (p2_tell_J43 a0 x1 x2 x3 x4 a5 M) := by
  unfold p2_tell_J43
  refine g_iload_n B dX2_tell_43 3 rfl ?_
  refine g_if_ne B 75 dX2_tell_44 (by decide) ?_ ?_
  · refine g_aload B dX2_tell_47 5 rfl ?_
    refine g_getI (ci := 8) (T0 := TX8) (N := 9) B (by decide) rfl in_8 (k := 0) (by decide) rfl wd_53 (fun _ h => h) dX2_tell_49 (fun v_1 => ?_)
    refine g_iload B dX2_tell_52 4 rfl ?_
    refine g_isub B dX2_tell_54 ?_
    refine g_if_ge B 75 dX2_tell_55 (by decide) ?_ ?_
    · refine g_aload B dX2_tell_58 5 rfl ?_
      refine g_bipush (v := 99) B dX2_tell_60 (by decide) ?_
      refine g_aload B dX2_tell_62 5 rfl ?_
      refine g_getI (ci := 8) (T0 := TX8) (N := 9) B (by decide) rfl in_8 (k := 1) (by decide) rfl wd_61 (fun _ h => h) dX2_tell_64 (fun v_2 => ?_)
      refine g_iconst (v := 1) B dX2_tell_67 (by decide) ?_
      refine g_iadd B dX2_tell_68 ?_
      refine g_min B wd_537 wd_538 wd_15 wd_539 (by decide) (Nat.le_of_ble_eq_true rfl) (by decide) dX2_tell_69 ?_
      refine g_putI (ci := 8) (T0 := TX8) (N := 9) B (by decide) rfl in_8 tyX8 tyX8_ok nmX8 (k := 1) (by decide) wd_61 (fun _ h => h) rfl rfl (ty := .int) (by decide +kernel) rfl rfl dX2_tell_72 (fun M_3 => ?_)
      refine g_sub (lv' := [(0, .ref a0), (1, .int x1), (2, .int x2), (3, .int x3), (4, .int x4), (5, .ref a5)]) [0, 1, 2, 3, 4, 5] rfl ?_
      exact g2_tell_J75 B hS9 hr a0 x1 x2 x3 x4 a5 M_3
    · refine g_sub (lv' := [(0, .ref a0), (1, .int x1), (2, .int x2), (3, .int x3), (4, .int x4), (5, .ref a5)]) [0, 1, 2, 3, 4, 5] rfl ?_
      exact g2_tell_J75 B hS9 hr a0 x1 x2 x3 x4 a5 M
  · refine g_sub (lv' := [(0, .ref a0), (1, .int x1), (2, .int x2), (3, .int x3), (4, .int x4), (5, .ref a5)]) [0, 1, 2, 3, 4, 5] rfl ?_
    exact g2_tell_J75 B hS9 hr a0 x1 x2 x3 x4 a5 M
set_option maxRecDepth 20000 in
set_option maxHeartbeats 2000000 in
theorem g2_tell {X : gX} {p : Program} {l : Launch} {e : Env} {s : State} {m : MethodId} {args : Array Value} {below : List Frame} {meth : Method} {c : Code} (B : gB X p (rm2_tell) s m args meth c RX2 cX2_tell 6 (rm2_tell)) (hS9 : gS X s) (hr : meth.sig.returnType = some .int) (a0 : Nat) (x1 : Int32) (x2 : Int32) (x3 : Int32) (x4 : Int32) (M : mMem) : GG X p l e (rm2_tell) s m args below meth c (gP X below args s 0 0 (fun r9 : (Int32 × mMem) => (some (.int r9.1), r9.2))) 6 0 0 0 [(0, .ref a0), (1, .int x1), (2, .int x2), (3, .int x3), (4, .int x4)] [] M (p2_tell a0 x1 x2 x3 x4 M) := by
  unfold p2_tell
  refine g_gd ?_
  refine g_aload_n B dX2_tell_0 0 rfl ?_
  refine g_iload_n B dX2_tell_1 2 rfl ?_
  refine g_callV_ap [.int x2] (ci := 2) (T0 := TX2) (N := 11) B hS9 mf2_at wd_466 (gw B wd_467) wd_465 (by decide) rfl (fun h => (gd_ne h).1) (c2_at X l a0 x2 M) (by decide) (by decide) (by decide) rfl (by decide) dX2_tell_2 rfl (fun v_1 => ?_)
  refine g_astore (lv' := [(5, .ref v_1), (0, .ref a0), (1, .int x1), (2, .int x2), (3, .int x3), (4, .int x4)]) B dX2_tell_5 (by decide) [0, 1, 2, 3, 4, 5] rfl ?_
  refine g_iload_n B dX2_tell_7 4 rfl ?_
  refine g_if_eq B 43 dX2_tell_8 (by decide) ?_ ?_
  · refine g_sub (lv' := [(0, .ref a0), (1, .int x1), (2, .int x2), (3, .int x3), (4, .int x4), (5, .ref v_1)]) [1, 2, 3, 4, 5, 0] rfl ?_
    exact g2_tell_J43 B hS9 hr a0 x1 x2 x3 x4 v_1 M
  · refine g_aload B dX2_tell_11 0 rfl ?_
    refine g_getI (ci := 8) (T0 := TX8) (N := 9) B (by decide) rfl in_8 (k := 0) (by decide) rfl wd_53 (fun _ h => h) dX2_tell_13 (fun v_2 => ?_)
    refine g_iload B dX2_tell_16 5 rfl ?_
    refine g_iadd B dX2_tell_18 ?_
    refine g_aload_n B dX2_tell_19 1 rfl ?_
    refine g_getI (ci := 2) (T0 := TX2) (N := 11) B (by decide) rfl in_2 (k := 5) (by decide) rfl wd_146 (fun _ h => h) dX2_tell_20 (fun v_3 => ?_)
    refine g_icmp_lt B 43 dX2_tell_23 (by decide) ?_ ?_
    · refine g_sub (lv' := [(0, .ref a0), (1, .int x1), (2, .int x2), (3, .int x3), (4, .int x4), (5, .ref v_1)]) [1, 2, 3, 4, 5, 0] rfl ?_
      exact g2_tell_J43 B hS9 hr a0 x1 x2 x3 x4 v_1 M
    · refine g_aload B dX2_tell_26 0 rfl ?_
      refine g_bipush (v := (-99)) B dX2_tell_28 (by decide) ?_
      refine g_aload B dX2_tell_30 0 rfl ?_
      refine g_getI (ci := 8) (T0 := TX8) (N := 9) B (by decide) rfl in_8 (k := 1) (by decide) rfl wd_61 (fun _ h => h) dX2_tell_32 (fun v_4 => ?_)
      refine g_iconst (v := 1) B dX2_tell_35 (by decide) ?_
      refine g_isub B dX2_tell_36 ?_
      refine g_max B wd_536 wd_516 wd_15 wd_517 (by decide) (Nat.le_of_ble_eq_true rfl) (by decide) dX2_tell_37 ?_
      refine g_putI (ci := 8) (T0 := TX8) (N := 9) B (by decide) rfl in_8 tyX8 tyX8_ok nmX8 (k := 1) (by decide) wd_61 (fun _ h => h) rfl rfl (ty := .int) (by decide +kernel) rfl rfl dX2_tell_40 (fun M_5 => ?_)
      refine g_sub (lv' := [(0, .ref a0), (1, .int x1), (2, .int x2), (3, .int x3), (4, .int x4), (5, .ref v_1)]) [1, 2, 3, 4, 5, 0] rfl ?_
      exact g2_tell_J43 B hS9 hr a0 x1 x2 x3 x4 v_1 M_5
theorem c2_tell (X : gX) (l : Launch) (a0 : Nat) (x1 : Int32) (x2 : Int32) (x3 : Int32) (x4 : Int32) (M : mMem) : Con X l yX2_tell cX2_tell 6 (some .int) rm2_tell (fun r9 : (Int32 × mMem) => (some (.int r9.1), r9.2)) [.ref a0, .int x1, .int x2, .int x3, .int x4] M (p2_tell a0 x1 x2 x3 x4 M) := g_con (own := RX2) (by decide +kernel) rfl (Nat.le_of_ble_eq_true rfl) (fun p e s m args below meth c B hS9 hr hn => g2_tell B hS9 hr a0 x1 x2 x3 x4 M)
theorem mf2_endDay : gMF yX2_endDay cX2_endDay 1 (none) 0 := ⟨wd_552, wd_2, ⟨by decide, by decide⟩, by decide +kernel⟩
set_option maxRecDepth 20000 in
set_option maxHeartbeats 2000000 in
theorem g2_endDay {X : gX} {p : Program} {l : Launch} {e : Env} {s : State} {m : MethodId} {args : Array Value} {below : List Frame} {meth : Method} {c : Code} (B : gB X p (rm2_endDay) s m args meth c RX2 cX2_endDay 1 (rm2_endDay)) (hS9 : gS X s) (hr : meth.sig.returnType = none) (a0 : Nat) (M : mMem) : GG X p l e (rm2_endDay) s m args below meth c (gP X below args s 0 0 (fun M9 : mMem => (none, M9))) 1 0 0 0 [(0, .ref a0)] [] M (p2_endDay a0 M) := by
  unfold p2_endDay
  refine g_gd ?_
  refine g_aload_n B dX2_endDay_0 0 rfl ?_
  refine g_sipush (v := 9999) B dX2_endDay_1 (by decide) ?_
  refine g_aload_n B dX2_endDay_4 0 rfl ?_
  refine g_getI (ci := 2) (T0 := TX2) (N := 11) B (by decide) rfl in_2 (k := 8) (by decide) rfl wd_159 (fun _ h => h) dX2_endDay_5 (fun v_1 => ?_)
  refine g_iconst (v := 1) B dX2_endDay_8 (by decide) ?_
  refine g_iadd B dX2_endDay_9 ?_
  refine g_min B wd_537 wd_538 wd_15 wd_539 (by decide) (Nat.le_of_ble_eq_true rfl) (by decide) dX2_endDay_10 ?_
  refine g_putI (ci := 2) (T0 := TX2) (N := 11) B (by decide) rfl in_2 tyX2 tyX2_ok nmX2 (k := 8) (by decide) wd_159 (fun _ h => h) rfl rfl (ty := .int) (by decide +kernel) rfl rfl dX2_endDay_13 (fun M_2 => ?_)
  exact g_vreturn B hr (by decide) (by decide) rfl dX2_endDay_16
theorem c2_endDay (X : gX) (l : Launch) (a0 : Nat) (M : mMem) : Con X l yX2_endDay cX2_endDay 1 (none) rm2_endDay (fun M9 : mMem => (none, M9)) [.ref a0] M (p2_endDay a0 M) := g_con (own := RX2) (by decide +kernel) rfl (Nat.le_of_ble_eq_true rfl) (fun p e s m args below meth c B hS9 hr hn => g2_endDay B hS9 hr a0 M)
theorem mf1_passDay : gMF yX1_passDay cX1_passDay 7 (some .int) 1 := ⟨wd_1270, wd_9, ⟨by decide, by decide⟩, by decide +kernel⟩
set_option maxRecDepth 20000 in
set_option maxHeartbeats 2000000 in
theorem g1_passDay_J124 {X : gX} {p : Program} {l : Launch} {e : Env} {s : State} {m : MethodId} {args : Array Value} {below : List Frame} {meth : Method} {c : Code} (B : gB X p (rm1_passDay) s m args meth c RX1 cX1_passDay 7 (rm1_passDay)) (hS9 : gS X s) (hr : meth.sig.returnType = some .int) (rec4 : Nat → Nat → Int32 → Int32 → mMem → Option (Int32 × mMem)) (hrec4 : ∀ (a0 : Nat) (a1 : Nat) (x2 : Int32) (x3 : Int32) (M : mMem), GG X p l e (rm1_passDay) s m args below meth c (gP X below args s 0 0 (fun r9 : (Int32 × mMem) => (some (.int r9.1), r9.2))) 7 0 0 4 [(0, .ref a0), (1, .ref a1), (2, .int x2), (3, .int x3)] [] M (rec4 a0 a1 x2 x3 M)) (a0 : Nat) (a1 : Nat) (x2 : Int32) (x3 : Int32) (M : mMem) : GG X p l e (rm1_passDay) s m args below meth c (gP X below args s 0 0 (fun r9 : (Int32 × mMem) => (some (.int r9.1), r9.2))) 7 0 0 124 [(0, .ref a0), (1, .ref a1), (2, .int x2), (3, .int x3)] [] M (p1_passDay_J124 rec4 a0 a1 x2 x3 M) := by
  unfold p1_passDay_J124
  refine g_iinc (v := (x3 + 1)) (lv' := [(3, .int (x3 + 1)), (0, .ref a0), (1, .ref a1), (2, .int x2)]) B dX1_passDay_124 3 rfl rfl (by decide) [0, 1, 2, 3] rfl ?_
  refine g_goto B 4 dX1_passDay_127 (by decide) ?_
  refine g_sub (lv' := [(0, .ref a0), (1, .ref a1), (2, .int x2), (3, .int (x3 + 1))]) [1, 2, 3, 0] rfl ?_
  exact hrec4 a0 a1 x2 (x3 + 1) M
set_option maxRecDepth 20000 in
set_option maxHeartbeats 2000000 in
theorem g1_passDay_J122 {X : gX} {p : Program} {l : Launch} {e : Env} {s : State} {m : MethodId} {args : Array Value} {below : List Frame} {meth : Method} {c : Code} (B : gB X p (rm1_passDay) s m args meth c RX1 cX1_passDay 7 (rm1_passDay)) (hS9 : gS X s) (hr : meth.sig.returnType = some .int) (rec4 : Nat → Nat → Int32 → Int32 → mMem → Option (Int32 × mMem)) (hrec4 : ∀ (a0 : Nat) (a1 : Nat) (x2 : Int32) (x3 : Int32) (M : mMem), GG X p l e (rm1_passDay) s m args below meth c (gP X below args s 0 0 (fun r9 : (Int32 × mMem) => (some (.int r9.1), r9.2))) 7 0 0 4 [(0, .ref a0), (1, .ref a1), (2, .int x2), (3, .int x3)] [] M (rec4 a0 a1 x2 x3 M)) (a0 : Nat) (a1 : Nat) (x3 : Int32) (u0 : Int32) (u1 : Int32) (M : mMem) : GG X p l e (rm1_passDay) s m args below meth c (gP X below args s 0 0 (fun r9 : (Int32 × mMem) => (some (.int r9.1), r9.2))) 7 0 0 122 [(0, .ref a0), (1, .ref a1), (3, .int x3)] [.int u1, .int u0] M (p1_passDay_J122 rec4 a0 a1 x3 u0 u1 M) := by
  unfold p1_passDay_J122
  refine g_iadd B dX1_passDay_122 ?_
  refine g_istore_n (lv' := [(2, .int (u0 + u1)), (0, .ref a0), (1, .ref a1), (3, .int x3)]) B dX1_passDay_123 (by decide) [0, 1, 2, 3] rfl ?_
  refine g_sub (lv' := [(0, .ref a0), (1, .ref a1), (2, .int (u0 + u1)), (3, .int x3)]) [1, 2, 0, 3] rfl ?_
  exact g1_passDay_J124 B hS9 hr rec4 hrec4 a0 a1 (u0 + u1) x3 M
set_option maxRecDepth 20000 in
set_option maxHeartbeats 2000000 in
theorem g1_passDay_J86 {X : gX} {p : Program} {l : Launch} {e : Env} {s : State} {m : MethodId} {args : Array Value} {below : List Frame} {meth : Method} {c : Code} (B : gB X p (rm1_passDay) s m args meth c RX1 cX1_passDay 7 (rm1_passDay)) (hS9 : gS X s) (hr : meth.sig.returnType = some .int) (rec4 : Nat → Nat → Int32 → Int32 → mMem → Option (Int32 × mMem)) (hrec4 : ∀ (a0 : Nat) (a1 : Nat) (x2 : Int32) (x3 : Int32) (M : mMem), GG X p l e (rm1_passDay) s m args below meth c (gP X below args s 0 0 (fun r9 : (Int32 × mMem) => (some (.int r9.1), r9.2))) 7 0 0 4 [(0, .ref a0), (1, .ref a1), (2, .int x2), (3, .int x3)] [] M (rec4 a0 a1 x2 x3 M)) (a0 : Nat) (a1 : Nat) (x2 : Int32) (x3 : Int32) (x5 : Int32) (u0 : Int32) (M : mMem) : GG X p l e (rm1_passDay) s m args below meth c (gP X below args s 0 0 (fun r9 : (Int32 × mMem) => (some (.int r9.1), r9.2))) 7 0 0 86 [(0, .ref a0), (1, .ref a1), (2, .int x2), (3, .int x3), (5, .int x5)] [.int u0] M (p1_passDay_J86 rec4 a0 a1 x2 x3 x5 u0 M) := by
  unfold p1_passDay_J86
  refine g_istore (lv' := [(6, .int u0), (0, .ref a0), (1, .ref a1), (2, .int x2), (3, .int x3), (5, .int x5)]) B dX1_passDay_86 (by decide) [0, 1, 2, 3, 4, 5] rfl ?_
  refine g_aload_n B dX1_passDay_88 2 rfl ?_
  refine g_iload B dX1_passDay_89 5 rfl ?_
  refine g_iload_n B dX1_passDay_91 4 rfl ?_
  refine g_iload B dX1_passDay_92 0 rfl ?_
  refine g_aload_n B dX1_passDay_94 1 rfl ?_
  refine g_getR (ci := 1) (T0 := TX1) (N := 3) B (by decide) rfl in_1 (k := 1) (by decide) rfl wd_303 (fun _ h => h) dX1_passDay_95 (fun v_1 => ?_)
  refine g_aload_n B dX1_passDay_98 2 rfl ?_
  refine g_iload B dX1_passDay_99 5 rfl ?_
  refine g_iload_n B dX1_passDay_101 4 rfl ?_
  refine g_iload B dX1_passDay_102 0 rfl ?_
  refine g_callV_iw [.ref a1, .int x5, .int x3, .int u0] (ci := 4) (T0 := TX4) (N := 10) B hS9 mf4_weight wd_507 (gw B wd_508) wd_506 (by decide) rfl (fun h => (gd_ne h).1) (c4_weight X l v_1 a1 x5 x3 u0 M) (by decide) (by decide) (by decide) rfl (Nat.le_of_ble_eq_true rfl) dX1_passDay_104 rfl (fun q_2 => ?_)
  refine g_callV_iw [.int x5, .int x3, .int u0, .int q_2.1] (ci := 2) (T0 := TX2) (N := 11) B hS9 mf2_tell wd_533 (gw B wd_534) wd_532 (by decide) rfl (fun h => (gd_ne h).1) (c2_tell X l a1 x5 x3 u0 q_2.1 q_2.2) (by decide) (by decide) (by decide) rfl (by decide) dX1_passDay_107 rfl (fun q_3 => ?_)
  refine g_pop B dX1_passDay_110 rfl ?_
  refine g_iload_n B dX1_passDay_111 3 rfl ?_
  refine g_iload B dX1_passDay_112 0 rfl ?_
  refine g_if_eq B 121 dX1_passDay_114 (by decide) ?_ ?_
  · refine g_iconst (v := 1) B dX1_passDay_121 (by decide) ?_
    refine g_sub (lv' := [(0, .ref a0), (1, .ref a1), (3, .int x3)]) [1, 2, 4] rfl ?_
    exact g1_passDay_J122 B hS9 hr rec4 hrec4 a0 a1 x3 x2 1 q_3.2
  · refine g_iconst (v := 0) B dX1_passDay_117 (by decide) ?_
    refine g_goto B 122 dX1_passDay_118 (by decide) ?_
    refine g_sub (lv' := [(0, .ref a0), (1, .ref a1), (3, .int x3)]) [1, 2, 4] rfl ?_
    exact g1_passDay_J122 B hS9 hr rec4 hrec4 a0 a1 x3 x2 0 q_3.2
set_option maxRecDepth 20000 in
set_option maxHeartbeats 2000000 in
theorem g1_passDay_L4 {X : gX} {p : Program} {l : Launch} {e : Env} {s : State} {m : MethodId} {args : Array Value} {below : List Frame} {meth : Method} {c : Code} (B : gB X p (rm1_passDay) s m args meth c RX1 cX1_passDay 7 (rm1_passDay)) (hS9 : gS X s) (hr : meth.sig.returnType = some .int) : ∀ (n : Nat) (a0 : Nat) (a1 : Nat) (x2 : Int32) (x3 : Int32) (M : mMem), GG X p l e (rm1_passDay) s m args below meth c (gP X below args s 0 0 (fun r9 : (Int32 × mMem) => (some (.int r9.1), r9.2))) 7 0 0 4 [(0, .ref a0), (1, .ref a1), (2, .int x2), (3, .int x3)] [] M (p1_passDay_L4 n a0 a1 x2 x3 M) := by
  intro n
  induction n with
  | zero => intro a0 a1 x2 x3 M; exact g_none
  | succ n ih =>
    intro a0 a1 x2 x3 M
    rw [p1_passDay_L4]
    refine g_iload_n B dX1_passDay_4 3 rfl ?_
    refine g_aload_n B dX1_passDay_5 1 rfl ?_
    refine g_getI (ci := 2) (T0 := TX2) (N := 11) B (by decide) rfl in_2 (k := 4) (by decide) rfl wd_142 (fun _ h => h) dX1_passDay_6 (fun v_1 => ?_)
    refine g_icmp_ge B 130 dX1_passDay_9 (by decide) ?_ ?_
    · refine g_aload_n B dX1_passDay_12 1 rfl ?_
      refine g_iload_n B dX1_passDay_13 3 rfl ?_
      refine g_callV_ap [.int x3] (ci := 2) (T0 := TX2) (N := 11) B hS9 mf2_at wd_466 (gw B wd_467) wd_493 (by decide) rfl (fun h => (gd_ne h).1) (c2_at X l a1 x3 M) (by decide) (by decide) (by decide) rfl (by decide) dX1_passDay_14 rfl (fun v_3 => ?_)
      refine g_getI (ci := 8) (T0 := TX8) (N := 9) B (by decide) rfl in_8 (k := 8) (by decide) rfl wd_93 (fun _ h => h) dX1_passDay_17 (fun v_4 => ?_)
      refine g_callS_ip [.int v_4] B hS9 mfJ6_bitCount wd_1272 wd_1271 (cJ6_bitCount X l v_4 M) (by decide) (by decide) (by decide) rfl (by decide) dX1_passDay_20 rfl (fun v_5 => ?_)
      refine g_istore (lv' := [(4, .int v_5), (0, .ref a0), (1, .ref a1), (2, .int x2), (3, .int x3)]) B dX1_passDay_23 (by decide) [0, 1, 2, 3, 4] rfl ?_
      refine g_iload B dX1_passDay_25 0 rfl ?_
      refine g_if_le B 124 dX1_passDay_27 (by decide) ?_ ?_
      · refine g_aload_n B dX1_passDay_30 2 rfl ?_
        refine g_callV_iw [] (ci := 2) (T0 := TX2) (N := 11) B hS9 mf2_draw wd_1278 (gw B wd_1279) wd_1277 (by decide) rfl (fun h => (gd_ne h).1) (c2_draw X l a1 M) (by decide) (by decide) (by decide) rfl (by decide) dX1_passDay_31 rfl (fun q_6 => ?_)
        refine g_bipush (v := 100) B dX1_passDay_34 (by decide) ?_
        refine g_irem B dX1_passDay_36 (fun v_7 => ?_)
        refine g_aload_n B dX1_passDay_37 2 rfl ?_
        refine g_iload_n B dX1_passDay_38 4 rfl ?_
        refine g_callV_ap [.int x3] (ci := 2) (T0 := TX2) (N := 11) B hS9 mf2_at wd_466 (gw B wd_467) wd_493 (by decide) rfl (fun h => (gd_ne h).1) (c2_at X l a1 x3 q_6.2) (by decide) (by decide) (by decide) rfl (Nat.le_of_ble_eq_true rfl) dX1_passDay_39 rfl (fun v_8 => ?_)
        refine g_getI (ci := 8) (T0 := TX8) (N := 9) B (by decide) rfl in_8 (k := 5) (by decide) rfl wd_79 (fun _ h => h) dX1_passDay_42 (fun v_9 => ?_)
        refine g_icmp_ge B 124 dX1_passDay_45 (by decide) ?_ ?_
        · refine g_aload_n B dX1_passDay_48 2 rfl ?_
          refine g_iload_n B dX1_passDay_49 4 rfl ?_
          refine g_aload_n B dX1_passDay_50 2 rfl ?_
          refine g_callV_iw [] (ci := 2) (T0 := TX2) (N := 11) B hS9 mf2_draw wd_1278 (gw B wd_1279) wd_1277 (by decide) rfl (fun h => (gd_ne h).1) (c2_draw X l a1 q_6.2) (by decide) (by decide) (by decide) rfl (Nat.le_of_ble_eq_true rfl) dX1_passDay_51 rfl (fun q_10 => ?_)
          refine g_iload B dX1_passDay_54 0 rfl ?_
          refine g_irem B dX1_passDay_56 (fun v_11 => ?_)
          refine g_callV_ip [.int x3, .int v_11] (ci := 2) (T0 := TX2) (N := 11) B hS9 mf2_governorAt wd_495 (gw B wd_496) wd_494 (by decide) rfl (fun h => (gd_ne h).1) (c2_governorAt X l a1 x3 v_11 q_10.2) (by decide) (by decide) (by decide) rfl (by decide) dX1_passDay_57 rfl (fun v_12 => ?_)
          refine g_istore (lv' := [(5, .int v_12), (4, .int v_5), (0, .ref a0), (1, .ref a1), (2, .int x2), (3, .int x3)]) B dX1_passDay_60 (by decide) [0, 1, 2, 3, 4, 5] rfl ?_
          refine g_aload_n B dX1_passDay_62 3 rfl ?_
          refine g_callV_iw [] (ci := 2) (T0 := TX2) (N := 11) B hS9 mf2_draw wd_1278 (gw B wd_1279) wd_1277 (by decide) rfl (fun h => (gd_ne h).1) (c2_draw X l a1 q_10.2) (by decide) (by decide) (by decide) rfl (by decide) dX1_passDay_63 rfl (fun q_13 => ?_)
          refine g_bipush (v := 100) B dX1_passDay_66 (by decide) ?_
          refine g_irem B dX1_passDay_68 (fun v_14 => ?_)
          refine g_aload_n B dX1_passDay_69 3 rfl ?_
          refine g_iload B dX1_passDay_70 0 rfl ?_
          refine g_callV_ap [.int v_12] (ci := 2) (T0 := TX2) (N := 11) B hS9 mf2_at wd_466 (gw B wd_467) wd_493 (by decide) rfl (fun h => (gd_ne h).1) (c2_at X l a1 v_12 q_13.2) (by decide) (by decide) (by decide) rfl (Nat.le_of_ble_eq_true rfl) dX1_passDay_72 rfl (fun v_15 => ?_)
          refine g_getI (ci := 8) (T0 := TX8) (N := 9) B (by decide) rfl in_8 (k := 6) (by decide) rfl wd_84 (fun _ h => h) dX1_passDay_75 (fun v_16 => ?_)
          refine g_icmp_lt B 85 dX1_passDay_78 (by decide) ?_ ?_
          · refine g_iconst (v := 0) B dX1_passDay_85 (by decide) ?_
            refine g_sub (lv' := [(0, .ref a0), (1, .ref a1), (2, .int x2), (3, .int x3), (5, .int v_12)]) [2, 3, 4, 5, 0] rfl ?_
            exact g1_passDay_J86 B hS9 hr (p1_passDay_L4 n) ih a0 a1 x2 x3 v_12 0 q_13.2
          · refine g_iconst (v := 1) B dX1_passDay_81 (by decide) ?_
            refine g_goto B 86 dX1_passDay_82 (by decide) ?_
            refine g_sub (lv' := [(0, .ref a0), (1, .ref a1), (2, .int x2), (3, .int x3), (5, .int v_12)]) [2, 3, 4, 5, 0] rfl ?_
            exact g1_passDay_J86 B hS9 hr (p1_passDay_L4 n) ih a0 a1 x2 x3 v_12 1 q_13.2
        · refine g_sub (lv' := [(0, .ref a0), (1, .ref a1), (2, .int x2), (3, .int x3)]) [1, 2, 3, 4] rfl ?_
          exact g1_passDay_J124 B hS9 hr (p1_passDay_L4 n) ih a0 a1 x2 x3 q_6.2
      · refine g_sub (lv' := [(0, .ref a0), (1, .ref a1), (2, .int x2), (3, .int x3)]) [1, 2, 3, 4] rfl ?_
        exact g1_passDay_J124 B hS9 hr (p1_passDay_L4 n) ih a0 a1 x2 x3 M
    · refine g_aload_n B dX1_passDay_130 1 rfl ?_
      refine g_callV_vw [] (ci := 2) (T0 := TX2) (N := 11) B hS9 mf2_endDay wd_550 (gw B wd_551) wd_549 (by decide) rfl (fun h => (gd_ne h).1) (c2_endDay X l a1 M) (by decide) (by decide) (by decide) rfl (by decide) dX1_passDay_131 rfl (fun q_2 => ?_)
      refine g_iload_n B dX1_passDay_134 2 rfl ?_
      exact g_ireturn B hr rfl (by decide) (by decide) rfl dX1_passDay_135
set_option maxRecDepth 20000 in
set_option maxHeartbeats 2000000 in
theorem g1_passDay {X : gX} {p : Program} {l : Launch} {e : Env} {s : State} {m : MethodId} {args : Array Value} {below : List Frame} {meth : Method} {c : Code} (B : gB X p (rm1_passDay) s m args meth c RX1 cX1_passDay 7 (rm1_passDay)) (hS9 : gS X s) (hr : meth.sig.returnType = some .int) (a0 : Nat) (a1 : Nat) (M : mMem) : GG X p l e (rm1_passDay) s m args below meth c (gP X below args s 0 0 (fun r9 : (Int32 × mMem) => (some (.int r9.1), r9.2))) 7 0 0 0 [(0, .ref a0), (1, .ref a1)] [] M (p1_passDay a0 a1 M) := by
  unfold p1_passDay
  refine g_gd ?_
  refine g_iconst (v := 0) B dX1_passDay_0 (by decide) ?_
  refine g_istore_n (lv' := [(2, .int 0), (0, .ref a0), (1, .ref a1)]) B dX1_passDay_1 (by decide) [0, 1, 2] rfl ?_
  refine g_iconst (v := 0) B dX1_passDay_2 (by decide) ?_
  refine g_istore_n (lv' := [(3, .int 0), (2, .int 0), (0, .ref a0), (1, .ref a1)]) B dX1_passDay_3 (by decide) [0, 1, 2, 3] rfl ?_
  refine g_sub (lv' := [(0, .ref a0), (1, .ref a1), (2, .int 0), (3, .int 0)]) [2, 3, 1, 0] rfl ?_
  exact (g1_passDay_L4 B hS9 hr) gF a0 a1 0 0 M
theorem c1_passDay (X : gX) (l : Launch) (a0 : Nat) (a1 : Nat) (M : mMem) : Con X l yX1_passDay cX1_passDay 7 (some .int) rm1_passDay (fun r9 : (Int32 × mMem) => (some (.int r9.1), r9.2)) [.ref a0, .ref a1] M (p1_passDay a0 a1 M) := g_con (own := RX1) (by decide +kernel) rfl (Nat.le_of_ble_eq_true rfl) (fun p e s m args below meth c B hS9 hr hn => g1_passDay B hS9 hr a0 a1 M)
theorem mf1_pass : gMF yX1_pass cX1_pass 5 (some .int) 2 := ⟨wd_1266, wd_9, ⟨by decide, by decide⟩, by decide +kernel⟩
set_option maxRecDepth 20000 in
set_option maxHeartbeats 2000000 in
theorem g1_pass_L5 {X : gX} {p : Program} {l : Launch} {e : Env} {s : State} {m : MethodId} {args : Array Value} {below : List Frame} {meth : Method} {c : Code} (B : gB X p (rm1_pass) s m args meth c RX1 cX1_pass 5 (rm1_pass)) (hS9 : gS X s) (hr : meth.sig.returnType = some .int) : ∀ (n : Nat) (a0 : Nat) (a1 : Nat) (x2 : Int32) (x3 : Int32) (x4 : Int32) (M : mMem), GG X p l e (rm1_pass) s m args below meth c (gP X below args s 0 0 (fun r9 : (Int32 × mMem) => (some (.int r9.1), r9.2))) 5 0 0 5 [(0, .ref a0), (1, .ref a1), (2, .int x2), (3, .int x3), (4, .int x4)] [] M (p1_pass_L5 n a0 a1 x2 x3 x4 M) := by
  intro n
  induction n with
  | zero => intro a0 a1 x2 x3 x4 M; exact g_none
  | succ n ih =>
    intro a0 a1 x2 x3 x4 M
    rw [p1_pass_L5]
    refine g_iload B dX1_pass_5 4 rfl ?_
    refine g_iload_n B dX1_pass_7 2 rfl ?_
    refine g_icmp_ge B 25 dX1_pass_8 (by decide) ?_ ?_
    · refine g_iload_n B dX1_pass_11 3 rfl ?_
      refine g_aload_n B dX1_pass_12 0 rfl ?_
      refine g_aload_n B dX1_pass_13 1 rfl ?_
      refine g_callV_iw [.ref a1] (ci := 1) (T0 := TX1) (N := 3) B hS9 mf1_passDay wd_1269 (gw B wp_26) wd_1267 (by decide) rfl (fun h => (gd_ne h).1) (c1_passDay X l a0 a1 M) (by decide) (by decide) (by decide) rfl (Nat.le_of_ble_eq_true rfl) dX1_pass_14 rfl (fun q_1 => ?_)
      refine g_iadd B dX1_pass_17 ?_
      refine g_istore_n (lv' := [(3, .int (x3 + q_1.1)), (0, .ref a0), (1, .ref a1), (2, .int x2), (4, .int x4)]) B dX1_pass_18 (by decide) [0, 1, 2, 3, 4] rfl ?_
      refine g_iinc (v := (x4 + 1)) (lv' := [(4, .int (x4 + 1)), (3, .int (x3 + q_1.1)), (0, .ref a0), (1, .ref a1), (2, .int x2)]) B dX1_pass_19 4 rfl rfl (by decide) [0, 1, 2, 3, 4] rfl ?_
      refine g_goto B 5 dX1_pass_22 (by decide) ?_
      refine g_sub (lv' := [(0, .ref a0), (1, .ref a1), (2, .int x2), (3, .int (x3 + q_1.1)), (4, .int (x4 + 1))]) [2, 3, 4, 1, 0] rfl ?_
      exact ih a0 a1 x2 (x3 + q_1.1) (x4 + 1) q_1.2
    · refine g_iload_n B dX1_pass_25 3 rfl ?_
      exact g_ireturn B hr rfl (by decide) (by decide) rfl dX1_pass_26
set_option maxRecDepth 20000 in
set_option maxHeartbeats 2000000 in
theorem g1_pass {X : gX} {p : Program} {l : Launch} {e : Env} {s : State} {m : MethodId} {args : Array Value} {below : List Frame} {meth : Method} {c : Code} (B : gB X p (rm1_pass) s m args meth c RX1 cX1_pass 5 (rm1_pass)) (hS9 : gS X s) (hr : meth.sig.returnType = some .int) (a0 : Nat) (a1 : Nat) (x2 : Int32) (M : mMem) : GG X p l e (rm1_pass) s m args below meth c (gP X below args s 0 0 (fun r9 : (Int32 × mMem) => (some (.int r9.1), r9.2))) 5 0 0 0 [(0, .ref a0), (1, .ref a1), (2, .int x2)] [] M (p1_pass a0 a1 x2 M) := by
  unfold p1_pass
  refine g_gd ?_
  refine g_iconst (v := 0) B dX1_pass_0 (by decide) ?_
  refine g_istore_n (lv' := [(3, .int 0), (0, .ref a0), (1, .ref a1), (2, .int x2)]) B dX1_pass_1 (by decide) [0, 1, 2, 3] rfl ?_
  refine g_iconst (v := 0) B dX1_pass_2 (by decide) ?_
  refine g_istore (lv' := [(4, .int 0), (3, .int 0), (0, .ref a0), (1, .ref a1), (2, .int x2)]) B dX1_pass_3 (by decide) [0, 1, 2, 3, 4] rfl ?_
  refine g_sub (lv' := [(0, .ref a0), (1, .ref a1), (2, .int x2), (3, .int 0), (4, .int 0)]) [2, 3, 4, 1, 0] rfl ?_
  exact (g1_pass_L5 B hS9 hr) gF a0 a1 x2 0 0 M
theorem c1_pass (X : gX) (l : Launch) (a0 : Nat) (a1 : Nat) (x2 : Int32) (M : mMem) : Con X l yX1_pass cX1_pass 5 (some .int) rm1_pass (fun r9 : (Int32 × mMem) => (some (.int r9.1), r9.2)) [.ref a0, .ref a1, .int x2] M (p1_pass a0 a1 x2 M) := g_con (own := RX1) (by decide +kernel) rfl (Nat.le_of_ble_eq_true rfl) (fun p e s m args below meth c B hS9 hr hn => g1_pass B hS9 hr a0 a1 x2 M)
theorem mf1_passAhead : gMF yX1_passAhead cX1_passAhead 5 (none) 2 := ⟨wd_492, wd_9, ⟨by decide, by decide⟩, by decide +kernel⟩
set_option maxRecDepth 20000 in
set_option maxHeartbeats 2000000 in
theorem g1_passAhead_J50 {X : gX} {p : Program} {l : Launch} {e : Env} {s : State} {m : MethodId} {args : Array Value} {below : List Frame} {meth : Method} {c : Code} (B : gB X p (rm1_passAhead) s m args meth c RX1 cX1_passAhead 5 (rm1_passAhead)) (hS9 : gS X s) (hr : meth.sig.returnType = none) (rec2 : Nat → Nat → Int32 → Int32 → mMem → Option mMem) (hrec2 : ∀ (a0 : Nat) (a1 : Nat) (x2 : Int32) (x3 : Int32) (M : mMem), GG X p l e (rm1_passAhead) s m args below meth c (gP X below args s 0 0 (fun M9 : mMem => (none, M9))) 5 0 0 2 [(0, .ref a0), (1, .ref a1), (2, .int x2), (3, .int x3)] [] M (rec2 a0 a1 x2 x3 M)) (a0 : Nat) (a1 : Nat) (x2 : Int32) (x3 : Int32) (M : mMem) : GG X p l e (rm1_passAhead) s m args below meth c (gP X below args s 0 0 (fun M9 : mMem => (none, M9))) 5 0 0 50 [(0, .ref a0), (1, .ref a1), (2, .int x2), (3, .int x3)] [] M (p1_passAhead_J50 rec2 a0 a1 x2 x3 M) := by
  unfold p1_passAhead_J50
  refine g_iinc (v := (x3 + 1)) (lv' := [(3, .int (x3 + 1)), (0, .ref a0), (1, .ref a1), (2, .int x2)]) B dX1_passAhead_50 3 rfl rfl (by decide) [0, 1, 2, 3] rfl ?_
  refine g_goto B 2 dX1_passAhead_53 (by decide) ?_
  refine g_sub (lv' := [(0, .ref a0), (1, .ref a1), (2, .int x2), (3, .int (x3 + 1))]) [1, 2, 3, 0] rfl ?_
  exact hrec2 a0 a1 x2 (x3 + 1) M
set_option maxRecDepth 20000 in
set_option maxHeartbeats 2000000 in
theorem g1_passAhead_L2 {X : gX} {p : Program} {l : Launch} {e : Env} {s : State} {m : MethodId} {args : Array Value} {below : List Frame} {meth : Method} {c : Code} (B : gB X p (rm1_passAhead) s m args meth c RX1 cX1_passAhead 5 (rm1_passAhead)) (hS9 : gS X s) (hr : meth.sig.returnType = none) : ∀ (n : Nat) (a0 : Nat) (a1 : Nat) (x2 : Int32) (x3 : Int32) (M : mMem), GG X p l e (rm1_passAhead) s m args below meth c (gP X below args s 0 0 (fun M9 : mMem => (none, M9))) 5 0 0 2 [(0, .ref a0), (1, .ref a1), (2, .int x2), (3, .int x3)] [] M (p1_passAhead_L2 n a0 a1 x2 x3 M) := by
  intro n
  induction n with
  | zero => intro a0 a1 x2 x3 M; exact g_none
  | succ n ih =>
    intro a0 a1 x2 x3 M
    rw [p1_passAhead_L2]
    refine g_iload_n B dX1_passAhead_2 3 rfl ?_
    refine g_aload_n B dX1_passAhead_3 1 rfl ?_
    refine g_getI (ci := 2) (T0 := TX2) (N := 11) B (by decide) rfl in_2 (k := 4) (by decide) rfl wd_142 (fun _ h => h) dX1_passAhead_4 (fun v_1 => ?_)
    refine g_icmp_ge B 56 dX1_passAhead_7 (by decide) ?_ ?_
    · refine g_aload_n B dX1_passAhead_10 1 rfl ?_
      refine g_iload_n B dX1_passAhead_11 3 rfl ?_
      refine g_callV_ap [.int x3] (ci := 2) (T0 := TX2) (N := 11) B hS9 mf2_at wd_466 (gw B wd_467) wd_493 (by decide) rfl (fun h => (gd_ne h).1) (c2_at X l a1 x3 M) (by decide) (by decide) (by decide) rfl (by decide) dX1_passAhead_12 rfl (fun v_3 => ?_)
      refine g_getI (ci := 8) (T0 := TX8) (N := 9) B (by decide) rfl in_8 (k := 8) (by decide) rfl wd_93 (fun _ h => h) dX1_passAhead_15 (fun v_4 => ?_)
      refine g_if_eq B 50 dX1_passAhead_18 (by decide) ?_ ?_
      · refine g_sub (lv' := [(0, .ref a0), (1, .ref a1), (2, .int x2), (3, .int x3)]) [0, 1, 2, 3] rfl ?_
        exact g1_passAhead_J50 B hS9 hr (p1_passAhead_L2 n) ih a0 a1 x2 x3 M
      · refine g_aload_n B dX1_passAhead_21 1 rfl ?_
        refine g_iload_n B dX1_passAhead_22 3 rfl ?_
        refine g_iconst (v := 0) B dX1_passAhead_23 (by decide) ?_
        refine g_callV_ip [.int x3, .int 0] (ci := 2) (T0 := TX2) (N := 11) B hS9 mf2_governorAt wd_495 (gw B wd_496) wd_494 (by decide) rfl (fun h => (gd_ne h).1) (c2_governorAt X l a1 x3 0 M) (by decide) (by decide) (by decide) rfl (by decide) dX1_passAhead_24 rfl (fun v_5 => ?_)
        refine g_istore (lv' := [(4, .int v_5), (0, .ref a0), (1, .ref a1), (2, .int x2), (3, .int x3)]) B dX1_passAhead_27 (by decide) [0, 1, 2, 3, 4] rfl ?_
        refine g_aload_n B dX1_passAhead_29 2 rfl ?_
        refine g_iload B dX1_passAhead_30 0 rfl ?_
        refine g_iload_n B dX1_passAhead_32 4 rfl ?_
        refine g_iload_n B dX1_passAhead_33 3 rfl ?_
        refine g_aload_n B dX1_passAhead_34 1 rfl ?_
        refine g_getR (ci := 1) (T0 := TX1) (N := 3) B (by decide) rfl in_1 (k := 1) (by decide) rfl wd_303 (fun _ h => h) dX1_passAhead_35 (fun v_6 => ?_)
        refine g_aload_n B dX1_passAhead_38 2 rfl ?_
        refine g_iload B dX1_passAhead_39 0 rfl ?_
        refine g_iload_n B dX1_passAhead_41 4 rfl ?_
        refine g_iload_n B dX1_passAhead_42 3 rfl ?_
        refine g_callV_iw [.ref a1, .int v_5, .int x3, .int x2] (ci := 4) (T0 := TX4) (N := 10) B hS9 mf4_weight wd_507 (gw B wd_508) wd_506 (by decide) rfl (fun h => (gd_ne h).1) (c4_weight X l v_6 a1 v_5 x3 x2 M) (by decide) (by decide) (by decide) rfl (Nat.le_of_ble_eq_true rfl) dX1_passAhead_43 rfl (fun q_7 => ?_)
        refine g_callV_iw [.int v_5, .int x3, .int x2, .int q_7.1] (ci := 2) (T0 := TX2) (N := 11) B hS9 mf2_tell wd_533 (gw B wd_534) wd_532 (by decide) rfl (fun h => (gd_ne h).1) (c2_tell X l a1 v_5 x3 x2 q_7.1 q_7.2) (by decide) (by decide) (by decide) rfl (by decide) dX1_passAhead_46 rfl (fun q_8 => ?_)
        refine g_pop B dX1_passAhead_49 rfl ?_
        refine g_sub (lv' := [(0, .ref a0), (1, .ref a1), (2, .int x2), (3, .int x3)]) [1, 2, 3, 4] rfl ?_
        exact g1_passAhead_J50 B hS9 hr (p1_passAhead_L2 n) ih a0 a1 x2 x3 q_8.2
    · refine g_aload_n B dX1_passAhead_56 1 rfl ?_
      refine g_callV_vw [] (ci := 2) (T0 := TX2) (N := 11) B hS9 mf2_endDay wd_550 (gw B wd_551) wd_549 (by decide) rfl (fun h => (gd_ne h).1) (c2_endDay X l a1 M) (by decide) (by decide) (by decide) rfl (by decide) dX1_passAhead_57 rfl (fun q_2 => ?_)
      exact g_vreturn B hr (by decide) (by decide) rfl dX1_passAhead_60
set_option maxRecDepth 20000 in
set_option maxHeartbeats 2000000 in
theorem g1_passAhead {X : gX} {p : Program} {l : Launch} {e : Env} {s : State} {m : MethodId} {args : Array Value} {below : List Frame} {meth : Method} {c : Code} (B : gB X p (rm1_passAhead) s m args meth c RX1 cX1_passAhead 5 (rm1_passAhead)) (hS9 : gS X s) (hr : meth.sig.returnType = none) (a0 : Nat) (a1 : Nat) (x2 : Int32) (M : mMem) : GG X p l e (rm1_passAhead) s m args below meth c (gP X below args s 0 0 (fun M9 : mMem => (none, M9))) 5 0 0 0 [(0, .ref a0), (1, .ref a1), (2, .int x2)] [] M (p1_passAhead a0 a1 x2 M) := by
  unfold p1_passAhead
  refine g_gd ?_
  refine g_iconst (v := 0) B dX1_passAhead_0 (by decide) ?_
  refine g_istore_n (lv' := [(3, .int 0), (0, .ref a0), (1, .ref a1), (2, .int x2)]) B dX1_passAhead_1 (by decide) [0, 1, 2, 3] rfl ?_
  refine g_sub (lv' := [(0, .ref a0), (1, .ref a1), (2, .int x2), (3, .int 0)]) [1, 2, 3, 0] rfl ?_
  exact (g1_passAhead_L2 B hS9 hr) gF a0 a1 x2 0 M
theorem c1_passAhead (X : gX) (l : Launch) (a0 : Nat) (a1 : Nat) (x2 : Int32) (M : mMem) : Con X l yX1_passAhead cX1_passAhead 5 (none) rm1_passAhead (fun M9 : mMem => (none, M9)) [.ref a0, .ref a1, .int x2] M (p1_passAhead a0 a1 x2 M) := g_con (own := RX1) (by decide +kernel) rfl (Nat.le_of_ble_eq_true rfl) (fun p e s m args below meth c B hS9 hr hn => g1_passAhead B hS9 hr a0 a1 x2 M)
theorem mf1_ageAhead : gMF yX1_ageAhead cX1_ageAhead 5 (some .int) 3 := ⟨wd_1583, wd_9, ⟨by decide, by decide⟩, by decide +kernel⟩
set_option maxRecDepth 20000 in
set_option maxHeartbeats 2000000 in
theorem g1_ageAhead_L14 {X : gX} {p : Program} {l : Launch} {e : Env} {s : State} {m : MethodId} {args : Array Value} {below : List Frame} {meth : Method} {c : Code} (B : gB X p (rm1_ageAhead) s m args meth c RX1 cX1_ageAhead 5 (rm1_ageAhead)) (hS9 : gS X s) (hr : meth.sig.returnType = some .int) : ∀ (n : Nat) (a0 : Nat) (x1 : Int32) (x2 : Int32) (x3 : Int32) (x4 : Int32) (M : mMem), GG X p l e (rm1_ageAhead) s m args below meth c (gP X below args s 0 0 (fun r9 : (Int32 × mMem) => (some (.int r9.1), r9.2))) 5 0 0 14 [(0, .ref a0), (1, .int x1), (2, .int x2), (3, .int x3), (4, .int x4)] [] M (p1_ageAhead_L14 n a0 x1 x2 x3 x4 M) := by
  intro n
  induction n with
  | zero => intro a0 x1 x2 x3 x4 M; exact g_none
  | succ n ih =>
    intro a0 x1 x2 x3 x4 M
    rw [p1_ageAhead_L14]
    refine g_iload B dX1_ageAhead_14 4 rfl ?_
    refine g_iload_n B dX1_ageAhead_16 2 rfl ?_
    refine g_icmp_ge B 35 dX1_ageAhead_17 (by decide) ?_ ?_
    · refine g_aload_n B dX1_ageAhead_20 0 rfl ?_
      refine g_aload_n B dX1_ageAhead_21 0 rfl ?_
      refine g_getR (ci := 1) (T0 := TX1) (N := 3) B (by decide) rfl in_1 (k := 2) (by decide) rfl wd_304 (fun _ h => h) dX1_ageAhead_22 (fun v_4 => ?_)
      refine g_iload_n B dX1_ageAhead_25 3 rfl ?_
      refine g_callV_vw [.ref v_4, .int x3] (ci := 1) (T0 := TX1) (N := 3) B hS9 mf1_passAhead wd_491 (gw B wp_1) wd_489 (by decide) rfl (fun h => (gd_ne h).1) (c1_passAhead X l a0 v_4 x3 M) (by decide) (by decide) (by decide) rfl (by decide) dX1_ageAhead_26 rfl (fun q_5 => ?_)
      refine g_iinc (v := (x4 + 1)) (lv' := [(4, .int (x4 + 1)), (0, .ref a0), (1, .int x1), (2, .int x2), (3, .int x3)]) B dX1_ageAhead_29 4 rfl rfl (by decide) [0, 1, 2, 3, 4] rfl ?_
      refine g_goto B 14 dX1_ageAhead_32 (by decide) ?_
      refine g_sub (lv' := [(0, .ref a0), (1, .int x1), (2, .int x2), (3, .int x3), (4, .int (x4 + 1))]) [1, 2, 3, 4, 0] rfl ?_
      exact ih a0 x1 x2 x3 (x4 + 1) q_5
    · refine g_aload_n B dX1_ageAhead_35 0 rfl ?_
      refine g_getR (ci := 1) (T0 := TX1) (N := 3) B (by decide) rfl in_1 (k := 2) (by decide) rfl wd_304 (fun _ h => h) dX1_ageAhead_36 (fun v_1 => ?_)
      refine g_iload_n B dX1_ageAhead_39 1 rfl ?_
      refine g_callV_ap [.int x1] (ci := 2) (T0 := TX2) (N := 11) B hS9 mf2_at wd_466 (gw B wd_467) wd_493 (by decide) rfl (fun h => (gd_ne h).1) (c2_at X l v_1 x1 M) (by decide) (by decide) (by decide) rfl (by decide) dX1_ageAhead_40 rfl (fun v_2 => ?_)
      refine g_getI (ci := 8) (T0 := TX8) (N := 9) B (by decide) rfl in_8 (k := 0) (by decide) rfl wd_54 (fun _ h => h) dX1_ageAhead_43 (fun v_3 => ?_)
      exact g_ireturn B hr rfl (by decide) (by decide) rfl dX1_ageAhead_46
set_option maxRecDepth 20000 in
set_option maxHeartbeats 2000000 in
theorem g1_ageAhead {X : gX} {p : Program} {l : Launch} {e : Env} {s : State} {m : MethodId} {args : Array Value} {below : List Frame} {meth : Method} {c : Code} (B : gB X p (rm1_ageAhead) s m args meth c RX1 cX1_ageAhead 5 (rm1_ageAhead)) (hS9 : gS X s) (hr : meth.sig.returnType = some .int) (a0 : Nat) (x1 : Int32) (x2 : Int32) (x3 : Int32) (M : mMem) : GG X p l e (rm1_ageAhead) s m args below meth c (gP X below args s 0 0 (fun r9 : (Int32 × mMem) => (some (.int r9.1), r9.2))) 5 0 0 0 [(0, .ref a0), (1, .int x1), (2, .int x2), (3, .int x3)] [] M (p1_ageAhead a0 x1 x2 x3 M) := by
  unfold p1_ageAhead
  refine g_gd ?_
  refine g_aload_n B dX1_ageAhead_0 0 rfl ?_
  refine g_getR (ci := 1) (T0 := TX1) (N := 3) B (by decide) rfl in_1 (k := 2) (by decide) rfl wd_304 (fun _ h => h) dX1_ageAhead_1 (fun v_1 => ?_)
  refine g_aload_n B dX1_ageAhead_4 0 rfl ?_
  refine g_getR (ci := 1) (T0 := TX1) (N := 3) B (by decide) rfl in_1 (k := 0) (by decide) rfl wd_302 (fun _ h => h) dX1_ageAhead_5 (fun v_2 => ?_)
  refine g_callV_vw [.ref v_2] (ci := 2) (T0 := TX2) (N := 11) B hS9 mf2_take wd_462 (gw B wd_463) wd_461 (by decide) rfl (fun h => (gd_ne h).1) (c2_take X l v_1 v_2 M) (by decide) (by decide) (by decide) rfl (by decide) dX1_ageAhead_8 rfl (fun q_3 => ?_)
  refine g_iconst (v := 0) B dX1_ageAhead_11 (by decide) ?_
  refine g_istore (lv' := [(4, .int 0), (0, .ref a0), (1, .int x1), (2, .int x2), (3, .int x3)]) B dX1_ageAhead_12 (by decide) [0, 1, 2, 3, 4] rfl ?_
  refine g_sub (lv' := [(0, .ref a0), (1, .int x1), (2, .int x2), (3, .int x3), (4, .int 0)]) [1, 2, 3, 4, 0] rfl ?_
  exact (g1_ageAhead_L14 B hS9 hr) gF a0 x1 x2 x3 0 q_3
theorem c1_ageAhead (X : gX) (l : Launch) (a0 : Nat) (x1 : Int32) (x2 : Int32) (x3 : Int32) (M : mMem) : Con X l yX1_ageAhead cX1_ageAhead 5 (some .int) rm1_ageAhead (fun r9 : (Int32 × mMem) => (some (.int r9.1), r9.2)) [.ref a0, .int x1, .int x2, .int x3] M (p1_ageAhead a0 x1 x2 x3 M) := g_con (own := RX1) (by decide +kernel) rfl (Nat.le_of_ble_eq_true rfl) (fun p e s m args below meth c B hS9 hr hn => g1_ageAhead B hS9 hr a0 x1 x2 x3 M)
theorem mf2_inCrib : gMF yX2_inCrib cX2_inCrib 3 (some .int) 0 := ⟨wd_484, wd_2, ⟨by decide, by decide⟩, by decide +kernel⟩
set_option maxRecDepth 20000 in
set_option maxHeartbeats 2000000 in
theorem g2_inCrib_J33 {X : gX} {p : Program} {l : Launch} {e : Env} {s : State} {m : MethodId} {args : Array Value} {below : List Frame} {meth : Method} {c : Code} (B : gB X p (rm2_inCrib) s m args meth c RX2 cX2_inCrib 3 (rm2_inCrib)) (hS9 : gS X s) (hr : meth.sig.returnType = some .int) {M : mMem} (rec4 : Nat → Int32 → Int32 → Option Int32) (hrec4 : ∀ (a0 : Nat) (x1 : Int32) (x2 : Int32), GG X p l e (rm2_inCrib) s m args below meth c (gP X below args s 0 0 (fun r9 : Int32 => (some (.int r9), M))) 3 0 0 4 [(0, .ref a0), (1, .int x1), (2, .int x2)] [] M (rec4 a0 x1 x2)) (a0 : Nat) (x1 : Int32) (x2 : Int32) : GG X p l e (rm2_inCrib) s m args below meth c (gP X below args s 0 0 (fun r9 : Int32 => (some (.int r9), M))) 3 0 0 33 [(0, .ref a0), (1, .int x1), (2, .int x2)] [] M (p2_inCrib_J33 M rec4 a0 x1 x2) := by
  unfold p2_inCrib_J33
  refine g_iinc (v := (x2 + 1)) (lv' := [(2, .int (x2 + 1)), (0, .ref a0), (1, .int x1)]) B dX2_inCrib_33 2 rfl rfl (by decide) [0, 1, 2] rfl ?_
  refine g_goto B 4 dX2_inCrib_36 (by decide) ?_
  refine g_sub (lv' := [(0, .ref a0), (1, .int x1), (2, .int (x2 + 1))]) [1, 2, 0] rfl ?_
  exact hrec4 a0 x1 (x2 + 1)
set_option maxRecDepth 20000 in
set_option maxHeartbeats 2000000 in
theorem g2_inCrib_L4 {X : gX} {p : Program} {l : Launch} {e : Env} {s : State} {m : MethodId} {args : Array Value} {below : List Frame} {meth : Method} {c : Code} (B : gB X p (rm2_inCrib) s m args meth c RX2 cX2_inCrib 3 (rm2_inCrib)) (hS9 : gS X s) (hr : meth.sig.returnType = some .int) {M : mMem} : ∀ (n : Nat) (a0 : Nat) (x1 : Int32) (x2 : Int32), GG X p l e (rm2_inCrib) s m args below meth c (gP X below args s 0 0 (fun r9 : Int32 => (some (.int r9), M))) 3 0 0 4 [(0, .ref a0), (1, .int x1), (2, .int x2)] [] M (p2_inCrib_L4 M n a0 x1 x2) := by
  intro n
  induction n with
  | zero => intro a0 x1 x2; exact g_none
  | succ n ih =>
    intro a0 x1 x2
    rw [p2_inCrib_L4]
    refine g_iload_n B dX2_inCrib_4 2 rfl ?_
    refine g_aload_n B dX2_inCrib_5 0 rfl ?_
    refine g_getI (ci := 2) (T0 := TX2) (N := 11) B (by decide) rfl in_2 (k := 4) (by decide) rfl wd_139 (fun _ h => h) dX2_inCrib_6 (fun v_1 => ?_)
    refine g_icmp_ge B 39 dX2_inCrib_9 (by decide) ?_ ?_
    · refine g_aload_n B dX2_inCrib_12 0 rfl ?_
      refine g_iload_n B dX2_inCrib_13 2 rfl ?_
      refine g_callV_ap [.int x2] (ci := 2) (T0 := TX2) (N := 11) B hS9 mf2_at wd_466 (gw B wd_467) wd_465 (by decide) rfl (fun h => (gd_ne h).1) (c2_at X l a0 x2 M) (by decide) (by decide) (by decide) rfl (by decide) dX2_inCrib_14 rfl (fun v_2 => ?_)
      refine g_getI (ci := 8) (T0 := TX8) (N := 9) B (by decide) rfl in_8 (k := 0) (by decide) rfl wd_53 (fun _ h => h) dX2_inCrib_17 (fun v_3 => ?_)
      refine g_aload_n B dX2_inCrib_20 0 rfl ?_
      refine g_getI (ci := 2) (T0 := TX2) (N := 11) B (by decide) rfl in_2 (k := 6) (by decide) rfl wd_150 (fun _ h => h) dX2_inCrib_21 (fun v_4 => ?_)
      refine g_icmp_ge B 33 dX2_inCrib_24 (by decide) ?_ ?_
      · refine g_iload_n B dX2_inCrib_27 1 rfl ?_
        refine g_iconst (v := 1) B dX2_inCrib_28 (by decide) ?_
        refine g_iload_n B dX2_inCrib_29 2 rfl ?_
        refine g_ishl B dX2_inCrib_30 ?_
        refine g_ior B dX2_inCrib_31 ?_
        refine g_istore_n (lv' := [(1, .int (x1 ||| ((1 : Int32) <<< (x2 &&& 31)))), (0, .ref a0), (2, .int x2)]) B dX2_inCrib_32 (by decide) [0, 1, 2] rfl ?_
        refine g_sub (lv' := [(0, .ref a0), (1, .int (x1 ||| ((1 : Int32) <<< (x2 &&& 31)))), (2, .int x2)]) [1, 0, 2] rfl ?_
        exact g2_inCrib_J33 B hS9 hr (p2_inCrib_L4 M n) ih a0 (x1 ||| ((1 : Int32) <<< (x2 &&& 31))) x2
      · refine g_sub (lv' := [(0, .ref a0), (1, .int x1), (2, .int x2)]) [0, 1, 2] rfl ?_
        exact g2_inCrib_J33 B hS9 hr (p2_inCrib_L4 M n) ih a0 x1 x2
    · refine g_iload_n B dX2_inCrib_39 1 rfl ?_
      exact g_ireturn B hr rfl (by decide) (by decide) rfl dX2_inCrib_40
set_option maxRecDepth 20000 in
set_option maxHeartbeats 2000000 in
theorem g2_inCrib {X : gX} {p : Program} {l : Launch} {e : Env} {s : State} {m : MethodId} {args : Array Value} {below : List Frame} {meth : Method} {c : Code} (B : gB X p (rm2_inCrib) s m args meth c RX2 cX2_inCrib 3 (rm2_inCrib)) (hS9 : gS X s) (hr : meth.sig.returnType = some .int) {M : mMem} (a0 : Nat) : GG X p l e (rm2_inCrib) s m args below meth c (gP X below args s 0 0 (fun r9 : Int32 => (some (.int r9), M))) 3 0 0 0 [(0, .ref a0)] [] M (p2_inCrib a0 M) := by
  unfold p2_inCrib
  refine g_gd ?_
  refine g_iconst (v := 0) B dX2_inCrib_0 (by decide) ?_
  refine g_istore_n (lv' := [(1, .int 0), (0, .ref a0)]) B dX2_inCrib_1 (by decide) [0, 1] rfl ?_
  refine g_iconst (v := 0) B dX2_inCrib_2 (by decide) ?_
  refine g_istore_n (lv' := [(2, .int 0), (1, .int 0), (0, .ref a0)]) B dX2_inCrib_3 (by decide) [0, 1, 2] rfl ?_
  refine g_sub (lv' := [(0, .ref a0), (1, .int 0), (2, .int 0)]) [2, 1, 0] rfl ?_
  exact (g2_inCrib_L4 B hS9 hr) gF a0 0 0
theorem c2_inCrib (X : gX) (l : Launch) (a0 : Nat) (M : mMem) : Con X l yX2_inCrib cX2_inCrib 3 (some .int) rm2_inCrib (fun r9 : Int32 => (some (.int r9), M)) [.ref a0] M (p2_inCrib a0 M) := g_con (own := RX2) (by decide +kernel) rfl (Nat.le_of_ble_eq_true rfl) (fun p e s m args below meth c B hS9 hr hn => g2_inCrib B hS9 hr a0)
theorem mfJ6_numberOfTrailingZeros : gMF yJ6_numberOfTrailingZeros_0f7a4 cJ6_numberOfTrailingZeros_0f7a4 2 (some .int) 1 := ⟨wd_487, wd_28, ⟨by decide, by decide⟩, by decide +kernel⟩
set_option maxRecDepth 20000 in
set_option maxHeartbeats 2000000 in
theorem gJ6_numberOfTrailingZeros_J74 {X : gX} {p : Program} {l : Launch} {e : Env} {s : State} {m : MethodId} {args : Array Value} {below : List Frame} {meth : Method} {c : Code} (B : gB X p (rmJ6_numberOfTrailingZeros) s m args meth c RJ6 cJ6_numberOfTrailingZeros_0f7a4 2 (rmJ6_numberOfTrailingZeros)) (hS9 : gS X s) (hr : meth.sig.returnType = some .int) {M : mMem} (x0 : Int32) (x1 : Int32) : GG X p l e (rmJ6_numberOfTrailingZeros) s m args below meth c (gP X below args s 0 0 (fun r9 : Int32 => (some (.int r9), M))) 2 0 0 74 [(0, .int x0), (1, .int x1)] [] M (pJ6_numberOfTrailingZeros_J74 M x0 x1) := by
  unfold pJ6_numberOfTrailingZeros_J74
  refine g_iload_n B dJ6_numberOfTrailingZeros_0f7a4_74 1 rfl ?_
  refine g_iload_n B dJ6_numberOfTrailingZeros_0f7a4_75 0 rfl ?_
  refine g_iconst (v := 1) B dJ6_numberOfTrailingZeros_0f7a4_76 (by decide) ?_
  refine g_iushr B dJ6_numberOfTrailingZeros_0f7a4_77 ?_
  refine g_iadd B dJ6_numberOfTrailingZeros_0f7a4_78 ?_
  exact g_ireturn B hr rfl (by decide) (by decide) rfl dJ6_numberOfTrailingZeros_0f7a4_79
set_option maxRecDepth 20000 in
set_option maxHeartbeats 2000000 in
theorem gJ6_numberOfTrailingZeros_J62 {X : gX} {p : Program} {l : Launch} {e : Env} {s : State} {m : MethodId} {args : Array Value} {below : List Frame} {meth : Method} {c : Code} (B : gB X p (rmJ6_numberOfTrailingZeros) s m args meth c RJ6 cJ6_numberOfTrailingZeros_0f7a4 2 (rmJ6_numberOfTrailingZeros)) (hS9 : gS X s) (hr : meth.sig.returnType = some .int) {M : mMem} (x0 : Int32) (x1 : Int32) : GG X p l e (rmJ6_numberOfTrailingZeros) s m args below meth c (gP X below args s 0 0 (fun r9 : Int32 => (some (.int r9), M))) 2 0 0 62 [(0, .int x0), (1, .int x1)] [] M (pJ6_numberOfTrailingZeros_J62 M x0 x1) := by
  unfold pJ6_numberOfTrailingZeros_J62
  refine g_iload_n B dJ6_numberOfTrailingZeros_0f7a4_62 0 rfl ?_
  refine g_iconst (v := 4) B dJ6_numberOfTrailingZeros_0f7a4_63 (by decide) ?_
  refine g_icmp_le B 74 dJ6_numberOfTrailingZeros_0f7a4_64 (by decide) ?_ ?_
  · refine g_iinc (v := (x1 + 2)) (lv' := [(1, .int (x1 + 2)), (0, .int x0)]) B dJ6_numberOfTrailingZeros_0f7a4_67 1 rfl rfl (by decide) [0, 1] rfl ?_
    refine g_iload_n B dJ6_numberOfTrailingZeros_0f7a4_70 1 rfl ?_
    refine g_iconst (v := 2) B dJ6_numberOfTrailingZeros_0f7a4_71 (by decide) ?_
    refine g_iushr B dJ6_numberOfTrailingZeros_0f7a4_72 ?_
    refine g_istore_n (lv' := [(0, .int (ushr x0 2)), (1, .int (x1 + 2))]) B dJ6_numberOfTrailingZeros_0f7a4_73 (by decide) [0, 1] rfl ?_
    refine g_sub (lv' := [(0, .int (ushr x0 2)), (1, .int (x1 + 2))]) [0, 1] rfl ?_
    exact gJ6_numberOfTrailingZeros_J74 B hS9 hr (ushr x0 2) (x1 + 2)
  · refine g_sub (lv' := [(0, .int x0), (1, .int x1)]) [0, 1] rfl ?_
    exact gJ6_numberOfTrailingZeros_J74 B hS9 hr x0 x1
set_option maxRecDepth 20000 in
set_option maxHeartbeats 2000000 in
theorem gJ6_numberOfTrailingZeros_J49 {X : gX} {p : Program} {l : Launch} {e : Env} {s : State} {m : MethodId} {args : Array Value} {below : List Frame} {meth : Method} {c : Code} (B : gB X p (rmJ6_numberOfTrailingZeros) s m args meth c RJ6 cJ6_numberOfTrailingZeros_0f7a4 2 (rmJ6_numberOfTrailingZeros)) (hS9 : gS X s) (hr : meth.sig.returnType = some .int) {M : mMem} (x0 : Int32) (x1 : Int32) : GG X p l e (rmJ6_numberOfTrailingZeros) s m args below meth c (gP X below args s 0 0 (fun r9 : Int32 => (some (.int r9), M))) 2 0 0 49 [(0, .int x0), (1, .int x1)] [] M (pJ6_numberOfTrailingZeros_J49 M x0 x1) := by
  unfold pJ6_numberOfTrailingZeros_J49
  refine g_iload_n B dJ6_numberOfTrailingZeros_0f7a4_49 0 rfl ?_
  refine g_bipush (v := 16) B dJ6_numberOfTrailingZeros_0f7a4_50 (by decide) ?_
  refine g_icmp_le B 62 dJ6_numberOfTrailingZeros_0f7a4_52 (by decide) ?_ ?_
  · refine g_iinc (v := (x1 + 4)) (lv' := [(1, .int (x1 + 4)), (0, .int x0)]) B dJ6_numberOfTrailingZeros_0f7a4_55 1 rfl rfl (by decide) [0, 1] rfl ?_
    refine g_iload_n B dJ6_numberOfTrailingZeros_0f7a4_58 1 rfl ?_
    refine g_iconst (v := 4) B dJ6_numberOfTrailingZeros_0f7a4_59 (by decide) ?_
    refine g_iushr B dJ6_numberOfTrailingZeros_0f7a4_60 ?_
    refine g_istore_n (lv' := [(0, .int (ushr x0 4)), (1, .int (x1 + 4))]) B dJ6_numberOfTrailingZeros_0f7a4_61 (by decide) [0, 1] rfl ?_
    refine g_sub (lv' := [(0, .int (ushr x0 4)), (1, .int (x1 + 4))]) [0, 1] rfl ?_
    exact gJ6_numberOfTrailingZeros_J62 B hS9 hr (ushr x0 4) (x1 + 4)
  · refine g_sub (lv' := [(0, .int x0), (1, .int x1)]) [0, 1] rfl ?_
    exact gJ6_numberOfTrailingZeros_J62 B hS9 hr x0 x1
set_option maxRecDepth 20000 in
set_option maxHeartbeats 2000000 in
theorem gJ6_numberOfTrailingZeros_J34 {X : gX} {p : Program} {l : Launch} {e : Env} {s : State} {m : MethodId} {args : Array Value} {below : List Frame} {meth : Method} {c : Code} (B : gB X p (rmJ6_numberOfTrailingZeros) s m args meth c RJ6 cJ6_numberOfTrailingZeros_0f7a4 2 (rmJ6_numberOfTrailingZeros)) (hS9 : gS X s) (hr : meth.sig.returnType = some .int) {M : mMem} (x0 : Int32) (x1 : Int32) : GG X p l e (rmJ6_numberOfTrailingZeros) s m args below meth c (gP X below args s 0 0 (fun r9 : Int32 => (some (.int r9), M))) 2 0 0 34 [(0, .int x0), (1, .int x1)] [] M (pJ6_numberOfTrailingZeros_J34 M x0 x1) := by
  unfold pJ6_numberOfTrailingZeros_J34
  refine g_iload_n B dJ6_numberOfTrailingZeros_0f7a4_34 0 rfl ?_
  refine g_sipush (v := 256) B dJ6_numberOfTrailingZeros_0f7a4_35 (by decide) ?_
  refine g_icmp_le B 49 dJ6_numberOfTrailingZeros_0f7a4_38 (by decide) ?_ ?_
  · refine g_iinc (v := (x1 + 8)) (lv' := [(1, .int (x1 + 8)), (0, .int x0)]) B dJ6_numberOfTrailingZeros_0f7a4_41 1 rfl rfl (by decide) [0, 1] rfl ?_
    refine g_iload_n B dJ6_numberOfTrailingZeros_0f7a4_44 1 rfl ?_
    refine g_bipush (v := 8) B dJ6_numberOfTrailingZeros_0f7a4_45 (by decide) ?_
    refine g_iushr B dJ6_numberOfTrailingZeros_0f7a4_47 ?_
    refine g_istore_n (lv' := [(0, .int (ushr x0 8)), (1, .int (x1 + 8))]) B dJ6_numberOfTrailingZeros_0f7a4_48 (by decide) [0, 1] rfl ?_
    refine g_sub (lv' := [(0, .int (ushr x0 8)), (1, .int (x1 + 8))]) [0, 1] rfl ?_
    exact gJ6_numberOfTrailingZeros_J49 B hS9 hr (ushr x0 8) (x1 + 8)
  · refine g_sub (lv' := [(0, .int x0), (1, .int x1)]) [0, 1] rfl ?_
    exact gJ6_numberOfTrailingZeros_J49 B hS9 hr x0 x1
set_option maxRecDepth 20000 in
set_option maxHeartbeats 2000000 in
theorem gJ6_numberOfTrailingZeros {X : gX} {p : Program} {l : Launch} {e : Env} {s : State} {m : MethodId} {args : Array Value} {below : List Frame} {meth : Method} {c : Code} (B : gB X p (rmJ6_numberOfTrailingZeros) s m args meth c RJ6 cJ6_numberOfTrailingZeros_0f7a4 2 (rmJ6_numberOfTrailingZeros)) (hS9 : gS X s) (hr : meth.sig.returnType = some .int) {M : mMem} (x0 : Int32) : GG X p l e (rmJ6_numberOfTrailingZeros) s m args below meth c (gP X below args s 0 0 (fun r9 : Int32 => (some (.int r9), M))) 2 0 0 0 [(0, .int x0)] [] M (pJ6_numberOfTrailingZeros x0 M) := by
  unfold pJ6_numberOfTrailingZeros
  refine g_iload_n B dJ6_numberOfTrailingZeros_0f7a4_0 0 rfl ?_
  refine g_iconst (v := (-1)) B dJ6_numberOfTrailingZeros_0f7a4_1 (by decide) ?_
  refine g_ixor B dJ6_numberOfTrailingZeros_0f7a4_2 ?_
  refine g_iload_n B dJ6_numberOfTrailingZeros_0f7a4_3 0 rfl ?_
  refine g_iconst (v := 1) B dJ6_numberOfTrailingZeros_0f7a4_4 (by decide) ?_
  refine g_isub B dJ6_numberOfTrailingZeros_0f7a4_5 ?_
  refine g_iand B dJ6_numberOfTrailingZeros_0f7a4_6 ?_
  refine g_istore_n (lv' := [(0, .int ((x0 ^^^ (-1)) &&& (x0 - 1)))]) B dJ6_numberOfTrailingZeros_0f7a4_7 (by decide) [0] rfl ?_
  refine g_iload_n B dJ6_numberOfTrailingZeros_0f7a4_8 0 rfl ?_
  refine g_if_gt B 17 dJ6_numberOfTrailingZeros_0f7a4_9 (by decide) ?_ ?_
  · refine g_iconst (v := 1) B dJ6_numberOfTrailingZeros_0f7a4_17 (by decide) ?_
    refine g_istore_n (lv' := [(1, .int 1), (0, .int ((x0 ^^^ (-1)) &&& (x0 - 1)))]) B dJ6_numberOfTrailingZeros_0f7a4_18 (by decide) [0, 1] rfl ?_
    refine g_iload_n B dJ6_numberOfTrailingZeros_0f7a4_19 1 rfl ?_
    refine g_ldc_w B dJ6_numberOfTrailingZeros_0f7a4_20 wd_488 ?_
    refine g_icmp_le B 34 dJ6_numberOfTrailingZeros_0f7a4_23 (by decide) ?_ ?_
    · refine g_iinc (v := (1 + 16)) (lv' := [(1, .int (1 + 16)), (0, .int ((x0 ^^^ (-1)) &&& (x0 - 1)))]) B dJ6_numberOfTrailingZeros_0f7a4_26 0 rfl rfl (by decide) [0, 1] rfl ?_
      refine g_iload_n B dJ6_numberOfTrailingZeros_0f7a4_29 1 rfl ?_
      refine g_bipush (v := 16) B dJ6_numberOfTrailingZeros_0f7a4_30 (by decide) ?_
      refine g_iushr B dJ6_numberOfTrailingZeros_0f7a4_32 ?_
      refine g_istore_n (lv' := [(0, .int (ushr ((x0 ^^^ (-1)) &&& (x0 - 1)) 16)), (1, .int (1 + 16))]) B dJ6_numberOfTrailingZeros_0f7a4_33 (by decide) [0, 1] rfl ?_
      refine g_sub (lv' := [(0, .int (ushr ((x0 ^^^ (-1)) &&& (x0 - 1)) 16)), (1, .int (1 + 16))]) [0, 1] rfl ?_
      exact gJ6_numberOfTrailingZeros_J34 B hS9 hr (ushr ((x0 ^^^ (-1)) &&& (x0 - 1)) 16) (1 + 16)
    · refine g_sub (lv' := [(0, .int ((x0 ^^^ (-1)) &&& (x0 - 1))), (1, .int 1)]) [1, 0] rfl ?_
      exact gJ6_numberOfTrailingZeros_J34 B hS9 hr ((x0 ^^^ (-1)) &&& (x0 - 1)) 1
  · refine g_iload_n B dJ6_numberOfTrailingZeros_0f7a4_12 0 rfl ?_
    refine g_bipush (v := 32) B dJ6_numberOfTrailingZeros_0f7a4_13 (by decide) ?_
    refine g_iand B dJ6_numberOfTrailingZeros_0f7a4_15 ?_
    exact g_ireturn B hr rfl (by decide) (by decide) rfl dJ6_numberOfTrailingZeros_0f7a4_16
theorem cJ6_numberOfTrailingZeros (X : gX) (l : Launch) (x0 : Int32) (M : mMem) : Con X l yJ6_numberOfTrailingZeros_0f7a4 cJ6_numberOfTrailingZeros_0f7a4 2 (some .int) rmJ6_numberOfTrailingZeros (fun r9 : Int32 => (some (.int r9), M)) [.int x0] M (pJ6_numberOfTrailingZeros x0 M) := g_con (own := RJ6) (by decide +kernel) rfl (Nat.le_of_ble_eq_true rfl) (fun p e s m args below meth c B hS9 hr hn => gJ6_numberOfTrailingZeros B hS9 hr x0)
theorem mf1_firstInCrib : gMF yX1_firstInCrib cX1_firstInCrib 5 (some .int) 2 := ⟨wd_460, wd_9, ⟨by decide, by decide⟩, by decide +kernel⟩
set_option maxRecDepth 20000 in
set_option maxHeartbeats 2000000 in
theorem g1_firstInCrib_L13 {X : gX} {p : Program} {l : Launch} {e : Env} {s : State} {m : MethodId} {args : Array Value} {below : List Frame} {meth : Method} {c : Code} (B : gB X p (rm1_firstInCrib) s m args meth c RX1 cX1_firstInCrib 5 (rm1_firstInCrib)) (hS9 : gS X s) (hr : meth.sig.returnType = some .int) (k33 : Int32 → Int32 → Int32 → mMem → Option (Int32 × mMem)) (hk33 : ∀ (x2 : Int32) (x3 : Int32) (x4 : Int32) (M : mMem), GG X p l e (rm1_firstInCrib) s m args below meth c (gP X below args s 0 0 (fun r9 : (Int32 × mMem) => (some (.int r9.1), r9.2))) 5 0 0 33 [(2, .int x2), (3, .int x3), (4, .int x4)] [] M (k33 x2 x3 x4 M)) : ∀ (n : Nat) (a0 : Nat) (x1 : Int32) (x2 : Int32) (x3 : Int32) (M : mMem), GG X p l e (rm1_firstInCrib) s m args below meth c (gP X below args s 0 0 (fun r9 : (Int32 × mMem) => (some (.int r9.1), r9.2))) 5 0 0 13 [(0, .ref a0), (1, .int x1), (2, .int x2), (3, .int x3)] [] M (p1_firstInCrib_L13 k33 n a0 x1 x2 x3 M) := by
  intro n
  induction n with
  | zero => intro a0 x1 x2 x3 M; exact g_none
  | succ n ih =>
    intro a0 x1 x2 x3 M
    rw [p1_firstInCrib_L13]
    refine g_iload_n B dX1_firstInCrib_13 3 rfl ?_
    refine g_bipush (v := 100) B dX1_firstInCrib_14 (by decide) ?_
    refine g_icmp_gt B 62 dX1_firstInCrib_16 (by decide) ?_ ?_
    · refine g_iconst (v := (-1)) B dX1_firstInCrib_62 (by decide) ?_
      exact g_ireturn B hr rfl (by decide) (by decide) rfl dX1_firstInCrib_63
    · refine g_aload_n B dX1_firstInCrib_19 0 rfl ?_
      refine g_getR (ci := 1) (T0 := TX1) (N := 3) B (by decide) rfl in_1 (k := 2) (by decide) rfl wd_304 (fun _ h => h) dX1_firstInCrib_20 (fun v_1 => ?_)
      refine g_callV_ip [] (ci := 2) (T0 := TX2) (N := 11) B hS9 mf2_inCrib wd_482 (gw B wd_483) wd_481 (by decide) rfl (fun h => (gd_ne h).1) (c2_inCrib X l v_1 M) (by decide) (by decide) (by decide) rfl (by decide) dX1_firstInCrib_23 rfl (fun v_2 => ?_)
      refine g_istore (lv' := [(4, .int v_2), (0, .ref a0), (1, .int x1), (2, .int x2), (3, .int x3)]) B dX1_firstInCrib_26 (by decide) [0, 1, 2, 3, 4] rfl ?_
      refine g_iload B dX1_firstInCrib_28 0 rfl ?_
      refine g_if_eq B 47 dX1_firstInCrib_30 (by decide) ?_ ?_
      · refine g_aload_n B dX1_firstInCrib_47 1 rfl ?_
        refine g_aload_n B dX1_firstInCrib_48 1 rfl ?_
        refine g_getR (ci := 1) (T0 := TX1) (N := 3) B (by decide) rfl in_1 (k := 2) (by decide) rfl wd_304 (fun _ h => h) dX1_firstInCrib_49 (fun v_3 => ?_)
        refine g_iload_n B dX1_firstInCrib_52 2 rfl ?_
        refine g_callV_vw [.ref v_3, .int x1] (ci := 1) (T0 := TX1) (N := 3) B hS9 mf1_passAhead wd_491 (gw B wp_1) wd_489 (by decide) rfl (fun h => (gd_ne h).1) (c1_passAhead X l a0 v_3 x1 M) (by decide) (by decide) (by decide) rfl (by decide) dX1_firstInCrib_53 rfl (fun q_4 => ?_)
        refine g_iinc (v := (x3 + 1)) (lv' := [(3, .int (x3 + 1)), (4, .int v_2), (0, .ref a0), (1, .int x1), (2, .int x2)]) B dX1_firstInCrib_56 4 rfl rfl (by decide) [0, 1, 2, 3, 4] rfl ?_
        refine g_goto B 13 dX1_firstInCrib_59 (by decide) ?_
        refine g_sub (lv' := [(0, .ref a0), (1, .int x1), (2, .int x2), (3, .int (x3 + 1))]) [2, 3, 4, 0] rfl ?_
        exact ih a0 x1 x2 (x3 + 1) q_4
      · refine g_sub (lv' := [(2, .int x2), (3, .int x3), (4, .int v_2)]) [3, 4, 0] rfl ?_
        exact hk33 x2 x3 v_2 M
set_option maxRecDepth 20000 in
set_option maxHeartbeats 2000000 in
theorem g1_firstInCrib_J46 {X : gX} {p : Program} {l : Launch} {e : Env} {s : State} {m : MethodId} {args : Array Value} {below : List Frame} {meth : Method} {c : Code} (B : gB X p (rm1_firstInCrib) s m args meth c RX1 cX1_firstInCrib 5 (rm1_firstInCrib)) (hS9 : gS X s) (hr : meth.sig.returnType = some .int) (u0 : Int32) (M : mMem) : GG X p l e (rm1_firstInCrib) s m args below meth c (gP X below args s 0 0 (fun r9 : (Int32 × mMem) => (some (.int r9.1), r9.2))) 5 0 0 46 [] [.int u0] M (p1_firstInCrib_J46 u0 M) := by
  unfold p1_firstInCrib_J46
  exact g_ireturn B hr rfl (by decide) (by decide) rfl dX1_firstInCrib_46
set_option maxRecDepth 20000 in
set_option maxHeartbeats 2000000 in
theorem g1_firstInCrib_J33 {X : gX} {p : Program} {l : Launch} {e : Env} {s : State} {m : MethodId} {args : Array Value} {below : List Frame} {meth : Method} {c : Code} (B : gB X p (rm1_firstInCrib) s m args meth c RX1 cX1_firstInCrib 5 (rm1_firstInCrib)) (hS9 : gS X s) (hr : meth.sig.returnType = some .int) (x2 : Int32) (x3 : Int32) (x4 : Int32) (M : mMem) : GG X p l e (rm1_firstInCrib) s m args below meth c (gP X below args s 0 0 (fun r9 : (Int32 × mMem) => (some (.int r9.1), r9.2))) 5 0 0 33 [(2, .int x2), (3, .int x3), (4, .int x4)] [] M (p1_firstInCrib_J33 x2 x3 x4 M) := by
  unfold p1_firstInCrib_J33
  refine g_iload_n B dX1_firstInCrib_33 0 rfl ?_
  refine g_if_eq B 45 dX1_firstInCrib_34 (by decide) ?_ ?_
  · refine g_iload_n B dX1_firstInCrib_45 1 rfl ?_
    refine g_sub (lv' := []) [] rfl ?_
    exact g1_firstInCrib_J46 B hS9 hr x3 M
  · refine g_iload B dX1_firstInCrib_37 2 rfl ?_
    refine g_callS_ip [.int x4] B hS9 mfJ6_numberOfTrailingZeros wd_486 wd_485 (cJ6_numberOfTrailingZeros X l x4 M) (by decide) (by decide) (by decide) rfl (by decide) dX1_firstInCrib_39 rfl (fun v_1 => ?_)
    refine g_goto B 46 dX1_firstInCrib_42 (by decide) ?_
    refine g_sub (lv' := []) [] rfl ?_
    exact g1_firstInCrib_J46 B hS9 hr v_1 M
set_option maxRecDepth 20000 in
set_option maxHeartbeats 2000000 in
theorem g1_firstInCrib {X : gX} {p : Program} {l : Launch} {e : Env} {s : State} {m : MethodId} {args : Array Value} {below : List Frame} {meth : Method} {c : Code} (B : gB X p (rm1_firstInCrib) s m args meth c RX1 cX1_firstInCrib 5 (rm1_firstInCrib)) (hS9 : gS X s) (hr : meth.sig.returnType = some .int) (a0 : Nat) (x1 : Int32) (x2 : Int32) (M : mMem) : GG X p l e (rm1_firstInCrib) s m args below meth c (gP X below args s 0 0 (fun r9 : (Int32 × mMem) => (some (.int r9.1), r9.2))) 5 0 0 0 [(0, .ref a0), (1, .int x1), (2, .int x2)] [] M (p1_firstInCrib a0 x1 x2 M) := by
  unfold p1_firstInCrib
  refine g_gd ?_
  refine g_aload_n B dX1_firstInCrib_0 0 rfl ?_
  refine g_getR (ci := 1) (T0 := TX1) (N := 3) B (by decide) rfl in_1 (k := 2) (by decide) rfl wd_304 (fun _ h => h) dX1_firstInCrib_1 (fun v_1 => ?_)
  refine g_aload_n B dX1_firstInCrib_4 0 rfl ?_
  refine g_getR (ci := 1) (T0 := TX1) (N := 3) B (by decide) rfl in_1 (k := 0) (by decide) rfl wd_302 (fun _ h => h) dX1_firstInCrib_5 (fun v_2 => ?_)
  refine g_callV_vw [.ref v_2] (ci := 2) (T0 := TX2) (N := 11) B hS9 mf2_take wd_462 (gw B wd_463) wd_461 (by decide) rfl (fun h => (gd_ne h).1) (c2_take X l v_1 v_2 M) (by decide) (by decide) (by decide) rfl (by decide) dX1_firstInCrib_8 rfl (fun q_3 => ?_)
  refine g_iconst (v := 0) B dX1_firstInCrib_11 (by decide) ?_
  refine g_istore_n (lv' := [(3, .int 0), (0, .ref a0), (1, .int x1), (2, .int x2)]) B dX1_firstInCrib_12 (by decide) [0, 1, 2, 3] rfl ?_
  refine g_sub (lv' := [(0, .ref a0), (1, .int x1), (2, .int x2), (3, .int 0)]) [1, 2, 3, 0] rfl ?_
  exact (g1_firstInCrib_L13 B hS9 hr p1_firstInCrib_J33 (fun e0 e1 e2 e3 => g1_firstInCrib_J33 B hS9 hr e0 e1 e2 e3)) gF a0 x1 x2 0 q_3
theorem c1_firstInCrib (X : gX) (l : Launch) (a0 : Nat) (x1 : Int32) (x2 : Int32) (M : mMem) : Con X l yX1_firstInCrib cX1_firstInCrib 5 (some .int) rm1_firstInCrib (fun r9 : (Int32 × mMem) => (some (.int r9.1), r9.2)) [.ref a0, .int x1, .int x2] M (p1_firstInCrib a0 x1 x2 M) := g_con (own := RX1) (by decide +kernel) rfl (Nat.le_of_ble_eq_true rfl) (fun p e s m args below meth c B hS9 hr hn => g1_firstInCrib B hS9 hr a0 x1 x2 M)
theorem mf1_areAsNow : gMF yX1_areAsNow cX1_areAsNow 3 (some .boolean) 1 := ⟨wd_564, wd_9, ⟨by decide, by decide⟩, by decide +kernel⟩
set_option maxRecDepth 20000 in
set_option maxHeartbeats 2000000 in
theorem g1_areAsNow_L2 {X : gX} {p : Program} {l : Launch} {e : Env} {s : State} {m : MethodId} {args : Array Value} {below : List Frame} {meth : Method} {c : Code} (B : gB X p (rm1_areAsNow) s m args meth c RX1 cX1_areAsNow 3 (rm1_areAsNow)) (hS9 : gS X s) (hr : meth.sig.returnType = some .boolean) {M : mMem} : ∀ (n : Nat) (a0 : Nat) (a1 : Nat) (x2 : Int32), GG X p l e (rm1_areAsNow) s m args below meth c (gP X below args s 0 0 (fun r9 : Int32 => (some (.int r9), M))) 3 0 0 2 [(0, .ref a0), (1, .ref a1), (2, .int x2)] [] M (p1_areAsNow_L2 M n a0 a1 x2) := by
  intro n
  induction n with
  | zero => intro a0 a1 x2; exact g_none
  | succ n ih =>
    intro a0 a1 x2
    rw [p1_areAsNow_L2]
    refine g_iload_n B dX1_areAsNow_2 2 rfl ?_
    refine g_aload_n B dX1_areAsNow_3 0 rfl ?_
    refine g_getR (ci := 1) (T0 := TX1) (N := 3) B (by decide) rfl in_1 (k := 0) (by decide) rfl wd_302 (fun _ h => h) dX1_areAsNow_4 (fun v_1 => ?_)
    refine g_getI (ci := 2) (T0 := TX2) (N := 11) B (by decide) rfl in_2 (k := 4) (by decide) rfl wd_142 (fun _ h => h) dX1_areAsNow_7 (fun v_2 => ?_)
    refine g_icmp_ge B 43 dX1_areAsNow_10 (by decide) ?_ ?_
    · refine g_aload_n B dX1_areAsNow_13 1 rfl ?_
      refine g_iload_n B dX1_areAsNow_14 2 rfl ?_
      refine g_callV_ap [.int x2] (ci := 2) (T0 := TX2) (N := 11) B hS9 mf2_at wd_466 (gw B wd_467) wd_493 (by decide) rfl (fun h => (gd_ne h).1) (c2_at X l a1 x2 M) (by decide) (by decide) (by decide) rfl (by decide) dX1_areAsNow_15 rfl (fun v_3 => ?_)
      refine g_getI (ci := 8) (T0 := TX8) (N := 9) B (by decide) rfl in_8 (k := 0) (by decide) rfl wd_54 (fun _ h => h) dX1_areAsNow_18 (fun v_4 => ?_)
      refine g_aload_n B dX1_areAsNow_21 0 rfl ?_
      refine g_getR (ci := 1) (T0 := TX1) (N := 3) B (by decide) rfl in_1 (k := 0) (by decide) rfl wd_302 (fun _ h => h) dX1_areAsNow_22 (fun v_5 => ?_)
      refine g_iload_n B dX1_areAsNow_25 2 rfl ?_
      refine g_callV_ap [.int x2] (ci := 2) (T0 := TX2) (N := 11) B hS9 mf2_at wd_466 (gw B wd_467) wd_493 (by decide) rfl (fun h => (gd_ne h).1) (c2_at X l v_5 x2 M) (by decide) (by decide) (by decide) rfl (Nat.le_of_ble_eq_true rfl) dX1_areAsNow_26 rfl (fun v_6 => ?_)
      refine g_getI (ci := 8) (T0 := TX8) (N := 9) B (by decide) rfl in_8 (k := 0) (by decide) rfl wd_54 (fun _ h => h) dX1_areAsNow_29 (fun v_7 => ?_)
      refine g_icmp_eq B 37 dX1_areAsNow_32 (by decide) ?_ ?_
      · refine g_iinc (v := (x2 + 1)) (lv' := [(2, .int (x2 + 1)), (0, .ref a0), (1, .ref a1)]) B dX1_areAsNow_37 2 rfl rfl (by decide) [0, 1, 2] rfl ?_
        refine g_goto B 2 dX1_areAsNow_40 (by decide) ?_
        refine g_sub (lv' := [(0, .ref a0), (1, .ref a1), (2, .int (x2 + 1))]) [1, 2, 0] rfl ?_
        exact ih a0 a1 (x2 + 1)
      · refine g_iconst (v := 0) B dX1_areAsNow_35 (by decide) ?_
        exact g_ireturn B hr rfl (by decide) (by decide) rfl dX1_areAsNow_36
    · refine g_iconst (v := 1) B dX1_areAsNow_43 (by decide) ?_
      exact g_ireturn B hr rfl (by decide) (by decide) rfl dX1_areAsNow_44
set_option maxRecDepth 20000 in
set_option maxHeartbeats 2000000 in
theorem g1_areAsNow {X : gX} {p : Program} {l : Launch} {e : Env} {s : State} {m : MethodId} {args : Array Value} {below : List Frame} {meth : Method} {c : Code} (B : gB X p (rm1_areAsNow) s m args meth c RX1 cX1_areAsNow 3 (rm1_areAsNow)) (hS9 : gS X s) (hr : meth.sig.returnType = some .boolean) {M : mMem} (a0 : Nat) (a1 : Nat) : GG X p l e (rm1_areAsNow) s m args below meth c (gP X below args s 0 0 (fun r9 : Int32 => (some (.int r9), M))) 3 0 0 0 [(0, .ref a0), (1, .ref a1)] [] M (p1_areAsNow a0 a1 M) := by
  unfold p1_areAsNow
  refine g_gd ?_
  refine g_iconst (v := 0) B dX1_areAsNow_0 (by decide) ?_
  refine g_istore_n (lv' := [(2, .int 0), (0, .ref a0), (1, .ref a1)]) B dX1_areAsNow_1 (by decide) [0, 1, 2] rfl ?_
  refine g_sub (lv' := [(0, .ref a0), (1, .ref a1), (2, .int 0)]) [1, 2, 0] rfl ?_
  exact (g1_areAsNow_L2 B hS9 hr) gF a0 a1 0
theorem c1_areAsNow (X : gX) (l : Launch) (a0 : Nat) (a1 : Nat) (M : mMem) : Con X l yX1_areAsNow cX1_areAsNow 3 (some .boolean) rm1_areAsNow (fun r9 : Int32 => (some (.int r9), M)) [.ref a0, .ref a1] M (p1_areAsNow a0 a1 M) := g_con (own := RX1) (by decide +kernel) rfl (Nat.le_of_ble_eq_true rfl) (fun p e s m args below meth c B hS9 hr hn => g1_areAsNow B hS9 hr a0 a1)
theorem mf1_firstAsNow : gMF yX1_firstAsNow cX1_firstAsNow 3 (some .int) 1 := ⟨wd_560, wd_9, ⟨by decide, by decide⟩, by decide +kernel⟩
set_option maxRecDepth 20000 in
set_option maxHeartbeats 2000000 in
theorem g1_firstAsNow_L13 {X : gX} {p : Program} {l : Launch} {e : Env} {s : State} {m : MethodId} {args : Array Value} {below : List Frame} {meth : Method} {c : Code} (B : gB X p (rm1_firstAsNow) s m args meth c RX1 cX1_firstAsNow 3 (rm1_firstAsNow)) (hS9 : gS X s) (hr : meth.sig.returnType = some .int) : ∀ (n : Nat) (a0 : Nat) (x1 : Int32) (x2 : Int32) (M : mMem), GG X p l e (rm1_firstAsNow) s m args below meth c (gP X below args s 0 0 (fun r9 : (Int32 × mMem) => (some (.int r9.1), r9.2))) 3 0 0 13 [(0, .ref a0), (1, .int x1), (2, .int x2)] [] M (p1_firstAsNow_L13 n a0 x1 x2 M) := by
  intro n
  induction n with
  | zero => intro a0 x1 x2 M; exact g_none
  | succ n ih =>
    intro a0 x1 x2 M
    rw [p1_firstAsNow_L13]
    refine g_iload_n B dX1_firstAsNow_13 2 rfl ?_
    refine g_bipush (v := 100) B dX1_firstAsNow_14 (by decide) ?_
    refine g_icmp_gt B 47 dX1_firstAsNow_16 (by decide) ?_ ?_
    · refine g_iconst (v := (-1)) B dX1_firstAsNow_47 (by decide) ?_
      exact g_ireturn B hr rfl (by decide) (by decide) rfl dX1_firstAsNow_48
    · refine g_aload_n B dX1_firstAsNow_19 0 rfl ?_
      refine g_aload_n B dX1_firstAsNow_20 0 rfl ?_
      refine g_getR (ci := 1) (T0 := TX1) (N := 3) B (by decide) rfl in_1 (k := 2) (by decide) rfl wd_304 (fun _ h => h) dX1_firstAsNow_21 (fun v_1 => ?_)
      refine g_iload_n B dX1_firstAsNow_24 1 rfl ?_
      refine g_callV_vw [.ref v_1, .int x1] (ci := 1) (T0 := TX1) (N := 3) B hS9 mf1_passAhead wd_491 (gw B wp_1) wd_489 (by decide) rfl (fun h => (gd_ne h).1) (c1_passAhead X l a0 v_1 x1 M) (by decide) (by decide) (by decide) rfl (by decide) dX1_firstAsNow_25 rfl (fun q_2 => ?_)
      refine g_aload_n B dX1_firstAsNow_28 0 rfl ?_
      refine g_aload_n B dX1_firstAsNow_29 0 rfl ?_
      refine g_getR (ci := 1) (T0 := TX1) (N := 3) B (by decide) rfl in_1 (k := 2) (by decide) rfl wd_304 (fun _ h => h) dX1_firstAsNow_30 (fun v_3 => ?_)
      refine g_callV_ip [.ref v_3] (ci := 1) (T0 := TX1) (N := 3) B hS9 mf1_areAsNow wd_563 (gw B wp_4) wd_561 (by decide) rfl (fun h => (gd_ne h).1) (c1_areAsNow X l a0 v_3 q_2) (by decide) (by decide) (by decide) rfl (by decide) dX1_firstAsNow_33 rfl (fun v_4 => ?_)
      refine g_if_eq B 41 dX1_firstAsNow_36 (by decide) ?_ ?_
      · refine g_iinc (v := (x2 + 1)) (lv' := [(2, .int (x2 + 1)), (0, .ref a0), (1, .int x1)]) B dX1_firstAsNow_41 2 rfl rfl (by decide) [0, 1, 2] rfl ?_
        refine g_goto B 13 dX1_firstAsNow_44 (by decide) ?_
        refine g_sub (lv' := [(0, .ref a0), (1, .int x1), (2, .int (x2 + 1))]) [1, 2, 0] rfl ?_
        exact ih a0 x1 (x2 + 1) q_2
      · refine g_iload_n B dX1_firstAsNow_39 2 rfl ?_
        exact g_ireturn B hr rfl (by decide) (by decide) rfl dX1_firstAsNow_40
set_option maxRecDepth 20000 in
set_option maxHeartbeats 2000000 in
theorem g1_firstAsNow {X : gX} {p : Program} {l : Launch} {e : Env} {s : State} {m : MethodId} {args : Array Value} {below : List Frame} {meth : Method} {c : Code} (B : gB X p (rm1_firstAsNow) s m args meth c RX1 cX1_firstAsNow 3 (rm1_firstAsNow)) (hS9 : gS X s) (hr : meth.sig.returnType = some .int) (a0 : Nat) (x1 : Int32) (M : mMem) : GG X p l e (rm1_firstAsNow) s m args below meth c (gP X below args s 0 0 (fun r9 : (Int32 × mMem) => (some (.int r9.1), r9.2))) 3 0 0 0 [(0, .ref a0), (1, .int x1)] [] M (p1_firstAsNow a0 x1 M) := by
  unfold p1_firstAsNow
  refine g_gd ?_
  refine g_aload_n B dX1_firstAsNow_0 0 rfl ?_
  refine g_getR (ci := 1) (T0 := TX1) (N := 3) B (by decide) rfl in_1 (k := 2) (by decide) rfl wd_304 (fun _ h => h) dX1_firstAsNow_1 (fun v_1 => ?_)
  refine g_aload_n B dX1_firstAsNow_4 0 rfl ?_
  refine g_getR (ci := 1) (T0 := TX1) (N := 3) B (by decide) rfl in_1 (k := 0) (by decide) rfl wd_302 (fun _ h => h) dX1_firstAsNow_5 (fun v_2 => ?_)
  refine g_callV_vw [.ref v_2] (ci := 2) (T0 := TX2) (N := 11) B hS9 mf2_take wd_462 (gw B wd_463) wd_461 (by decide) rfl (fun h => (gd_ne h).1) (c2_take X l v_1 v_2 M) (by decide) (by decide) (by decide) rfl (by decide) dX1_firstAsNow_8 rfl (fun q_3 => ?_)
  refine g_iconst (v := 1) B dX1_firstAsNow_11 (by decide) ?_
  refine g_istore_n (lv' := [(2, .int 1), (0, .ref a0), (1, .int x1)]) B dX1_firstAsNow_12 (by decide) [0, 1, 2] rfl ?_
  refine g_sub (lv' := [(0, .ref a0), (1, .int x1), (2, .int 1)]) [1, 2, 0] rfl ?_
  exact (g1_firstAsNow_L13 B hS9 hr) gF a0 x1 1 q_3
theorem c1_firstAsNow (X : gX) (l : Launch) (a0 : Nat) (x1 : Int32) (M : mMem) : Con X l yX1_firstAsNow cX1_firstAsNow 3 (some .int) rm1_firstAsNow (fun r9 : (Int32 × mMem) => (some (.int r9.1), r9.2)) [.ref a0, .int x1] M (p1_firstAsNow a0 x1 M) := g_con (own := RX1) (by decide +kernel) rfl (Nat.le_of_ble_eq_true rfl) (fun p e s m args below meth c B hS9 hr hn => g1_firstAsNow B hS9 hr a0 x1 M)
theorem mf1_firstTurn : gMF yX1_firstTurn cX1_firstTurn 3 (some .int) 1 := ⟨wd_1377, wd_9, ⟨by decide, by decide⟩, by decide +kernel⟩
set_option maxRecDepth 20000 in
set_option maxHeartbeats 2000000 in
theorem g1_firstTurn_L13 {X : gX} {p : Program} {l : Launch} {e : Env} {s : State} {m : MethodId} {args : Array Value} {below : List Frame} {meth : Method} {c : Code} (B : gB X p (rm1_firstTurn) s m args meth c RX1 cX1_firstTurn 3 (rm1_firstTurn)) (hS9 : gS X s) (hr : meth.sig.returnType = some .int) : ∀ (n : Nat) (a0 : Nat) (x1 : Int32) (x2 : Int32) (M : mMem), GG X p l e (rm1_firstTurn) s m args below meth c (gP X below args s 0 0 (fun r9 : (Int32 × mMem) => (some (.int r9.1), r9.2))) 3 0 0 13 [(0, .ref a0), (1, .int x1), (2, .int x2)] [] M (p1_firstTurn_L13 n a0 x1 x2 M) := by
  intro n
  induction n with
  | zero => intro a0 x1 x2 M; exact g_none
  | succ n ih =>
    intro a0 x1 x2 M
    rw [p1_firstTurn_L13]
    refine g_iload_n B dX1_firstTurn_13 2 rfl ?_
    refine g_bipush (v := 100) B dX1_firstTurn_14 (by decide) ?_
    refine g_icmp_gt B 61 dX1_firstTurn_16 (by decide) ?_ ?_
    · refine g_iconst (v := (-1)) B dX1_firstTurn_61 (by decide) ?_
      exact g_ireturn B hr rfl (by decide) (by decide) rfl dX1_firstTurn_62
    · refine g_aload_n B dX1_firstTurn_19 0 rfl ?_
      refine g_aload_n B dX1_firstTurn_20 0 rfl ?_
      refine g_getR (ci := 1) (T0 := TX1) (N := 3) B (by decide) rfl in_1 (k := 2) (by decide) rfl wd_304 (fun _ h => h) dX1_firstTurn_21 (fun v_1 => ?_)
      refine g_iconst (v := 0) B dX1_firstTurn_24 (by decide) ?_
      refine g_callV_vw [.ref v_1, .int 0] (ci := 1) (T0 := TX1) (N := 3) B hS9 mf1_passAhead wd_491 (gw B wp_1) wd_489 (by decide) rfl (fun h => (gd_ne h).1) (c1_passAhead X l a0 v_1 0 M) (by decide) (by decide) (by decide) rfl (by decide) dX1_firstTurn_25 rfl (fun q_2 => ?_)
      refine g_aload_n B dX1_firstTurn_28 0 rfl ?_
      refine g_getR (ci := 1) (T0 := TX1) (N := 3) B (by decide) rfl in_1 (k := 2) (by decide) rfl wd_304 (fun _ h => h) dX1_firstTurn_29 (fun v_3 => ?_)
      refine g_iload_n B dX1_firstTurn_32 1 rfl ?_
      refine g_callV_ap [.int x1] (ci := 2) (T0 := TX2) (N := 11) B hS9 mf2_at wd_466 (gw B wd_467) wd_493 (by decide) rfl (fun h => (gd_ne h).1) (c2_at X l v_3 x1 q_2) (by decide) (by decide) (by decide) rfl (by decide) dX1_firstTurn_33 rfl (fun v_4 => ?_)
      refine g_getI (ci := 8) (T0 := TX8) (N := 9) B (by decide) rfl in_8 (k := 1) (by decide) rfl wd_62 (fun _ h => h) dX1_firstTurn_36 (fun v_5 => ?_)
      refine g_aload_n B dX1_firstTurn_39 0 rfl ?_
      refine g_getR (ci := 1) (T0 := TX1) (N := 3) B (by decide) rfl in_1 (k := 0) (by decide) rfl wd_302 (fun _ h => h) dX1_firstTurn_40 (fun v_6 => ?_)
      refine g_iload_n B dX1_firstTurn_43 1 rfl ?_
      refine g_callV_ap [.int x1] (ci := 2) (T0 := TX2) (N := 11) B hS9 mf2_at wd_466 (gw B wd_467) wd_493 (by decide) rfl (fun h => (gd_ne h).1) (c2_at X l v_6 x1 q_2) (by decide) (by decide) (by decide) rfl (Nat.le_of_ble_eq_true rfl) dX1_firstTurn_44 rfl (fun v_7 => ?_)
      refine g_getI (ci := 8) (T0 := TX8) (N := 9) B (by decide) rfl in_8 (k := 1) (by decide) rfl wd_62 (fun _ h => h) dX1_firstTurn_47 (fun v_8 => ?_)
      refine g_icmp_le B 55 dX1_firstTurn_50 (by decide) ?_ ?_
      · refine g_iload_n B dX1_firstTurn_53 2 rfl ?_
        exact g_ireturn B hr rfl (by decide) (by decide) rfl dX1_firstTurn_54
      · refine g_iinc (v := (x2 + 1)) (lv' := [(2, .int (x2 + 1)), (0, .ref a0), (1, .int x1)]) B dX1_firstTurn_55 2 rfl rfl (by decide) [0, 1, 2] rfl ?_
        refine g_goto B 13 dX1_firstTurn_58 (by decide) ?_
        refine g_sub (lv' := [(0, .ref a0), (1, .int x1), (2, .int (x2 + 1))]) [1, 2, 0] rfl ?_
        exact ih a0 x1 (x2 + 1) q_2
set_option maxRecDepth 20000 in
set_option maxHeartbeats 2000000 in
theorem g1_firstTurn {X : gX} {p : Program} {l : Launch} {e : Env} {s : State} {m : MethodId} {args : Array Value} {below : List Frame} {meth : Method} {c : Code} (B : gB X p (rm1_firstTurn) s m args meth c RX1 cX1_firstTurn 3 (rm1_firstTurn)) (hS9 : gS X s) (hr : meth.sig.returnType = some .int) (a0 : Nat) (x1 : Int32) (M : mMem) : GG X p l e (rm1_firstTurn) s m args below meth c (gP X below args s 0 0 (fun r9 : (Int32 × mMem) => (some (.int r9.1), r9.2))) 3 0 0 0 [(0, .ref a0), (1, .int x1)] [] M (p1_firstTurn a0 x1 M) := by
  unfold p1_firstTurn
  refine g_gd ?_
  refine g_aload_n B dX1_firstTurn_0 0 rfl ?_
  refine g_getR (ci := 1) (T0 := TX1) (N := 3) B (by decide) rfl in_1 (k := 2) (by decide) rfl wd_304 (fun _ h => h) dX1_firstTurn_1 (fun v_1 => ?_)
  refine g_aload_n B dX1_firstTurn_4 0 rfl ?_
  refine g_getR (ci := 1) (T0 := TX1) (N := 3) B (by decide) rfl in_1 (k := 0) (by decide) rfl wd_302 (fun _ h => h) dX1_firstTurn_5 (fun v_2 => ?_)
  refine g_callV_vw [.ref v_2] (ci := 2) (T0 := TX2) (N := 11) B hS9 mf2_take wd_462 (gw B wd_463) wd_461 (by decide) rfl (fun h => (gd_ne h).1) (c2_take X l v_1 v_2 M) (by decide) (by decide) (by decide) rfl (by decide) dX1_firstTurn_8 rfl (fun q_3 => ?_)
  refine g_iconst (v := 1) B dX1_firstTurn_11 (by decide) ?_
  refine g_istore_n (lv' := [(2, .int 1), (0, .ref a0), (1, .int x1)]) B dX1_firstTurn_12 (by decide) [0, 1, 2] rfl ?_
  refine g_sub (lv' := [(0, .ref a0), (1, .int x1), (2, .int 1)]) [1, 2, 0] rfl ?_
  exact (g1_firstTurn_L13 B hS9 hr) gF a0 x1 1 q_3
theorem c1_firstTurn (X : gX) (l : Launch) (a0 : Nat) (x1 : Int32) (M : mMem) : Con X l yX1_firstTurn cX1_firstTurn 3 (some .int) rm1_firstTurn (fun r9 : (Int32 × mMem) => (some (.int r9.1), r9.2)) [.ref a0, .int x1] M (p1_firstTurn a0 x1 M) := g_con (own := RX1) (by decide +kernel) rfl (Nat.le_of_ble_eq_true rfl) (fun p e s m args below meth c B hS9 hr hn => g1_firstTurn B hS9 hr a0 x1 M)
theorem mf1_isMild : gMF yX1_isMild cX1_isMild 4 (some .boolean) 2 := ⟨wd_1508, wd_9, ⟨by decide, by decide⟩, by decide +kernel⟩
set_option maxRecDepth 20000 in
set_option maxHeartbeats 2000000 in
theorem g1_isMild_L21 {X : gX} {p : Program} {l : Launch} {e : Env} {s : State} {m : MethodId} {args : Array Value} {below : List Frame} {meth : Method} {c : Code} (B : gB X p (rm1_isMild) s m args meth c RX1 cX1_isMild 4 (rm1_isMild)) (hS9 : gS X s) (hr : meth.sig.returnType = some .boolean) : ∀ (n : Nat) (a0 : Nat) (x2 : Int32) (x3 : Int32) (M : mMem), GG X p l e (rm1_isMild) s m args below meth c (gP X below args s 0 0 (fun r9 : (Int32 × mMem) => (some (.int r9.1), r9.2))) 4 0 0 21 [(0, .ref a0), (2, .int x2), (3, .int x3)] [] M (p1_isMild_L21 n a0 x2 x3 M) := by
  intro n
  induction n with
  | zero => intro a0 x2 x3 M; exact g_none
  | succ n ih =>
    intro a0 x2 x3 M
    rw [p1_isMild_L21]
    refine g_iload_n B dX1_isMild_21 2 rfl ?_
    refine g_iload_n B dX1_isMild_22 1 rfl ?_
    refine g_icmp_ge B 53 dX1_isMild_23 (by decide) ?_ ?_
    · refine g_aload_n B dX1_isMild_26 0 rfl ?_
      refine g_aload_n B dX1_isMild_27 0 rfl ?_
      refine g_getR (ci := 1) (T0 := TX1) (N := 3) B (by decide) rfl in_1 (k := 2) (by decide) rfl wd_304 (fun _ h => h) dX1_isMild_28 (fun v_1 => ?_)
      refine g_iconst (v := 0) B dX1_isMild_31 (by decide) ?_
      refine g_callV_vw [.ref v_1, .int 0] (ci := 1) (T0 := TX1) (N := 3) B hS9 mf1_passAhead wd_491 (gw B wp_1) wd_489 (by decide) rfl (fun h => (gd_ne h).1) (c1_passAhead X l a0 v_1 0 M) (by decide) (by decide) (by decide) rfl (by decide) dX1_isMild_32 rfl (fun q_2 => ?_)
      refine g_aload_n B dX1_isMild_35 0 rfl ?_
      refine g_getR (ci := 1) (T0 := TX1) (N := 3) B (by decide) rfl in_1 (k := 2) (by decide) rfl wd_304 (fun _ h => h) dX1_isMild_36 (fun v_3 => ?_)
      refine g_callV_ip [] (ci := 2) (T0 := TX2) (N := 11) B hS9 mf2_inCrib wd_482 (gw B wd_483) wd_481 (by decide) rfl (fun h => (gd_ne h).1) (c2_inCrib X l v_3 q_2) (by decide) (by decide) (by decide) rfl (by decide) dX1_isMild_39 rfl (fun v_4 => ?_)
      refine g_if_eq B 47 dX1_isMild_42 (by decide) ?_ ?_
      · refine g_iinc (v := (x3 + 1)) (lv' := [(3, .int (x3 + 1)), (0, .ref a0), (2, .int x2)]) B dX1_isMild_47 2 rfl rfl (by decide) [0, 1, 2] rfl ?_
        refine g_goto B 21 dX1_isMild_50 (by decide) ?_
        refine g_sub (lv' := [(0, .ref a0), (2, .int x2), (3, .int (x3 + 1))]) [1, 2, 0] rfl ?_
        exact ih a0 x2 (x3 + 1) q_2
      · refine g_iconst (v := 0) B dX1_isMild_45 (by decide) ?_
        exact g_ireturn B hr rfl (by decide) (by decide) rfl dX1_isMild_46
    · refine g_iconst (v := 1) B dX1_isMild_53 (by decide) ?_
      exact g_ireturn B hr rfl (by decide) (by decide) rfl dX1_isMild_54
set_option maxRecDepth 20000 in
set_option maxHeartbeats 2000000 in
theorem g1_isMild {X : gX} {p : Program} {l : Launch} {e : Env} {s : State} {m : MethodId} {args : Array Value} {below : List Frame} {meth : Method} {c : Code} (B : gB X p (rm1_isMild) s m args meth c RX1 cX1_isMild 4 (rm1_isMild)) (hS9 : gS X s) (hr : meth.sig.returnType = some .boolean) (a0 : Nat) (x1 : Int32) (x2 : Int32) (M : mMem) : GG X p l e (rm1_isMild) s m args below meth c (gP X below args s 0 0 (fun r9 : (Int32 × mMem) => (some (.int r9.1), r9.2))) 4 0 0 0 [(0, .ref a0), (1, .int x1), (2, .int x2)] [] M (p1_isMild a0 x1 x2 M) := by
  unfold p1_isMild
  refine g_gd ?_
  refine g_aload_n B dX1_isMild_0 0 rfl ?_
  refine g_getR (ci := 1) (T0 := TX1) (N := 3) B (by decide) rfl in_1 (k := 2) (by decide) rfl wd_304 (fun _ h => h) dX1_isMild_1 (fun v_1 => ?_)
  refine g_aload_n B dX1_isMild_4 0 rfl ?_
  refine g_getR (ci := 1) (T0 := TX1) (N := 3) B (by decide) rfl in_1 (k := 0) (by decide) rfl wd_302 (fun _ h => h) dX1_isMild_5 (fun v_2 => ?_)
  refine g_callV_vw [.ref v_2] (ci := 2) (T0 := TX2) (N := 11) B hS9 mf2_take wd_462 (gw B wd_463) wd_461 (by decide) rfl (fun h => (gd_ne h).1) (c2_take X l v_1 v_2 M) (by decide) (by decide) (by decide) rfl (by decide) dX1_isMild_8 rfl (fun q_3 => ?_)
  refine g_aload_n B dX1_isMild_11 0 rfl ?_
  refine g_getR (ci := 1) (T0 := TX1) (N := 3) B (by decide) rfl in_1 (k := 2) (by decide) rfl wd_304 (fun _ h => h) dX1_isMild_12 (fun v_4 => ?_)
  refine g_iload_n B dX1_isMild_15 1 rfl ?_
  refine g_putI (ci := 2) (T0 := TX2) (N := 11) B (by decide) rfl in_2 tyX2 tyX2_ok nmX2 (k := 7) (by decide) wd_157 (fun _ h => h) rfl rfl (ty := .int) (by decide +kernel) rfl rfl dX1_isMild_16 (fun M_5 => ?_)
  refine g_iconst (v := 0) B dX1_isMild_19 (by decide) ?_
  refine g_istore_n (lv' := [(3, .int 0), (0, .ref a0), (1, .int x1), (2, .int x2)]) B dX1_isMild_20 (by decide) [0, 1, 2, 3] rfl ?_
  refine g_sub (lv' := [(0, .ref a0), (2, .int x2), (3, .int 0)]) [1, 3, 0] rfl ?_
  exact (g1_isMild_L21 B hS9 hr) gF a0 x2 0 M_5
theorem c1_isMild (X : gX) (l : Launch) (a0 : Nat) (x1 : Int32) (x2 : Int32) (M : mMem) : Con X l yX1_isMild cX1_isMild 4 (some .boolean) rm1_isMild (fun r9 : (Int32 × mMem) => (some (.int r9.1), r9.2)) [.ref a0, .int x1, .int x2] M (p1_isMild a0 x1 x2 M) := g_con (own := RX1) (by decide +kernel) rfl (Nat.le_of_ble_eq_true rfl) (fun p e s m args below meth c B hS9 hr hn => g1_isMild B hS9 hr a0 x1 x2 M)
theorem mf1_mildest : gMF yX1_mildest cX1_mildest 3 (some .int) 1 := ⟨wd_1504, wd_9, ⟨by decide, by decide⟩, by decide +kernel⟩
set_option maxRecDepth 20000 in
set_option maxHeartbeats 2000000 in
theorem g1_mildest_L3 {X : gX} {p : Program} {l : Launch} {e : Env} {s : State} {m : MethodId} {args : Array Value} {below : List Frame} {meth : Method} {c : Code} (B : gB X p (rm1_mildest) s m args meth c RX1 cX1_mildest 3 (rm1_mildest)) (hS9 : gS X s) (hr : meth.sig.returnType = some .int) : ∀ (n : Nat) (a0 : Nat) (x1 : Int32) (x2 : Int32) (M : mMem), GG X p l e (rm1_mildest) s m args below meth c (gP X below args s 0 0 (fun r9 : (Int32 × mMem) => (some (.int r9.1), r9.2))) 3 0 0 3 [(0, .ref a0), (1, .int x1), (2, .int x2)] [] M (p1_mildest_L3 n a0 x1 x2 M) := by
  intro n
  induction n with
  | zero => intro a0 x1 x2 M; exact g_none
  | succ n ih =>
    intro a0 x1 x2 M
    rw [p1_mildest_L3]
    refine g_iload_n B dX1_mildest_3 2 rfl ?_
    refine g_if_lt B 24 dX1_mildest_4 (by decide) ?_ ?_
    · refine g_iconst (v := (-1)) B dX1_mildest_24 (by decide) ?_
      exact g_ireturn B hr rfl (by decide) (by decide) rfl dX1_mildest_25
    · refine g_aload_n B dX1_mildest_7 0 rfl ?_
      refine g_iload_n B dX1_mildest_8 2 rfl ?_
      refine g_iload_n B dX1_mildest_9 1 rfl ?_
      refine g_callV_iw [.int x2, .int x1] (ci := 1) (T0 := TX1) (N := 3) B hS9 mf1_isMild wd_1507 (gw B wp_39) wd_1505 (by decide) rfl (fun h => (gd_ne h).1) (c1_isMild X l a0 x2 x1 M) (by decide) (by decide) (by decide) rfl (by decide) dX1_mildest_10 rfl (fun q_1 => ?_)
      refine g_if_eq B 18 dX1_mildest_13 (by decide) ?_ ?_
      · refine g_iinc (v := (x2 + (-1))) (lv' := [(2, .int (x2 + (-1))), (0, .ref a0), (1, .int x1)]) B dX1_mildest_18 2 rfl rfl (by decide) [0, 1, 2] rfl ?_
        refine g_goto B 3 dX1_mildest_21 (by decide) ?_
        refine g_sub (lv' := [(0, .ref a0), (1, .int x1), (2, .int (x2 + (-1)))]) [1, 2, 0] rfl ?_
        exact ih a0 x1 (x2 + (-1)) q_1.2
      · refine g_iload_n B dX1_mildest_16 2 rfl ?_
        exact g_ireturn B hr rfl (by decide) (by decide) rfl dX1_mildest_17
set_option maxRecDepth 20000 in
set_option maxHeartbeats 2000000 in
theorem g1_mildest {X : gX} {p : Program} {l : Launch} {e : Env} {s : State} {m : MethodId} {args : Array Value} {below : List Frame} {meth : Method} {c : Code} (B : gB X p (rm1_mildest) s m args meth c RX1 cX1_mildest 3 (rm1_mildest)) (hS9 : gS X s) (hr : meth.sig.returnType = some .int) (a0 : Nat) (x1 : Int32) (M : mMem) : GG X p l e (rm1_mildest) s m args below meth c (gP X below args s 0 0 (fun r9 : (Int32 × mMem) => (some (.int r9.1), r9.2))) 3 0 0 0 [(0, .ref a0), (1, .int x1)] [] M (p1_mildest a0 x1 M) := by
  unfold p1_mildest
  refine g_gd ?_
  refine g_bipush (v := 20) B dX1_mildest_0 (by decide) ?_
  refine g_istore_n (lv' := [(2, .int 20), (0, .ref a0), (1, .int x1)]) B dX1_mildest_2 (by decide) [0, 1, 2] rfl ?_
  refine g_sub (lv' := [(0, .ref a0), (1, .int x1), (2, .int 20)]) [1, 2, 0] rfl ?_
  exact (g1_mildest_L3 B hS9 hr) gF a0 x1 20 M
theorem c1_mildest (X : gX) (l : Launch) (a0 : Nat) (x1 : Int32) (M : mMem) : Con X l yX1_mildest cX1_mildest 3 (some .int) rm1_mildest (fun r9 : (Int32 × mMem) => (some (.int r9.1), r9.2)) [.ref a0, .int x1] M (p1_mildest a0 x1 M) := g_con (own := RX1) (by decide +kernel) rfl (Nat.le_of_ble_eq_true rfl) (fun p e s m args below meth c B hS9 hr hn => g1_mildest B hS9 hr a0 x1 M)
theorem mf2_agesTogether : gMF yX2_agesTogether cX2_agesTogether 3 (some .int) 0 := ⟨wd_662, wd_2, ⟨by decide, by decide⟩, by decide +kernel⟩
set_option maxRecDepth 20000 in
set_option maxHeartbeats 2000000 in
theorem g2_agesTogether_L4 {X : gX} {p : Program} {l : Launch} {e : Env} {s : State} {m : MethodId} {args : Array Value} {below : List Frame} {meth : Method} {c : Code} (B : gB X p (rm2_agesTogether) s m args meth c RX2 cX2_agesTogether 3 (rm2_agesTogether)) (hS9 : gS X s) (hr : meth.sig.returnType = some .int) {M : mMem} : ∀ (n : Nat) (a0 : Nat) (x1 : Int32) (x2 : Int32), GG X p l e (rm2_agesTogether) s m args below meth c (gP X below args s 0 0 (fun r9 : Int32 => (some (.int r9), M))) 3 0 0 4 [(0, .ref a0), (1, .int x1), (2, .int x2)] [] M (p2_agesTogether_L4 M n a0 x1 x2) := by
  intro n
  induction n with
  | zero => intro a0 x1 x2; exact g_none
  | succ n ih =>
    intro a0 x1 x2
    rw [p2_agesTogether_L4]
    refine g_iload_n B dX2_agesTogether_4 2 rfl ?_
    refine g_aload_n B dX2_agesTogether_5 0 rfl ?_
    refine g_getI (ci := 2) (T0 := TX2) (N := 11) B (by decide) rfl in_2 (k := 4) (by decide) rfl wd_139 (fun _ h => h) dX2_agesTogether_6 (fun v_1 => ?_)
    refine g_icmp_ge B 29 dX2_agesTogether_9 (by decide) ?_ ?_
    · refine g_iload_n B dX2_agesTogether_12 1 rfl ?_
      refine g_aload_n B dX2_agesTogether_13 0 rfl ?_
      refine g_iload_n B dX2_agesTogether_14 2 rfl ?_
      refine g_callV_ap [.int x2] (ci := 2) (T0 := TX2) (N := 11) B hS9 mf2_at wd_466 (gw B wd_467) wd_465 (by decide) rfl (fun h => (gd_ne h).1) (c2_at X l a0 x2 M) (by decide) (by decide) (by decide) rfl (Nat.le_of_ble_eq_true rfl) dX2_agesTogether_15 rfl (fun v_2 => ?_)
      refine g_getI (ci := 8) (T0 := TX8) (N := 9) B (by decide) rfl in_8 (k := 0) (by decide) rfl wd_53 (fun _ h => h) dX2_agesTogether_18 (fun v_3 => ?_)
      refine g_iadd B dX2_agesTogether_21 ?_
      refine g_istore_n (lv' := [(1, .int (x1 + v_3)), (0, .ref a0), (2, .int x2)]) B dX2_agesTogether_22 (by decide) [0, 1, 2] rfl ?_
      refine g_iinc (v := (x2 + 1)) (lv' := [(2, .int (x2 + 1)), (1, .int (x1 + v_3)), (0, .ref a0)]) B dX2_agesTogether_23 2 rfl rfl (by decide) [0, 1, 2] rfl ?_
      refine g_goto B 4 dX2_agesTogether_26 (by decide) ?_
      refine g_sub (lv' := [(0, .ref a0), (1, .int (x1 + v_3)), (2, .int (x2 + 1))]) [2, 1, 0] rfl ?_
      exact ih a0 (x1 + v_3) (x2 + 1)
    · refine g_iload_n B dX2_agesTogether_29 1 rfl ?_
      exact g_ireturn B hr rfl (by decide) (by decide) rfl dX2_agesTogether_30
set_option maxRecDepth 20000 in
set_option maxHeartbeats 2000000 in
theorem g2_agesTogether {X : gX} {p : Program} {l : Launch} {e : Env} {s : State} {m : MethodId} {args : Array Value} {below : List Frame} {meth : Method} {c : Code} (B : gB X p (rm2_agesTogether) s m args meth c RX2 cX2_agesTogether 3 (rm2_agesTogether)) (hS9 : gS X s) (hr : meth.sig.returnType = some .int) {M : mMem} (a0 : Nat) : GG X p l e (rm2_agesTogether) s m args below meth c (gP X below args s 0 0 (fun r9 : Int32 => (some (.int r9), M))) 3 0 0 0 [(0, .ref a0)] [] M (p2_agesTogether a0 M) := by
  unfold p2_agesTogether
  refine g_gd ?_
  refine g_iconst (v := 0) B dX2_agesTogether_0 (by decide) ?_
  refine g_istore_n (lv' := [(1, .int 0), (0, .ref a0)]) B dX2_agesTogether_1 (by decide) [0, 1] rfl ?_
  refine g_iconst (v := 0) B dX2_agesTogether_2 (by decide) ?_
  refine g_istore_n (lv' := [(2, .int 0), (1, .int 0), (0, .ref a0)]) B dX2_agesTogether_3 (by decide) [0, 1, 2] rfl ?_
  refine g_sub (lv' := [(0, .ref a0), (1, .int 0), (2, .int 0)]) [2, 1, 0] rfl ?_
  exact (g2_agesTogether_L4 B hS9 hr) gF a0 0 0
theorem c2_agesTogether (X : gX) (l : Launch) (a0 : Nat) (M : mMem) : Con X l yX2_agesTogether cX2_agesTogether 3 (some .int) rm2_agesTogether (fun r9 : Int32 => (some (.int r9), M)) [.ref a0] M (p2_agesTogether a0 M) := g_con (own := RX2) (by decide +kernel) rfl (Nat.le_of_ble_eq_true rfl) (fun p e s m args below meth c B hS9 hr hn => g2_agesTogether B hS9 hr a0)
theorem mf1_tried : gMF yX1_tried cX1_tried 3 (some .int) 2 := ⟨wd_1594, wd_9, ⟨by decide, by decide⟩, by decide +kernel⟩
set_option maxRecDepth 20000 in
set_option maxHeartbeats 2000000 in
theorem g1_tried_J42 {X : gX} {p : Program} {l : Launch} {e : Env} {s : State} {m : MethodId} {args : Array Value} {below : List Frame} {meth : Method} {c : Code} (B : gB X p (rm1_tried) s m args meth c RX1 cX1_tried 3 (rm1_tried)) (hS9 : gS X s) (hr : meth.sig.returnType = some .int) (u0 : Int32) (M : mMem) : GG X p l e (rm1_tried) s m args below meth c (gP X below args s 0 0 (fun r9 : (Int32 × mMem) => (some (.int r9.1), r9.2))) 3 0 0 42 [] [.int u0] M (p1_tried_J42 u0 M) := by
  unfold p1_tried_J42
  exact g_ireturn B hr rfl (by decide) (by decide) rfl dX1_tried_42
set_option maxRecDepth 20000 in
set_option maxHeartbeats 2000000 in
theorem g1_tried {X : gX} {p : Program} {l : Launch} {e : Env} {s : State} {m : MethodId} {args : Array Value} {below : List Frame} {meth : Method} {c : Code} (B : gB X p (rm1_tried) s m args meth c RX1 cX1_tried 3 (rm1_tried)) (hS9 : gS X s) (hr : meth.sig.returnType = some .int) (a0 : Nat) (x1 : Int32) (x2 : Int32) (M : mMem) : GG X p l e (rm1_tried) s m args below meth c (gP X below args s 0 0 (fun r9 : (Int32 × mMem) => (some (.int r9.1), r9.2))) 3 0 0 0 [(0, .ref a0), (1, .int x1), (2, .int x2)] [] M (p1_tried a0 x1 x2 M) := by
  unfold p1_tried
  refine g_gd ?_
  refine g_aload_n B dX1_tried_0 0 rfl ?_
  refine g_getR (ci := 1) (T0 := TX1) (N := 3) B (by decide) rfl in_1 (k := 2) (by decide) rfl wd_304 (fun _ h => h) dX1_tried_1 (fun v_1 => ?_)
  refine g_aload_n B dX1_tried_4 0 rfl ?_
  refine g_getR (ci := 1) (T0 := TX1) (N := 3) B (by decide) rfl in_1 (k := 0) (by decide) rfl wd_302 (fun _ h => h) dX1_tried_5 (fun v_2 => ?_)
  refine g_callV_vw [.ref v_2] (ci := 2) (T0 := TX2) (N := 11) B hS9 mf2_take wd_462 (gw B wd_463) wd_461 (by decide) rfl (fun h => (gd_ne h).1) (c2_take X l v_1 v_2 M) (by decide) (by decide) (by decide) rfl (by decide) dX1_tried_8 rfl (fun q_3 => ?_)
  refine g_aload_n B dX1_tried_11 0 rfl ?_
  refine g_aload_n B dX1_tried_12 0 rfl ?_
  refine g_getR (ci := 1) (T0 := TX1) (N := 3) B (by decide) rfl in_1 (k := 2) (by decide) rfl wd_304 (fun _ h => h) dX1_tried_13 (fun v_4 => ?_)
  refine g_iload_n B dX1_tried_16 1 rfl ?_
  refine g_callV_iw [.ref v_4, .int x1] (ci := 1) (T0 := TX1) (N := 3) B hS9 mf1_pass wd_1264 (gw B wd_1265) wd_1595 (by decide) rfl (fun h => (gd_ne h).1) (c1_pass X l a0 v_4 x1 q_3) (by decide) (by decide) (by decide) rfl (by decide) dX1_tried_17 rfl (fun q_5 => ?_)
  refine g_pop B dX1_tried_20 rfl ?_
  refine g_iload_n B dX1_tried_21 2 rfl ?_
  refine g_if_eq B 35 dX1_tried_22 (by decide) ?_ ?_
  · refine g_aload_n B dX1_tried_35 0 rfl ?_
    refine g_getR (ci := 1) (T0 := TX1) (N := 3) B (by decide) rfl in_1 (k := 2) (by decide) rfl wd_304 (fun _ h => h) dX1_tried_36 (fun v_6 => ?_)
    refine g_callV_ip [] (ci := 2) (T0 := TX2) (N := 11) B hS9 mf2_agesTogether wd_660 (gw B wd_661) wd_1596 (by decide) rfl (fun h => (gd_ne h).1) (c2_agesTogether X l v_6 q_5.2) (by decide) (by decide) (by decide) rfl (by decide) dX1_tried_39 rfl (fun v_7 => ?_)
    refine g_sub (lv' := []) [] rfl ?_
    exact g1_tried_J42 B hS9 hr v_7 q_5.2
  · refine g_aload_n B dX1_tried_25 0 rfl ?_
    refine g_getR (ci := 1) (T0 := TX1) (N := 3) B (by decide) rfl in_1 (k := 2) (by decide) rfl wd_304 (fun _ h => h) dX1_tried_26 (fun v_8 => ?_)
    refine g_callV_ip [] (ci := 2) (T0 := TX2) (N := 11) B hS9 mf2_inCrib wd_482 (gw B wd_483) wd_481 (by decide) rfl (fun h => (gd_ne h).1) (c2_inCrib X l v_8 q_5.2) (by decide) (by decide) (by decide) rfl (by decide) dX1_tried_29 rfl (fun v_9 => ?_)
    refine g_goto B 42 dX1_tried_32 (by decide) ?_
    refine g_sub (lv' := []) [] rfl ?_
    exact g1_tried_J42 B hS9 hr v_9 q_5.2
theorem c1_tried (X : gX) (l : Launch) (a0 : Nat) (x1 : Int32) (x2 : Int32) (M : mMem) : Con X l yX1_tried cX1_tried 3 (some .int) rm1_tried (fun r9 : (Int32 × mMem) => (some (.int r9.1), r9.2)) [.ref a0, .int x1, .int x2] M (p1_tried a0 x1 x2 M) := g_con (own := RX1) (by decide +kernel) rfl (Nat.le_of_ble_eq_true rfl) (fun p e s m args below meth c B hS9 hr hn => g1_tried B hS9 hr a0 x1 x2 M)
theorem mf1_spanned : gMF yX1_spanned cX1_spanned 6 (some .int) 2 := ⟨wd_1607, wd_9, ⟨by decide, by decide⟩, by decide +kernel⟩
set_option maxRecDepth 20000 in
set_option maxHeartbeats 2000000 in
theorem g1_spanned_J78 {X : gX} {p : Program} {l : Launch} {e : Env} {s : State} {m : MethodId} {args : Array Value} {below : List Frame} {meth : Method} {c : Code} (B : gB X p (rm1_spanned) s m args meth c RX1 cX1_spanned 6 (rm1_spanned)) (hS9 : gS X s) (hr : meth.sig.returnType = some .int) (rec5 : Nat → Int32 → Int32 → Int32 → Int32 → mMem → Option (Int32 × mMem)) (hrec5 : ∀ (a0 : Nat) (x1 : Int32) (x2 : Int32) (x3 : Int32) (x4 : Int32) (M : mMem), GG X p l e (rm1_spanned) s m args below meth c (gP X below args s 0 0 (fun r9 : (Int32 × mMem) => (some (.int r9.1), r9.2))) 6 0 0 5 [(0, .ref a0), (1, .int x1), (2, .int x2), (3, .int x3), (4, .int x4)] [] M (rec5 a0 x1 x2 x3 x4 M)) (a0 : Nat) (x1 : Int32) (x2 : Int32) (x3 : Int32) (x4 : Int32) (M : mMem) : GG X p l e (rm1_spanned) s m args below meth c (gP X below args s 0 0 (fun r9 : (Int32 × mMem) => (some (.int r9.1), r9.2))) 6 0 0 78 [(0, .ref a0), (1, .int x1), (2, .int x2), (3, .int x3), (4, .int x4)] [] M (p1_spanned_J78 rec5 a0 x1 x2 x3 x4 M) := by
  unfold p1_spanned_J78
  refine g_iinc (v := (x4 + 1)) (lv' := [(4, .int (x4 + 1)), (0, .ref a0), (1, .int x1), (2, .int x2), (3, .int x3)]) B dX1_spanned_78 4 rfl rfl (by decide) [0, 1, 2, 3, 4] rfl ?_
  refine g_goto B 5 dX1_spanned_81 (by decide) ?_
  refine g_sub (lv' := [(0, .ref a0), (1, .int x1), (2, .int x2), (3, .int x3), (4, .int (x4 + 1))]) [1, 2, 3, 4, 0] rfl ?_
  exact hrec5 a0 x1 x2 x3 (x4 + 1) M
set_option maxRecDepth 20000 in
set_option maxHeartbeats 2000000 in
theorem g1_spanned_J75 {X : gX} {p : Program} {l : Launch} {e : Env} {s : State} {m : MethodId} {args : Array Value} {below : List Frame} {meth : Method} {c : Code} (B : gB X p (rm1_spanned) s m args meth c RX1 cX1_spanned 6 (rm1_spanned)) (hS9 : gS X s) (hr : meth.sig.returnType = some .int) (rec5 : Nat → Int32 → Int32 → Int32 → Int32 → mMem → Option (Int32 × mMem)) (hrec5 : ∀ (a0 : Nat) (x1 : Int32) (x2 : Int32) (x3 : Int32) (x4 : Int32) (M : mMem), GG X p l e (rm1_spanned) s m args below meth c (gP X below args s 0 0 (fun r9 : (Int32 × mMem) => (some (.int r9.1), r9.2))) 6 0 0 5 [(0, .ref a0), (1, .int x1), (2, .int x2), (3, .int x3), (4, .int x4)] [] M (rec5 a0 x1 x2 x3 x4 M)) (a0 : Nat) (x1 : Int32) (x2 : Int32) (x4 : Int32) (x5 : Int32) (M : mMem) : GG X p l e (rm1_spanned) s m args below meth c (gP X below args s 0 0 (fun r9 : (Int32 × mMem) => (some (.int r9.1), r9.2))) 6 0 0 75 [(0, .ref a0), (1, .int x1), (2, .int x2), (4, .int x4), (5, .int x5)] [] M (p1_spanned_J75 rec5 a0 x1 x2 x4 x5 M) := by
  unfold p1_spanned_J75
  refine g_iload B dX1_spanned_75 4 rfl ?_
  refine g_istore_n (lv' := [(3, .int x5), (0, .ref a0), (1, .int x1), (2, .int x2), (4, .int x4), (5, .int x5)]) B dX1_spanned_77 (by decide) [0, 1, 2, 3, 4, 5] rfl ?_
  refine g_sub (lv' := [(0, .ref a0), (1, .int x1), (2, .int x2), (3, .int x5), (4, .int x4)]) [1, 2, 3, 0, 4] rfl ?_
  exact g1_spanned_J78 B hS9 hr rec5 hrec5 a0 x1 x2 x5 x4 M
set_option maxRecDepth 20000 in
set_option maxHeartbeats 2000000 in
theorem g1_spanned_L5 {X : gX} {p : Program} {l : Launch} {e : Env} {s : State} {m : MethodId} {args : Array Value} {below : List Frame} {meth : Method} {c : Code} (B : gB X p (rm1_spanned) s m args meth c RX1 cX1_spanned 6 (rm1_spanned)) (hS9 : gS X s) (hr : meth.sig.returnType = some .int) : ∀ (n : Nat) (a0 : Nat) (x1 : Int32) (x2 : Int32) (x3 : Int32) (x4 : Int32) (M : mMem), GG X p l e (rm1_spanned) s m args below meth c (gP X below args s 0 0 (fun r9 : (Int32 × mMem) => (some (.int r9.1), r9.2))) 6 0 0 5 [(0, .ref a0), (1, .int x1), (2, .int x2), (3, .int x3), (4, .int x4)] [] M (p1_spanned_L5 n a0 x1 x2 x3 x4 M) := by
  intro n
  induction n with
  | zero => intro a0 x1 x2 x3 x4 M; exact g_none
  | succ n ih =>
    intro a0 x1 x2 x3 x4 M
    rw [p1_spanned_L5]
    refine g_iload B dX1_spanned_5 4 rfl ?_
    refine g_bipush (v := 6) B dX1_spanned_7 (by decide) ?_
    refine g_icmp_gt B 84 dX1_spanned_9 (by decide) ?_ ?_
    · refine g_iload_n B dX1_spanned_84 3 rfl ?_
      exact g_ireturn B hr rfl (by decide) (by decide) rfl dX1_spanned_85
    · refine g_aload_n B dX1_spanned_12 0 rfl ?_
      refine g_getR (ci := 1) (T0 := TX1) (N := 3) B (by decide) rfl in_1 (k := 2) (by decide) rfl wd_304 (fun _ h => h) dX1_spanned_13 (fun v_1 => ?_)
      refine g_aload_n B dX1_spanned_16 0 rfl ?_
      refine g_getR (ci := 1) (T0 := TX1) (N := 3) B (by decide) rfl in_1 (k := 0) (by decide) rfl wd_302 (fun _ h => h) dX1_spanned_17 (fun v_2 => ?_)
      refine g_callV_vw [.ref v_2] (ci := 2) (T0 := TX2) (N := 11) B hS9 mf2_take wd_462 (gw B wd_463) wd_461 (by decide) rfl (fun h => (gd_ne h).1) (c2_take X l v_1 v_2 M) (by decide) (by decide) (by decide) rfl (by decide) dX1_spanned_20 rfl (fun q_3 => ?_)
      refine g_aload_n B dX1_spanned_23 0 rfl ?_
      refine g_getR (ci := 1) (T0 := TX1) (N := 3) B (by decide) rfl in_1 (k := 2) (by decide) rfl wd_304 (fun _ h => h) dX1_spanned_24 (fun v_4 => ?_)
      refine g_iload B dX1_spanned_27 4 rfl ?_
      refine g_putI (ci := 2) (T0 := TX2) (N := 11) B (by decide) rfl in_2 tyX2 tyX2_ok nmX2 (k := 9) (by decide) wd_164 (fun _ h => h) rfl rfl (ty := .int) (by decide +kernel) rfl rfl dX1_spanned_29 (fun M_5 => ?_)
      refine g_aload_n B dX1_spanned_32 0 rfl ?_
      refine g_aload_n B dX1_spanned_33 0 rfl ?_
      refine g_getR (ci := 1) (T0 := TX1) (N := 3) B (by decide) rfl in_1 (k := 2) (by decide) rfl wd_304 (fun _ h => h) dX1_spanned_34 (fun v_6 => ?_)
      refine g_iload_n B dX1_spanned_37 1 rfl ?_
      refine g_callV_iw [.ref v_6, .int x1] (ci := 1) (T0 := TX1) (N := 3) B hS9 mf1_pass wd_1264 (gw B wd_1265) wd_1595 (by decide) rfl (fun h => (gd_ne h).1) (c1_pass X l a0 v_6 x1 M_5) (by decide) (by decide) (by decide) rfl (by decide) dX1_spanned_38 rfl (fun q_7 => ?_)
      refine g_pop B dX1_spanned_41 rfl ?_
      refine g_aload_n B dX1_spanned_42 0 rfl ?_
      refine g_getR (ci := 1) (T0 := TX1) (N := 3) B (by decide) rfl in_1 (k := 2) (by decide) rfl wd_304 (fun _ h => h) dX1_spanned_43 (fun v_8 => ?_)
      refine g_callV_ip [] (ci := 2) (T0 := TX2) (N := 11) B hS9 mf2_agesTogether wd_660 (gw B wd_661) wd_1596 (by decide) rfl (fun h => (gd_ne h).1) (c2_agesTogether X l v_8 q_7.2) (by decide) (by decide) (by decide) rfl (by decide) dX1_spanned_46 rfl (fun v_9 => ?_)
      refine g_istore (lv' := [(5, .int v_9), (0, .ref a0), (1, .int x1), (2, .int x2), (3, .int x3), (4, .int x4)]) B dX1_spanned_49 (by decide) [0, 1, 2, 3, 4, 5] rfl ?_
      refine g_iload_n B dX1_spanned_51 4 rfl ?_
      refine g_iconst (v := (-1)) B dX1_spanned_52 (by decide) ?_
      refine g_icmp_eq B 75 dX1_spanned_53 (by decide) ?_ ?_
      · refine g_sub (lv' := [(0, .ref a0), (1, .int x1), (2, .int x2), (4, .int x4), (5, .int v_9)]) [1, 2, 3, 5, 0] rfl ?_
        exact g1_spanned_J75 B hS9 hr (p1_spanned_L5 n) ih a0 x1 x2 x4 v_9 q_7.2
      · refine g_iload_n B dX1_spanned_56 3 rfl ?_
        refine g_if_eq B 69 dX1_spanned_57 (by decide) ?_ ?_
        · refine g_iload B dX1_spanned_69 0 rfl ?_
          refine g_iload_n B dX1_spanned_71 4 rfl ?_
          refine g_icmp_ge B 78 dX1_spanned_72 (by decide) ?_ ?_
          · refine g_sub (lv' := [(0, .ref a0), (1, .int x1), (2, .int x2), (4, .int x4), (5, .int v_9)]) [1, 2, 3, 5, 0] rfl ?_
            exact g1_spanned_J75 B hS9 hr (p1_spanned_L5 n) ih a0 x1 x2 x4 v_9 q_7.2
          · refine g_sub (lv' := [(0, .ref a0), (1, .int x1), (2, .int x2), (3, .int x3), (4, .int x4)]) [1, 2, 3, 4, 5] rfl ?_
            exact g1_spanned_J78 B hS9 hr (p1_spanned_L5 n) ih a0 x1 x2 x3 x4 q_7.2
        · refine g_iload B dX1_spanned_60 0 rfl ?_
          refine g_iload_n B dX1_spanned_62 4 rfl ?_
          refine g_icmp_le B 78 dX1_spanned_63 (by decide) ?_ ?_
          · refine g_goto B 75 dX1_spanned_66 (by decide) ?_
            refine g_sub (lv' := [(0, .ref a0), (1, .int x1), (2, .int x2), (4, .int x4), (5, .int v_9)]) [1, 2, 3, 5, 0] rfl ?_
            exact g1_spanned_J75 B hS9 hr (p1_spanned_L5 n) ih a0 x1 x2 x4 v_9 q_7.2
          · refine g_sub (lv' := [(0, .ref a0), (1, .int x1), (2, .int x2), (3, .int x3), (4, .int x4)]) [1, 2, 3, 4, 5] rfl ?_
            exact g1_spanned_J78 B hS9 hr (p1_spanned_L5 n) ih a0 x1 x2 x3 x4 q_7.2
set_option maxRecDepth 20000 in
set_option maxHeartbeats 2000000 in
theorem g1_spanned {X : gX} {p : Program} {l : Launch} {e : Env} {s : State} {m : MethodId} {args : Array Value} {below : List Frame} {meth : Method} {c : Code} (B : gB X p (rm1_spanned) s m args meth c RX1 cX1_spanned 6 (rm1_spanned)) (hS9 : gS X s) (hr : meth.sig.returnType = some .int) (a0 : Nat) (x1 : Int32) (x2 : Int32) (M : mMem) : GG X p l e (rm1_spanned) s m args below meth c (gP X below args s 0 0 (fun r9 : (Int32 × mMem) => (some (.int r9.1), r9.2))) 6 0 0 0 [(0, .ref a0), (1, .int x1), (2, .int x2)] [] M (p1_spanned a0 x1 x2 M) := by
  unfold p1_spanned
  refine g_gd ?_
  refine g_iconst (v := (-1)) B dX1_spanned_0 (by decide) ?_
  refine g_istore_n (lv' := [(3, .int (-1)), (0, .ref a0), (1, .int x1), (2, .int x2)]) B dX1_spanned_1 (by decide) [0, 1, 2, 3] rfl ?_
  refine g_iconst (v := 1) B dX1_spanned_2 (by decide) ?_
  refine g_istore (lv' := [(4, .int 1), (3, .int (-1)), (0, .ref a0), (1, .int x1), (2, .int x2)]) B dX1_spanned_3 (by decide) [0, 1, 2, 3, 4] rfl ?_
  refine g_sub (lv' := [(0, .ref a0), (1, .int x1), (2, .int x2), (3, .int (-1)), (4, .int 1)]) [2, 3, 4, 1, 0] rfl ?_
  exact (g1_spanned_L5 B hS9 hr) gF a0 x1 x2 (-1) 1 M
theorem c1_spanned (X : gX) (l : Launch) (a0 : Nat) (x1 : Int32) (x2 : Int32) (M : mMem) : Con X l yX1_spanned cX1_spanned 6 (some .int) rm1_spanned (fun r9 : (Int32 × mMem) => (some (.int r9.1), r9.2)) [.ref a0, .int x1, .int x2] M (p1_spanned a0 x1 x2 M) := g_con (own := RX1) (by decide +kernel) rfl (Nat.le_of_ble_eq_true rfl) (fun p e s m args below meth c B hS9 hr hn => g1_spanned B hS9 hr a0 x1 x2 M)
theorem mf2_add : gMF yX2_add cX2_add 5 (some .int) 3 := ⟨wd_894, wd_2, ⟨by decide, by decide⟩, by decide +kernel⟩
set_option maxRecDepth 20000 in
set_option maxHeartbeats 2000000 in
theorem g2_add {X : gX} {p : Program} {l : Launch} {e : Env} {s : State} {m : MethodId} {args : Array Value} {below : List Frame} {meth : Method} {c : Code} (B : gB X p (rm2_add) s m args meth c RX2 cX2_add 5 (rm2_add)) (hS9 : gS X s) (hr : meth.sig.returnType = some .int) (a0 : Nat) (x1 : Int32) (x2 : Int32) (x3 : Int32) (M : mMem) : GG X p l e (rm2_add) s m args below meth c (gP X below args s 0 0 (fun r9 : (Int32 × mMem) => (some (.int r9.1), r9.2))) 5 0 0 0 [(0, .ref a0), (1, .int x1), (2, .int x2), (3, .int x3)] [] M (p2_add a0 x1 x2 x3 M) := by
  unfold p2_add
  refine g_gd ?_
  refine g_aload_n B dX2_add_0 0 rfl ?_
  refine g_aload_n B dX2_add_1 0 rfl ?_
  refine g_getI (ci := 2) (T0 := TX2) (N := 11) B (by decide) rfl in_2 (k := 4) (by decide) rfl wd_139 (fun _ h => h) dX2_add_2 (fun v_1 => ?_)
  refine g_callV_ap [.int v_1] (ci := 2) (T0 := TX2) (N := 11) B hS9 mf2_at wd_466 (gw B wd_467) wd_465 (by decide) rfl (fun h => (gd_ne h).1) (c2_at X l a0 v_1 M) (by decide) (by decide) (by decide) rfl (by decide) dX2_add_5 rfl (fun v_2 => ?_)
  refine g_astore (lv' := [(4, .ref v_2), (0, .ref a0), (1, .int x1), (2, .int x2), (3, .int x3)]) B dX2_add_8 (by decide) [0, 1, 2, 3, 4] rfl ?_
  refine g_aload B dX2_add_10 0 rfl ?_
  refine g_aload_n B dX2_add_12 1 rfl ?_
  refine g_getR (ci := 2) (T0 := TX2) (N := 11) B (by decide) rfl in_2 (k := 1) (by decide) rfl wd_135 (fun _ h => h) dX2_add_13 (fun v_3 => ?_)
  refine g_callV_vw [.ref v_3] (ci := 8) (T0 := TX8) (N := 9) B hS9 mf8_take wd_470 (gw B wd_471) wd_469 (by decide) rfl (fun h => (gd_ne h).1) (c8_take X l v_2 v_3 M) (by decide) (by decide) (by decide) rfl (by decide) dX2_add_16 rfl (fun q_4 => ?_)
  refine g_aload B dX2_add_19 0 rfl ?_
  refine g_iload_n B dX2_add_21 2 rfl ?_
  refine g_putI (ci := 8) (T0 := TX8) (N := 9) B (by decide) rfl in_8 tyX8 tyX8_ok nmX8 (k := 2) (by decide) wd_66 (fun _ h => h) rfl rfl (ty := .int) (by decide +kernel) rfl rfl dX2_add_22 (fun M_5 => ?_)
  refine g_aload B dX2_add_25 0 rfl ?_
  refine g_iload_n B dX2_add_27 3 rfl ?_
  refine g_putI (ci := 8) (T0 := TX8) (N := 9) B (by decide) rfl in_8 tyX8 tyX8_ok nmX8 (k := 0) (by decide) wd_53 (fun _ h => h) rfl rfl (ty := .int) (by decide +kernel) rfl rfl dX2_add_28 (fun M_6 => ?_)
  refine g_aload B dX2_add_31 0 rfl ?_
  refine g_iload_n B dX2_add_33 4 rfl ?_
  refine g_putI (ci := 8) (T0 := TX8) (N := 9) B (by decide) rfl in_8 tyX8 tyX8_ok nmX8 (k := 3) (by decide) wd_70 (fun _ h => h) rfl rfl (ty := .int) (by decide +kernel) rfl rfl dX2_add_34 (fun M_7 => ?_)
  refine g_aload_n B dX2_add_37 1 rfl ?_
  refine g_dup B dX2_add_38 rfl ?_
  refine g_getI (ci := 2) (T0 := TX2) (N := 11) B (by decide) rfl in_2 (k := 4) (by decide) rfl wd_139 (fun _ h => h) dX2_add_39 (fun v_8 => ?_)
  refine g_iconst (v := 1) B dX2_add_42 (by decide) ?_
  refine g_iadd B dX2_add_43 ?_
  refine g_putI (ci := 2) (T0 := TX2) (N := 11) B (by decide) rfl in_2 tyX2 tyX2_ok nmX2 (k := 4) (by decide) wd_139 (fun _ h => h) rfl rfl (ty := .int) (by decide +kernel) rfl rfl dX2_add_44 (fun M_9 => ?_)
  refine g_aload_n B dX2_add_47 1 rfl ?_
  refine g_getI (ci := 2) (T0 := TX2) (N := 11) B (by decide) rfl in_2 (k := 4) (by decide) rfl wd_139 (fun _ h => h) dX2_add_48 (fun v_10 => ?_)
  refine g_iconst (v := 1) B dX2_add_51 (by decide) ?_
  refine g_isub B dX2_add_52 ?_
  exact g_ireturn B hr rfl (by decide) (by decide) rfl dX2_add_53
theorem c2_add (X : gX) (l : Launch) (a0 : Nat) (x1 : Int32) (x2 : Int32) (x3 : Int32) (M : mMem) : Con X l yX2_add cX2_add 5 (some .int) rm2_add (fun r9 : (Int32 × mMem) => (some (.int r9.1), r9.2)) [.ref a0, .int x1, .int x2, .int x3] M (p2_add a0 x1 x2 x3 M) := g_con (own := RX2) (by decide +kernel) rfl (Nat.le_of_ble_eq_true rfl) (fun p e s m args below meth c B hS9 hr hn => g2_add B hS9 hr a0 x1 x2 x3 M)
theorem mf2_gapOf : gMF yX2_gapOf cX2_gapOf 4 (some .int) 2 := ⟨wd_598, wd_2, ⟨by decide, by decide⟩, by decide +kernel⟩
set_option maxRecDepth 20000 in
set_option maxHeartbeats 2000000 in
theorem g2_gapOf_J28 {X : gX} {p : Program} {l : Launch} {e : Env} {s : State} {m : MethodId} {args : Array Value} {below : List Frame} {meth : Method} {c : Code} (B : gB X p (rm2_gapOf) s m args meth c RX2 cX2_gapOf 4 (rm2_gapOf)) (hS9 : gS X s) (hr : meth.sig.returnType = some .int) {M : mMem} (a0 : Nat) (u0 : Int32) : GG X p l e (rm2_gapOf) s m args below meth c (gP X below args s 0 0 (fun r9 : Int32 => (some (.int r9), M))) 4 0 0 28 [(0, .ref a0)] [.int u0] M (p2_gapOf_J28 M a0 u0) := by
  unfold p2_gapOf_J28
  refine g_istore_n (lv' := [(3, .int u0), (0, .ref a0)]) B dX2_gapOf_28 (by decide) [0, 1] rfl ?_
  refine g_iload_n B dX2_gapOf_29 0 rfl ?_
  refine g_aload_n B dX2_gapOf_30 1 rfl ?_
  refine g_getI (ci := 2) (T0 := TX2) (N := 11) B (by decide) rfl in_2 (k := 5) (by decide) rfl wd_146 (fun _ h => h) dX2_gapOf_31 (fun v_1 => ?_)
  refine g_iload_n B dX2_gapOf_34 0 rfl ?_
  refine g_isub B dX2_gapOf_35 ?_
  refine g_min B wd_537 wd_538 wd_15 wd_539 (by decide) (Nat.le_of_ble_eq_true rfl) (by decide) dX2_gapOf_36 ?_
  exact g_ireturn B hr rfl (by decide) (by decide) rfl dX2_gapOf_39
set_option maxRecDepth 20000 in
set_option maxHeartbeats 2000000 in
theorem g2_gapOf {X : gX} {p : Program} {l : Launch} {e : Env} {s : State} {m : MethodId} {args : Array Value} {below : List Frame} {meth : Method} {c : Code} (B : gB X p (rm2_gapOf) s m args meth c RX2 cX2_gapOf 4 (rm2_gapOf)) (hS9 : gS X s) (hr : meth.sig.returnType = some .int) {M : mMem} (a0 : Nat) (x1 : Int32) (x2 : Int32) : GG X p l e (rm2_gapOf) s m args below meth c (gP X below args s 0 0 (fun r9 : Int32 => (some (.int r9), M))) 4 0 0 0 [(0, .ref a0), (1, .int x1), (2, .int x2)] [] M (p2_gapOf a0 x1 x2 M) := by
  unfold p2_gapOf
  refine g_gd ?_
  refine g_aload_n B dX2_gapOf_0 0 rfl ?_
  refine g_iload_n B dX2_gapOf_1 1 rfl ?_
  refine g_callV_ap [.int x1] (ci := 2) (T0 := TX2) (N := 11) B hS9 mf2_at wd_466 (gw B wd_467) wd_465 (by decide) rfl (fun h => (gd_ne h).1) (c2_at X l a0 x1 M) (by decide) (by decide) (by decide) rfl (by decide) dX2_gapOf_2 rfl (fun v_1 => ?_)
  refine g_getI (ci := 8) (T0 := TX8) (N := 9) B (by decide) rfl in_8 (k := 0) (by decide) rfl wd_53 (fun _ h => h) dX2_gapOf_5 (fun v_2 => ?_)
  refine g_aload_n B dX2_gapOf_8 0 rfl ?_
  refine g_iload_n B dX2_gapOf_9 2 rfl ?_
  refine g_callV_ap [.int x2] (ci := 2) (T0 := TX2) (N := 11) B hS9 mf2_at wd_466 (gw B wd_467) wd_465 (by decide) rfl (fun h => (gd_ne h).1) (c2_at X l a0 x2 M) (by decide) (by decide) (by decide) rfl (Nat.le_of_ble_eq_true rfl) dX2_gapOf_10 rfl (fun v_3 => ?_)
  refine g_getI (ci := 8) (T0 := TX8) (N := 9) B (by decide) rfl in_8 (k := 0) (by decide) rfl wd_53 (fun _ h => h) dX2_gapOf_13 (fun v_4 => ?_)
  refine g_isub B dX2_gapOf_16 ?_
  refine g_istore_n (lv' := [(3, .int (v_2 - v_4)), (0, .ref a0), (1, .int x1), (2, .int x2)]) B dX2_gapOf_17 (by decide) [0, 1, 2, 3] rfl ?_
  refine g_iload_n B dX2_gapOf_18 0 rfl ?_
  refine g_if_ge B 27 dX2_gapOf_19 (by decide) ?_ ?_
  · refine g_iload_n B dX2_gapOf_22 0 rfl ?_
    refine g_ineg B dX2_gapOf_23 ?_
    refine g_goto B 28 dX2_gapOf_24 (by decide) ?_
    refine g_sub (lv' := [(0, .ref a0)]) [1] rfl ?_
    exact g2_gapOf_J28 B hS9 hr a0 (-(v_2 - v_4))
  · refine g_iload_n B dX2_gapOf_27 0 rfl ?_
    refine g_sub (lv' := [(0, .ref a0)]) [1] rfl ?_
    exact g2_gapOf_J28 B hS9 hr a0 (v_2 - v_4)
theorem c2_gapOf (X : gX) (l : Launch) (a0 : Nat) (x1 : Int32) (x2 : Int32) (M : mMem) : Con X l yX2_gapOf cX2_gapOf 4 (some .int) rm2_gapOf (fun r9 : Int32 => (some (.int r9), M)) [.ref a0, .int x1, .int x2] M (p2_gapOf a0 x1 x2 M) := g_con (own := RX2) (by decide +kernel) rfl (Nat.le_of_ble_eq_true rfl) (fun p e s m args below meth c B hS9 hr hn => g2_gapOf B hS9 hr a0 x1 x2)
