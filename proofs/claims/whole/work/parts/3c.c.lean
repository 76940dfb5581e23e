theorem mf2_setGoverns : gMF yX2_setGoverns cX2_setGoverns 5 (none) 3 := ⟨wd_907, wd_2, ⟨by decide, by decide⟩, by decide +kernel⟩
set_option maxRecDepth 20000 in
set_option maxHeartbeats 2000000 in
theorem g2_setGoverns_J55 {X : gX} {p : Program} {l : Launch} {e : Env} {s : State} {m : MethodId} {args : Array Value} {below : List Frame} {meth : Method} {c : Code} (B : gB X p (rm2_setGoverns) s m args meth c RX2 cX2_setGoverns 5 (rm2_setGoverns)) (hS9 : gS X s) (hr : meth.sig.returnType = none) (M : mMem) : GG X p l e (rm2_setGoverns) s m args below meth c (gP X below args s 0 0 (fun M9 : mMem => (none, M9))) 5 0 0 55 [] [] M (p2_setGoverns_J55 M) := by
  unfold p2_setGoverns_J55
  exact g_vreturn B hr (by decide) (by decide) rfl dX2_setGoverns_55
set_option maxRecDepth 20000 in
set_option maxHeartbeats 2000000 in
theorem g2_setGoverns_J52 {X : gX} {p : Program} {l : Launch} {e : Env} {s : State} {m : MethodId} {args : Array Value} {below : List Frame} {meth : Method} {c : Code} (B : gB X p (rm2_setGoverns) s m args meth c RX2 cX2_setGoverns 5 (rm2_setGoverns)) (hS9 : gS X s) (hr : meth.sig.returnType = none) (b0 : Nat) (u1 : Int32) (M : mMem) : GG X p l e (rm2_setGoverns) s m args below meth c (gP X below args s 0 0 (fun M9 : mMem => (none, M9))) 5 0 0 52 [] [.int u1, .ref b0] M (p2_setGoverns_J52 b0 u1 M) := by
  unfold p2_setGoverns_J52
  refine g_putI (ci := 8) (T0 := TX8) (N := 9) B (by decide) rfl in_8 tyX8 tyX8_ok nmX8 (k := 8) (by decide) wd_94 (fun _ h => h) rfl rfl (ty := .int) (by decide +kernel) rfl rfl dX2_setGoverns_52 (fun M_1 => ?_)
  refine g_sub (lv' := []) [] rfl ?_
  exact g2_setGoverns_J55 B hS9 hr M_1
set_option maxRecDepth 20000 in
set_option maxHeartbeats 2000000 in
theorem g2_setGoverns {X : gX} {p : Program} {l : Launch} {e : Env} {s : State} {m : MethodId} {args : Array Value} {below : List Frame} {meth : Method} {c : Code} (B : gB X p (rm2_setGoverns) s m args meth c RX2 cX2_setGoverns 5 (rm2_setGoverns)) (hS9 : gS X s) (hr : meth.sig.returnType = none) (a0 : Nat) (x1 : Int32) (x2 : Int32) (x3 : Int32) (M : mMem) : GG X p l e (rm2_setGoverns) s m args below meth c (gP X below args s 0 0 (fun M9 : mMem => (none, M9))) 5 0 0 0 [(0, .ref a0), (1, .int x1), (2, .int x2), (3, .int x3)] [] M (p2_setGoverns a0 x1 x2 x3 M) := by
  unfold p2_setGoverns
  refine g_gd ?_
  refine g_aload_n B dX2_setGoverns_0 0 rfl ?_
  refine g_iload_n B dX2_setGoverns_1 1 rfl ?_
  refine g_callV_ip [.int x1] (ci := 2) (T0 := TX2) (N := 11) B hS9 mf2_has wd_503 (gw B wd_504) wd_502 (by decide) rfl (fun h => (gd_ne h).1) (c2_has X l a0 x1 M) (by decide) (by decide) (by decide) rfl (by decide) dX2_setGoverns_2 rfl (fun v_1 => ?_)
  refine g_if_eq B 55 dX2_setGoverns_5 (by decide) ?_ ?_
  · refine g_sub (lv' := []) [] rfl ?_
    exact g2_setGoverns_J55 B hS9 hr M
  · refine g_aload_n B dX2_setGoverns_8 0 rfl ?_
    refine g_iload_n B dX2_setGoverns_9 2 rfl ?_
    refine g_callV_ip [.int x2] (ci := 2) (T0 := TX2) (N := 11) B hS9 mf2_has wd_503 (gw B wd_504) wd_502 (by decide) rfl (fun h => (gd_ne h).1) (c2_has X l a0 x2 M) (by decide) (by decide) (by decide) rfl (by decide) dX2_setGoverns_10 rfl (fun v_2 => ?_)
    refine g_if_eq B 55 dX2_setGoverns_13 (by decide) ?_ ?_
    · refine g_sub (lv' := []) [] rfl ?_
      exact g2_setGoverns_J55 B hS9 hr M
    · refine g_aload_n B dX2_setGoverns_16 0 rfl ?_
      refine g_iload_n B dX2_setGoverns_17 2 rfl ?_
      refine g_callV_ap [.int x2] (ci := 2) (T0 := TX2) (N := 11) B hS9 mf2_at wd_466 (gw B wd_467) wd_465 (by decide) rfl (fun h => (gd_ne h).1) (c2_at X l a0 x2 M) (by decide) (by decide) (by decide) rfl (by decide) dX2_setGoverns_18 rfl (fun v_3 => ?_)
      refine g_astore (lv' := [(4, .ref v_3), (0, .ref a0), (1, .int x1), (2, .int x2), (3, .int x3)]) B dX2_setGoverns_21 (by decide) [0, 1, 2, 3, 4] rfl ?_
      refine g_aload B dX2_setGoverns_23 0 rfl ?_
      refine g_iload_n B dX2_setGoverns_25 4 rfl ?_
      refine g_if_eq B 41 dX2_setGoverns_26 (by decide) ?_ ?_
      · refine g_aload B dX2_setGoverns_41 0 rfl ?_
        refine g_getI (ci := 8) (T0 := TX8) (N := 9) B (by decide) rfl in_8 (k := 8) (by decide) rfl wd_94 (fun _ h => h) dX2_setGoverns_43 (fun v_4 => ?_)
        refine g_iconst (v := 1) B dX2_setGoverns_46 (by decide) ?_
        refine g_iload_n B dX2_setGoverns_47 2 rfl ?_
        refine g_ishl B dX2_setGoverns_48 ?_
        refine g_iconst (v := (-1)) B dX2_setGoverns_49 (by decide) ?_
        refine g_ixor B dX2_setGoverns_50 ?_
        refine g_iand B dX2_setGoverns_51 ?_
        refine g_sub (lv' := []) [] rfl ?_
        exact g2_setGoverns_J52 B hS9 hr v_3 (v_4 &&& (((1 : Int32) <<< (x1 &&& 31)) ^^^ (-1))) M
      · refine g_aload B dX2_setGoverns_29 0 rfl ?_
        refine g_getI (ci := 8) (T0 := TX8) (N := 9) B (by decide) rfl in_8 (k := 8) (by decide) rfl wd_94 (fun _ h => h) dX2_setGoverns_31 (fun v_5 => ?_)
        refine g_iconst (v := 1) B dX2_setGoverns_34 (by decide) ?_
        refine g_iload_n B dX2_setGoverns_35 2 rfl ?_
        refine g_ishl B dX2_setGoverns_36 ?_
        refine g_ior B dX2_setGoverns_37 ?_
        refine g_goto B 52 dX2_setGoverns_38 (by decide) ?_
        refine g_sub (lv' := []) [] rfl ?_
        exact g2_setGoverns_J52 B hS9 hr v_3 (v_5 ||| ((1 : Int32) <<< (x1 &&& 31))) M
theorem c2_setGoverns (X : gX) (l : Launch) (a0 : Nat) (x1 : Int32) (x2 : Int32) (x3 : Int32) (M : mMem) : Con X l yX2_setGoverns cX2_setGoverns 5 (none) rm2_setGoverns (fun M9 : mMem => (none, M9)) [.ref a0, .int x1, .int x2, .int x3] M (p2_setGoverns a0 x1 x2 x3 M) := g_con (own := RX2) (by decide +kernel) rfl (Nat.le_of_ble_eq_true rfl) (fun p e s m args below meth c B hS9 hr hn => g2_setGoverns B hS9 hr a0 x1 x2 x3 M)
theorem mf2_governedBy : gMF yX2_governedBy cX2_governedBy 4 (some .int) 1 := ⟨wd_1107, wd_2, ⟨by decide, by decide⟩, by decide +kernel⟩
set_option maxRecDepth 20000 in
set_option maxHeartbeats 2000000 in
theorem g2_governedBy_J27 {X : gX} {p : Program} {l : Launch} {e : Env} {s : State} {m : MethodId} {args : Array Value} {below : List Frame} {meth : Method} {c : Code} (B : gB X p (rm2_governedBy) s m args meth c RX2 cX2_governedBy 4 (rm2_governedBy)) (hS9 : gS X s) (hr : meth.sig.returnType = some .int) {M : mMem} (rec4 : Nat → Int32 → Int32 → Int32 → Option Int32) (hrec4 : ∀ (a0 : Nat) (x1 : Int32) (x2 : Int32) (x3 : Int32), GG X p l e (rm2_governedBy) s m args below meth c (gP X below args s 0 0 (fun r9 : Int32 => (some (.int r9), M))) 4 0 0 4 [(0, .ref a0), (1, .int x1), (2, .int x2), (3, .int x3)] [] M (rec4 a0 x1 x2 x3)) (a0 : Nat) (x1 : Int32) (x2 : Int32) (x3 : Int32) : GG X p l e (rm2_governedBy) s m args below meth c (gP X below args s 0 0 (fun r9 : Int32 => (some (.int r9), M))) 4 0 0 27 [(0, .ref a0), (1, .int x1), (2, .int x2), (3, .int x3)] [] M (p2_governedBy_J27 M rec4 a0 x1 x2 x3) := by
  unfold p2_governedBy_J27
  refine g_iinc (v := (x3 + 1)) (lv' := [(3, .int (x3 + 1)), (0, .ref a0), (1, .int x1), (2, .int x2)]) B dX2_governedBy_27 3 rfl rfl (by decide) [0, 1, 2, 3] rfl ?_
  refine g_goto B 4 dX2_governedBy_30 (by decide) ?_
  refine g_sub (lv' := [(0, .ref a0), (1, .int x1), (2, .int x2), (3, .int (x3 + 1))]) [1, 2, 3, 0] rfl ?_
  exact hrec4 a0 x1 x2 (x3 + 1)
set_option maxRecDepth 20000 in
set_option maxHeartbeats 2000000 in
theorem g2_governedBy_L4 {X : gX} {p : Program} {l : Launch} {e : Env} {s : State} {m : MethodId} {args : Array Value} {below : List Frame} {meth : Method} {c : Code} (B : gB X p (rm2_governedBy) s m args meth c RX2 cX2_governedBy 4 (rm2_governedBy)) (hS9 : gS X s) (hr : meth.sig.returnType = some .int) {M : mMem} : ∀ (n : Nat) (a0 : Nat) (x1 : Int32) (x2 : Int32) (x3 : Int32), GG X p l e (rm2_governedBy) s m args below meth c (gP X below args s 0 0 (fun r9 : Int32 => (some (.int r9), M))) 4 0 0 4 [(0, .ref a0), (1, .int x1), (2, .int x2), (3, .int x3)] [] M (p2_governedBy_L4 M n a0 x1 x2 x3) := by
  intro n
  induction n with
  | zero => intro a0 x1 x2 x3; exact g_none
  | succ n ih =>
    intro a0 x1 x2 x3
    rw [p2_governedBy_L4]
    refine g_iload_n B dX2_governedBy_4 3 rfl ?_
    refine g_aload_n B dX2_governedBy_5 0 rfl ?_
    refine g_getI (ci := 2) (T0 := TX2) (N := 11) B (by decide) rfl in_2 (k := 4) (by decide) rfl wd_139 (fun _ h => h) dX2_governedBy_6 (fun v_1 => ?_)
    refine g_icmp_ge B 33 dX2_governedBy_9 (by decide) ?_ ?_
    · refine g_aload_n B dX2_governedBy_12 0 rfl ?_
      refine g_iload_n B dX2_governedBy_13 1 rfl ?_
      refine g_iload_n B dX2_governedBy_14 3 rfl ?_
      refine g_callV_ip [.int x1, .int x3] (ci := 2) (T0 := TX2) (N := 11) B hS9 mf2_governs wd_499 (gw B wd_500) wd_498 (by decide) rfl (fun h => (gd_ne h).1) (c2_governs X l a0 x1 x3 M) (by decide) (by decide) (by decide) rfl (by decide) dX2_governedBy_15 rfl (fun v_2 => ?_)
      refine g_if_eq B 27 dX2_governedBy_18 (by decide) ?_ ?_
      · refine g_sub (lv' := [(0, .ref a0), (1, .int x1), (2, .int x2), (3, .int x3)]) [0, 1, 2, 3] rfl ?_
        exact g2_governedBy_J27 B hS9 hr (p2_governedBy_L4 M n) ih a0 x1 x2 x3
      · refine g_iload_n B dX2_governedBy_21 2 rfl ?_
        refine g_iconst (v := 1) B dX2_governedBy_22 (by decide) ?_
        refine g_iload_n B dX2_governedBy_23 3 rfl ?_
        refine g_ishl B dX2_governedBy_24 ?_
        refine g_ior B dX2_governedBy_25 ?_
        refine g_istore_n (lv' := [(2, .int (x2 ||| ((1 : Int32) <<< (x3 &&& 31)))), (0, .ref a0), (1, .int x1), (3, .int x3)]) B dX2_governedBy_26 (by decide) [0, 1, 2, 3] rfl ?_
        refine g_sub (lv' := [(0, .ref a0), (1, .int x1), (2, .int (x2 ||| ((1 : Int32) <<< (x3 &&& 31)))), (3, .int x3)]) [1, 2, 0, 3] rfl ?_
        exact g2_governedBy_J27 B hS9 hr (p2_governedBy_L4 M n) ih a0 x1 (x2 ||| ((1 : Int32) <<< (x3 &&& 31))) x3
    · refine g_iload_n B dX2_governedBy_33 2 rfl ?_
      exact g_ireturn B hr rfl (by decide) (by decide) rfl dX2_governedBy_34
set_option maxRecDepth 20000 in
set_option maxHeartbeats 2000000 in
theorem g2_governedBy {X : gX} {p : Program} {l : Launch} {e : Env} {s : State} {m : MethodId} {args : Array Value} {below : List Frame} {meth : Method} {c : Code} (B : gB X p (rm2_governedBy) s m args meth c RX2 cX2_governedBy 4 (rm2_governedBy)) (hS9 : gS X s) (hr : meth.sig.returnType = some .int) {M : mMem} (a0 : Nat) (x1 : Int32) : GG X p l e (rm2_governedBy) s m args below meth c (gP X below args s 0 0 (fun r9 : Int32 => (some (.int r9), M))) 4 0 0 0 [(0, .ref a0), (1, .int x1)] [] M (p2_governedBy a0 x1 M) := by
  unfold p2_governedBy
  refine g_gd ?_
  refine g_iconst (v := 0) B dX2_governedBy_0 (by decide) ?_
  refine g_istore_n (lv' := [(2, .int 0), (0, .ref a0), (1, .int x1)]) B dX2_governedBy_1 (by decide) [0, 1, 2] rfl ?_
  refine g_iconst (v := 0) B dX2_governedBy_2 (by decide) ?_
  refine g_istore_n (lv' := [(3, .int 0), (2, .int 0), (0, .ref a0), (1, .int x1)]) B dX2_governedBy_3 (by decide) [0, 1, 2, 3] rfl ?_
  refine g_sub (lv' := [(0, .ref a0), (1, .int x1), (2, .int 0), (3, .int 0)]) [2, 3, 1, 0] rfl ?_
  exact (g2_governedBy_L4 B hS9 hr) gF a0 x1 0 0
theorem c2_governedBy (X : gX) (l : Launch) (a0 : Nat) (x1 : Int32) (M : mMem) : Con X l yX2_governedBy cX2_governedBy 4 (some .int) rm2_governedBy (fun r9 : Int32 => (some (.int r9), M)) [.ref a0, .int x1] M (p2_governedBy a0 x1 M) := g_con (own := RX2) (by decide +kernel) rfl (Nat.le_of_ble_eq_true rfl) (fun p e s m args below meth c B hS9 hr hn => g2_governedBy B hS9 hr a0 x1)
theorem mf2_areParentAndChild : gMF yX2_areParentAndChild cX2_areParentAndChild 3 (some .boolean) 2 := ⟨wd_594, wd_2, ⟨by decide, by decide⟩, by decide +kernel⟩
set_option maxRecDepth 20000 in
set_option maxHeartbeats 2000000 in
theorem g2_areParentAndChild_J29 {X : gX} {p : Program} {l : Launch} {e : Env} {s : State} {m : MethodId} {args : Array Value} {below : List Frame} {meth : Method} {c : Code} (B : gB X p (rm2_areParentAndChild) s m args meth c RX2 cX2_areParentAndChild 3 (rm2_areParentAndChild)) (hS9 : gS X s) (hr : meth.sig.returnType = some .boolean) {M : mMem} (u0 : Int32) : GG X p l e (rm2_areParentAndChild) s m args below meth c (gP X below args s 0 0 (fun r9 : Int32 => (some (.int r9), M))) 3 0 0 29 [] [.int u0] M (p2_areParentAndChild_J29 M u0) := by
  unfold p2_areParentAndChild_J29
  exact g_zreturn (f := fun z => z) B hr (by decide) (by decide) rfl dX2_areParentAndChild_29
set_option maxRecDepth 20000 in
set_option maxHeartbeats 2000000 in
theorem g2_areParentAndChild_J24 {X : gX} {p : Program} {l : Launch} {e : Env} {s : State} {m : MethodId} {args : Array Value} {below : List Frame} {meth : Method} {c : Code} (B : gB X p (rm2_areParentAndChild) s m args meth c RX2 cX2_areParentAndChild 3 (rm2_areParentAndChild)) (hS9 : gS X s) (hr : meth.sig.returnType = some .boolean) {M : mMem} : GG X p l e (rm2_areParentAndChild) s m args below meth c (gP X below args s 0 0 (fun r9 : Int32 => (some (.int r9), M))) 3 0 0 24 [] [] M (p2_areParentAndChild_J24 M) := by
  unfold p2_areParentAndChild_J24
  refine g_iconst (v := 1) B dX2_areParentAndChild_24 (by decide) ?_
  refine g_goto B 29 dX2_areParentAndChild_25 (by decide) ?_
  refine g_sub (lv' := []) [] rfl ?_
  exact g2_areParentAndChild_J29 B hS9 hr 1
set_option maxRecDepth 20000 in
set_option maxHeartbeats 2000000 in
theorem g2_areParentAndChild {X : gX} {p : Program} {l : Launch} {e : Env} {s : State} {m : MethodId} {args : Array Value} {below : List Frame} {meth : Method} {c : Code} (B : gB X p (rm2_areParentAndChild) s m args meth c RX2 cX2_areParentAndChild 3 (rm2_areParentAndChild)) (hS9 : gS X s) (hr : meth.sig.returnType = some .boolean) {M : mMem} (a0 : Nat) (x1 : Int32) (x2 : Int32) : GG X p l e (rm2_areParentAndChild) s m args below meth c (gP X below args s 0 0 (fun r9 : Int32 => (some (.int r9), M))) 3 0 0 0 [(0, .ref a0), (1, .int x1), (2, .int x2)] [] M (p2_areParentAndChild a0 x1 x2 M) := by
  unfold p2_areParentAndChild
  refine g_gd ?_
  refine g_aload_n B dX2_areParentAndChild_0 0 rfl ?_
  refine g_iload_n B dX2_areParentAndChild_1 1 rfl ?_
  refine g_callV_ap [.int x1] (ci := 2) (T0 := TX2) (N := 11) B hS9 mf2_at wd_466 (gw B wd_467) wd_465 (by decide) rfl (fun h => (gd_ne h).1) (c2_at X l a0 x1 M) (by decide) (by decide) (by decide) rfl (by decide) dX2_areParentAndChild_2 rfl (fun v_1 => ?_)
  refine g_getI (ci := 8) (T0 := TX8) (N := 9) B (by decide) rfl in_8 (k := 3) (by decide) rfl wd_70 (fun _ h => h) dX2_areParentAndChild_5 (fun v_2 => ?_)
  refine g_iload_n B dX2_areParentAndChild_8 2 rfl ?_
  refine g_icmp_eq B 24 dX2_areParentAndChild_9 (by decide) ?_ ?_
  · refine g_sub (lv' := []) [] rfl ?_
    exact g2_areParentAndChild_J24 B hS9 hr
  · refine g_aload_n B dX2_areParentAndChild_12 0 rfl ?_
    refine g_iload_n B dX2_areParentAndChild_13 2 rfl ?_
    refine g_callV_ap [.int x2] (ci := 2) (T0 := TX2) (N := 11) B hS9 mf2_at wd_466 (gw B wd_467) wd_465 (by decide) rfl (fun h => (gd_ne h).1) (c2_at X l a0 x2 M) (by decide) (by decide) (by decide) rfl (by decide) dX2_areParentAndChild_14 rfl (fun v_3 => ?_)
    refine g_getI (ci := 8) (T0 := TX8) (N := 9) B (by decide) rfl in_8 (k := 3) (by decide) rfl wd_70 (fun _ h => h) dX2_areParentAndChild_17 (fun v_4 => ?_)
    refine g_iload_n B dX2_areParentAndChild_20 1 rfl ?_
    refine g_icmp_ne B 28 dX2_areParentAndChild_21 (by decide) ?_ ?_
    · refine g_sub (lv' := []) [] rfl ?_
      exact g2_areParentAndChild_J24 B hS9 hr
    · refine g_iconst (v := 0) B dX2_areParentAndChild_28 (by decide) ?_
      refine g_sub (lv' := []) [] rfl ?_
      exact g2_areParentAndChild_J29 B hS9 hr 0
theorem c2_areParentAndChild (X : gX) (l : Launch) (a0 : Nat) (x1 : Int32) (x2 : Int32) (M : mMem) : Con X l yX2_areParentAndChild cX2_areParentAndChild 3 (some .boolean) rm2_areParentAndChild (fun r9 : Int32 => (some (.int r9), M)) [.ref a0, .int x1, .int x2] M (p2_areParentAndChild a0 x1 x2 M) := g_con (own := RX2) (by decide +kernel) rfl (Nat.le_of_ble_eq_true rfl) (fun p e s m args below meth c B hS9 hr hn => g2_areParentAndChild B hS9 hr a0 x1 x2)
theorem mf2_mayWed : gMF yX2_mayWed cX2_mayWed 3 (some .boolean) 2 := ⟨wd_590, wd_2, ⟨by decide, by decide⟩, by decide +kernel⟩
set_option maxRecDepth 20000 in
set_option maxHeartbeats 2000000 in
theorem g2_mayWed_J57 {X : gX} {p : Program} {l : Launch} {e : Env} {s : State} {m : MethodId} {args : Array Value} {below : List Frame} {meth : Method} {c : Code} (B : gB X p (rm2_mayWed) s m args meth c RX2 cX2_mayWed 3 (rm2_mayWed)) (hS9 : gS X s) (hr : meth.sig.returnType = some .boolean) {M : mMem} (u0 : Int32) : GG X p l e (rm2_mayWed) s m args below meth c (gP X below args s 0 0 (fun r9 : Int32 => (some (.int r9), M))) 3 0 0 57 [] [.int u0] M (p2_mayWed_J57 M u0) := by
  unfold p2_mayWed_J57
  exact g_zreturn (f := fun z => z) B hr (by decide) (by decide) rfl dX2_mayWed_57
set_option maxRecDepth 20000 in
set_option maxHeartbeats 2000000 in
theorem g2_mayWed_J56 {X : gX} {p : Program} {l : Launch} {e : Env} {s : State} {m : MethodId} {args : Array Value} {below : List Frame} {meth : Method} {c : Code} (B : gB X p (rm2_mayWed) s m args meth c RX2 cX2_mayWed 3 (rm2_mayWed)) (hS9 : gS X s) (hr : meth.sig.returnType = some .boolean) {M : mMem} : GG X p l e (rm2_mayWed) s m args below meth c (gP X below args s 0 0 (fun r9 : Int32 => (some (.int r9), M))) 3 0 0 56 [] [] M (p2_mayWed_J56 M) := by
  unfold p2_mayWed_J56
  refine g_iconst (v := 0) B dX2_mayWed_56 (by decide) ?_
  refine g_sub (lv' := []) [] rfl ?_
  exact g2_mayWed_J57 B hS9 hr 0
set_option maxRecDepth 20000 in
set_option maxHeartbeats 2000000 in
theorem g2_mayWed {X : gX} {p : Program} {l : Launch} {e : Env} {s : State} {m : MethodId} {args : Array Value} {below : List Frame} {meth : Method} {c : Code} (B : gB X p (rm2_mayWed) s m args meth c RX2 cX2_mayWed 3 (rm2_mayWed)) (hS9 : gS X s) (hr : meth.sig.returnType = some .boolean) {M : mMem} (a0 : Nat) (x1 : Int32) (x2 : Int32) : GG X p l e (rm2_mayWed) s m args below meth c (gP X below args s 0 0 (fun r9 : Int32 => (some (.int r9), M))) 3 0 0 0 [(0, .ref a0), (1, .int x1), (2, .int x2)] [] M (p2_mayWed a0 x1 x2 M) := by
  unfold p2_mayWed
  refine g_gd ?_
  refine g_aload_n B dX2_mayWed_0 0 rfl ?_
  refine g_iload_n B dX2_mayWed_1 1 rfl ?_
  refine g_callV_ap [.int x1] (ci := 2) (T0 := TX2) (N := 11) B hS9 mf2_at wd_466 (gw B wd_467) wd_465 (by decide) rfl (fun h => (gd_ne h).1) (c2_at X l a0 x1 M) (by decide) (by decide) (by decide) rfl (by decide) dX2_mayWed_2 rfl (fun v_1 => ?_)
  refine g_getI (ci := 8) (T0 := TX8) (N := 9) B (by decide) rfl in_8 (k := 2) (by decide) rfl wd_66 (fun _ h => h) dX2_mayWed_5 (fun v_2 => ?_)
  refine g_aload_n B dX2_mayWed_8 0 rfl ?_
  refine g_iload_n B dX2_mayWed_9 2 rfl ?_
  refine g_callV_ap [.int x2] (ci := 2) (T0 := TX2) (N := 11) B hS9 mf2_at wd_466 (gw B wd_467) wd_465 (by decide) rfl (fun h => (gd_ne h).1) (c2_at X l a0 x2 M) (by decide) (by decide) (by decide) rfl (Nat.le_of_ble_eq_true rfl) dX2_mayWed_10 rfl (fun v_3 => ?_)
  refine g_getI (ci := 8) (T0 := TX8) (N := 9) B (by decide) rfl in_8 (k := 2) (by decide) rfl wd_66 (fun _ h => h) dX2_mayWed_13 (fun v_4 => ?_)
  refine g_icmp_eq B 56 dX2_mayWed_16 (by decide) ?_ ?_
  · refine g_sub (lv' := []) [] rfl ?_
    exact g2_mayWed_J56 B hS9 hr
  · refine g_aload_n B dX2_mayWed_19 0 rfl ?_
    refine g_iload_n B dX2_mayWed_20 1 rfl ?_
    refine g_callV_ap [.int x1] (ci := 2) (T0 := TX2) (N := 11) B hS9 mf2_at wd_466 (gw B wd_467) wd_465 (by decide) rfl (fun h => (gd_ne h).1) (c2_at X l a0 x1 M) (by decide) (by decide) (by decide) rfl (by decide) dX2_mayWed_21 rfl (fun v_5 => ?_)
    refine g_getI (ci := 8) (T0 := TX8) (N := 9) B (by decide) rfl in_8 (k := 4) (by decide) rfl wd_77 (fun _ h => h) dX2_mayWed_24 (fun v_6 => ?_)
    refine g_iconst (v := (-1)) B dX2_mayWed_27 (by decide) ?_
    refine g_icmp_ne B 56 dX2_mayWed_28 (by decide) ?_ ?_
    · refine g_aload_n B dX2_mayWed_31 0 rfl ?_
      refine g_iload_n B dX2_mayWed_32 2 rfl ?_
      refine g_callV_ap [.int x2] (ci := 2) (T0 := TX2) (N := 11) B hS9 mf2_at wd_466 (gw B wd_467) wd_465 (by decide) rfl (fun h => (gd_ne h).1) (c2_at X l a0 x2 M) (by decide) (by decide) (by decide) rfl (by decide) dX2_mayWed_33 rfl (fun v_7 => ?_)
      refine g_getI (ci := 8) (T0 := TX8) (N := 9) B (by decide) rfl in_8 (k := 4) (by decide) rfl wd_77 (fun _ h => h) dX2_mayWed_36 (fun v_8 => ?_)
      refine g_iconst (v := (-1)) B dX2_mayWed_39 (by decide) ?_
      refine g_icmp_ne B 56 dX2_mayWed_40 (by decide) ?_ ?_
      · refine g_aload_n B dX2_mayWed_43 0 rfl ?_
        refine g_iload_n B dX2_mayWed_44 1 rfl ?_
        refine g_iload_n B dX2_mayWed_45 2 rfl ?_
        refine g_callV_ip [.int x1, .int x2] (ci := 2) (T0 := TX2) (N := 11) B hS9 mf2_areParentAndChild wd_592 (gw B wd_593) wd_591 (by decide) rfl (fun h => (gd_ne h).1) (c2_areParentAndChild X l a0 x1 x2 M) (by decide) (by decide) (by decide) rfl (by decide) dX2_mayWed_46 rfl (fun v_9 => ?_)
        refine g_if_ne B 56 dX2_mayWed_49 (by decide) ?_ ?_
        · refine g_iconst (v := 1) B dX2_mayWed_52 (by decide) ?_
          refine g_goto B 57 dX2_mayWed_53 (by decide) ?_
          refine g_sub (lv' := []) [] rfl ?_
          exact g2_mayWed_J57 B hS9 hr 1
        · refine g_sub (lv' := []) [] rfl ?_
          exact g2_mayWed_J56 B hS9 hr
      · refine g_sub (lv' := []) [] rfl ?_
        exact g2_mayWed_J56 B hS9 hr
    · refine g_sub (lv' := []) [] rfl ?_
      exact g2_mayWed_J56 B hS9 hr
theorem c2_mayWed (X : gX) (l : Launch) (a0 : Nat) (x1 : Int32) (x2 : Int32) (M : mMem) : Con X l yX2_mayWed cX2_mayWed 3 (some .boolean) rm2_mayWed (fun r9 : Int32 => (some (.int r9), M)) [.ref a0, .int x1, .int x2] M (p2_mayWed a0 x1 x2 M) := g_con (own := RX2) (by decide +kernel) rfl (Nat.le_of_ble_eq_true rfl) (fun p e s m args below meth c B hS9 hr hn => g2_mayWed B hS9 hr a0 x1 x2)
theorem mf2_join : gMF yX2_join cX2_join 3 (none) 2 := ⟨wd_916, wd_2, ⟨by decide, by decide⟩, by decide +kernel⟩
set_option maxRecDepth 20000 in
set_option maxHeartbeats 2000000 in
theorem g2_join {X : gX} {p : Program} {l : Launch} {e : Env} {s : State} {m : MethodId} {args : Array Value} {below : List Frame} {meth : Method} {c : Code} (B : gB X p (rm2_join) s m args meth c RX2 cX2_join 3 (rm2_join)) (hS9 : gS X s) (hr : meth.sig.returnType = none) (a0 : Nat) (x1 : Int32) (x2 : Int32) (M : mMem) : GG X p l e (rm2_join) s m args below meth c (gP X below args s 0 0 (fun M9 : mMem => (none, M9))) 3 0 0 0 [(0, .ref a0), (1, .int x1), (2, .int x2)] [] M (p2_join a0 x1 x2 M) := by
  unfold p2_join
  refine g_gd ?_
  refine g_aload_n B dX2_join_0 0 rfl ?_
  refine g_iload_n B dX2_join_1 1 rfl ?_
  refine g_callV_ap [.int x1] (ci := 2) (T0 := TX2) (N := 11) B hS9 mf2_at wd_466 (gw B wd_467) wd_465 (by decide) rfl (fun h => (gd_ne h).1) (c2_at X l a0 x1 M) (by decide) (by decide) (by decide) rfl (by decide) dX2_join_2 rfl (fun v_1 => ?_)
  refine g_iload_n B dX2_join_5 2 rfl ?_
  refine g_putI (ci := 8) (T0 := TX8) (N := 9) B (by decide) rfl in_8 tyX8 tyX8_ok nmX8 (k := 4) (by decide) wd_77 (fun _ h => h) rfl rfl (ty := .int) (by decide +kernel) rfl rfl dX2_join_6 (fun M_2 => ?_)
  refine g_aload_n B dX2_join_9 0 rfl ?_
  refine g_iload_n B dX2_join_10 2 rfl ?_
  refine g_callV_ap [.int x2] (ci := 2) (T0 := TX2) (N := 11) B hS9 mf2_at wd_466 (gw B wd_467) wd_465 (by decide) rfl (fun h => (gd_ne h).1) (c2_at X l a0 x2 M_2) (by decide) (by decide) (by decide) rfl (by decide) dX2_join_11 rfl (fun v_3 => ?_)
  refine g_iload_n B dX2_join_14 1 rfl ?_
  refine g_putI (ci := 8) (T0 := TX8) (N := 9) B (by decide) rfl in_8 tyX8 tyX8_ok nmX8 (k := 4) (by decide) wd_77 (fun _ h => h) rfl rfl (ty := .int) (by decide +kernel) rfl rfl dX2_join_15 (fun M_4 => ?_)
  exact g_vreturn B hr (by decide) (by decide) rfl dX2_join_18
theorem c2_join (X : gX) (l : Launch) (a0 : Nat) (x1 : Int32) (x2 : Int32) (M : mMem) : Con X l yX2_join cX2_join 3 (none) rm2_join (fun M9 : mMem => (none, M9)) [.ref a0, .int x1, .int x2] M (p2_join a0 x1 x2 M) := g_con (own := RX2) (by decide +kernel) rfl (Nat.le_of_ble_eq_true rfl) (fun p e s m args below meth c B hS9 hr hn => g2_join B hS9 hr a0 x1 x2 M)
theorem mf2_lentBy : gMF yX2_lentBy cX2_lentBy 3 (some .int) 2 := ⟨wd_623, wd_2, ⟨by decide, by decide⟩, by decide +kernel⟩
set_option maxRecDepth 20000 in
set_option maxHeartbeats 2000000 in
theorem g2_lentBy_J31 {X : gX} {p : Program} {l : Launch} {e : Env} {s : State} {m : MethodId} {args : Array Value} {below : List Frame} {meth : Method} {c : Code} (B : gB X p (rm2_lentBy) s m args meth c RX2 cX2_lentBy 3 (rm2_lentBy)) (hS9 : gS X s) (hr : meth.sig.returnType = some .int) {M : mMem} (u0 : Int32) : GG X p l e (rm2_lentBy) s m args below meth c (gP X below args s 0 0 (fun r9 : Int32 => (some (.int r9), M))) 3 0 0 31 [] [.int u0] M (p2_lentBy_J31 M u0) := by
  unfold p2_lentBy_J31
  exact g_ireturn B hr rfl (by decide) (by decide) rfl dX2_lentBy_31
set_option maxRecDepth 20000 in
set_option maxHeartbeats 2000000 in
theorem g2_lentBy_J30 {X : gX} {p : Program} {l : Launch} {e : Env} {s : State} {m : MethodId} {args : Array Value} {below : List Frame} {meth : Method} {c : Code} (B : gB X p (rm2_lentBy) s m args meth c RX2 cX2_lentBy 3 (rm2_lentBy)) (hS9 : gS X s) (hr : meth.sig.returnType = some .int) {M : mMem} : GG X p l e (rm2_lentBy) s m args below meth c (gP X below args s 0 0 (fun r9 : Int32 => (some (.int r9), M))) 3 0 0 30 [] [] M (p2_lentBy_J30 M) := by
  unfold p2_lentBy_J30
  refine g_iconst (v := 0) B dX2_lentBy_30 (by decide) ?_
  refine g_sub (lv' := []) [] rfl ?_
  exact g2_lentBy_J31 B hS9 hr 0
set_option maxRecDepth 20000 in
set_option maxHeartbeats 2000000 in
theorem g2_lentBy {X : gX} {p : Program} {l : Launch} {e : Env} {s : State} {m : MethodId} {args : Array Value} {below : List Frame} {meth : Method} {c : Code} (B : gB X p (rm2_lentBy) s m args meth c RX2 cX2_lentBy 3 (rm2_lentBy)) (hS9 : gS X s) (hr : meth.sig.returnType = some .int) {M : mMem} (a0 : Nat) (x1 : Int32) (x2 : Int32) : GG X p l e (rm2_lentBy) s m args below meth c (gP X below args s 0 0 (fun r9 : Int32 => (some (.int r9), M))) 3 0 0 0 [(0, .ref a0), (1, .int x1), (2, .int x2)] [] M (p2_lentBy a0 x1 x2 M) := by
  unfold p2_lentBy
  refine g_gd ?_
  refine g_aload_n B dX2_lentBy_0 0 rfl ?_
  refine g_iload_n B dX2_lentBy_1 1 rfl ?_
  refine g_callV_ip [.int x1] (ci := 2) (T0 := TX2) (N := 11) B hS9 mf2_has wd_503 (gw B wd_504) wd_502 (by decide) rfl (fun h => (gd_ne h).1) (c2_has X l a0 x1 M) (by decide) (by decide) (by decide) rfl (by decide) dX2_lentBy_2 rfl (fun v_1 => ?_)
  refine g_if_eq B 30 dX2_lentBy_5 (by decide) ?_ ?_
  · refine g_sub (lv' := []) [] rfl ?_
    exact g2_lentBy_J30 B hS9 hr
  · refine g_aload_n B dX2_lentBy_8 0 rfl ?_
    refine g_iload_n B dX2_lentBy_9 2 rfl ?_
    refine g_callV_ip [.int x2] (ci := 2) (T0 := TX2) (N := 11) B hS9 mf2_has wd_503 (gw B wd_504) wd_502 (by decide) rfl (fun h => (gd_ne h).1) (c2_has X l a0 x2 M) (by decide) (by decide) (by decide) rfl (by decide) dX2_lentBy_10 rfl (fun v_2 => ?_)
    refine g_if_eq B 30 dX2_lentBy_13 (by decide) ?_ ?_
    · refine g_sub (lv' := []) [] rfl ?_
      exact g2_lentBy_J30 B hS9 hr
    · refine g_aload_n B dX2_lentBy_16 0 rfl ?_
      refine g_getR (ci := 2) (T0 := TX2) (N := 11) B (by decide) rfl in_2 (k := 2) (by decide) rfl wd_136 (fun _ h => h) dX2_lentBy_17 (fun v_3 => ?_)
      refine g_iload_n B dX2_lentBy_20 1 rfl ?_
      refine g_bipush (v := 8) B dX2_lentBy_21 (by decide) ?_
      refine g_imul B dX2_lentBy_23 ?_
      refine g_iload_n B dX2_lentBy_24 2 rfl ?_
      refine g_iadd B dX2_lentBy_25 ?_
      refine g_iaload B dX2_lentBy_26 (fun v_4 => ?_)
      refine g_goto B 31 dX2_lentBy_27 (by decide) ?_
      refine g_sub (lv' := []) [] rfl ?_
      exact g2_lentBy_J31 B hS9 hr v_4
theorem c2_lentBy (X : gX) (l : Launch) (a0 : Nat) (x1 : Int32) (x2 : Int32) (M : mMem) : Con X l yX2_lentBy cX2_lentBy 3 (some .int) rm2_lentBy (fun r9 : Int32 => (some (.int r9), M)) [.ref a0, .int x1, .int x2] M (p2_lentBy a0 x1 x2 M) := g_con (own := RX2) (by decide +kernel) rfl (Nat.le_of_ble_eq_true rfl) (fun p e s m args below meth c B hS9 hr hn => g2_lentBy B hS9 hr a0 x1 x2)
theorem mf2_lendOne : gMF yX2_lendOne cX2_lendOne 3 (none) 2 := ⟨wd_1229, wd_2, ⟨by decide, by decide⟩, by decide +kernel⟩
set_option maxRecDepth 20000 in
set_option maxHeartbeats 2000000 in
theorem g2_lendOne_J59 {X : gX} {p : Program} {l : Launch} {e : Env} {s : State} {m : MethodId} {args : Array Value} {below : List Frame} {meth : Method} {c : Code} (B : gB X p (rm2_lendOne) s m args meth c RX2 cX2_lendOne 3 (rm2_lendOne)) (hS9 : gS X s) (hr : meth.sig.returnType = none) (M : mMem) : GG X p l e (rm2_lendOne) s m args below meth c (gP X below args s 0 0 (fun M9 : mMem => (none, M9))) 3 0 0 59 [] [] M (p2_lendOne_J59 M) := by
  unfold p2_lendOne_J59
  exact g_vreturn B hr (by decide) (by decide) rfl dX2_lendOne_59
set_option maxRecDepth 20000 in
set_option maxHeartbeats 2000000 in
theorem g2_lendOne {X : gX} {p : Program} {l : Launch} {e : Env} {s : State} {m : MethodId} {args : Array Value} {below : List Frame} {meth : Method} {c : Code} (B : gB X p (rm2_lendOne) s m args meth c RX2 cX2_lendOne 3 (rm2_lendOne)) (hS9 : gS X s) (hr : meth.sig.returnType = none) (a0 : Nat) (x1 : Int32) (x2 : Int32) (M : mMem) : GG X p l e (rm2_lendOne) s m args below meth c (gP X below args s 0 0 (fun M9 : mMem => (none, M9))) 3 0 0 0 [(0, .ref a0), (1, .int x1), (2, .int x2)] [] M (p2_lendOne a0 x1 x2 M) := by
  unfold p2_lendOne
  refine g_gd ?_
  refine g_aload_n B dX2_lendOne_0 0 rfl ?_
  refine g_iload_n B dX2_lendOne_1 1 rfl ?_
  refine g_callV_ip [.int x1] (ci := 2) (T0 := TX2) (N := 11) B hS9 mf2_has wd_503 (gw B wd_504) wd_502 (by decide) rfl (fun h => (gd_ne h).1) (c2_has X l a0 x1 M) (by decide) (by decide) (by decide) rfl (by decide) dX2_lendOne_2 rfl (fun v_1 => ?_)
  refine g_if_eq B 59 dX2_lendOne_5 (by decide) ?_ ?_
  · refine g_sub (lv' := []) [] rfl ?_
    exact g2_lendOne_J59 B hS9 hr M
  · refine g_aload_n B dX2_lendOne_8 0 rfl ?_
    refine g_iload_n B dX2_lendOne_9 2 rfl ?_
    refine g_callV_ip [.int x2] (ci := 2) (T0 := TX2) (N := 11) B hS9 mf2_has wd_503 (gw B wd_504) wd_502 (by decide) rfl (fun h => (gd_ne h).1) (c2_has X l a0 x2 M) (by decide) (by decide) (by decide) rfl (by decide) dX2_lendOne_10 rfl (fun v_2 => ?_)
    refine g_if_eq B 59 dX2_lendOne_13 (by decide) ?_ ?_
    · refine g_sub (lv' := []) [] rfl ?_
      exact g2_lendOne_J59 B hS9 hr M
    · refine g_aload_n B dX2_lendOne_16 0 rfl ?_
      refine g_getR (ci := 2) (T0 := TX2) (N := 11) B (by decide) rfl in_2 (k := 2) (by decide) rfl wd_136 (fun _ h => h) dX2_lendOne_17 (fun v_3 => ?_)
      refine g_iload_n B dX2_lendOne_20 1 rfl ?_
      refine g_bipush (v := 8) B dX2_lendOne_21 (by decide) ?_
      refine g_imul B dX2_lendOne_23 ?_
      refine g_iload_n B dX2_lendOne_24 2 rfl ?_
      refine g_iadd B dX2_lendOne_25 ?_
      refine g_dup2_11 B dX2_lendOne_26 rfl rfl ?_
      refine g_iaload B dX2_lendOne_27 (fun v_4 => ?_)
      refine g_iconst (v := 1) B dX2_lendOne_28 (by decide) ?_
      refine g_iadd B dX2_lendOne_29 ?_
      refine g_iastore B dX2_lendOne_30 (fun M_5 => ?_)
      refine g_aload_n B dX2_lendOne_31 0 rfl ?_
      refine g_iload_n B dX2_lendOne_32 1 rfl ?_
      refine g_callV_ap [.int x1] (ci := 2) (T0 := TX2) (N := 11) B hS9 mf2_at wd_466 (gw B wd_467) wd_465 (by decide) rfl (fun h => (gd_ne h).1) (c2_at X l a0 x1 M_5) (by decide) (by decide) (by decide) rfl (by decide) dX2_lendOne_33 rfl (fun v_6 => ?_)
      refine g_dup B dX2_lendOne_36 rfl ?_
      refine g_getI (ci := 8) (T0 := TX8) (N := 9) B (by decide) rfl in_8 (k := 7) (by decide) rfl wd_91 (fun _ h => h) dX2_lendOne_37 (fun v_7 => ?_)
      refine g_iconst (v := 1) B dX2_lendOne_40 (by decide) ?_
      refine g_isub B dX2_lendOne_41 ?_
      refine g_putI (ci := 8) (T0 := TX8) (N := 9) B (by decide) rfl in_8 tyX8 tyX8_ok nmX8 (k := 7) (by decide) wd_91 (fun _ h => h) rfl rfl (ty := .int) (by decide +kernel) rfl rfl dX2_lendOne_42 (fun M_8 => ?_)
      refine g_aload_n B dX2_lendOne_45 0 rfl ?_
      refine g_iload_n B dX2_lendOne_46 2 rfl ?_
      refine g_callV_ap [.int x2] (ci := 2) (T0 := TX2) (N := 11) B hS9 mf2_at wd_466 (gw B wd_467) wd_465 (by decide) rfl (fun h => (gd_ne h).1) (c2_at X l a0 x2 M_8) (by decide) (by decide) (by decide) rfl (by decide) dX2_lendOne_47 rfl (fun v_9 => ?_)
      refine g_dup B dX2_lendOne_50 rfl ?_
      refine g_getI (ci := 8) (T0 := TX8) (N := 9) B (by decide) rfl in_8 (k := 7) (by decide) rfl wd_91 (fun _ h => h) dX2_lendOne_51 (fun v_10 => ?_)
      refine g_iconst (v := 1) B dX2_lendOne_54 (by decide) ?_
      refine g_iadd B dX2_lendOne_55 ?_
      refine g_putI (ci := 8) (T0 := TX8) (N := 9) B (by decide) rfl in_8 tyX8 tyX8_ok nmX8 (k := 7) (by decide) wd_91 (fun _ h => h) rfl rfl (ty := .int) (by decide +kernel) rfl rfl dX2_lendOne_56 (fun M_11 => ?_)
      refine g_sub (lv' := []) [] rfl ?_
      exact g2_lendOne_J59 B hS9 hr M_11
theorem c2_lendOne (X : gX) (l : Launch) (a0 : Nat) (x1 : Int32) (x2 : Int32) (M : mMem) : Con X l yX2_lendOne cX2_lendOne 3 (none) rm2_lendOne (fun M9 : mMem => (none, M9)) [.ref a0, .int x1, .int x2] M (p2_lendOne a0 x1 x2 M) := g_con (own := RX2) (by decide +kernel) rfl (Nat.le_of_ble_eq_true rfl) (fun p e s m args below meth c B hS9 hr hn => g2_lendOne B hS9 hr a0 x1 x2 M)
theorem mf2_turnsTogether : gMF yX2_turnsTogether cX2_turnsTogether 3 (some .int) 0 := ⟨wd_714, wd_2, ⟨by decide, by decide⟩, by decide +kernel⟩
set_option maxRecDepth 20000 in
set_option maxHeartbeats 2000000 in
theorem g2_turnsTogether_L4 {X : gX} {p : Program} {l : Launch} {e : Env} {s : State} {m : MethodId} {args : Array Value} {below : List Frame} {meth : Method} {c : Code} (B : gB X p (rm2_turnsTogether) s m args meth c RX2 cX2_turnsTogether 3 (rm2_turnsTogether)) (hS9 : gS X s) (hr : meth.sig.returnType = some .int) {M : mMem} : ∀ (n : Nat) (a0 : Nat) (x1 : Int32) (x2 : Int32), GG X p l e (rm2_turnsTogether) s m args below meth c (gP X below args s 0 0 (fun r9 : Int32 => (some (.int r9), M))) 3 0 0 4 [(0, .ref a0), (1, .int x1), (2, .int x2)] [] M (p2_turnsTogether_L4 M n a0 x1 x2) := by
  intro n
  induction n with
  | zero => intro a0 x1 x2; exact g_none
  | succ n ih =>
    intro a0 x1 x2
    rw [p2_turnsTogether_L4]
    refine g_iload_n B dX2_turnsTogether_4 2 rfl ?_
    refine g_aload_n B dX2_turnsTogether_5 0 rfl ?_
    refine g_getI (ci := 2) (T0 := TX2) (N := 11) B (by decide) rfl in_2 (k := 4) (by decide) rfl wd_139 (fun _ h => h) dX2_turnsTogether_6 (fun v_1 => ?_)
    refine g_icmp_ge B 29 dX2_turnsTogether_9 (by decide) ?_ ?_
    · refine g_iload_n B dX2_turnsTogether_12 1 rfl ?_
      refine g_aload_n B dX2_turnsTogether_13 0 rfl ?_
      refine g_iload_n B dX2_turnsTogether_14 2 rfl ?_
      refine g_callV_ap [.int x2] (ci := 2) (T0 := TX2) (N := 11) B hS9 mf2_at wd_466 (gw B wd_467) wd_465 (by decide) rfl (fun h => (gd_ne h).1) (c2_at X l a0 x2 M) (by decide) (by decide) (by decide) rfl (Nat.le_of_ble_eq_true rfl) dX2_turnsTogether_15 rfl (fun v_2 => ?_)
      refine g_getI (ci := 8) (T0 := TX8) (N := 9) B (by decide) rfl in_8 (k := 1) (by decide) rfl wd_61 (fun _ h => h) dX2_turnsTogether_18 (fun v_3 => ?_)
      refine g_iadd B dX2_turnsTogether_21 ?_
      refine g_istore_n (lv' := [(1, .int (x1 + v_3)), (0, .ref a0), (2, .int x2)]) B dX2_turnsTogether_22 (by decide) [0, 1, 2] rfl ?_
      refine g_iinc (v := (x2 + 1)) (lv' := [(2, .int (x2 + 1)), (1, .int (x1 + v_3)), (0, .ref a0)]) B dX2_turnsTogether_23 2 rfl rfl (by decide) [0, 1, 2] rfl ?_
      refine g_goto B 4 dX2_turnsTogether_26 (by decide) ?_
      refine g_sub (lv' := [(0, .ref a0), (1, .int (x1 + v_3)), (2, .int (x2 + 1))]) [2, 1, 0] rfl ?_
      exact ih a0 (x1 + v_3) (x2 + 1)
    · refine g_iload_n B dX2_turnsTogether_29 1 rfl ?_
      exact g_ireturn B hr rfl (by decide) (by decide) rfl dX2_turnsTogether_30
set_option maxRecDepth 20000 in
set_option maxHeartbeats 2000000 in
theorem g2_turnsTogether {X : gX} {p : Program} {l : Launch} {e : Env} {s : State} {m : MethodId} {args : Array Value} {below : List Frame} {meth : Method} {c : Code} (B : gB X p (rm2_turnsTogether) s m args meth c RX2 cX2_turnsTogether 3 (rm2_turnsTogether)) (hS9 : gS X s) (hr : meth.sig.returnType = some .int) {M : mMem} (a0 : Nat) : GG X p l e (rm2_turnsTogether) s m args below meth c (gP X below args s 0 0 (fun r9 : Int32 => (some (.int r9), M))) 3 0 0 0 [(0, .ref a0)] [] M (p2_turnsTogether a0 M) := by
  unfold p2_turnsTogether
  refine g_gd ?_
  refine g_iconst (v := 0) B dX2_turnsTogether_0 (by decide) ?_
  refine g_istore_n (lv' := [(1, .int 0), (0, .ref a0)]) B dX2_turnsTogether_1 (by decide) [0, 1] rfl ?_
  refine g_iconst (v := 0) B dX2_turnsTogether_2 (by decide) ?_
  refine g_istore_n (lv' := [(2, .int 0), (1, .int 0), (0, .ref a0)]) B dX2_turnsTogether_3 (by decide) [0, 1, 2] rfl ?_
  refine g_sub (lv' := [(0, .ref a0), (1, .int 0), (2, .int 0)]) [2, 1, 0] rfl ?_
  exact (g2_turnsTogether_L4 B hS9 hr) gF a0 0 0
theorem c2_turnsTogether (X : gX) (l : Launch) (a0 : Nat) (M : mMem) : Con X l yX2_turnsTogether cX2_turnsTogether 3 (some .int) rm2_turnsTogether (fun r9 : Int32 => (some (.int r9), M)) [.ref a0] M (p2_turnsTogether a0 M) := g_con (own := RX2) (by decide +kernel) rfl (Nat.le_of_ble_eq_true rfl) (fun p e s m args below meth c B hS9 hr hn => g2_turnsTogether B hS9 hr a0)
theorem mf2_boys : gMF yX2_boys cX2_boys 3 (some .int) 0 := ⟨wd_718, wd_2, ⟨by decide, by decide⟩, by decide +kernel⟩
set_option maxRecDepth 20000 in
set_option maxHeartbeats 2000000 in
theorem g2_boys_J29 {X : gX} {p : Program} {l : Launch} {e : Env} {s : State} {m : MethodId} {args : Array Value} {below : List Frame} {meth : Method} {c : Code} (B : gB X p (rm2_boys) s m args meth c RX2 cX2_boys 3 (rm2_boys)) (hS9 : gS X s) (hr : meth.sig.returnType = some .int) {M : mMem} (rec4 : Nat → Int32 → Int32 → Option Int32) (hrec4 : ∀ (a0 : Nat) (x1 : Int32) (x2 : Int32), GG X p l e (rm2_boys) s m args below meth c (gP X below args s 0 0 (fun r9 : Int32 => (some (.int r9), M))) 3 0 0 4 [(0, .ref a0), (1, .int x1), (2, .int x2)] [] M (rec4 a0 x1 x2)) (a0 : Nat) (x1 : Int32) (x2 : Int32) : GG X p l e (rm2_boys) s m args below meth c (gP X below args s 0 0 (fun r9 : Int32 => (some (.int r9), M))) 3 0 0 29 [(0, .ref a0), (1, .int x1), (2, .int x2)] [] M (p2_boys_J29 M rec4 a0 x1 x2) := by
  unfold p2_boys_J29
  refine g_iinc (v := (x2 + 1)) (lv' := [(2, .int (x2 + 1)), (0, .ref a0), (1, .int x1)]) B dX2_boys_29 2 rfl rfl (by decide) [0, 1, 2] rfl ?_
  refine g_goto B 4 dX2_boys_32 (by decide) ?_
  refine g_sub (lv' := [(0, .ref a0), (1, .int x1), (2, .int (x2 + 1))]) [1, 2, 0] rfl ?_
  exact hrec4 a0 x1 (x2 + 1)
set_option maxRecDepth 20000 in
set_option maxHeartbeats 2000000 in
theorem g2_boys_L4 {X : gX} {p : Program} {l : Launch} {e : Env} {s : State} {m : MethodId} {args : Array Value} {below : List Frame} {meth : Method} {c : Code} (B : gB X p (rm2_boys) s m args meth c RX2 cX2_boys 3 (rm2_boys)) (hS9 : gS X s) (hr : meth.sig.returnType = some .int) {M : mMem} : ∀ (n : Nat) (a0 : Nat) (x1 : Int32) (x2 : Int32), GG X p l e (rm2_boys) s m args below meth c (gP X below args s 0 0 (fun r9 : Int32 => (some (.int r9), M))) 3 0 0 4 [(0, .ref a0), (1, .int x1), (2, .int x2)] [] M (p2_boys_L4 M n a0 x1 x2) := by
  intro n
  induction n with
  | zero => intro a0 x1 x2; exact g_none
  | succ n ih =>
    intro a0 x1 x2
    rw [p2_boys_L4]
    refine g_iload_n B dX2_boys_4 2 rfl ?_
    refine g_aload_n B dX2_boys_5 0 rfl ?_
    refine g_getI (ci := 2) (T0 := TX2) (N := 11) B (by decide) rfl in_2 (k := 4) (by decide) rfl wd_139 (fun _ h => h) dX2_boys_6 (fun v_1 => ?_)
    refine g_icmp_ge B 35 dX2_boys_9 (by decide) ?_ ?_
    · refine g_aload_n B dX2_boys_12 0 rfl ?_
      refine g_iload_n B dX2_boys_13 2 rfl ?_
      refine g_callV_ap [.int x2] (ci := 2) (T0 := TX2) (N := 11) B hS9 mf2_at wd_466 (gw B wd_467) wd_465 (by decide) rfl (fun h => (gd_ne h).1) (c2_at X l a0 x2 M) (by decide) (by decide) (by decide) rfl (by decide) dX2_boys_14 rfl (fun v_2 => ?_)
      refine g_getI (ci := 8) (T0 := TX8) (N := 9) B (by decide) rfl in_8 (k := 2) (by decide) rfl wd_66 (fun _ h => h) dX2_boys_17 (fun v_3 => ?_)
      refine g_if_ne B 29 dX2_boys_20 (by decide) ?_ ?_
      · refine g_iload_n B dX2_boys_23 1 rfl ?_
        refine g_iconst (v := 1) B dX2_boys_24 (by decide) ?_
        refine g_iload_n B dX2_boys_25 2 rfl ?_
        refine g_ishl B dX2_boys_26 ?_
        refine g_ior B dX2_boys_27 ?_
        refine g_istore_n (lv' := [(1, .int (x1 ||| ((1 : Int32) <<< (x2 &&& 31)))), (0, .ref a0), (2, .int x2)]) B dX2_boys_28 (by decide) [0, 1, 2] rfl ?_
        refine g_sub (lv' := [(0, .ref a0), (1, .int (x1 ||| ((1 : Int32) <<< (x2 &&& 31)))), (2, .int x2)]) [1, 0, 2] rfl ?_
        exact g2_boys_J29 B hS9 hr (p2_boys_L4 M n) ih a0 (x1 ||| ((1 : Int32) <<< (x2 &&& 31))) x2
      · refine g_sub (lv' := [(0, .ref a0), (1, .int x1), (2, .int x2)]) [0, 1, 2] rfl ?_
        exact g2_boys_J29 B hS9 hr (p2_boys_L4 M n) ih a0 x1 x2
    · refine g_iload_n B dX2_boys_35 1 rfl ?_
      exact g_ireturn B hr rfl (by decide) (by decide) rfl dX2_boys_36
set_option maxRecDepth 20000 in
set_option maxHeartbeats 2000000 in
theorem g2_boys {X : gX} {p : Program} {l : Launch} {e : Env} {s : State} {m : MethodId} {args : Array Value} {below : List Frame} {meth : Method} {c : Code} (B : gB X p (rm2_boys) s m args meth c RX2 cX2_boys 3 (rm2_boys)) (hS9 : gS X s) (hr : meth.sig.returnType = some .int) {M : mMem} (a0 : Nat) : GG X p l e (rm2_boys) s m args below meth c (gP X below args s 0 0 (fun r9 : Int32 => (some (.int r9), M))) 3 0 0 0 [(0, .ref a0)] [] M (p2_boys a0 M) := by
  unfold p2_boys
  refine g_gd ?_
  refine g_iconst (v := 0) B dX2_boys_0 (by decide) ?_
  refine g_istore_n (lv' := [(1, .int 0), (0, .ref a0)]) B dX2_boys_1 (by decide) [0, 1] rfl ?_
  refine g_iconst (v := 0) B dX2_boys_2 (by decide) ?_
  refine g_istore_n (lv' := [(2, .int 0), (1, .int 0), (0, .ref a0)]) B dX2_boys_3 (by decide) [0, 1, 2] rfl ?_
  refine g_sub (lv' := [(0, .ref a0), (1, .int 0), (2, .int 0)]) [2, 1, 0] rfl ?_
  exact (g2_boys_L4 B hS9 hr) gF a0 0 0
theorem c2_boys (X : gX) (l : Launch) (a0 : Nat) (M : mMem) : Con X l yX2_boys cX2_boys 3 (some .int) rm2_boys (fun r9 : Int32 => (some (.int r9), M)) [.ref a0] M (p2_boys a0 M) := g_con (own := RX2) (by decide +kernel) rfl (Nat.le_of_ble_eq_true rfl) (fun p e s m args below meth c B hS9 hr hn => g2_boys B hS9 hr a0)
theorem mf2_wedded : gMF yX2_wedded cX2_wedded 3 (some .int) 0 := ⟨wd_722, wd_2, ⟨by decide, by decide⟩, by decide +kernel⟩
set_option maxRecDepth 20000 in
set_option maxHeartbeats 2000000 in
theorem g2_wedded_J30 {X : gX} {p : Program} {l : Launch} {e : Env} {s : State} {m : MethodId} {args : Array Value} {below : List Frame} {meth : Method} {c : Code} (B : gB X p (rm2_wedded) s m args meth c RX2 cX2_wedded 3 (rm2_wedded)) (hS9 : gS X s) (hr : meth.sig.returnType = some .int) {M : mMem} (rec4 : Nat → Int32 → Int32 → Option Int32) (hrec4 : ∀ (a0 : Nat) (x1 : Int32) (x2 : Int32), GG X p l e (rm2_wedded) s m args below meth c (gP X below args s 0 0 (fun r9 : Int32 => (some (.int r9), M))) 3 0 0 4 [(0, .ref a0), (1, .int x1), (2, .int x2)] [] M (rec4 a0 x1 x2)) (a0 : Nat) (x1 : Int32) (x2 : Int32) : GG X p l e (rm2_wedded) s m args below meth c (gP X below args s 0 0 (fun r9 : Int32 => (some (.int r9), M))) 3 0 0 30 [(0, .ref a0), (1, .int x1), (2, .int x2)] [] M (p2_wedded_J30 M rec4 a0 x1 x2) := by
  unfold p2_wedded_J30
  refine g_iinc (v := (x2 + 1)) (lv' := [(2, .int (x2 + 1)), (0, .ref a0), (1, .int x1)]) B dX2_wedded_30 2 rfl rfl (by decide) [0, 1, 2] rfl ?_
  refine g_goto B 4 dX2_wedded_33 (by decide) ?_
  refine g_sub (lv' := [(0, .ref a0), (1, .int x1), (2, .int (x2 + 1))]) [1, 2, 0] rfl ?_
  exact hrec4 a0 x1 (x2 + 1)
set_option maxRecDepth 20000 in
set_option maxHeartbeats 2000000 in
theorem g2_wedded_L4 {X : gX} {p : Program} {l : Launch} {e : Env} {s : State} {m : MethodId} {args : Array Value} {below : List Frame} {meth : Method} {c : Code} (B : gB X p (rm2_wedded) s m args meth c RX2 cX2_wedded 3 (rm2_wedded)) (hS9 : gS X s) (hr : meth.sig.returnType = some .int) {M : mMem} : ∀ (n : Nat) (a0 : Nat) (x1 : Int32) (x2 : Int32), GG X p l e (rm2_wedded) s m args below meth c (gP X below args s 0 0 (fun r9 : Int32 => (some (.int r9), M))) 3 0 0 4 [(0, .ref a0), (1, .int x1), (2, .int x2)] [] M (p2_wedded_L4 M n a0 x1 x2) := by
  intro n
  induction n with
  | zero => intro a0 x1 x2; exact g_none
  | succ n ih =>
    intro a0 x1 x2
    rw [p2_wedded_L4]
    refine g_iload_n B dX2_wedded_4 2 rfl ?_
    refine g_aload_n B dX2_wedded_5 0 rfl ?_
    refine g_getI (ci := 2) (T0 := TX2) (N := 11) B (by decide) rfl in_2 (k := 4) (by decide) rfl wd_139 (fun _ h => h) dX2_wedded_6 (fun v_1 => ?_)
    refine g_icmp_ge B 36 dX2_wedded_9 (by decide) ?_ ?_
    · refine g_aload_n B dX2_wedded_12 0 rfl ?_
      refine g_iload_n B dX2_wedded_13 2 rfl ?_
      refine g_callV_ap [.int x2] (ci := 2) (T0 := TX2) (N := 11) B hS9 mf2_at wd_466 (gw B wd_467) wd_465 (by decide) rfl (fun h => (gd_ne h).1) (c2_at X l a0 x2 M) (by decide) (by decide) (by decide) rfl (by decide) dX2_wedded_14 rfl (fun v_2 => ?_)
      refine g_getI (ci := 8) (T0 := TX8) (N := 9) B (by decide) rfl in_8 (k := 4) (by decide) rfl wd_77 (fun _ h => h) dX2_wedded_17 (fun v_3 => ?_)
      refine g_iconst (v := (-1)) B dX2_wedded_20 (by decide) ?_
      refine g_icmp_eq B 30 dX2_wedded_21 (by decide) ?_ ?_
      · refine g_sub (lv' := [(0, .ref a0), (1, .int x1), (2, .int x2)]) [0, 1, 2] rfl ?_
        exact g2_wedded_J30 B hS9 hr (p2_wedded_L4 M n) ih a0 x1 x2
      · refine g_iload_n B dX2_wedded_24 1 rfl ?_
        refine g_iconst (v := 1) B dX2_wedded_25 (by decide) ?_
        refine g_iload_n B dX2_wedded_26 2 rfl ?_
        refine g_ishl B dX2_wedded_27 ?_
        refine g_ior B dX2_wedded_28 ?_
        refine g_istore_n (lv' := [(1, .int (x1 ||| ((1 : Int32) <<< (x2 &&& 31)))), (0, .ref a0), (2, .int x2)]) B dX2_wedded_29 (by decide) [0, 1, 2] rfl ?_
        refine g_sub (lv' := [(0, .ref a0), (1, .int (x1 ||| ((1 : Int32) <<< (x2 &&& 31)))), (2, .int x2)]) [1, 0, 2] rfl ?_
        exact g2_wedded_J30 B hS9 hr (p2_wedded_L4 M n) ih a0 (x1 ||| ((1 : Int32) <<< (x2 &&& 31))) x2
    · refine g_iload_n B dX2_wedded_36 1 rfl ?_
      exact g_ireturn B hr rfl (by decide) (by decide) rfl dX2_wedded_37
set_option maxRecDepth 20000 in
set_option maxHeartbeats 2000000 in
theorem g2_wedded {X : gX} {p : Program} {l : Launch} {e : Env} {s : State} {m : MethodId} {args : Array Value} {below : List Frame} {meth : Method} {c : Code} (B : gB X p (rm2_wedded) s m args meth c RX2 cX2_wedded 3 (rm2_wedded)) (hS9 : gS X s) (hr : meth.sig.returnType = some .int) {M : mMem} (a0 : Nat) : GG X p l e (rm2_wedded) s m args below meth c (gP X below args s 0 0 (fun r9 : Int32 => (some (.int r9), M))) 3 0 0 0 [(0, .ref a0)] [] M (p2_wedded a0 M) := by
  unfold p2_wedded
  refine g_gd ?_
  refine g_iconst (v := 0) B dX2_wedded_0 (by decide) ?_
  refine g_istore_n (lv' := [(1, .int 0), (0, .ref a0)]) B dX2_wedded_1 (by decide) [0, 1] rfl ?_
  refine g_iconst (v := 0) B dX2_wedded_2 (by decide) ?_
  refine g_istore_n (lv' := [(2, .int 0), (1, .int 0), (0, .ref a0)]) B dX2_wedded_3 (by decide) [0, 1, 2] rfl ?_
  refine g_sub (lv' := [(0, .ref a0), (1, .int 0), (2, .int 0)]) [2, 1, 0] rfl ?_
  exact (g2_wedded_L4 B hS9 hr) gF a0 0 0
theorem c2_wedded (X : gX) (l : Launch) (a0 : Nat) (M : mMem) : Con X l yX2_wedded cX2_wedded 3 (some .int) rm2_wedded (fun r9 : Int32 => (some (.int r9), M)) [.ref a0] M (p2_wedded a0 M) := g_con (own := RX2) (by decide +kernel) rfl (Nat.le_of_ble_eq_true rfl) (fun p e s m args below meth c B hS9 hr hn => g2_wedded B hS9 hr a0)
theorem mf3_sinit : gMF yX9_init cX9_init 2 (none) 1 := ⟨wd_237, wd_6, ⟨by decide, by decide⟩, by decide +kernel⟩
set_option maxRecDepth 20000 in
set_option maxHeartbeats 2000000 in
theorem g3_sinit {X : gX} {p : Program} {l : Launch} {e : Env} {s : State} {m : MethodId} {args : Array Value} {below : List Frame} {meth : Method} {c : Code} (B : gB X p (rm3_sinit) s m args meth c RX9 cX9_init 2 (rm3_sinit)) (hS9 : gS X s) (hr : meth.sig.returnType = none) (hin2 : meth.name = "<init>") (a0 : Nat) (x1 : Int32) (M : mMem) : GG X p l e (rm3_sinit) s m args below meth c (gP X below args s 3 1200 (fun M9 : mMem => (none, M9))) 2 0 0 0 [(0, .ref a0), (1, .int x1)] [] M (p3_sinit a0 x1 M) := by
  unfold p3_sinit
  refine g_gd ?_
  refine g_aload_n B dX9_init_0 0 rfl ?_
  refine g_objinit B wd_238 wd_36 wd_37 (by decide) (by decide) dX9_init_1 ?_
  refine g_aload_n B dX9_init_4 0 rfl ?_
  refine g_sipush (v := 400) B dX9_init_5 (by decide) ?_
  refine g_newarrayI (N := 400) B wd_116 (by decide +kernel) (by decide +kernel) (by decide +kernel) (by decide) dX9_init_8 (fun n_1 => ?_)
  refine g_putRF (ci := 3) (T0 := TX3) (N := 9) B (by decide) rfl in_3 tyX3 tyX3_ok nmX3 (k := 0) (by decide) wd_240 (fun _ h => h) rfl rfl hin2 rfl (ty := (.array .int)) (by decide +kernel) rfl rfl dX9_init_10 (fun M_2 => ?_)
  refine g_aload_n B dX9_init_13 0 rfl ?_
  refine g_sipush (v := 400) B dX9_init_14 (by decide) ?_
  refine g_newarrayI (N := 400) B wd_116 (by decide +kernel) (by decide +kernel) (by decide +kernel) (by decide) dX9_init_17 (fun n_3 => ?_)
  refine g_putRF (ci := 3) (T0 := TX3) (N := 9) B (by decide) rfl in_3 tyX3 tyX3_ok nmX3 (k := 1) (by decide) wd_241 (fun _ h => h) rfl rfl hin2 rfl (ty := (.array .int)) (by decide +kernel) rfl rfl dX9_init_19 (fun M_4 => ?_)
  refine g_aload_n B dX9_init_22 0 rfl ?_
  refine g_sipush (v := 400) B dX9_init_23 (by decide) ?_
  refine g_newarrayI (N := 400) B wd_116 (by decide +kernel) (by decide +kernel) (by decide +kernel) (by decide) dX9_init_26 (fun n_5 => ?_)
  refine g_putRF (ci := 3) (T0 := TX3) (N := 9) B (by decide) rfl in_3 tyX3 tyX3_ok nmX3 (k := 2) (by decide) wd_242 (fun _ h => h) rfl rfl hin2 rfl (ty := (.array .int)) (by decide +kernel) rfl rfl dX9_init_28 (fun M_6 => ?_)
  refine g_aload_n B dX9_init_31 0 rfl ?_
  refine g_iconst (v := 0) B dX9_init_32 (by decide) ?_
  refine g_putI (ci := 3) (T0 := TX3) (N := 9) B (by decide) rfl in_3 tyX3 tyX3_ok nmX3 (k := 4) (by decide) wd_244 (fun _ h => h) rfl rfl (ty := .int) (by decide +kernel) rfl rfl dX9_init_33 (fun M_7 => ?_)
  refine g_aload_n B dX9_init_36 0 rfl ?_
  refine g_iconst (v := 0) B dX9_init_37 (by decide) ?_
  refine g_putI (ci := 3) (T0 := TX3) (N := 9) B (by decide) rfl in_3 tyX3 tyX3_ok nmX3 (k := 5) (by decide) wd_245 (fun _ h => h) rfl rfl (ty := .int) (by decide +kernel) rfl rfl dX9_init_38 (fun M_8 => ?_)
  refine g_aload_n B dX9_init_41 0 rfl ?_
  refine g_iconst (v := 0) B dX9_init_42 (by decide) ?_
  refine g_putI (ci := 3) (T0 := TX3) (N := 9) B (by decide) rfl in_3 tyX3 tyX3_ok nmX3 (k := 6) (by decide) wd_246 (fun _ h => h) rfl rfl (ty := .int) (by decide +kernel) rfl rfl dX9_init_43 (fun M_9 => ?_)
  refine g_aload_n B dX9_init_46 0 rfl ?_
  refine g_iconst (v := 0) B dX9_init_47 (by decide) ?_
  refine g_putI (ci := 3) (T0 := TX3) (N := 9) B (by decide) rfl in_3 tyX3 tyX3_ok nmX3 (k := 7) (by decide) wd_251 (fun _ h => h) rfl rfl (ty := .int) (by decide +kernel) rfl rfl dX9_init_48 (fun M_10 => ?_)
  refine g_aload_n B dX9_init_51 0 rfl ?_
  refine g_iload_n B dX9_init_52 1 rfl ?_
  refine g_putIF (ci := 3) (T0 := TX3) (N := 9) B (by decide) rfl in_3 tyX3 tyX3_ok nmX3 (k := 3) (by decide) wd_243 (fun _ h => h) rfl rfl hin2 rfl (ty := .int) (by decide +kernel) rfl rfl dX9_init_53 (fun M_11 => ?_)
  exact g_vreturn B hr (by decide) (by decide) rfl dX9_init_56
theorem c3_sinit (X : gX) (l : Launch) (a0 : Nat) (x1 : Int32) (M : mMem) : Con X l yX9_init cX9_init 2 (none) rm3_sinit (fun M9 : mMem => (none, M9)) [.ref a0, .int x1] M (p3_sinit a0 x1 M) := g_con (own := RX9) (by decide +kernel) rfl (Nat.le_of_ble_eq_true rfl) (fun p e s m args below meth c B hS9 hr hn => g3_sinit B hS9 hr hn a0 x1 M)
theorem mf3_init : gMF yX3_init cX3_init 2 (none) 1 := ⟨wd_234, wd_7, ⟨by decide, by decide⟩, by decide +kernel⟩
set_option maxRecDepth 20000 in
set_option maxHeartbeats 2000000 in
theorem g3_init {X : gX} {p : Program} {l : Launch} {e : Env} {s : State} {m : MethodId} {args : Array Value} {below : List Frame} {meth : Method} {c : Code} (B : gB X p (rm3_init) s m args meth c RX3 cX3_init 2 (rm3_init)) (hS9 : gS X s) (hr : meth.sig.returnType = none) (hin2 : meth.name = "<init>") (a0 : Nat) (a1 : Nat) (M : mMem) : GG X p l e (rm3_init) s m args below meth c (gP X below args s 3 1200 (fun M9 : mMem => (none, M9))) 2 0 0 0 [(0, .ref a0), (1, .ref a1)] [] M (p3_init a0 a1 M) := by
  unfold p3_init
  refine g_gd ?_
  refine g_aload_n B dX3_init_0 0 rfl ?_
  refine g_bipush (v := 14) B dX3_init_1 (by decide) ?_
  refine g_callI_vw [.int 14] B hS9 mf3_sinit rfl wd_236 wd_235 (c3_sinit X l a0 14 M) (by decide) (by decide) (by decide) rfl (by decide) dX3_init_3 rfl (fun q_1 => ?_)
  refine g_aload_n B dX3_init_6 0 rfl ?_
  refine g_aload_n B dX3_init_7 1 rfl ?_
  refine g_putRF (ci := 3) (T0 := TX3) (N := 9) B (by decide) rfl in_3 tyX3 tyX3_ok nmX3 (k := 8) (by decide) wd_239 (fun _ h => h) rfl rfl hin2 rfl (ty := (.object "CribLine$Family")) (by decide +kernel) rfl rfl dX3_init_8 (fun M_2 => ?_)
  exact g_vreturn B hr (by decide) (by decide) rfl dX3_init_11
theorem c3_init (X : gX) (l : Launch) (a0 : Nat) (a1 : Nat) (M : mMem) : Con X l yX3_init cX3_init 2 (none) rm3_init (fun M9 : mMem => (none, M9)) [.ref a0, .ref a1] M (p3_init a0 a1 M) := g_con (own := RX3) (by decide +kernel) rfl (Nat.le_of_ble_eq_true rfl) (fun p e s m args below meth c B hS9 hr hn => g3_init B hS9 hr hn a0 a1 M)
theorem mf3_next : gMF yX9_next cX9_next 1 (some .int) 0 := ⟨wd_854, wd_6, ⟨by decide, by decide⟩, by decide +kernel⟩
set_option maxRecDepth 20000 in
set_option maxHeartbeats 2000000 in
theorem g3_next_J43 {X : gX} {p : Program} {l : Launch} {e : Env} {s : State} {m : MethodId} {args : Array Value} {below : List Frame} {meth : Method} {c : Code} (B : gB X p (rm3_next) s m args meth c RX9 cX9_next 1 (rm3_next)) (hS9 : gS X s) (hr : meth.sig.returnType = some .int) {M : mMem} (u0 : Int32) : GG X p l e (rm3_next) s m args below meth c (gP X below args s 0 0 (fun r9 : Int32 => (some (.int r9), M))) 1 0 0 43 [] [.int u0] M (p3_next_J43 M u0) := by
  unfold p3_next_J43
  exact g_ireturn B hr rfl (by decide) (by decide) rfl dX9_next_43
set_option maxRecDepth 20000 in
set_option maxHeartbeats 2000000 in
theorem g3_next_J42 {X : gX} {p : Program} {l : Launch} {e : Env} {s : State} {m : MethodId} {args : Array Value} {below : List Frame} {meth : Method} {c : Code} (B : gB X p (rm3_next) s m args meth c RX9 cX9_next 1 (rm3_next)) (hS9 : gS X s) (hr : meth.sig.returnType = some .int) {M : mMem} : GG X p l e (rm3_next) s m args below meth c (gP X below args s 0 0 (fun r9 : Int32 => (some (.int r9), M))) 1 0 0 42 [] [] M (p3_next_J42 M) := by
  unfold p3_next_J42
  refine g_iconst (v := 1) B dX9_next_42 (by decide) ?_
  refine g_sub (lv' := []) [] rfl ?_
  exact g3_next_J43 B hS9 hr 1
set_option maxRecDepth 20000 in
set_option maxHeartbeats 2000000 in
theorem g3_next {X : gX} {p : Program} {l : Launch} {e : Env} {s : State} {m : MethodId} {args : Array Value} {below : List Frame} {meth : Method} {c : Code} (B : gB X p (rm3_next) s m args meth c RX9 cX9_next 1 (rm3_next)) (hS9 : gS X s) (hr : meth.sig.returnType = some .int) {M : mMem} (a0 : Nat) : GG X p l e (rm3_next) s m args below meth c (gP X below args s 0 0 (fun r9 : Int32 => (some (.int r9), M))) 1 0 0 0 [(0, .ref a0)] [] M (p3_next a0 M) := by
  unfold p3_next
  refine g_gd ?_
  refine g_aload_n B dX9_next_0 0 rfl ?_
  refine g_getI (ci := 3) (T0 := TX3) (N := 9) B (by decide) rfl in_3 (k := 6) (by decide) rfl wd_246 (fun _ h => h) dX9_next_1 (fun v_1 => ?_)
  refine g_if_lt B 42 dX9_next_4 (by decide) ?_ ?_
  · refine g_sub (lv' := []) [] rfl ?_
    exact g3_next_J42 B hS9 hr
  · refine g_aload_n B dX9_next_7 0 rfl ?_
    refine g_getI (ci := 3) (T0 := TX3) (N := 9) B (by decide) rfl in_3 (k := 6) (by decide) rfl wd_246 (fun _ h => h) dX9_next_8 (fun v_2 => ?_)
    refine g_aload_n B dX9_next_11 0 rfl ?_
    refine g_getI (ci := 3) (T0 := TX3) (N := 9) B (by decide) rfl in_3 (k := 4) (by decide) rfl wd_244 (fun _ h => h) dX9_next_12 (fun v_3 => ?_)
    refine g_icmp_ge B 42 dX9_next_15 (by decide) ?_ ?_
    · refine g_aload_n B dX9_next_18 0 rfl ?_
      refine g_getI (ci := 3) (T0 := TX3) (N := 9) B (by decide) rfl in_3 (k := 6) (by decide) rfl wd_246 (fun _ h => h) dX9_next_19 (fun v_4 => ?_)
      refine g_aload_n B dX9_next_22 0 rfl ?_
      refine g_getR (ci := 3) (T0 := TX3) (N := 9) B (by decide) rfl in_3 (k := 0) (by decide) rfl wd_240 (fun _ h => h) dX9_next_23 (fun v_5 => ?_)
      refine g_alen B dX9_next_26 (fun v_6 => ?_)
      refine g_icmp_ge B 42 dX9_next_27 (by decide) ?_ ?_
      · refine g_aload_n B dX9_next_30 0 rfl ?_
        refine g_getR (ci := 3) (T0 := TX3) (N := 9) B (by decide) rfl in_3 (k := 0) (by decide) rfl wd_240 (fun _ h => h) dX9_next_31 (fun v_7 => ?_)
        refine g_aload_n B dX9_next_34 0 rfl ?_
        refine g_getI (ci := 3) (T0 := TX3) (N := 9) B (by decide) rfl in_3 (k := 6) (by decide) rfl wd_246 (fun _ h => h) dX9_next_35 (fun v_8 => ?_)
        refine g_iaload B dX9_next_38 (fun v_9 => ?_)
        refine g_goto B 43 dX9_next_39 (by decide) ?_
        refine g_sub (lv' := []) [] rfl ?_
        exact g3_next_J43 B hS9 hr v_9
      · refine g_sub (lv' := []) [] rfl ?_
        exact g3_next_J42 B hS9 hr
    · refine g_sub (lv' := []) [] rfl ?_
      exact g3_next_J42 B hS9 hr
theorem c3_next (X : gX) (l : Launch) (a0 : Nat) (M : mMem) : Con X l yX9_next cX9_next 1 (some .int) rm3_next (fun r9 : Int32 => (some (.int r9), M)) [.ref a0] M (p3_next a0 M) := g_con (own := RX9) (by decide +kernel) rfl (Nat.le_of_ble_eq_true rfl) (fun p e s m args below meth c B hS9 hr hn => g3_next B hS9 hr a0)
theorem mf3_took : gMF yX9_took cX9_took 2 (some .boolean) 1 := ⟨wd_874, wd_6, ⟨by decide, by decide⟩, by decide +kernel⟩
set_option maxRecDepth 20000 in
set_option maxHeartbeats 2000000 in
theorem g3_took {X : gX} {p : Program} {l : Launch} {e : Env} {s : State} {m : MethodId} {args : Array Value} {below : List Frame} {meth : Method} {c : Code} (B : gB X p (rm3_took) s m args meth c RX9 cX9_took 2 (rm3_took)) (hS9 : gS X s) (hr : meth.sig.returnType = some .boolean) (a0 : Nat) (x1 : Int32) (M : mMem) : GG X p l e (rm3_took) s m args below meth c (gP X below args s 0 0 (fun r9 : (Int32 × mMem) => (some (.int r9.1), r9.2))) 2 0 0 0 [(0, .ref a0), (1, .int x1)] [] M (p3_took a0 x1 M) := by
  unfold p3_took
  refine g_gd ?_
  refine g_aload_n B dX9_took_0 0 rfl ?_
  refine g_callV_ip [] (ci := 3) (T0 := TX3) (N := 9) B hS9 mf3_next wd_850 (gw B wd_852) wd_849 (by decide) rfl (fun h => (gd_ne h).1) (c3_next X l a0 M) (by decide) (by decide) (by decide) rfl (by decide) dX9_took_1 rfl (fun v_1 => ?_)
  refine g_iload_n B dX9_took_4 1 rfl ?_
  refine g_icmp_eq B 10 dX9_took_5 (by decide) ?_ ?_
  · refine g_aload_n B dX9_took_10 0 rfl ?_
    refine g_dup B dX9_took_11 rfl ?_
    refine g_getI (ci := 3) (T0 := TX3) (N := 9) B (by decide) rfl in_3 (k := 6) (by decide) rfl wd_246 (fun _ h => h) dX9_took_12 (fun v_2 => ?_)
    refine g_iconst (v := 1) B dX9_took_15 (by decide) ?_
    refine g_iadd B dX9_took_16 ?_
    refine g_putI (ci := 3) (T0 := TX3) (N := 9) B (by decide) rfl in_3 tyX3 tyX3_ok nmX3 (k := 6) (by decide) wd_246 (fun _ h => h) rfl rfl (ty := .int) (by decide +kernel) rfl rfl dX9_took_17 (fun M_3 => ?_)
    refine g_iconst (v := 1) B dX9_took_20 (by decide) ?_
    exact g_ireturn B hr rfl (by decide) (by decide) rfl dX9_took_21
  · refine g_iconst (v := 0) B dX9_took_8 (by decide) ?_
    exact g_ireturn B hr rfl (by decide) (by decide) rfl dX9_took_9
theorem c3_took (X : gX) (l : Launch) (a0 : Nat) (x1 : Int32) (M : mMem) : Con X l yX9_took cX9_took 2 (some .boolean) rm3_took (fun r9 : (Int32 × mMem) => (some (.int r9.1), r9.2)) [.ref a0, .int x1] M (p3_took a0 x1 M) := g_con (own := RX9) (by decide +kernel) rfl (Nat.le_of_ble_eq_true rfl) (fun p e s m args below meth c B hS9 hr hn => g3_took B hS9 hr a0 x1 M)
theorem mf3_numberOfNext : gMF yX9_numberOfNext cX9_numberOfNext 1 (some .int) 0 := ⟨wd_886, wd_6, ⟨by decide, by decide⟩, by decide +kernel⟩
set_option maxRecDepth 20000 in
set_option maxHeartbeats 2000000 in
theorem g3_numberOfNext_J43 {X : gX} {p : Program} {l : Launch} {e : Env} {s : State} {m : MethodId} {args : Array Value} {below : List Frame} {meth : Method} {c : Code} (B : gB X p (rm3_numberOfNext) s m args meth c RX9 cX9_numberOfNext 1 (rm3_numberOfNext)) (hS9 : gS X s) (hr : meth.sig.returnType = some .int) {M : mMem} (u0 : Int32) : GG X p l e (rm3_numberOfNext) s m args below meth c (gP X below args s 0 0 (fun r9 : Int32 => (some (.int r9), M))) 1 0 0 43 [] [.int u0] M (p3_numberOfNext_J43 M u0) := by
  unfold p3_numberOfNext_J43
  exact g_ireturn B hr rfl (by decide) (by decide) rfl dX9_numberOfNext_43
set_option maxRecDepth 20000 in
set_option maxHeartbeats 2000000 in
theorem g3_numberOfNext_J42 {X : gX} {p : Program} {l : Launch} {e : Env} {s : State} {m : MethodId} {args : Array Value} {below : List Frame} {meth : Method} {c : Code} (B : gB X p (rm3_numberOfNext) s m args meth c RX9 cX9_numberOfNext 1 (rm3_numberOfNext)) (hS9 : gS X s) (hr : meth.sig.returnType = some .int) {M : mMem} : GG X p l e (rm3_numberOfNext) s m args below meth c (gP X below args s 0 0 (fun r9 : Int32 => (some (.int r9), M))) 1 0 0 42 [] [] M (p3_numberOfNext_J42 M) := by
  unfold p3_numberOfNext_J42
  refine g_iconst (v := 0) B dX9_numberOfNext_42 (by decide) ?_
  refine g_sub (lv' := []) [] rfl ?_
  exact g3_numberOfNext_J43 B hS9 hr 0
set_option maxRecDepth 20000 in
set_option maxHeartbeats 2000000 in
theorem g3_numberOfNext {X : gX} {p : Program} {l : Launch} {e : Env} {s : State} {m : MethodId} {args : Array Value} {below : List Frame} {meth : Method} {c : Code} (B : gB X p (rm3_numberOfNext) s m args meth c RX9 cX9_numberOfNext 1 (rm3_numberOfNext)) (hS9 : gS X s) (hr : meth.sig.returnType = some .int) {M : mMem} (a0 : Nat) : GG X p l e (rm3_numberOfNext) s m args below meth c (gP X below args s 0 0 (fun r9 : Int32 => (some (.int r9), M))) 1 0 0 0 [(0, .ref a0)] [] M (p3_numberOfNext a0 M) := by
  unfold p3_numberOfNext
  refine g_gd ?_
  refine g_aload_n B dX9_numberOfNext_0 0 rfl ?_
  refine g_getI (ci := 3) (T0 := TX3) (N := 9) B (by decide) rfl in_3 (k := 6) (by decide) rfl wd_246 (fun _ h => h) dX9_numberOfNext_1 (fun v_1 => ?_)
  refine g_if_lt B 42 dX9_numberOfNext_4 (by decide) ?_ ?_
  · refine g_sub (lv' := []) [] rfl ?_
    exact g3_numberOfNext_J42 B hS9 hr
  · refine g_aload_n B dX9_numberOfNext_7 0 rfl ?_
    refine g_getI (ci := 3) (T0 := TX3) (N := 9) B (by decide) rfl in_3 (k := 6) (by decide) rfl wd_246 (fun _ h => h) dX9_numberOfNext_8 (fun v_2 => ?_)
    refine g_aload_n B dX9_numberOfNext_11 0 rfl ?_
    refine g_getI (ci := 3) (T0 := TX3) (N := 9) B (by decide) rfl in_3 (k := 4) (by decide) rfl wd_244 (fun _ h => h) dX9_numberOfNext_12 (fun v_3 => ?_)
    refine g_icmp_ge B 42 dX9_numberOfNext_15 (by decide) ?_ ?_
    · refine g_aload_n B dX9_numberOfNext_18 0 rfl ?_
      refine g_getI (ci := 3) (T0 := TX3) (N := 9) B (by decide) rfl in_3 (k := 6) (by decide) rfl wd_246 (fun _ h => h) dX9_numberOfNext_19 (fun v_4 => ?_)
      refine g_aload_n B dX9_numberOfNext_22 0 rfl ?_
      refine g_getR (ci := 3) (T0 := TX3) (N := 9) B (by decide) rfl in_3 (k := 2) (by decide) rfl wd_242 (fun _ h => h) dX9_numberOfNext_23 (fun v_5 => ?_)
      refine g_alen B dX9_numberOfNext_26 (fun v_6 => ?_)
      refine g_icmp_ge B 42 dX9_numberOfNext_27 (by decide) ?_ ?_
      · refine g_aload_n B dX9_numberOfNext_30 0 rfl ?_
        refine g_getR (ci := 3) (T0 := TX3) (N := 9) B (by decide) rfl in_3 (k := 2) (by decide) rfl wd_242 (fun _ h => h) dX9_numberOfNext_31 (fun v_7 => ?_)
        refine g_aload_n B dX9_numberOfNext_34 0 rfl ?_
        refine g_getI (ci := 3) (T0 := TX3) (N := 9) B (by decide) rfl in_3 (k := 6) (by decide) rfl wd_246 (fun _ h => h) dX9_numberOfNext_35 (fun v_8 => ?_)
        refine g_iaload B dX9_numberOfNext_38 (fun v_9 => ?_)
        refine g_goto B 43 dX9_numberOfNext_39 (by decide) ?_
        refine g_sub (lv' := []) [] rfl ?_
        exact g3_numberOfNext_J43 B hS9 hr v_9
      · refine g_sub (lv' := []) [] rfl ?_
        exact g3_numberOfNext_J42 B hS9 hr
    · refine g_sub (lv' := []) [] rfl ?_
      exact g3_numberOfNext_J42 B hS9 hr
theorem c3_numberOfNext (X : gX) (l : Launch) (a0 : Nat) (M : mMem) : Con X l yX9_numberOfNext cX9_numberOfNext 1 (some .int) rm3_numberOfNext (fun r9 : Int32 => (some (.int r9), M)) [.ref a0] M (p3_numberOfNext a0 M) := g_con (own := RX9) (by decide +kernel) rfl (Nat.le_of_ble_eq_true rfl) (fun p e s m args below meth c B hS9 hr hn => g3_numberOfNext B hS9 hr a0)
theorem mf3_tookNumber : gMF yX9_tookNumber cX9_tookNumber 4 (some .boolean) 2 := ⟨wd_880, wd_6, ⟨by decide, by decide⟩, by decide +kernel⟩
set_option maxRecDepth 20000 in
set_option maxHeartbeats 2000000 in
theorem g3_tookNumber_J23 {X : gX} {p : Program} {l : Launch} {e : Env} {s : State} {m : MethodId} {args : Array Value} {below : List Frame} {meth : Method} {c : Code} (B : gB X p (rm3_tookNumber) s m args meth c RX9 cX9_tookNumber 4 (rm3_tookNumber)) (hS9 : gS X s) (hr : meth.sig.returnType = some .boolean) (M : mMem) : GG X p l e (rm3_tookNumber) s m args below meth c (gP X below args s 0 0 (fun r9 : (Int32 × mMem) => (some (.int r9.1), r9.2))) 4 0 0 23 [] [] M (p3_tookNumber_J23 M) := by
  unfold p3_tookNumber_J23
  refine g_iconst (v := 0) B dX9_tookNumber_23 (by decide) ?_
  exact g_ireturn B hr rfl (by decide) (by decide) rfl dX9_tookNumber_24
set_option maxRecDepth 20000 in
set_option maxHeartbeats 2000000 in
theorem g3_tookNumber {X : gX} {p : Program} {l : Launch} {e : Env} {s : State} {m : MethodId} {args : Array Value} {below : List Frame} {meth : Method} {c : Code} (B : gB X p (rm3_tookNumber) s m args meth c RX9 cX9_tookNumber 4 (rm3_tookNumber)) (hS9 : gS X s) (hr : meth.sig.returnType = some .boolean) (a0 : Nat) (x1 : Int32) (x2 : Int32) (M : mMem) : GG X p l e (rm3_tookNumber) s m args below meth c (gP X below args s 0 0 (fun r9 : (Int32 × mMem) => (some (.int r9.1), r9.2))) 4 0 0 0 [(0, .ref a0), (1, .int x1), (2, .int x2)] [] M (p3_tookNumber a0 x1 x2 M) := by
  unfold p3_tookNumber
  refine g_gd ?_
  refine g_aload_n B dX9_tookNumber_0 0 rfl ?_
  refine g_callV_ip [] (ci := 3) (T0 := TX3) (N := 9) B hS9 mf3_numberOfNext wd_882 (gw B wd_884) wd_881 (by decide) rfl (fun h => (gd_ne h).1) (c3_numberOfNext X l a0 M) (by decide) (by decide) (by decide) rfl (by decide) dX9_tookNumber_1 rfl (fun v_1 => ?_)
  refine g_istore_n (lv' := [(3, .int v_1), (0, .ref a0), (1, .int x1), (2, .int x2)]) B dX9_tookNumber_4 (by decide) [0, 1, 2, 3] rfl ?_
  refine g_aload_n B dX9_tookNumber_5 1 rfl ?_
  refine g_callV_ip [] (ci := 3) (T0 := TX3) (N := 9) B hS9 mf3_next wd_850 (gw B wd_852) wd_849 (by decide) rfl (fun h => (gd_ne h).1) (c3_next X l a0 M) (by decide) (by decide) (by decide) rfl (by decide) dX9_tookNumber_6 rfl (fun v_2 => ?_)
  refine g_iconst (v := 2) B dX9_tookNumber_9 (by decide) ?_
  refine g_icmp_ne B 23 dX9_tookNumber_10 (by decide) ?_ ?_
  · refine g_iload_n B dX9_tookNumber_13 0 rfl ?_
    refine g_iload_n B dX9_tookNumber_14 2 rfl ?_
    refine g_icmp_lt B 23 dX9_tookNumber_15 (by decide) ?_ ?_
    · refine g_sub (lv' := []) [] rfl ?_
      exact g3_tookNumber_J23 B hS9 hr M
    · refine g_iload_n B dX9_tookNumber_18 0 rfl ?_
      refine g_iload_n B dX9_tookNumber_19 3 rfl ?_
      refine g_icmp_le B 25 dX9_tookNumber_20 (by decide) ?_ ?_
      · refine g_sub (lv' := []) [] rfl ?_
        exact g3_tookNumber_J23 B hS9 hr M
      · refine g_aload_n B dX9_tookNumber_25 1 rfl ?_
        refine g_iload_n B dX9_tookNumber_26 0 rfl ?_
        refine g_putI (ci := 3) (T0 := TX3) (N := 9) B (by decide) rfl in_3 tyX3 tyX3_ok nmX3 (k := 7) (by decide) wd_251 (fun _ h => h) rfl rfl (ty := .int) (by decide +kernel) rfl rfl dX9_tookNumber_27 (fun M_3 => ?_)
        refine g_aload_n B dX9_tookNumber_30 1 rfl ?_
        refine g_dup B dX9_tookNumber_31 rfl ?_
        refine g_getI (ci := 3) (T0 := TX3) (N := 9) B (by decide) rfl in_3 (k := 6) (by decide) rfl wd_246 (fun _ h => h) dX9_tookNumber_32 (fun v_4 => ?_)
        refine g_iconst (v := 1) B dX9_tookNumber_35 (by decide) ?_
        refine g_iadd B dX9_tookNumber_36 ?_
        refine g_putI (ci := 3) (T0 := TX3) (N := 9) B (by decide) rfl in_3 tyX3 tyX3_ok nmX3 (k := 6) (by decide) wd_246 (fun _ h => h) rfl rfl (ty := .int) (by decide +kernel) rfl rfl dX9_tookNumber_37 (fun M_5 => ?_)
        refine g_iconst (v := 1) B dX9_tookNumber_40 (by decide) ?_
        exact g_ireturn B hr rfl (by decide) (by decide) rfl dX9_tookNumber_41
  · refine g_sub (lv' := []) [] rfl ?_
    exact g3_tookNumber_J23 B hS9 hr M
theorem c3_tookNumber (X : gX) (l : Launch) (a0 : Nat) (x1 : Int32) (x2 : Int32) (M : mMem) : Con X l yX9_tookNumber cX9_tookNumber 4 (some .boolean) rm3_tookNumber (fun r9 : (Int32 × mMem) => (some (.int r9.1), r9.2)) [.ref a0, .int x1, .int x2] M (p3_tookNumber a0 x1 x2 M) := g_con (own := RX9) (by decide +kernel) rfl (Nat.le_of_ble_eq_true rfl) (fun p e s m args below meth c B hS9 hr hn => g3_tookNumber B hS9 hr a0 x1 x2 M)
theorem mf3_tookPerson : gMF yX3_tookPerson cX3_tookPerson 1 (some .boolean) 0 := ⟨wd_890, wd_7, ⟨by decide, by decide⟩, by decide +kernel⟩
set_option maxRecDepth 20000 in
set_option maxHeartbeats 2000000 in
theorem g3_tookPerson {X : gX} {p : Program} {l : Launch} {e : Env} {s : State} {m : MethodId} {args : Array Value} {below : List Frame} {meth : Method} {c : Code} (B : gB X p (rm3_tookPerson) s m args meth c RX3 cX3_tookPerson 1 (rm3_tookPerson)) (hS9 : gS X s) (hr : meth.sig.returnType = some .boolean) (a0 : Nat) (M : mMem) : GG X p l e (rm3_tookPerson) s m args below meth c (gP X below args s 0 0 (fun r9 : (Int32 × mMem) => (some (.int r9.1), r9.2))) 1 0 0 0 [(0, .ref a0)] [] M (p3_tookPerson a0 M) := by
  unfold p3_tookPerson
  refine g_gd ?_
  refine g_aload_n B dX3_tookPerson_0 0 rfl ?_
  refine g_iconst (v := 0) B dX3_tookPerson_1 (by decide) ?_
  refine g_aload_n B dX3_tookPerson_2 0 rfl ?_
  refine g_getR (ci := 3) (T0 := TX3) (N := 9) B (by decide) rfl in_3 (k := 8) (by decide) rfl wd_239 (fun _ h => h) dX3_tookPerson_3 (fun v_1 => ?_)
  refine g_getI (ci := 2) (T0 := TX2) (N := 11) B (by decide) rfl in_2 (k := 4) (by decide) rfl wd_141 (fun _ h => h) dX3_tookPerson_6 (fun v_2 => ?_)
  refine g_iconst (v := 1) B dX3_tookPerson_9 (by decide) ?_
  refine g_isub B dX3_tookPerson_10 ?_
  refine g_callU_iw (x := ⟨"CribLine$FamilyReader", "tookNumber", "(II)Z"⟩) (owner := "CribLine$Reader") [.int 0, .int (v_2 - 1)] (ci := 3) (T0 := TX3) (N := 9) B hS9 mf3_tookNumber wd_879 (gw B wd_878) wd_875 wd_876 (va_Decl.of (gw B wd_879) (gw B wd_880)) (by decide +kernel) (by decide) rfl (fun h => (gd_ne h).1) (c3_tookNumber X l a0 0 (v_2 - 1) M) (by decide) (by decide) (by decide) rfl (by decide) dX3_tookPerson_11 rfl (fun q_3 => ?_)
  exact g_zreturn (f := fun z => (z, q_3.2)) B hr (by decide) (by decide) rfl dX3_tookPerson_14
theorem c3_tookPerson (X : gX) (l : Launch) (a0 : Nat) (M : mMem) : Con X l yX3_tookPerson cX3_tookPerson 1 (some .boolean) rm3_tookPerson (fun r9 : (Int32 × mMem) => (some (.int r9.1), r9.2)) [.ref a0] M (p3_tookPerson a0 M) := g_con (own := RX3) (by decide +kernel) rfl (Nat.le_of_ble_eq_true rfl) (fun p e s m args below meth c B hS9 hr hn => g3_tookPerson B hS9 hr a0 M)
theorem mf3_readRest : gMF yX3_readRest cX3_readRest 2 (some .boolean) 1 := ⟨wd_899, wd_7, ⟨by decide, by decide⟩, by decide +kernel⟩
set_option maxRecDepth 20000 in
set_option maxHeartbeats 2000000 in
theorem g3_readRest_J87 {X : gX} {p : Program} {l : Launch} {e : Env} {s : State} {m : MethodId} {args : Array Value} {below : List Frame} {meth : Method} {c : Code} (B : gB X p (rm3_readRest) s m args meth c RX3 cX3_readRest 2 (rm3_readRest)) (hS9 : gS X s) (hr : meth.sig.returnType = some .boolean) (M : mMem) : GG X p l e (rm3_readRest) s m args below meth c (gP X below args s 0 0 (fun r9 : (Int32 × mMem) => (some (.int r9.1), r9.2))) 2 0 0 87 [] [] M (p3_readRest_J87 M) := by
  unfold p3_readRest_J87
  refine g_iconst (v := 1) B dX3_readRest_87 (by decide) ?_
  exact g_ireturn B hr rfl (by decide) (by decide) rfl dX3_readRest_88
set_option maxRecDepth 20000 in
set_option maxHeartbeats 2000000 in
theorem g3_readRest_J58 {X : gX} {p : Program} {l : Launch} {e : Env} {s : State} {m : MethodId} {args : Array Value} {below : List Frame} {meth : Method} {c : Code} (B : gB X p (rm3_readRest) s m args meth c RX3 cX3_readRest 2 (rm3_readRest)) (hS9 : gS X s) (hr : meth.sig.returnType = some .boolean) (a0 : Nat) (a1 : Nat) (M : mMem) : GG X p l e (rm3_readRest) s m args below meth c (gP X below args s 0 0 (fun r9 : (Int32 × mMem) => (some (.int r9.1), r9.2))) 2 0 0 58 [(0, .ref a0), (1, .ref a1)] [] M (p3_readRest_J58 a0 a1 M) := by
  unfold p3_readRest_J58
  refine g_aload_n B dX3_readRest_58 0 rfl ?_
  refine g_bipush (v := 10) B dX3_readRest_59 (by decide) ?_
  refine g_callU_iw (x := ⟨"CribLine$FamilyReader", "took", "(I)Z"⟩) (owner := "CribLine$Reader") [.int 10] (ci := 3) (T0 := TX3) (N := 9) B hS9 mf3_took wd_873 (gw B wd_872) wd_869 wd_870 (va_Decl.of (gw B wd_873) (gw B wd_874)) (by decide +kernel) (by decide) rfl (fun h => (gd_ne h).1) (c3_took X l a0 10 M) (by decide) (by decide) (by decide) rfl (by decide) dX3_readRest_61 rfl (fun q_1 => ?_)
  refine g_if_eq B 87 dX3_readRest_64 (by decide) ?_ ?_
  · refine g_sub (lv' := []) [] rfl ?_
    exact g3_readRest_J87 B hS9 hr q_1.2
  · refine g_aload_n B dX3_readRest_67 0 rfl ?_
    refine g_iconst (v := 0) B dX3_readRest_68 (by decide) ?_
    refine g_bipush (v := 9) B dX3_readRest_69 (by decide) ?_
    refine g_callU_iw (x := ⟨"CribLine$FamilyReader", "tookNumber", "(II)Z"⟩) (owner := "CribLine$Reader") [.int 0, .int 9] (ci := 3) (T0 := TX3) (N := 9) B hS9 mf3_tookNumber wd_879 (gw B wd_878) wd_875 wd_876 (va_Decl.of (gw B wd_879) (gw B wd_880)) (by decide +kernel) (by decide) rfl (fun h => (gd_ne h).1) (c3_tookNumber X l a0 0 9 q_1.2) (by decide) (by decide) (by decide) rfl (by decide) dX3_readRest_71 rfl (fun q_2 => ?_)
    refine g_if_ne B 79 dX3_readRest_74 (by decide) ?_ ?_
    · refine g_iconst (v := 0) B dX3_readRest_77 (by decide) ?_
      exact g_ireturn B hr rfl (by decide) (by decide) rfl dX3_readRest_78
    · refine g_aload_n B dX3_readRest_79 1 rfl ?_
      refine g_aload_n B dX3_readRest_80 0 rfl ?_
      refine g_getI (ci := 3) (T0 := TX3) (N := 9) B (by decide) rfl in_3 (k := 7) (by decide) rfl wd_254 (fun x h => u_same (B.2.2.2.2.1 _ wd_255) x h) dX3_readRest_81 (fun v_3 => ?_)
      refine g_putI (ci := 8) (T0 := TX8) (N := 9) B (by decide) rfl in_8 tyX8 tyX8_ok nmX8 (k := 7) (by decide) wd_89 (fun _ h => h) rfl rfl (ty := .int) (by decide +kernel) rfl rfl dX3_readRest_84 (fun M_4 => ?_)
      refine g_sub (lv' := []) [] rfl ?_
      exact g3_readRest_J87 B hS9 hr M_4
set_option maxRecDepth 20000 in
set_option maxHeartbeats 2000000 in
theorem g3_readRest_J29 {X : gX} {p : Program} {l : Launch} {e : Env} {s : State} {m : MethodId} {args : Array Value} {below : List Frame} {meth : Method} {c : Code} (B : gB X p (rm3_readRest) s m args meth c RX3 cX3_readRest 2 (rm3_readRest)) (hS9 : gS X s) (hr : meth.sig.returnType = some .boolean) (a0 : Nat) (a1 : Nat) (M : mMem) : GG X p l e (rm3_readRest) s m args below meth c (gP X below args s 0 0 (fun r9 : (Int32 × mMem) => (some (.int r9.1), r9.2))) 2 0 0 29 [(0, .ref a0), (1, .ref a1)] [] M (p3_readRest_J29 a0 a1 M) := by
  unfold p3_readRest_J29
  refine g_aload_n B dX3_readRest_29 0 rfl ?_
  refine g_bipush (v := 9) B dX3_readRest_30 (by decide) ?_
  refine g_callU_iw (x := ⟨"CribLine$FamilyReader", "took", "(I)Z"⟩) (owner := "CribLine$Reader") [.int 9] (ci := 3) (T0 := TX3) (N := 9) B hS9 mf3_took wd_873 (gw B wd_872) wd_869 wd_870 (va_Decl.of (gw B wd_873) (gw B wd_874)) (by decide +kernel) (by decide) rfl (fun h => (gd_ne h).1) (c3_took X l a0 9 M) (by decide) (by decide) (by decide) rfl (by decide) dX3_readRest_32 rfl (fun q_1 => ?_)
  refine g_if_eq B 58 dX3_readRest_35 (by decide) ?_ ?_
  · refine g_sub (lv' := [(0, .ref a0), (1, .ref a1)]) [0, 1] rfl ?_
    exact g3_readRest_J58 B hS9 hr a0 a1 q_1.2
  · refine g_aload_n B dX3_readRest_38 0 rfl ?_
    refine g_iconst (v := 0) B dX3_readRest_39 (by decide) ?_
    refine g_bipush (v := 100) B dX3_readRest_40 (by decide) ?_
    refine g_callU_iw (x := ⟨"CribLine$FamilyReader", "tookNumber", "(II)Z"⟩) (owner := "CribLine$Reader") [.int 0, .int 100] (ci := 3) (T0 := TX3) (N := 9) B hS9 mf3_tookNumber wd_879 (gw B wd_878) wd_875 wd_876 (va_Decl.of (gw B wd_879) (gw B wd_880)) (by decide +kernel) (by decide) rfl (fun h => (gd_ne h).1) (c3_tookNumber X l a0 0 100 q_1.2) (by decide) (by decide) (by decide) rfl (by decide) dX3_readRest_42 rfl (fun q_2 => ?_)
    refine g_if_ne B 50 dX3_readRest_45 (by decide) ?_ ?_
    · refine g_iconst (v := 0) B dX3_readRest_48 (by decide) ?_
      exact g_ireturn B hr rfl (by decide) (by decide) rfl dX3_readRest_49
    · refine g_aload_n B dX3_readRest_50 1 rfl ?_
      refine g_aload_n B dX3_readRest_51 0 rfl ?_
      refine g_getI (ci := 3) (T0 := TX3) (N := 9) B (by decide) rfl in_3 (k := 7) (by decide) rfl wd_254 (fun x h => u_same (B.2.2.2.2.1 _ wd_255) x h) dX3_readRest_52 (fun v_3 => ?_)
      refine g_putI (ci := 8) (T0 := TX8) (N := 9) B (by decide) rfl in_8 tyX8 tyX8_ok nmX8 (k := 6) (by decide) wd_85 (fun _ h => h) rfl rfl (ty := .int) (by decide +kernel) rfl rfl dX3_readRest_55 (fun M_4 => ?_)
      refine g_sub (lv' := [(0, .ref a0), (1, .ref a1)]) [0, 1] rfl ?_
      exact g3_readRest_J58 B hS9 hr a0 a1 M_4
set_option maxRecDepth 20000 in
set_option maxHeartbeats 2000000 in
theorem g3_readRest {X : gX} {p : Program} {l : Launch} {e : Env} {s : State} {m : MethodId} {args : Array Value} {below : List Frame} {meth : Method} {c : Code} (B : gB X p (rm3_readRest) s m args meth c RX3 cX3_readRest 2 (rm3_readRest)) (hS9 : gS X s) (hr : meth.sig.returnType = some .boolean) (a0 : Nat) (a1 : Nat) (M : mMem) : GG X p l e (rm3_readRest) s m args below meth c (gP X below args s 0 0 (fun r9 : (Int32 × mMem) => (some (.int r9.1), r9.2))) 2 0 0 0 [(0, .ref a0), (1, .ref a1)] [] M (p3_readRest a0 a1 M) := by
  unfold p3_readRest
  refine g_gd ?_
  refine g_aload_n B dX3_readRest_0 0 rfl ?_
  refine g_bipush (v := 8) B dX3_readRest_1 (by decide) ?_
  refine g_callU_iw (x := ⟨"CribLine$FamilyReader", "took", "(I)Z"⟩) (owner := "CribLine$Reader") [.int 8] (ci := 3) (T0 := TX3) (N := 9) B hS9 mf3_took wd_873 (gw B wd_872) wd_869 wd_870 (va_Decl.of (gw B wd_873) (gw B wd_874)) (by decide +kernel) (by decide) rfl (fun h => (gd_ne h).1) (c3_took X l a0 8 M) (by decide) (by decide) (by decide) rfl (by decide) dX3_readRest_3 rfl (fun q_1 => ?_)
  refine g_if_eq B 29 dX3_readRest_6 (by decide) ?_ ?_
  · refine g_sub (lv' := [(0, .ref a0), (1, .ref a1)]) [0, 1] rfl ?_
    exact g3_readRest_J29 B hS9 hr a0 a1 q_1.2
  · refine g_aload_n B dX3_readRest_9 0 rfl ?_
    refine g_iconst (v := 0) B dX3_readRest_10 (by decide) ?_
    refine g_bipush (v := 100) B dX3_readRest_11 (by decide) ?_
    refine g_callU_iw (x := ⟨"CribLine$FamilyReader", "tookNumber", "(II)Z"⟩) (owner := "CribLine$Reader") [.int 0, .int 100] (ci := 3) (T0 := TX3) (N := 9) B hS9 mf3_tookNumber wd_879 (gw B wd_878) wd_875 wd_876 (va_Decl.of (gw B wd_879) (gw B wd_880)) (by decide +kernel) (by decide) rfl (fun h => (gd_ne h).1) (c3_tookNumber X l a0 0 100 q_1.2) (by decide) (by decide) (by decide) rfl (by decide) dX3_readRest_13 rfl (fun q_2 => ?_)
    refine g_if_ne B 21 dX3_readRest_16 (by decide) ?_ ?_
    · refine g_iconst (v := 0) B dX3_readRest_19 (by decide) ?_
      exact g_ireturn B hr rfl (by decide) (by decide) rfl dX3_readRest_20
    · refine g_aload_n B dX3_readRest_21 1 rfl ?_
      refine g_aload_n B dX3_readRest_22 0 rfl ?_
      refine g_getI (ci := 3) (T0 := TX3) (N := 9) B (by decide) rfl in_3 (k := 7) (by decide) rfl wd_254 (fun x h => u_same (B.2.2.2.2.1 _ wd_255) x h) dX3_readRest_23 (fun v_3 => ?_)
      refine g_putI (ci := 8) (T0 := TX8) (N := 9) B (by decide) rfl in_8 tyX8 tyX8_ok nmX8 (k := 5) (by decide) wd_80 (fun _ h => h) rfl rfl (ty := .int) (by decide +kernel) rfl rfl dX3_readRest_26 (fun M_4 => ?_)
      refine g_sub (lv' := [(0, .ref a0), (1, .ref a1)]) [0, 1] rfl ?_
      exact g3_readRest_J29 B hS9 hr a0 a1 M_4
theorem c3_readRest (X : gX) (l : Launch) (a0 : Nat) (a1 : Nat) (M : mMem) : Con X l yX3_readRest cX3_readRest 2 (some .boolean) rm3_readRest (fun r9 : (Int32 × mMem) => (some (.int r9.1), r9.2)) [.ref a0, .ref a1] M (p3_readRest a0 a1 M) := g_con (own := RX3) (by decide +kernel) rfl (Nat.le_of_ble_eq_true rfl) (fun p e s m args below meth c B hS9 hr hn => g3_readRest B hS9 hr a0 a1 M)
theorem mf3_readPerson : gMF yX3_readPerson cX3_readPerson 4 (some .boolean) 0 := ⟨wd_868, wd_7, ⟨by decide, by decide⟩, by decide +kernel⟩
set_option maxRecDepth 20000 in
set_option maxHeartbeats 2000000 in
theorem g3_readPerson_J68 {X : gX} {p : Program} {l : Launch} {e : Env} {s : State} {m : MethodId} {args : Array Value} {below : List Frame} {meth : Method} {c : Code} (B : gB X p (rm3_readPerson) s m args meth c RX3 cX3_readPerson 4 (rm3_readPerson)) (hS9 : gS X s) (hr : meth.sig.returnType = some .boolean) (M : mMem) : GG X p l e (rm3_readPerson) s m args below meth c (gP X below args s 0 0 (fun r9 : (Int32 × mMem) => (some (.int r9.1), r9.2))) 4 0 0 68 [] [] M (p3_readPerson_J68 M) := by
  unfold p3_readPerson_J68
  refine g_iconst (v := 0) B dX3_readPerson_68 (by decide) ?_
  exact g_ireturn B hr rfl (by decide) (by decide) rfl dX3_readPerson_69
set_option maxRecDepth 20000 in
set_option maxHeartbeats 2000000 in
theorem g3_readPerson_J118 {X : gX} {p : Program} {l : Launch} {e : Env} {s : State} {m : MethodId} {args : Array Value} {below : List Frame} {meth : Method} {c : Code} (B : gB X p (rm3_readPerson) s m args meth c RX3 cX3_readPerson 4 (rm3_readPerson)) (hS9 : gS X s) (hr : meth.sig.returnType = some .boolean) (x2 : Int32) (x3 : Int32) (b0 : Nat) (b1 : Nat) (b2 : Nat) (u3 : Int32) (M : mMem) : GG X p l e (rm3_readPerson) s m args below meth c (gP X below args s 0 0 (fun r9 : (Int32 × mMem) => (some (.int r9.1), r9.2))) 4 0 0 118 [(2, .int x2), (3, .int x3)] [.int u3, .ref b2, .ref b1, .ref b0] M (p3_readPerson_J118 x2 x3 b0 b1 b2 u3 M) := by
  unfold p3_readPerson_J118
  refine g_iload_n B dX3_readPerson_118 0 rfl ?_
  refine g_iload_n B dX3_readPerson_119 1 rfl ?_
  refine g_callV_iw [.int u3, .int x2, .int x3] (ci := 2) (T0 := TX2) (N := 11) B hS9 mf2_add wd_892 (gw B wd_893) wd_891 (by decide) rfl (fun h => (gd_ne h).1) (c2_add X l b2 u3 x2 x3 M) (by decide) (by decide) (by decide) rfl (Nat.le_of_ble_eq_true rfl) dX3_readPerson_120 rfl (fun q_1 => ?_)
  refine g_callV_ap [.int q_1.1] (ci := 2) (T0 := TX2) (N := 11) B hS9 mf2_at wd_466 (gw B wd_467) wd_895 (by decide) rfl (fun h => (gd_ne h).1) (c2_at X l b1 q_1.1 q_1.2) (by decide) (by decide) (by decide) rfl (Nat.le_of_ble_eq_true rfl) dX3_readPerson_123 rfl (fun v_2 => ?_)
  refine g_callV_iw [.ref v_2] (ci := 3) (T0 := TX3) (N := 9) B hS9 mf3_readRest wd_898 (gw B wp_13) wd_896 (by decide) rfl (fun h => (gd_ne h).1) (c3_readRest X l b0 v_2 q_1.2) (by decide) (by decide) (by decide) rfl (by decide) dX3_readPerson_126 rfl (fun q_3 => ?_)
  exact g_zreturn (f := fun z => (z, q_3.2)) B hr (by decide) (by decide) rfl dX3_readPerson_129
set_option maxRecDepth 20000 in
set_option maxHeartbeats 2000000 in
theorem g3_readPerson_J100 {X : gX} {p : Program} {l : Launch} {e : Env} {s : State} {m : MethodId} {args : Array Value} {below : List Frame} {meth : Method} {c : Code} (B : gB X p (rm3_readPerson) s m args meth c RX3 cX3_readPerson 4 (rm3_readPerson)) (hS9 : gS X s) (hr : meth.sig.returnType = some .boolean) (a0 : Nat) (x1 : Int32) (x2 : Int32) (x3 : Int32) (M : mMem) : GG X p l e (rm3_readPerson) s m args below meth c (gP X below args s 0 0 (fun r9 : (Int32 × mMem) => (some (.int r9.1), r9.2))) 4 0 0 100 [(0, .ref a0), (1, .int x1), (2, .int x2), (3, .int x3)] [] M (p3_readPerson_J100 a0 x1 x2 x3 M) := by
  unfold p3_readPerson_J100
  refine g_aload_n B dX3_readPerson_100 0 rfl ?_
  refine g_aload_n B dX3_readPerson_101 0 rfl ?_
  refine g_getR (ci := 3) (T0 := TX3) (N := 9) B (by decide) rfl in_3 (k := 8) (by decide) rfl wd_239 (fun _ h => h) dX3_readPerson_102 (fun v_1 => ?_)
  refine g_aload_n B dX3_readPerson_105 0 rfl ?_
  refine g_getR (ci := 3) (T0 := TX3) (N := 9) B (by decide) rfl in_3 (k := 8) (by decide) rfl wd_239 (fun _ h => h) dX3_readPerson_106 (fun v_2 => ?_)
  refine g_iload_n B dX3_readPerson_109 1 rfl ?_
  refine g_if_eq B 117 dX3_readPerson_110 (by decide) ?_ ?_
  · refine g_iconst (v := 1) B dX3_readPerson_117 (by decide) ?_
    refine g_sub (lv' := [(2, .int x2), (3, .int x3)]) [2, 3] rfl ?_
    exact g3_readPerson_J118 B hS9 hr x2 x3 a0 v_1 v_2 1 M
  · refine g_iconst (v := 0) B dX3_readPerson_113 (by decide) ?_
    refine g_goto B 118 dX3_readPerson_114 (by decide) ?_
    refine g_sub (lv' := [(2, .int x2), (3, .int x3)]) [2, 3] rfl ?_
    exact g3_readPerson_J118 B hS9 hr x2 x3 a0 v_1 v_2 0 M
set_option maxRecDepth 20000 in
set_option maxHeartbeats 2000000 in
theorem g3_readPerson_J42 {X : gX} {p : Program} {l : Launch} {e : Env} {s : State} {m : MethodId} {args : Array Value} {below : List Frame} {meth : Method} {c : Code} (B : gB X p (rm3_readPerson) s m args meth c RX3 cX3_readPerson 4 (rm3_readPerson)) (hS9 : gS X s) (hr : meth.sig.returnType = some .boolean) (a0 : Nat) (x1 : Int32) (M : mMem) : GG X p l e (rm3_readPerson) s m args below meth c (gP X below args s 0 0 (fun r9 : (Int32 × mMem) => (some (.int r9.1), r9.2))) 4 0 0 42 [(0, .ref a0), (1, .int x1)] [] M (p3_readPerson_J42 a0 x1 M) := by
  unfold p3_readPerson_J42
  refine g_aload_n B dX3_readPerson_42 0 rfl ?_
  refine g_bipush (v := 6) B dX3_readPerson_43 (by decide) ?_
  refine g_callU_iw (x := ⟨"CribLine$FamilyReader", "took", "(I)Z"⟩) (owner := "CribLine$Reader") [.int 6] (ci := 3) (T0 := TX3) (N := 9) B hS9 mf3_took wd_873 (gw B wd_872) wd_869 wd_870 (va_Decl.of (gw B wd_873) (gw B wd_874)) (by decide +kernel) (by decide) rfl (fun h => (gd_ne h).1) (c3_took X l a0 6 M) (by decide) (by decide) (by decide) rfl (by decide) dX3_readPerson_45 rfl (fun q_1 => ?_)
  refine g_if_eq B 68 dX3_readPerson_48 (by decide) ?_ ?_
  · refine g_sub (lv' := []) [] rfl ?_
    exact g3_readPerson_J68 B hS9 hr q_1.2
  · refine g_aload_n B dX3_readPerson_51 0 rfl ?_
    refine g_iconst (v := 0) B dX3_readPerson_52 (by decide) ?_
    refine g_aload_n B dX3_readPerson_53 0 rfl ?_
    refine g_getR (ci := 3) (T0 := TX3) (N := 9) B (by decide) rfl in_3 (k := 8) (by decide) rfl wd_239 (fun _ h => h) dX3_readPerson_54 (fun v_2 => ?_)
    refine g_getI (ci := 2) (T0 := TX2) (N := 11) B (by decide) rfl in_2 (k := 5) (by decide) rfl wd_147 (fun _ h => h) dX3_readPerson_57 (fun v_3 => ?_)
    refine g_iconst (v := 1) B dX3_readPerson_60 (by decide) ?_
    refine g_isub B dX3_readPerson_61 ?_
    refine g_callU_iw (x := ⟨"CribLine$FamilyReader", "tookNumber", "(II)Z"⟩) (owner := "CribLine$Reader") [.int 0, .int (v_3 - 1)] (ci := 3) (T0 := TX3) (N := 9) B hS9 mf3_tookNumber wd_879 (gw B wd_878) wd_875 wd_876 (va_Decl.of (gw B wd_879) (gw B wd_880)) (by decide +kernel) (by decide) rfl (fun h => (gd_ne h).1) (c3_tookNumber X l a0 0 (v_3 - 1) q_1.2) (by decide) (by decide) (by decide) rfl (by decide) dX3_readPerson_62 rfl (fun q_4 => ?_)
    refine g_if_ne B 70 dX3_readPerson_65 (by decide) ?_ ?_
    · refine g_sub (lv' := []) [] rfl ?_
      exact g3_readPerson_J68 B hS9 hr q_4.2
    · refine g_aload_n B dX3_readPerson_70 0 rfl ?_
      refine g_getI (ci := 3) (T0 := TX3) (N := 9) B (by decide) rfl in_3 (k := 7) (by decide) rfl wd_254 (fun x h => u_same (B.2.2.2.2.1 _ wd_255) x h) dX3_readPerson_71 (fun v_5 => ?_)
      refine g_istore_n (lv' := [(2, .int v_5), (0, .ref a0), (1, .int x1)]) B dX3_readPerson_74 (by decide) [0, 1, 2] rfl ?_
      refine g_iconst (v := (-1)) B dX3_readPerson_75 (by decide) ?_
      refine g_istore_n (lv' := [(3, .int (-1)), (2, .int v_5), (0, .ref a0), (1, .int x1)]) B dX3_readPerson_76 (by decide) [0, 1, 2, 3] rfl ?_
      refine g_aload_n B dX3_readPerson_77 2 rfl ?_
      refine g_bipush (v := 7) B dX3_readPerson_78 (by decide) ?_
      refine g_callU_iw (x := ⟨"CribLine$FamilyReader", "took", "(I)Z"⟩) (owner := "CribLine$Reader") [.int 7] (ci := 3) (T0 := TX3) (N := 9) B hS9 mf3_took wd_873 (gw B wd_872) wd_869 wd_870 (va_Decl.of (gw B wd_873) (gw B wd_874)) (by decide +kernel) (by decide) rfl (fun h => (gd_ne h).1) (c3_took X l a0 7 q_4.2) (by decide) (by decide) (by decide) rfl (by decide) dX3_readPerson_80 rfl (fun q_6 => ?_)
      refine g_if_eq B 100 dX3_readPerson_83 (by decide) ?_ ?_
      · refine g_sub (lv' := [(0, .ref a0), (1, .int x1), (2, .int v_5), (3, .int (-1))]) [2, 3, 1, 0] rfl ?_
        exact g3_readPerson_J100 B hS9 hr a0 x1 v_5 (-1) q_6.2
      · refine g_aload_n B dX3_readPerson_86 2 rfl ?_
        refine g_callV_iw [] (ci := 3) (T0 := TX3) (N := 9) B hS9 mf3_tookPerson wd_889 (gw B wp_12) wd_887 (by decide) rfl (fun h => (gd_ne h).1) (c3_tookPerson X l a0 q_6.2) (by decide) (by decide) (by decide) rfl (by decide) dX3_readPerson_87 rfl (fun q_7 => ?_)
        refine g_if_ne B 95 dX3_readPerson_90 (by decide) ?_ ?_
        · refine g_iconst (v := 0) B dX3_readPerson_93 (by decide) ?_
          exact g_ireturn B hr rfl (by decide) (by decide) rfl dX3_readPerson_94
        · refine g_aload_n B dX3_readPerson_95 2 rfl ?_
          refine g_getI (ci := 3) (T0 := TX3) (N := 9) B (by decide) rfl in_3 (k := 7) (by decide) rfl wd_254 (fun x h => u_same (B.2.2.2.2.1 _ wd_255) x h) dX3_readPerson_96 (fun v_8 => ?_)
          refine g_istore_n (lv' := [(3, .int v_8), (2, .int v_5), (0, .ref a0), (1, .int x1)]) B dX3_readPerson_99 (by decide) [0, 1, 2, 3] rfl ?_
          refine g_sub (lv' := [(0, .ref a0), (1, .int x1), (2, .int v_5), (3, .int v_8)]) [2, 3, 1, 0] rfl ?_
          exact g3_readPerson_J100 B hS9 hr a0 x1 v_5 v_8 q_7.2
set_option maxRecDepth 20000 in
set_option maxHeartbeats 2000000 in
theorem g3_readPerson {X : gX} {p : Program} {l : Launch} {e : Env} {s : State} {m : MethodId} {args : Array Value} {below : List Frame} {meth : Method} {c : Code} (B : gB X p (rm3_readPerson) s m args meth c RX3 cX3_readPerson 4 (rm3_readPerson)) (hS9 : gS X s) (hr : meth.sig.returnType = some .boolean) (a0 : Nat) (M : mMem) : GG X p l e (rm3_readPerson) s m args below meth c (gP X below args s 0 0 (fun r9 : (Int32 × mMem) => (some (.int r9.1), r9.2))) 4 0 0 0 [(0, .ref a0)] [] M (p3_readPerson a0 M) := by
  unfold p3_readPerson
  refine g_gd ?_
  refine g_aload_n B dX3_readPerson_0 0 rfl ?_
  refine g_getR (ci := 3) (T0 := TX3) (N := 9) B (by decide) rfl in_3 (k := 8) (by decide) rfl wd_239 (fun _ h => h) dX3_readPerson_1 (fun v_1 => ?_)
  refine g_getI (ci := 2) (T0 := TX2) (N := 11) B (by decide) rfl in_2 (k := 4) (by decide) rfl wd_141 (fun _ h => h) dX3_readPerson_4 (fun v_2 => ?_)
  refine g_bipush (v := 8) B dX3_readPerson_7 (by decide) ?_
  refine g_icmp_lt B 14 dX3_readPerson_9 (by decide) ?_ ?_
  · refine g_aload_n B dX3_readPerson_14 0 rfl ?_
    refine g_dup B dX3_readPerson_15 rfl ?_
    refine g_getI (ci := 3) (T0 := TX3) (N := 9) B (by decide) rfl in_3 (k := 6) (by decide) rfl wd_249 (fun x h => u_same (B.2.2.2.2.1 _ wd_250) x h) dX3_readPerson_16 (fun v_3 => ?_)
    refine g_iconst (v := 1) B dX3_readPerson_19 (by decide) ?_
    refine g_iadd B dX3_readPerson_20 ?_
    refine g_putI (ci := 3) (T0 := TX3) (N := 9) B (by decide) rfl in_3 tyX3 tyX3_ok nmX3 (k := 6) (by decide) wd_249 (fun x h => u_same (B.2.2.2.2.1 _ wd_250) x h) rfl rfl (ty := .int) (by decide +kernel) rfl rfl dX3_readPerson_21 (fun M_4 => ?_)
    refine g_aload_n B dX3_readPerson_24 0 rfl ?_
    refine g_iconst (v := 4) B dX3_readPerson_25 (by decide) ?_
    refine g_callU_iw (x := ⟨"CribLine$FamilyReader", "took", "(I)Z"⟩) (owner := "CribLine$Reader") [.int 4] (ci := 3) (T0 := TX3) (N := 9) B hS9 mf3_took wd_873 (gw B wd_872) wd_869 wd_870 (va_Decl.of (gw B wd_873) (gw B wd_874)) (by decide +kernel) (by decide) rfl (fun h => (gd_ne h).1) (c3_took X l a0 4 M_4) (by decide) (by decide) (by decide) rfl (by decide) dX3_readPerson_26 rfl (fun q_5 => ?_)
    refine g_istore_n (lv' := [(1, .int q_5.1), (0, .ref a0)]) B dX3_readPerson_29 (by decide) [0, 1] rfl ?_
    refine g_iload_n B dX3_readPerson_30 0 rfl ?_
    refine g_if_ne B 42 dX3_readPerson_31 (by decide) ?_ ?_
    · refine g_aload_n B dX3_readPerson_34 1 rfl ?_
      refine g_iconst (v := 5) B dX3_readPerson_35 (by decide) ?_
      refine g_callU_iw (x := ⟨"CribLine$FamilyReader", "took", "(I)Z"⟩) (owner := "CribLine$Reader") [.int 5] (ci := 3) (T0 := TX3) (N := 9) B hS9 mf3_took wd_873 (gw B wd_872) wd_869 wd_870 (va_Decl.of (gw B wd_873) (gw B wd_874)) (by decide +kernel) (by decide) rfl (fun h => (gd_ne h).1) (c3_took X l a0 5 q_5.2) (by decide) (by decide) (by decide) rfl (by decide) dX3_readPerson_36 rfl (fun q_6 => ?_)
      refine g_if_eq B 68 dX3_readPerson_39 (by decide) ?_ ?_
      · refine g_sub (lv' := []) [] rfl ?_
        exact g3_readPerson_J68 B hS9 hr q_6.2
      · refine g_sub (lv' := [(0, .ref a0), (1, .int q_5.1)]) [1, 0] rfl ?_
        exact g3_readPerson_J42 B hS9 hr a0 q_5.1 q_6.2
    · refine g_sub (lv' := [(0, .ref a0), (1, .int q_5.1)]) [1, 0] rfl ?_
      exact g3_readPerson_J42 B hS9 hr a0 q_5.1 q_5.2
  · refine g_iconst (v := 0) B dX3_readPerson_12 (by decide) ?_
    exact g_ireturn B hr rfl (by decide) (by decide) rfl dX3_readPerson_13
theorem c3_readPerson (X : gX) (l : Launch) (a0 : Nat) (M : mMem) : Con X l yX3_readPerson cX3_readPerson 4 (some .boolean) rm3_readPerson (fun r9 : (Int32 × mMem) => (some (.int r9.1), r9.2)) [.ref a0] M (p3_readPerson a0 M) := g_con (own := RX3) (by decide +kernel) rfl (Nat.le_of_ble_eq_true rfl) (fun p e s m args below meth c B hS9 hr hn => g3_readPerson B hS9 hr a0 M)
theorem mf3_readGoverns : gMF yX3_readGoverns cX3_readGoverns 2 (some .boolean) 0 := ⟨wd_903, wd_7, ⟨by decide, by decide⟩, by decide +kernel⟩
set_option maxRecDepth 20000 in
set_option maxHeartbeats 2000000 in
theorem g3_readGoverns {X : gX} {p : Program} {l : Launch} {e : Env} {s : State} {m : MethodId} {args : Array Value} {below : List Frame} {meth : Method} {c : Code} (B : gB X p (rm3_readGoverns) s m args meth c RX3 cX3_readGoverns 2 (rm3_readGoverns)) (hS9 : gS X s) (hr : meth.sig.returnType = some .boolean) (a0 : Nat) (M : mMem) : GG X p l e (rm3_readGoverns) s m args below meth c (gP X below args s 0 0 (fun r9 : (Int32 × mMem) => (some (.int r9.1), r9.2))) 2 0 0 0 [(0, .ref a0)] [] M (p3_readGoverns a0 M) := by
  unfold p3_readGoverns
  refine g_gd ?_
  refine g_aload_n B dX3_readGoverns_0 0 rfl ?_
  refine g_dup B dX3_readGoverns_1 rfl ?_
  refine g_getI (ci := 3) (T0 := TX3) (N := 9) B (by decide) rfl in_3 (k := 6) (by decide) rfl wd_249 (fun x h => u_same (B.2.2.2.2.1 _ wd_250) x h) dX3_readGoverns_2 (fun v_1 => ?_)
  refine g_iconst (v := 1) B dX3_readGoverns_5 (by decide) ?_
  refine g_iadd B dX3_readGoverns_6 ?_
  refine g_putI (ci := 3) (T0 := TX3) (N := 9) B (by decide) rfl in_3 tyX3 tyX3_ok nmX3 (k := 6) (by decide) wd_249 (fun x h => u_same (B.2.2.2.2.1 _ wd_250) x h) rfl rfl (ty := .int) (by decide +kernel) rfl rfl dX3_readGoverns_7 (fun M_2 => ?_)
  refine g_aload_n B dX3_readGoverns_10 0 rfl ?_
  refine g_callV_iw [] (ci := 3) (T0 := TX3) (N := 9) B hS9 mf3_tookPerson wd_889 (gw B wp_12) wd_887 (by decide) rfl (fun h => (gd_ne h).1) (c3_tookPerson X l a0 M_2) (by decide) (by decide) (by decide) rfl (by decide) dX3_readGoverns_11 rfl (fun q_3 => ?_)
  refine g_if_ne B 19 dX3_readGoverns_14 (by decide) ?_ ?_
  · refine g_iconst (v := 0) B dX3_readGoverns_17 (by decide) ?_
    exact g_ireturn B hr rfl (by decide) (by decide) rfl dX3_readGoverns_18
  · refine g_aload_n B dX3_readGoverns_19 0 rfl ?_
    refine g_getI (ci := 3) (T0 := TX3) (N := 9) B (by decide) rfl in_3 (k := 7) (by decide) rfl wd_254 (fun x h => u_same (B.2.2.2.2.1 _ wd_255) x h) dX3_readGoverns_20 (fun v_4 => ?_)
    refine g_istore_n (lv' := [(1, .int v_4), (0, .ref a0)]) B dX3_readGoverns_23 (by decide) [0, 1] rfl ?_
    refine g_aload_n B dX3_readGoverns_24 1 rfl ?_
    refine g_callV_iw [] (ci := 3) (T0 := TX3) (N := 9) B hS9 mf3_tookPerson wd_889 (gw B wp_12) wd_887 (by decide) rfl (fun h => (gd_ne h).1) (c3_tookPerson X l a0 q_3.2) (by decide) (by decide) (by decide) rfl (by decide) dX3_readGoverns_25 rfl (fun q_5 => ?_)
    refine g_if_ne B 33 dX3_readGoverns_28 (by decide) ?_ ?_
    · refine g_iconst (v := 0) B dX3_readGoverns_31 (by decide) ?_
      exact g_ireturn B hr rfl (by decide) (by decide) rfl dX3_readGoverns_32
    · refine g_aload_n B dX3_readGoverns_33 1 rfl ?_
      refine g_getI (ci := 3) (T0 := TX3) (N := 9) B (by decide) rfl in_3 (k := 7) (by decide) rfl wd_254 (fun x h => u_same (B.2.2.2.2.1 _ wd_255) x h) dX3_readGoverns_34 (fun v_6 => ?_)
      refine g_iload_n B dX3_readGoverns_37 0 rfl ?_
      refine g_icmp_ne B 53 dX3_readGoverns_38 (by decide) ?_ ?_
      · refine g_aload_n B dX3_readGoverns_41 1 rfl ?_
        refine g_dup B dX3_readGoverns_42 rfl ?_
        refine g_getI (ci := 3) (T0 := TX3) (N := 9) B (by decide) rfl in_3 (k := 6) (by decide) rfl wd_249 (fun x h => u_same (B.2.2.2.2.1 _ wd_250) x h) dX3_readGoverns_43 (fun v_10 => ?_)
        refine g_iconst (v := 1) B dX3_readGoverns_46 (by decide) ?_
        refine g_isub B dX3_readGoverns_47 ?_
        refine g_putI (ci := 3) (T0 := TX3) (N := 9) B (by decide) rfl in_3 tyX3 tyX3_ok nmX3 (k := 6) (by decide) wd_249 (fun x h => u_same (B.2.2.2.2.1 _ wd_250) x h) rfl rfl (ty := .int) (by decide +kernel) rfl rfl dX3_readGoverns_48 (fun M_11 => ?_)
        refine g_iconst (v := 0) B dX3_readGoverns_51 (by decide) ?_
        exact g_ireturn B hr rfl (by decide) (by decide) rfl dX3_readGoverns_52
      · refine g_aload_n B dX3_readGoverns_53 1 rfl ?_
        refine g_getR (ci := 3) (T0 := TX3) (N := 9) B (by decide) rfl in_3 (k := 8) (by decide) rfl wd_239 (fun _ h => h) dX3_readGoverns_54 (fun v_7 => ?_)
        refine g_iload_n B dX3_readGoverns_57 0 rfl ?_
        refine g_aload_n B dX3_readGoverns_58 1 rfl ?_
        refine g_getI (ci := 3) (T0 := TX3) (N := 9) B (by decide) rfl in_3 (k := 7) (by decide) rfl wd_254 (fun x h => u_same (B.2.2.2.2.1 _ wd_255) x h) dX3_readGoverns_59 (fun v_8 => ?_)
        refine g_iconst (v := 1) B dX3_readGoverns_62 (by decide) ?_
        refine g_callV_vw [.int v_4, .int v_8, .int 1] (ci := 2) (T0 := TX2) (N := 11) B hS9 mf2_setGoverns wd_905 (gw B wd_906) wd_904 (by decide) rfl (fun h => (gd_ne h).1) (c2_setGoverns X l v_7 v_4 v_8 1 q_5.2) (by decide) (by decide) (by decide) rfl (by decide) dX3_readGoverns_63 rfl (fun q_9 => ?_)
        refine g_iconst (v := 1) B dX3_readGoverns_66 (by decide) ?_
        exact g_ireturn B hr rfl (by decide) (by decide) rfl dX3_readGoverns_67
theorem c3_readGoverns (X : gX) (l : Launch) (a0 : Nat) (M : mMem) : Con X l yX3_readGoverns cX3_readGoverns 2 (some .boolean) rm3_readGoverns (fun r9 : (Int32 × mMem) => (some (.int r9.1), r9.2)) [.ref a0] M (p3_readGoverns a0 M) := g_con (own := RX3) (by decide +kernel) rfl (Nat.le_of_ble_eq_true rfl) (fun p e s m args below meth c B hS9 hr hn => g3_readGoverns B hS9 hr a0 M)
theorem mf3_readWed : gMF yX3_readWed cX3_readWed 2 (some .boolean) 0 := ⟨wd_911, wd_7, ⟨by decide, by decide⟩, by decide +kernel⟩
set_option maxRecDepth 20000 in
set_option maxHeartbeats 2000000 in
theorem g3_readWed {X : gX} {p : Program} {l : Launch} {e : Env} {s : State} {m : MethodId} {args : Array Value} {below : List Frame} {meth : Method} {c : Code} (B : gB X p (rm3_readWed) s m args meth c RX3 cX3_readWed 2 (rm3_readWed)) (hS9 : gS X s) (hr : meth.sig.returnType = some .boolean) (a0 : Nat) (M : mMem) : GG X p l e (rm3_readWed) s m args below meth c (gP X below args s 0 0 (fun r9 : (Int32 × mMem) => (some (.int r9.1), r9.2))) 2 0 0 0 [(0, .ref a0)] [] M (p3_readWed a0 M) := by
  unfold p3_readWed
  refine g_gd ?_
  refine g_aload_n B dX3_readWed_0 0 rfl ?_
  refine g_dup B dX3_readWed_1 rfl ?_
  refine g_getI (ci := 3) (T0 := TX3) (N := 9) B (by decide) rfl in_3 (k := 6) (by decide) rfl wd_249 (fun x h => u_same (B.2.2.2.2.1 _ wd_250) x h) dX3_readWed_2 (fun v_1 => ?_)
  refine g_iconst (v := 1) B dX3_readWed_5 (by decide) ?_
  refine g_iadd B dX3_readWed_6 ?_
  refine g_putI (ci := 3) (T0 := TX3) (N := 9) B (by decide) rfl in_3 tyX3 tyX3_ok nmX3 (k := 6) (by decide) wd_249 (fun x h => u_same (B.2.2.2.2.1 _ wd_250) x h) rfl rfl (ty := .int) (by decide +kernel) rfl rfl dX3_readWed_7 (fun M_2 => ?_)
  refine g_aload_n B dX3_readWed_10 0 rfl ?_
  refine g_callV_iw [] (ci := 3) (T0 := TX3) (N := 9) B hS9 mf3_tookPerson wd_889 (gw B wp_12) wd_887 (by decide) rfl (fun h => (gd_ne h).1) (c3_tookPerson X l a0 M_2) (by decide) (by decide) (by decide) rfl (by decide) dX3_readWed_11 rfl (fun q_3 => ?_)
  refine g_if_ne B 19 dX3_readWed_14 (by decide) ?_ ?_
  · refine g_iconst (v := 0) B dX3_readWed_17 (by decide) ?_
    exact g_ireturn B hr rfl (by decide) (by decide) rfl dX3_readWed_18
  · refine g_aload_n B dX3_readWed_19 0 rfl ?_
    refine g_getI (ci := 3) (T0 := TX3) (N := 9) B (by decide) rfl in_3 (k := 7) (by decide) rfl wd_254 (fun x h => u_same (B.2.2.2.2.1 _ wd_255) x h) dX3_readWed_20 (fun v_4 => ?_)
    refine g_istore_n (lv' := [(1, .int v_4), (0, .ref a0)]) B dX3_readWed_23 (by decide) [0, 1] rfl ?_
    refine g_aload_n B dX3_readWed_24 1 rfl ?_
    refine g_callV_iw [] (ci := 3) (T0 := TX3) (N := 9) B hS9 mf3_tookPerson wd_889 (gw B wp_12) wd_887 (by decide) rfl (fun h => (gd_ne h).1) (c3_tookPerson X l a0 q_3.2) (by decide) (by decide) (by decide) rfl (by decide) dX3_readWed_25 rfl (fun q_5 => ?_)
    refine g_if_ne B 33 dX3_readWed_28 (by decide) ?_ ?_
    · refine g_iconst (v := 0) B dX3_readWed_31 (by decide) ?_
      exact g_ireturn B hr rfl (by decide) (by decide) rfl dX3_readWed_32
    · refine g_aload_n B dX3_readWed_33 1 rfl ?_
      refine g_getR (ci := 3) (T0 := TX3) (N := 9) B (by decide) rfl in_3 (k := 8) (by decide) rfl wd_239 (fun _ h => h) dX3_readWed_34 (fun v_6 => ?_)
      refine g_iload_n B dX3_readWed_37 0 rfl ?_
      refine g_aload_n B dX3_readWed_38 1 rfl ?_
      refine g_getI (ci := 3) (T0 := TX3) (N := 9) B (by decide) rfl in_3 (k := 7) (by decide) rfl wd_254 (fun x h => u_same (B.2.2.2.2.1 _ wd_255) x h) dX3_readWed_39 (fun v_7 => ?_)
      refine g_callV_ip [.int v_4, .int v_7] (ci := 2) (T0 := TX2) (N := 11) B hS9 mf2_mayWed wd_588 (gw B wd_589) wd_912 (by decide) rfl (fun h => (gd_ne h).1) (c2_mayWed X l v_6 v_4 v_7 q_5.2) (by decide) (by decide) (by decide) rfl (by decide) dX3_readWed_42 rfl (fun v_8 => ?_)
      refine g_if_ne B 60 dX3_readWed_45 (by decide) ?_ ?_
      · refine g_aload_n B dX3_readWed_48 1 rfl ?_
        refine g_dup B dX3_readWed_49 rfl ?_
        refine g_getI (ci := 3) (T0 := TX3) (N := 9) B (by decide) rfl in_3 (k := 6) (by decide) rfl wd_249 (fun x h => u_same (B.2.2.2.2.1 _ wd_250) x h) dX3_readWed_50 (fun v_12 => ?_)
        refine g_iconst (v := 1) B dX3_readWed_53 (by decide) ?_
        refine g_isub B dX3_readWed_54 ?_
        refine g_putI (ci := 3) (T0 := TX3) (N := 9) B (by decide) rfl in_3 tyX3 tyX3_ok nmX3 (k := 6) (by decide) wd_249 (fun x h => u_same (B.2.2.2.2.1 _ wd_250) x h) rfl rfl (ty := .int) (by decide +kernel) rfl rfl dX3_readWed_55 (fun M_13 => ?_)
        refine g_iconst (v := 0) B dX3_readWed_58 (by decide) ?_
        exact g_ireturn B hr rfl (by decide) (by decide) rfl dX3_readWed_59
      · refine g_aload_n B dX3_readWed_60 1 rfl ?_
        refine g_getR (ci := 3) (T0 := TX3) (N := 9) B (by decide) rfl in_3 (k := 8) (by decide) rfl wd_239 (fun _ h => h) dX3_readWed_61 (fun v_9 => ?_)
        refine g_iload_n B dX3_readWed_64 0 rfl ?_
        refine g_aload_n B dX3_readWed_65 1 rfl ?_
        refine g_getI (ci := 3) (T0 := TX3) (N := 9) B (by decide) rfl in_3 (k := 7) (by decide) rfl wd_254 (fun x h => u_same (B.2.2.2.2.1 _ wd_255) x h) dX3_readWed_66 (fun v_10 => ?_)
        refine g_callV_vw [.int v_4, .int v_10] (ci := 2) (T0 := TX2) (N := 11) B hS9 mf2_join wd_914 (gw B wd_915) wd_913 (by decide) rfl (fun h => (gd_ne h).1) (c2_join X l v_9 v_4 v_10 q_5.2) (by decide) (by decide) (by decide) rfl (by decide) dX3_readWed_69 rfl (fun q_11 => ?_)
        refine g_iconst (v := 1) B dX3_readWed_72 (by decide) ?_
        exact g_ireturn B hr rfl (by decide) (by decide) rfl dX3_readWed_73
theorem c3_readWed (X : gX) (l : Launch) (a0 : Nat) (M : mMem) : Con X l yX3_readWed cX3_readWed 2 (some .boolean) rm3_readWed (fun r9 : (Int32 × mMem) => (some (.int r9.1), r9.2)) [.ref a0] M (p3_readWed a0 M) := g_con (own := RX3) (by decide +kernel) rfl (Nat.le_of_ble_eq_true rfl) (fun p e s m args below meth c B hS9 hr hn => g3_readWed B hS9 hr a0 M)
theorem mf3_readRound : gMF yX3_readRound cX3_readRound 3 (some .boolean) 0 := ⟨wd_920, wd_7, ⟨by decide, by decide⟩, by decide +kernel⟩
set_option maxRecDepth 20000 in
set_option maxHeartbeats 2000000 in
theorem g3_readRound_L14 {X : gX} {p : Program} {l : Launch} {e : Env} {s : State} {m : MethodId} {args : Array Value} {below : List Frame} {meth : Method} {c : Code} (B : gB X p (rm3_readRound) s m args meth c RX3 cX3_readRound 3 (rm3_readRound)) (hS9 : gS X s) (hr : meth.sig.returnType = some .boolean) (k49 : Nat → Int32 → mMem → Option (Int32 × mMem)) (hk49 : ∀ (a0 : Nat) (x1 : Int32) (M : mMem), GG X p l e (rm3_readRound) s m args below meth c (gP X below args s 0 0 (fun r9 : (Int32 × mMem) => (some (.int r9.1), r9.2))) 3 0 0 49 [(0, .ref a0), (1, .int x1)] [] M (k49 a0 x1 M)) : ∀ (n : Nat) (a0 : Nat) (x1 : Int32) (x2 : Int32) (M : mMem), GG X p l e (rm3_readRound) s m args below meth c (gP X below args s 0 0 (fun r9 : (Int32 × mMem) => (some (.int r9.1), r9.2))) 3 0 0 14 [(0, .ref a0), (1, .int x1), (2, .int x2)] [] M (p3_readRound_L14 k49 n a0 x1 x2 M) := by
  intro n
  induction n with
  | zero => intro a0 x1 x2 M; exact g_none
  | succ n ih =>
    intro a0 x1 x2 M
    rw [p3_readRound_L14]
    refine g_iload_n B dX3_readRound_14 2 rfl ?_
    refine g_aload_n B dX3_readRound_15 0 rfl ?_
    refine g_getR (ci := 3) (T0 := TX3) (N := 9) B (by decide) rfl in_3 (k := 8) (by decide) rfl wd_239 (fun _ h => h) dX3_readRound_16 (fun v_1 => ?_)
    refine g_getI (ci := 2) (T0 := TX2) (N := 11) B (by decide) rfl in_2 (k := 4) (by decide) rfl wd_141 (fun _ h => h) dX3_readRound_19 (fun v_2 => ?_)
    refine g_icmp_ge B 49 dX3_readRound_22 (by decide) ?_ ?_
    · refine g_iload_n B dX3_readRound_25 1 rfl ?_
      refine g_aload_n B dX3_readRound_26 0 rfl ?_
      refine g_getR (ci := 3) (T0 := TX3) (N := 9) B (by decide) rfl in_3 (k := 8) (by decide) rfl wd_239 (fun _ h => h) dX3_readRound_27 (fun v_3 => ?_)
      refine g_iload_n B dX3_readRound_30 2 rfl ?_
      refine g_callV_ap [.int x2] (ci := 2) (T0 := TX2) (N := 11) B hS9 mf2_at wd_466 (gw B wd_467) wd_895 (by decide) rfl (fun h => (gd_ne h).1) (c2_at X l v_3 x2 M) (by decide) (by decide) (by decide) rfl (Nat.le_of_ble_eq_true rfl) dX3_readRound_31 rfl (fun v_4 => ?_)
      refine g_getI (ci := 8) (T0 := TX8) (N := 9) B (by decide) rfl in_8 (k := 0) (by decide) rfl wd_57 (fun _ h => h) dX3_readRound_34 (fun v_5 => ?_)
      refine g_iconst (v := 1) B dX3_readRound_37 (by decide) ?_
      refine g_iadd B dX3_readRound_38 ?_
      refine g_max B wd_921 wd_516 wd_15 wd_517 (by decide) (Nat.le_of_ble_eq_true rfl) (by decide) dX3_readRound_39 ?_
      refine g_istore_n (lv' := [(1, .int (maxI x1 (v_5 + 1))), (0, .ref a0), (2, .int x2)]) B dX3_readRound_42 (by decide) [0, 1, 2] rfl ?_
      refine g_iinc (v := (x2 + 1)) (lv' := [(2, .int (x2 + 1)), (1, .int (maxI x1 (v_5 + 1))), (0, .ref a0)]) B dX3_readRound_43 2 rfl rfl (by decide) [0, 1, 2] rfl ?_
      refine g_goto B 14 dX3_readRound_46 (by decide) ?_
      refine g_sub (lv' := [(0, .ref a0), (1, .int (maxI x1 (v_5 + 1))), (2, .int (x2 + 1))]) [2, 1, 0] rfl ?_
      exact ih a0 (maxI x1 (v_5 + 1)) (x2 + 1) M
    · refine g_sub (lv' := [(0, .ref a0), (1, .int x1)]) [0, 1] rfl ?_
      exact hk49 a0 x1 M
set_option maxRecDepth 20000 in
set_option maxHeartbeats 2000000 in
theorem g3_readRound_J49 {X : gX} {p : Program} {l : Launch} {e : Env} {s : State} {m : MethodId} {args : Array Value} {below : List Frame} {meth : Method} {c : Code} (B : gB X p (rm3_readRound) s m args meth c RX3 cX3_readRound 3 (rm3_readRound)) (hS9 : gS X s) (hr : meth.sig.returnType = some .boolean) (a0 : Nat) (x1 : Int32) (M : mMem) : GG X p l e (rm3_readRound) s m args below meth c (gP X below args s 0 0 (fun r9 : (Int32 × mMem) => (some (.int r9.1), r9.2))) 3 0 0 49 [(0, .ref a0), (1, .int x1)] [] M (p3_readRound_J49 a0 x1 M) := by
  unfold p3_readRound_J49
  refine g_aload_n B dX3_readRound_49 0 rfl ?_
  refine g_iload_n B dX3_readRound_50 1 rfl ?_
  refine g_bipush (v := 99) B dX3_readRound_51 (by decide) ?_
  refine g_callU_iw (x := ⟨"CribLine$FamilyReader", "tookNumber", "(II)Z"⟩) (owner := "CribLine$Reader") [.int x1, .int 99] (ci := 3) (T0 := TX3) (N := 9) B hS9 mf3_tookNumber wd_879 (gw B wd_878) wd_875 wd_876 (va_Decl.of (gw B wd_879) (gw B wd_880)) (by decide +kernel) (by decide) rfl (fun h => (gd_ne h).1) (c3_tookNumber X l a0 x1 99 M) (by decide) (by decide) (by decide) rfl (by decide) dX3_readRound_53 rfl (fun q_1 => ?_)
  refine g_if_ne B 61 dX3_readRound_56 (by decide) ?_ ?_
  · refine g_iconst (v := 0) B dX3_readRound_59 (by decide) ?_
    exact g_ireturn B hr rfl (by decide) (by decide) rfl dX3_readRound_60
  · refine g_aload_n B dX3_readRound_61 0 rfl ?_
    refine g_getR (ci := 3) (T0 := TX3) (N := 9) B (by decide) rfl in_3 (k := 8) (by decide) rfl wd_239 (fun _ h => h) dX3_readRound_62 (fun v_2 => ?_)
    refine g_aload_n B dX3_readRound_65 0 rfl ?_
    refine g_getI (ci := 3) (T0 := TX3) (N := 9) B (by decide) rfl in_3 (k := 7) (by decide) rfl wd_254 (fun x h => u_same (B.2.2.2.2.1 _ wd_255) x h) dX3_readRound_66 (fun v_3 => ?_)
    refine g_putI (ci := 2) (T0 := TX2) (N := 11) B (by decide) rfl in_2 tyX2 tyX2_ok nmX2 (k := 5) (by decide) wd_147 (fun _ h => h) rfl rfl (ty := .int) (by decide +kernel) rfl rfl dX3_readRound_69 (fun M_4 => ?_)
    refine g_iconst (v := 1) B dX3_readRound_72 (by decide) ?_
    exact g_ireturn B hr rfl (by decide) (by decide) rfl dX3_readRound_73
set_option maxRecDepth 20000 in
set_option maxHeartbeats 2000000 in
theorem g3_readRound {X : gX} {p : Program} {l : Launch} {e : Env} {s : State} {m : MethodId} {args : Array Value} {below : List Frame} {meth : Method} {c : Code} (B : gB X p (rm3_readRound) s m args meth c RX3 cX3_readRound 3 (rm3_readRound)) (hS9 : gS X s) (hr : meth.sig.returnType = some .boolean) (a0 : Nat) (M : mMem) : GG X p l e (rm3_readRound) s m args below meth c (gP X below args s 0 0 (fun r9 : (Int32 × mMem) => (some (.int r9.1), r9.2))) 3 0 0 0 [(0, .ref a0)] [] M (p3_readRound a0 M) := by
  unfold p3_readRound
  refine g_gd ?_
  refine g_aload_n B dX3_readRound_0 0 rfl ?_
  refine g_dup B dX3_readRound_1 rfl ?_
  refine g_getI (ci := 3) (T0 := TX3) (N := 9) B (by decide) rfl in_3 (k := 6) (by decide) rfl wd_249 (fun x h => u_same (B.2.2.2.2.1 _ wd_250) x h) dX3_readRound_2 (fun v_1 => ?_)
  refine g_iconst (v := 1) B dX3_readRound_5 (by decide) ?_
  refine g_iadd B dX3_readRound_6 ?_
  refine g_putI (ci := 3) (T0 := TX3) (N := 9) B (by decide) rfl in_3 tyX3 tyX3_ok nmX3 (k := 6) (by decide) wd_249 (fun x h => u_same (B.2.2.2.2.1 _ wd_250) x h) rfl rfl (ty := .int) (by decide +kernel) rfl rfl dX3_readRound_7 (fun M_2 => ?_)
  refine g_iconst (v := 2) B dX3_readRound_10 (by decide) ?_
  refine g_istore_n (lv' := [(1, .int 2), (0, .ref a0)]) B dX3_readRound_11 (by decide) [0, 1] rfl ?_
  refine g_iconst (v := 0) B dX3_readRound_12 (by decide) ?_
  refine g_istore_n (lv' := [(2, .int 0), (1, .int 2), (0, .ref a0)]) B dX3_readRound_13 (by decide) [0, 1, 2] rfl ?_
  refine g_sub (lv' := [(0, .ref a0), (1, .int 2), (2, .int 0)]) [2, 1, 0] rfl ?_
  exact (g3_readRound_L14 B hS9 hr p3_readRound_J49 (fun e0 e1 e2 => g3_readRound_J49 B hS9 hr e0 e1 e2)) gF a0 2 0 M_2
theorem c3_readRound (X : gX) (l : Launch) (a0 : Nat) (M : mMem) : Con X l yX3_readRound cX3_readRound 3 (some .boolean) rm3_readRound (fun r9 : (Int32 × mMem) => (some (.int r9.1), r9.2)) [.ref a0] M (p3_readRound a0 M) := g_con (own := RX3) (by decide +kernel) rfl (Nat.le_of_ble_eq_true rfl) (fun p e s m args below meth c B hS9 hr hn => g3_readRound B hS9 hr a0 M)
theorem mf3_readLine : gMF yX3_readLine cX3_readLine 1 (some .boolean) 0 := ⟨wd_860, wd_7, ⟨by decide, by decide⟩, by decide +kernel⟩
set_option maxRecDepth 20000 in
set_option maxHeartbeats 2000000 in
theorem g3_readLine {X : gX} {p : Program} {l : Launch} {e : Env} {s : State} {m : MethodId} {args : Array Value} {below : List Frame} {meth : Method} {c : Code} (B : gB X p (rm3_readLine) s m args meth c RX3 cX3_readLine 1 (rm3_readLine)) (hS9 : gS X s) (hr : meth.sig.returnType = some .boolean) (a0 : Nat) (M : mMem) : GG X p l e (rm3_readLine) s m args below meth c (gP X below args s 0 0 (fun r9 : (Int32 × mMem) => (some (.int r9.1), r9.2))) 1 0 0 0 [(0, .ref a0)] [] M (p3_readLine a0 M) := by
  unfold p3_readLine
  refine g_gd ?_
  refine g_aload_n B dX3_readLine_0 0 rfl ?_
  refine g_callU_ip (x := ⟨"CribLine$FamilyReader", "next", "()I"⟩) (owner := "CribLine$Reader") [] (ci := 3) (T0 := TX3) (N := 9) B hS9 mf3_next wd_850 (gw B wd_864) wd_861 wd_862 (va_Decl.of (gw B wd_850) (gw B wd_854)) (by decide +kernel) (by decide) rfl (fun h => (gd_ne h).1) (c3_next X l a0 M) (by decide) (by decide) (by decide) rfl (by decide) dX3_readLine_1 rfl (fun v_1 => ?_)
  refine g_tableswitch B [3, 4, 5, 6, 7, 8, 9, 10, 11, 12, 13, 14, 15, 16] [76, 202, 202, 202, 202, 202, 202, 202, 81, 86, 91, 96, 131, 166] 202 dX3_readLine_4 (by decide) (by decide) ?_ ?_
  · refine g_iconst (v := 0) B dX3_readLine_202 (by decide) ?_
    exact g_ireturn B hr rfl (by decide) (by decide) rfl dX3_readLine_203
  · refine ⟨rfl, ?_, ?_, ?_, ?_, ?_, ?_, ?_, ?_, ?_, ?_, ?_, ?_, ?_, ?_, trivial⟩
    · refine g_aload_n B dX3_readLine_76 0 rfl ?_
      refine g_callV_iw [] (ci := 3) (T0 := TX3) (N := 9) B hS9 mf3_readPerson wd_867 (gw B wp_11) wd_865 (by decide) rfl (fun h => (gd_ne h).1) (c3_readPerson X l a0 M) (by decide) (by decide) (by decide) rfl (by decide) dX3_readLine_77 rfl (fun q_2 => ?_)
      exact g_zreturn (f := fun z => (z, q_2.2)) B hr (by decide) (by decide) rfl dX3_readLine_80
    · refine g_iconst (v := 0) B dX3_readLine_202 (by decide) ?_
      exact g_ireturn B hr rfl (by decide) (by decide) rfl dX3_readLine_203
    · refine g_iconst (v := 0) B dX3_readLine_202 (by decide) ?_
      exact g_ireturn B hr rfl (by decide) (by decide) rfl dX3_readLine_203
    · refine g_iconst (v := 0) B dX3_readLine_202 (by decide) ?_
      exact g_ireturn B hr rfl (by decide) (by decide) rfl dX3_readLine_203
    · refine g_iconst (v := 0) B dX3_readLine_202 (by decide) ?_
      exact g_ireturn B hr rfl (by decide) (by decide) rfl dX3_readLine_203
    · refine g_iconst (v := 0) B dX3_readLine_202 (by decide) ?_
      exact g_ireturn B hr rfl (by decide) (by decide) rfl dX3_readLine_203
    · refine g_iconst (v := 0) B dX3_readLine_202 (by decide) ?_
      exact g_ireturn B hr rfl (by decide) (by decide) rfl dX3_readLine_203
    · refine g_iconst (v := 0) B dX3_readLine_202 (by decide) ?_
      exact g_ireturn B hr rfl (by decide) (by decide) rfl dX3_readLine_203
    · refine g_aload_n B dX3_readLine_81 0 rfl ?_
      refine g_callV_iw [] (ci := 3) (T0 := TX3) (N := 9) B hS9 mf3_readGoverns wd_902 (gw B wp_14) wd_900 (by decide) rfl (fun h => (gd_ne h).1) (c3_readGoverns X l a0 M) (by decide) (by decide) (by decide) rfl (by decide) dX3_readLine_82 rfl (fun q_3 => ?_)
      exact g_zreturn (f := fun z => (z, q_3.2)) B hr (by decide) (by decide) rfl dX3_readLine_85
    · refine g_aload_n B dX3_readLine_86 0 rfl ?_
      refine g_callV_iw [] (ci := 3) (T0 := TX3) (N := 9) B hS9 mf3_readWed wd_910 (gw B wp_15) wd_908 (by decide) rfl (fun h => (gd_ne h).1) (c3_readWed X l a0 M) (by decide) (by decide) (by decide) rfl (by decide) dX3_readLine_87 rfl (fun q_4 => ?_)
      exact g_zreturn (f := fun z => (z, q_4.2)) B hr (by decide) (by decide) rfl dX3_readLine_90
    · refine g_aload_n B dX3_readLine_91 0 rfl ?_
      refine g_callV_iw [] (ci := 3) (T0 := TX3) (N := 9) B hS9 mf3_readRound wd_919 (gw B wp_16) wd_917 (by decide) rfl (fun h => (gd_ne h).1) (c3_readRound X l a0 M) (by decide) (by decide) (by decide) rfl (by decide) dX3_readLine_92 rfl (fun q_5 => ?_)
      exact g_zreturn (f := fun z => (z, q_5.2)) B hr (by decide) (by decide) rfl dX3_readLine_95
    · refine g_aload_n B dX3_readLine_96 0 rfl ?_
      refine g_dup B dX3_readLine_97 rfl ?_
      refine g_getI (ci := 3) (T0 := TX3) (N := 9) B (by decide) rfl in_3 (k := 6) (by decide) rfl wd_249 (fun x h => u_same (B.2.2.2.2.1 _ wd_250) x h) dX3_readLine_98 (fun v_6 => ?_)
      refine g_iconst (v := 1) B dX3_readLine_101 (by decide) ?_
      refine g_iadd B dX3_readLine_102 ?_
      refine g_putI (ci := 3) (T0 := TX3) (N := 9) B (by decide) rfl in_3 tyX3 tyX3_ok nmX3 (k := 6) (by decide) wd_249 (fun x h => u_same (B.2.2.2.2.1 _ wd_250) x h) rfl rfl (ty := .int) (by decide +kernel) rfl rfl dX3_readLine_103 (fun M_7 => ?_)
      refine g_aload_n B dX3_readLine_106 0 rfl ?_
      refine g_iconst (v := 0) B dX3_readLine_107 (by decide) ?_
      refine g_bipush (v := 99) B dX3_readLine_108 (by decide) ?_
      refine g_callU_iw (x := ⟨"CribLine$FamilyReader", "tookNumber", "(II)Z"⟩) (owner := "CribLine$Reader") [.int 0, .int 99] (ci := 3) (T0 := TX3) (N := 9) B hS9 mf3_tookNumber wd_879 (gw B wd_878) wd_875 wd_876 (va_Decl.of (gw B wd_879) (gw B wd_880)) (by decide +kernel) (by decide) rfl (fun h => (gd_ne h).1) (c3_tookNumber X l a0 0 99 M_7) (by decide) (by decide) (by decide) rfl (by decide) dX3_readLine_110 rfl (fun q_8 => ?_)
      refine g_if_ne B 118 dX3_readLine_113 (by decide) ?_ ?_
      · refine g_iconst (v := 0) B dX3_readLine_116 (by decide) ?_
        exact g_ireturn B hr rfl (by decide) (by decide) rfl dX3_readLine_117
      · refine g_aload_n B dX3_readLine_118 0 rfl ?_
        refine g_getR (ci := 3) (T0 := TX3) (N := 9) B (by decide) rfl in_3 (k := 8) (by decide) rfl wd_239 (fun _ h => h) dX3_readLine_119 (fun v_9 => ?_)
        refine g_aload_n B dX3_readLine_122 0 rfl ?_
        refine g_getI (ci := 3) (T0 := TX3) (N := 9) B (by decide) rfl in_3 (k := 7) (by decide) rfl wd_254 (fun x h => u_same (B.2.2.2.2.1 _ wd_255) x h) dX3_readLine_123 (fun v_10 => ?_)
        refine g_putI (ci := 2) (T0 := TX2) (N := 11) B (by decide) rfl in_2 tyX2 tyX2_ok nmX2 (k := 6) (by decide) wd_151 (fun _ h => h) rfl rfl (ty := .int) (by decide +kernel) rfl rfl dX3_readLine_126 (fun M_11 => ?_)
        refine g_iconst (v := 1) B dX3_readLine_129 (by decide) ?_
        exact g_ireturn B hr rfl (by decide) (by decide) rfl dX3_readLine_130
    · refine g_aload_n B dX3_readLine_131 0 rfl ?_
      refine g_dup B dX3_readLine_132 rfl ?_
      refine g_getI (ci := 3) (T0 := TX3) (N := 9) B (by decide) rfl in_3 (k := 6) (by decide) rfl wd_249 (fun x h => u_same (B.2.2.2.2.1 _ wd_250) x h) dX3_readLine_133 (fun v_12 => ?_)
      refine g_iconst (v := 1) B dX3_readLine_136 (by decide) ?_
      refine g_iadd B dX3_readLine_137 ?_
      refine g_putI (ci := 3) (T0 := TX3) (N := 9) B (by decide) rfl in_3 tyX3 tyX3_ok nmX3 (k := 6) (by decide) wd_249 (fun x h => u_same (B.2.2.2.2.1 _ wd_250) x h) rfl rfl (ty := .int) (by decide +kernel) rfl rfl dX3_readLine_138 (fun M_13 => ?_)
      refine g_aload_n B dX3_readLine_141 0 rfl ?_
      refine g_iconst (v := 0) B dX3_readLine_142 (by decide) ?_
      refine g_bipush (v := 20) B dX3_readLine_143 (by decide) ?_
      refine g_callU_iw (x := ⟨"CribLine$FamilyReader", "tookNumber", "(II)Z"⟩) (owner := "CribLine$Reader") [.int 0, .int 20] (ci := 3) (T0 := TX3) (N := 9) B hS9 mf3_tookNumber wd_879 (gw B wd_878) wd_875 wd_876 (va_Decl.of (gw B wd_879) (gw B wd_880)) (by decide +kernel) (by decide) rfl (fun h => (gd_ne h).1) (c3_tookNumber X l a0 0 20 M_13) (by decide) (by decide) (by decide) rfl (by decide) dX3_readLine_145 rfl (fun q_14 => ?_)
      refine g_if_ne B 153 dX3_readLine_148 (by decide) ?_ ?_
      · refine g_iconst (v := 0) B dX3_readLine_151 (by decide) ?_
        exact g_ireturn B hr rfl (by decide) (by decide) rfl dX3_readLine_152
      · refine g_aload_n B dX3_readLine_153 0 rfl ?_
        refine g_getR (ci := 3) (T0 := TX3) (N := 9) B (by decide) rfl in_3 (k := 8) (by decide) rfl wd_239 (fun _ h => h) dX3_readLine_154 (fun v_15 => ?_)
        refine g_aload_n B dX3_readLine_157 0 rfl ?_
        refine g_getI (ci := 3) (T0 := TX3) (N := 9) B (by decide) rfl in_3 (k := 7) (by decide) rfl wd_254 (fun x h => u_same (B.2.2.2.2.1 _ wd_255) x h) dX3_readLine_158 (fun v_16 => ?_)
        refine g_putI (ci := 2) (T0 := TX2) (N := 11) B (by decide) rfl in_2 tyX2 tyX2_ok nmX2 (k := 7) (by decide) wd_155 (fun _ h => h) rfl rfl (ty := .int) (by decide +kernel) rfl rfl dX3_readLine_161 (fun M_17 => ?_)
        refine g_iconst (v := 1) B dX3_readLine_164 (by decide) ?_
        exact g_ireturn B hr rfl (by decide) (by decide) rfl dX3_readLine_165
    · refine g_aload_n B dX3_readLine_166 0 rfl ?_
      refine g_dup B dX3_readLine_167 rfl ?_
      refine g_getI (ci := 3) (T0 := TX3) (N := 9) B (by decide) rfl in_3 (k := 6) (by decide) rfl wd_249 (fun x h => u_same (B.2.2.2.2.1 _ wd_250) x h) dX3_readLine_168 (fun v_18 => ?_)
      refine g_iconst (v := 1) B dX3_readLine_171 (by decide) ?_
      refine g_iadd B dX3_readLine_172 ?_
      refine g_putI (ci := 3) (T0 := TX3) (N := 9) B (by decide) rfl in_3 tyX3 tyX3_ok nmX3 (k := 6) (by decide) wd_249 (fun x h => u_same (B.2.2.2.2.1 _ wd_250) x h) rfl rfl (ty := .int) (by decide +kernel) rfl rfl dX3_readLine_173 (fun M_19 => ?_)
      refine g_aload_n B dX3_readLine_176 0 rfl ?_
      refine g_iconst (v := 0) B dX3_readLine_177 (by decide) ?_
      refine g_sipush (v := 999) B dX3_readLine_178 (by decide) ?_
      refine g_callU_iw (x := ⟨"CribLine$FamilyReader", "tookNumber", "(II)Z"⟩) (owner := "CribLine$Reader") [.int 0, .int 999] (ci := 3) (T0 := TX3) (N := 9) B hS9 mf3_tookNumber wd_879 (gw B wd_878) wd_875 wd_876 (va_Decl.of (gw B wd_879) (gw B wd_880)) (by decide +kernel) (by decide) rfl (fun h => (gd_ne h).1) (c3_tookNumber X l a0 0 999 M_19) (by decide) (by decide) (by decide) rfl (by decide) dX3_readLine_181 rfl (fun q_20 => ?_)
      refine g_if_ne B 189 dX3_readLine_184 (by decide) ?_ ?_
      · refine g_iconst (v := 0) B dX3_readLine_187 (by decide) ?_
        exact g_ireturn B hr rfl (by decide) (by decide) rfl dX3_readLine_188
      · refine g_aload_n B dX3_readLine_189 0 rfl ?_
        refine g_getR (ci := 3) (T0 := TX3) (N := 9) B (by decide) rfl in_3 (k := 8) (by decide) rfl wd_239 (fun _ h => h) dX3_readLine_190 (fun v_21 => ?_)
        refine g_aload_n B dX3_readLine_193 0 rfl ?_
        refine g_getI (ci := 3) (T0 := TX3) (N := 9) B (by decide) rfl in_3 (k := 7) (by decide) rfl wd_254 (fun x h => u_same (B.2.2.2.2.1 _ wd_255) x h) dX3_readLine_194 (fun v_22 => ?_)
        refine g_putI (ci := 2) (T0 := TX2) (N := 11) B (by decide) rfl in_2 tyX2 tyX2_ok nmX2 (k := 8) (by decide) wd_160 (fun _ h => h) rfl rfl (ty := .int) (by decide +kernel) rfl rfl dX3_readLine_197 (fun M_23 => ?_)
        refine g_iconst (v := 1) B dX3_readLine_200 (by decide) ?_
        exact g_ireturn B hr rfl (by decide) (by decide) rfl dX3_readLine_201
theorem c3_readLine (X : gX) (l : Launch) (a0 : Nat) (M : mMem) : Con X l yX3_readLine cX3_readLine 1 (some .boolean) rm3_readLine (fun r9 : (Int32 × mMem) => (some (.int r9.1), r9.2)) [.ref a0] M (p3_readLine a0 M) := g_con (own := RX3) (by decide +kernel) rfl (Nat.le_of_ble_eq_true rfl) (fun p e s m args below meth c B hS9 hr hn => g3_readLine B hS9 hr a0 M)
theorem mf4_init : gMF yX4_init cX4_init 1 (none) 0 := ⟨wd_195, wd_5, ⟨by decide, by decide⟩, by decide +kernel⟩
set_option maxRecDepth 20000 in
set_option maxHeartbeats 2000000 in
theorem g4_init {X : gX} {p : Program} {l : Launch} {e : Env} {s : State} {m : MethodId} {args : Array Value} {below : List Frame} {meth : Method} {c : Code} (B : gB X p (rm4_init) s m args meth c RX4 cX4_init 1 (rm4_init)) (hS9 : gS X s) (hr : meth.sig.returnType = none) (hin2 : meth.name = "<init>") (a0 : Nat) (M : mMem) : GG X p l e (rm4_init) s m args below meth c (gP X below args s 8 1278 (fun M9 : mMem => (none, M9))) 1 0 0 0 [(0, .ref a0)] [] M (p4_init a0 M) := by
  unfold p4_init
  refine g_gd ?_
  refine g_aload_n B dX4_init_0 0 rfl ?_
  refine g_objinit B wd_196 wd_36 wd_37 (by decide) (by decide) dX4_init_1 ?_
  refine g_aload_n B dX4_init_4 0 rfl ?_
  refine g_bipush (v := 12) B dX4_init_5 (by decide) ?_
  refine g_newarrayI (N := 12) B wd_116 (by decide +kernel) (by decide +kernel) (by decide +kernel) (by decide) dX4_init_7 (fun n_1 => ?_)
  refine g_putRF (ci := 4) (T0 := TX4) (N := 10) B (by decide) rfl in_4 tyX4 tyX4_ok nmX4 (k := 0) (by decide) wd_197 (fun _ h => h) rfl rfl hin2 rfl (ty := (.array .int)) (by decide +kernel) rfl rfl dX4_init_9 (fun M_2 => ?_)
  refine g_aload_n B dX4_init_12 0 rfl ?_
  refine g_bipush (v := 12) B dX4_init_13 (by decide) ?_
  refine g_newarrayI (N := 12) B wd_116 (by decide +kernel) (by decide +kernel) (by decide +kernel) (by decide) dX4_init_15 (fun n_3 => ?_)
  refine g_putRF (ci := 4) (T0 := TX4) (N := 10) B (by decide) rfl in_4 tyX4 tyX4_ok nmX4 (k := 1) (by decide) wd_198 (fun _ h => h) rfl rfl hin2 rfl (ty := (.array .int)) (by decide +kernel) rfl rfl dX4_init_17 (fun M_4 => ?_)
  refine g_aload_n B dX4_init_20 0 rfl ?_
  refine g_bipush (v := 12) B dX4_init_21 (by decide) ?_
  refine g_newarrayI (N := 12) B wd_116 (by decide +kernel) (by decide +kernel) (by decide +kernel) (by decide) dX4_init_23 (fun n_5 => ?_)
  refine g_putRF (ci := 4) (T0 := TX4) (N := 10) B (by decide) rfl in_4 tyX4 tyX4_ok nmX4 (k := 2) (by decide) wd_199 (fun _ h => h) rfl rfl hin2 rfl (ty := (.array .int)) (by decide +kernel) rfl rfl dX4_init_25 (fun M_6 => ?_)
  refine g_aload_n B dX4_init_28 0 rfl ?_
  refine g_bipush (v := 12) B dX4_init_29 (by decide) ?_
  refine g_newarrayI (N := 12) B wd_116 (by decide +kernel) (by decide +kernel) (by decide +kernel) (by decide) dX4_init_31 (fun n_7 => ?_)
  refine g_putRF (ci := 4) (T0 := TX4) (N := 10) B (by decide) rfl in_4 tyX4 tyX4_ok nmX4 (k := 3) (by decide) wd_200 (fun _ h => h) rfl rfl hin2 rfl (ty := (.array .int)) (by decide +kernel) rfl rfl dX4_init_33 (fun M_8 => ?_)
  refine g_aload_n B dX4_init_36 0 rfl ?_
  refine g_sipush (v := 400) B dX4_init_37 (by decide) ?_
  refine g_newarrayI (N := 400) B wd_116 (by decide +kernel) (by decide +kernel) (by decide +kernel) (by decide) dX4_init_40 (fun n_9 => ?_)
  refine g_putRF (ci := 4) (T0 := TX4) (N := 10) B (by decide) rfl in_4 tyX4 tyX4_ok nmX4 (k := 4) (by decide) wd_201 (fun _ h => h) rfl rfl hin2 rfl (ty := (.array .int)) (by decide +kernel) rfl rfl dX4_init_42 (fun M_10 => ?_)
  refine g_aload_n B dX4_init_45 0 rfl ?_
  refine g_sipush (v := 400) B dX4_init_46 (by decide) ?_
  refine g_newarrayI (N := 400) B wd_116 (by decide +kernel) (by decide +kernel) (by decide +kernel) (by decide) dX4_init_49 (fun n_11 => ?_)
  refine g_putRF (ci := 4) (T0 := TX4) (N := 10) B (by decide) rfl in_4 tyX4 tyX4_ok nmX4 (k := 5) (by decide) wd_202 (fun _ h => h) rfl rfl hin2 rfl (ty := (.array .int)) (by decide +kernel) rfl rfl dX4_init_51 (fun M_12 => ?_)
  refine g_aload_n B dX4_init_54 0 rfl ?_
  refine g_bipush (v := 30) B dX4_init_55 (by decide) ?_
  refine g_newarrayI (N := 30) B wd_116 (by decide +kernel) (by decide +kernel) (by decide +kernel) (by decide) dX4_init_57 (fun n_13 => ?_)
  refine g_putRF (ci := 4) (T0 := TX4) (N := 10) B (by decide) rfl in_4 tyX4 tyX4_ok nmX4 (k := 6) (by decide) wd_203 (fun _ h => h) rfl rfl hin2 rfl (ty := (.array .int)) (by decide +kernel) rfl rfl dX4_init_59 (fun M_14 => ?_)
  refine g_aload_n B dX4_init_62 0 rfl ?_
  refine g_sipush (v := 400) B dX4_init_63 (by decide) ?_
  refine g_newarrayI (N := 400) B wd_116 (by decide +kernel) (by decide +kernel) (by decide +kernel) (by decide) dX4_init_66 (fun n_15 => ?_)
  refine g_putRF (ci := 4) (T0 := TX4) (N := 10) B (by decide) rfl in_4 tyX4 tyX4_ok nmX4 (k := 7) (by decide) wd_204 (fun _ h => h) rfl rfl hin2 rfl (ty := (.array .int)) (by decide +kernel) rfl rfl dX4_init_68 (fun M_16 => ?_)
  refine g_aload_n B dX4_init_71 0 rfl ?_
  refine g_iconst (v := 0) B dX4_init_72 (by decide) ?_
  refine g_putI (ci := 4) (T0 := TX4) (N := 10) B (by decide) rfl in_4 tyX4 tyX4_ok nmX4 (k := 8) (by decide) wd_205 (fun _ h => h) rfl rfl (ty := .int) (by decide +kernel) rfl rfl dX4_init_73 (fun M_17 => ?_)
  refine g_aload_n B dX4_init_76 0 rfl ?_
  refine g_iconst (v := (-1)) B dX4_init_77 (by decide) ?_
  refine g_putI (ci := 4) (T0 := TX4) (N := 10) B (by decide) rfl in_4 tyX4 tyX4_ok nmX4 (k := 9) (by decide) wd_207 (fun _ h => h) rfl rfl (ty := .int) (by decide +kernel) rfl rfl dX4_init_78 (fun M_18 => ?_)
  exact g_vreturn B hr (by decide) (by decide) rfl dX4_init_81
theorem c4_init (X : gX) (l : Launch) (a0 : Nat) (M : mMem) : Con X l yX4_init cX4_init 1 (none) rm4_init (fun M9 : mMem => (none, M9)) [.ref a0] M (p4_init a0 M) := g_con (own := RX4) (by decide +kernel) rfl (Nat.le_of_ble_eq_true rfl) (fun p e s m args below meth c B hS9 hr hn => g4_init B hS9 hr hn a0 M)
theorem mf4_begin : gMF yX4_begin cX4_begin 1 (none) 0 := ⟨wd_1070, wd_5, ⟨by decide, by decide⟩, by decide +kernel⟩
set_option maxRecDepth 20000 in
set_option maxHeartbeats 2000000 in
theorem g4_begin {X : gX} {p : Program} {l : Launch} {e : Env} {s : State} {m : MethodId} {args : Array Value} {below : List Frame} {meth : Method} {c : Code} (B : gB X p (rm4_begin) s m args meth c RX4 cX4_begin 1 (rm4_begin)) (hS9 : gS X s) (hr : meth.sig.returnType = none) (a0 : Nat) (M : mMem) : GG X p l e (rm4_begin) s m args below meth c (gP X below args s 0 0 (fun M9 : mMem => (none, M9))) 1 0 0 0 [(0, .ref a0)] [] M (p4_begin a0 M) := by
  unfold p4_begin
  refine g_gd ?_
  refine g_aload_n B dX4_begin_0 0 rfl ?_
  refine g_iconst (v := 0) B dX4_begin_1 (by decide) ?_
  refine g_putI (ci := 4) (T0 := TX4) (N := 10) B (by decide) rfl in_4 tyX4 tyX4_ok nmX4 (k := 8) (by decide) wd_205 (fun _ h => h) rfl rfl (ty := .int) (by decide +kernel) rfl rfl dX4_begin_2 (fun M_1 => ?_)
  refine g_aload_n B dX4_begin_5 0 rfl ?_
  refine g_iconst (v := 0) B dX4_begin_6 (by decide) ?_
  refine g_putI (ci := 4) (T0 := TX4) (N := 10) B (by decide) rfl in_4 tyX4 tyX4_ok nmX4 (k := 9) (by decide) wd_207 (fun _ h => h) rfl rfl (ty := .int) (by decide +kernel) rfl rfl dX4_begin_7 (fun M_2 => ?_)
  exact g_vreturn B hr (by decide) (by decide) rfl dX4_begin_10
theorem c4_begin (X : gX) (l : Launch) (a0 : Nat) (M : mMem) : Con X l yX4_begin cX4_begin 1 (none) rm4_begin (fun M9 : mMem => (none, M9)) [.ref a0] M (p4_begin a0 M) := g_con (own := RX4) (by decide +kernel) rfl (Nat.le_of_ble_eq_true rfl) (fun p e s m args below meth c B hS9 hr hn => g4_begin B hS9 hr a0 M)
theorem mf4_take : gMF yX4_take cX4_take 2 (none) 1 := ⟨wd_701, wd_5, ⟨by decide, by decide⟩, by decide +kernel⟩
set_option maxRecDepth 20000 in
set_option maxHeartbeats 2000000 in
theorem g4_take {X : gX} {p : Program} {l : Launch} {e : Env} {s : State} {m : MethodId} {args : Array Value} {below : List Frame} {meth : Method} {c : Code} (B : gB X p (rm4_take) s m args meth c RX4 cX4_take 2 (rm4_take)) (hS9 : gS X s) (hr : meth.sig.returnType = none) (a0 : Nat) (a1 : Nat) (M : mMem) : GG X p l e (rm4_take) s m args below meth c (gP X below args s 0 0 (fun M9 : mMem => (none, M9))) 2 0 0 0 [(0, .ref a0), (1, .ref a1)] [] M (p4_take a0 a1 M) := by
  unfold p4_take
  refine g_gd ?_
  refine g_aload_n B dX4_take_0 1 rfl ?_
  refine g_getR (ci := 4) (T0 := TX4) (N := 10) B (by decide) rfl in_4 (k := 0) (by decide) rfl wd_197 (fun _ h => h) dX4_take_1 (fun v_1 => ?_)
  refine g_iconst (v := 0) B dX4_take_4 (by decide) ?_
  refine g_aload_n B dX4_take_5 0 rfl ?_
  refine g_getR (ci := 4) (T0 := TX4) (N := 10) B (by decide) rfl in_4 (k := 0) (by decide) rfl wd_197 (fun _ h => h) dX4_take_6 (fun v_2 => ?_)
  refine g_iconst (v := 0) B dX4_take_9 (by decide) ?_
  refine g_aload_n B dX4_take_10 0 rfl ?_
  refine g_getR (ci := 4) (T0 := TX4) (N := 10) B (by decide) rfl in_4 (k := 0) (by decide) rfl wd_197 (fun _ h => h) dX4_take_11 (fun v_3 => ?_)
  refine g_alen B dX4_take_14 (fun v_4 => ?_)
  refine g_copyI B wd_702 wd_475 wd_474 wd_14 (by decide) (Nat.le_of_ble_eq_true rfl) dX4_take_15 (fun M_5 => ?_)
  refine g_aload_n B dX4_take_18 1 rfl ?_
  refine g_getR (ci := 4) (T0 := TX4) (N := 10) B (by decide) rfl in_4 (k := 1) (by decide) rfl wd_198 (fun _ h => h) dX4_take_19 (fun v_6 => ?_)
  refine g_iconst (v := 0) B dX4_take_22 (by decide) ?_
  refine g_aload_n B dX4_take_23 0 rfl ?_
  refine g_getR (ci := 4) (T0 := TX4) (N := 10) B (by decide) rfl in_4 (k := 1) (by decide) rfl wd_198 (fun _ h => h) dX4_take_24 (fun v_7 => ?_)
  refine g_iconst (v := 0) B dX4_take_27 (by decide) ?_
  refine g_aload_n B dX4_take_28 0 rfl ?_
  refine g_getR (ci := 4) (T0 := TX4) (N := 10) B (by decide) rfl in_4 (k := 1) (by decide) rfl wd_198 (fun _ h => h) dX4_take_29 (fun v_8 => ?_)
  refine g_alen B dX4_take_32 (fun v_9 => ?_)
  refine g_copyI B wd_702 wd_475 wd_474 wd_14 (by decide) (Nat.le_of_ble_eq_true rfl) dX4_take_33 (fun M_10 => ?_)
  refine g_aload_n B dX4_take_36 1 rfl ?_
  refine g_getR (ci := 4) (T0 := TX4) (N := 10) B (by decide) rfl in_4 (k := 2) (by decide) rfl wd_199 (fun _ h => h) dX4_take_37 (fun v_11 => ?_)
  refine g_iconst (v := 0) B dX4_take_40 (by decide) ?_
  refine g_aload_n B dX4_take_41 0 rfl ?_
  refine g_getR (ci := 4) (T0 := TX4) (N := 10) B (by decide) rfl in_4 (k := 2) (by decide) rfl wd_199 (fun _ h => h) dX4_take_42 (fun v_12 => ?_)
  refine g_iconst (v := 0) B dX4_take_45 (by decide) ?_
  refine g_aload_n B dX4_take_46 0 rfl ?_
  refine g_getR (ci := 4) (T0 := TX4) (N := 10) B (by decide) rfl in_4 (k := 2) (by decide) rfl wd_199 (fun _ h => h) dX4_take_47 (fun v_13 => ?_)
  refine g_alen B dX4_take_50 (fun v_14 => ?_)
  refine g_copyI B wd_702 wd_475 wd_474 wd_14 (by decide) (Nat.le_of_ble_eq_true rfl) dX4_take_51 (fun M_15 => ?_)
  refine g_aload_n B dX4_take_54 1 rfl ?_
  refine g_getR (ci := 4) (T0 := TX4) (N := 10) B (by decide) rfl in_4 (k := 3) (by decide) rfl wd_200 (fun _ h => h) dX4_take_55 (fun v_16 => ?_)
  refine g_iconst (v := 0) B dX4_take_58 (by decide) ?_
  refine g_aload_n B dX4_take_59 0 rfl ?_
  refine g_getR (ci := 4) (T0 := TX4) (N := 10) B (by decide) rfl in_4 (k := 3) (by decide) rfl wd_200 (fun _ h => h) dX4_take_60 (fun v_17 => ?_)
  refine g_iconst (v := 0) B dX4_take_63 (by decide) ?_
  refine g_aload_n B dX4_take_64 0 rfl ?_
  refine g_getR (ci := 4) (T0 := TX4) (N := 10) B (by decide) rfl in_4 (k := 3) (by decide) rfl wd_200 (fun _ h => h) dX4_take_65 (fun v_18 => ?_)
  refine g_alen B dX4_take_68 (fun v_19 => ?_)
  refine g_copyI B wd_702 wd_475 wd_474 wd_14 (by decide) (Nat.le_of_ble_eq_true rfl) dX4_take_69 (fun M_20 => ?_)
  refine g_aload_n B dX4_take_72 1 rfl ?_
  refine g_getR (ci := 4) (T0 := TX4) (N := 10) B (by decide) rfl in_4 (k := 4) (by decide) rfl wd_201 (fun _ h => h) dX4_take_73 (fun v_21 => ?_)
  refine g_iconst (v := 0) B dX4_take_76 (by decide) ?_
  refine g_aload_n B dX4_take_77 0 rfl ?_
  refine g_getR (ci := 4) (T0 := TX4) (N := 10) B (by decide) rfl in_4 (k := 4) (by decide) rfl wd_201 (fun _ h => h) dX4_take_78 (fun v_22 => ?_)
  refine g_iconst (v := 0) B dX4_take_81 (by decide) ?_
  refine g_aload_n B dX4_take_82 0 rfl ?_
  refine g_getR (ci := 4) (T0 := TX4) (N := 10) B (by decide) rfl in_4 (k := 4) (by decide) rfl wd_201 (fun _ h => h) dX4_take_83 (fun v_23 => ?_)
  refine g_alen B dX4_take_86 (fun v_24 => ?_)
  refine g_copyI B wd_702 wd_475 wd_474 wd_14 (by decide) (Nat.le_of_ble_eq_true rfl) dX4_take_87 (fun M_25 => ?_)
  refine g_aload_n B dX4_take_90 1 rfl ?_
  refine g_getR (ci := 4) (T0 := TX4) (N := 10) B (by decide) rfl in_4 (k := 5) (by decide) rfl wd_202 (fun _ h => h) dX4_take_91 (fun v_26 => ?_)
  refine g_iconst (v := 0) B dX4_take_94 (by decide) ?_
  refine g_aload_n B dX4_take_95 0 rfl ?_
  refine g_getR (ci := 4) (T0 := TX4) (N := 10) B (by decide) rfl in_4 (k := 5) (by decide) rfl wd_202 (fun _ h => h) dX4_take_96 (fun v_27 => ?_)
  refine g_iconst (v := 0) B dX4_take_99 (by decide) ?_
  refine g_aload_n B dX4_take_100 0 rfl ?_
  refine g_getR (ci := 4) (T0 := TX4) (N := 10) B (by decide) rfl in_4 (k := 5) (by decide) rfl wd_202 (fun _ h => h) dX4_take_101 (fun v_28 => ?_)
  refine g_alen B dX4_take_104 (fun v_29 => ?_)
  refine g_copyI B wd_702 wd_475 wd_474 wd_14 (by decide) (Nat.le_of_ble_eq_true rfl) dX4_take_105 (fun M_30 => ?_)
  refine g_aload_n B dX4_take_108 0 rfl ?_
  refine g_aload_n B dX4_take_109 1 rfl ?_
  refine g_getI (ci := 4) (T0 := TX4) (N := 10) B (by decide) rfl in_4 (k := 8) (by decide) rfl wd_205 (fun _ h => h) dX4_take_110 (fun v_31 => ?_)
  refine g_putI (ci := 4) (T0 := TX4) (N := 10) B (by decide) rfl in_4 tyX4 tyX4_ok nmX4 (k := 8) (by decide) wd_205 (fun _ h => h) rfl rfl (ty := .int) (by decide +kernel) rfl rfl dX4_take_113 (fun M_32 => ?_)
  refine g_aload_n B dX4_take_116 0 rfl ?_
  refine g_aload_n B dX4_take_117 1 rfl ?_
  refine g_getI (ci := 4) (T0 := TX4) (N := 10) B (by decide) rfl in_4 (k := 9) (by decide) rfl wd_207 (fun _ h => h) dX4_take_118 (fun v_33 => ?_)
  refine g_putI (ci := 4) (T0 := TX4) (N := 10) B (by decide) rfl in_4 tyX4 tyX4_ok nmX4 (k := 9) (by decide) wd_207 (fun _ h => h) rfl rfl (ty := .int) (by decide +kernel) rfl rfl dX4_take_121 (fun M_34 => ?_)
  exact g_vreturn B hr (by decide) (by decide) rfl dX4_take_124
theorem c4_take (X : gX) (l : Launch) (a0 : Nat) (a1 : Nat) (M : mMem) : Con X l yX4_take cX4_take 2 (none) rm4_take (fun M9 : mMem => (none, M9)) [.ref a0, .ref a1] M (p4_take a0 a1 M) := g_con (own := RX4) (by decide +kernel) rfl (Nat.le_of_ble_eq_true rfl) (fun p e s m args below meth c B hS9 hr hn => g4_take B hS9 hr a0 a1 M)
theorem mf4_put : gMF yX4_put cX4_put 3 (none) 2 := ⟨wd_949, wd_5, ⟨by decide, by decide⟩, by decide +kernel⟩
set_option maxRecDepth 20000 in
set_option maxHeartbeats 2000000 in
theorem g4_put_J49 {X : gX} {p : Program} {l : Launch} {e : Env} {s : State} {m : MethodId} {args : Array Value} {below : List Frame} {meth : Method} {c : Code} (B : gB X p (rm4_put) s m args meth c RX4 cX4_put 3 (rm4_put)) (hS9 : gS X s) (hr : meth.sig.returnType = none) (M : mMem) : GG X p l e (rm4_put) s m args below meth c (gP X below args s 0 0 (fun M9 : mMem => (none, M9))) 3 0 0 49 [] [] M (p4_put_J49 M) := by
  unfold p4_put_J49
  exact g_vreturn B hr (by decide) (by decide) rfl dX4_put_49
set_option maxRecDepth 20000 in
set_option maxHeartbeats 2000000 in
theorem g4_put {X : gX} {p : Program} {l : Launch} {e : Env} {s : State} {m : MethodId} {args : Array Value} {below : List Frame} {meth : Method} {c : Code} (B : gB X p (rm4_put) s m args meth c RX4 cX4_put 3 (rm4_put)) (hS9 : gS X s) (hr : meth.sig.returnType = none) (a0 : Nat) (x1 : Int32) (x2 : Int32) (M : mMem) : GG X p l e (rm4_put) s m args below meth c (gP X below args s 0 0 (fun M9 : mMem => (none, M9))) 3 0 0 0 [(0, .ref a0), (1, .int x1), (2, .int x2)] [] M (p4_put a0 x1 x2 M) := by
  unfold p4_put
  refine g_gd ?_
  refine g_aload_n B dX4_put_0 0 rfl ?_
  refine g_getI (ci := 4) (T0 := TX4) (N := 10) B (by decide) rfl in_4 (k := 8) (by decide) rfl wd_205 (fun _ h => h) dX4_put_1 (fun v_1 => ?_)
  refine g_if_lt B 49 dX4_put_4 (by decide) ?_ ?_
  · refine g_sub (lv' := []) [] rfl ?_
    exact g4_put_J49 B hS9 hr M
  · refine g_aload_n B dX4_put_7 0 rfl ?_
    refine g_getI (ci := 4) (T0 := TX4) (N := 10) B (by decide) rfl in_4 (k := 8) (by decide) rfl wd_205 (fun _ h => h) dX4_put_8 (fun v_2 => ?_)
    refine g_aload_n B dX4_put_11 0 rfl ?_
    refine g_getR (ci := 4) (T0 := TX4) (N := 10) B (by decide) rfl in_4 (k := 4) (by decide) rfl wd_201 (fun _ h => h) dX4_put_12 (fun v_3 => ?_)
    refine g_alen B dX4_put_15 (fun v_4 => ?_)
    refine g_icmp_ge B 49 dX4_put_16 (by decide) ?_ ?_
    · refine g_aload_n B dX4_put_19 0 rfl ?_
      refine g_getR (ci := 4) (T0 := TX4) (N := 10) B (by decide) rfl in_4 (k := 4) (by decide) rfl wd_201 (fun _ h => h) dX4_put_20 (fun v_5 => ?_)
      refine g_aload_n B dX4_put_23 0 rfl ?_
      refine g_getI (ci := 4) (T0 := TX4) (N := 10) B (by decide) rfl in_4 (k := 8) (by decide) rfl wd_205 (fun _ h => h) dX4_put_24 (fun v_6 => ?_)
      refine g_iload_n B dX4_put_27 1 rfl ?_
      refine g_iastore B dX4_put_28 (fun M_7 => ?_)
      refine g_aload_n B dX4_put_29 0 rfl ?_
      refine g_getR (ci := 4) (T0 := TX4) (N := 10) B (by decide) rfl in_4 (k := 5) (by decide) rfl wd_202 (fun _ h => h) dX4_put_30 (fun v_8 => ?_)
      refine g_aload_n B dX4_put_33 0 rfl ?_
      refine g_getI (ci := 4) (T0 := TX4) (N := 10) B (by decide) rfl in_4 (k := 8) (by decide) rfl wd_205 (fun _ h => h) dX4_put_34 (fun v_9 => ?_)
      refine g_iload_n B dX4_put_37 2 rfl ?_
      refine g_iastore B dX4_put_38 (fun M_10 => ?_)
      refine g_aload_n B dX4_put_39 0 rfl ?_
      refine g_dup B dX4_put_40 rfl ?_
      refine g_getI (ci := 4) (T0 := TX4) (N := 10) B (by decide) rfl in_4 (k := 8) (by decide) rfl wd_205 (fun _ h => h) dX4_put_41 (fun v_11 => ?_)
      refine g_iconst (v := 1) B dX4_put_44 (by decide) ?_
      refine g_iadd B dX4_put_45 ?_
      refine g_putI (ci := 4) (T0 := TX4) (N := 10) B (by decide) rfl in_4 tyX4 tyX4_ok nmX4 (k := 8) (by decide) wd_205 (fun _ h => h) rfl rfl (ty := .int) (by decide +kernel) rfl rfl dX4_put_46 (fun M_12 => ?_)
      refine g_sub (lv' := []) [] rfl ?_
      exact g4_put_J49 B hS9 hr M_12
    · refine g_sub (lv' := []) [] rfl ?_
      exact g4_put_J49 B hS9 hr M
theorem c4_put (X : gX) (l : Launch) (a0 : Nat) (x1 : Int32) (x2 : Int32) (M : mMem) : Con X l yX4_put cX4_put 3 (none) rm4_put (fun M9 : mMem => (none, M9)) [.ref a0, .int x1, .int x2] M (p4_put a0 x1 x2 M) := g_con (own := RX4) (by decide +kernel) rfl (Nat.le_of_ble_eq_true rfl) (fun p e s m args below meth c B hS9 hr hn => g4_put B hS9 hr a0 x1 x2 M)
theorem mf4_addLine : gMF yX4_addLine cX4_addLine 4 (none) 3 := ⟨wd_968, wd_5, ⟨by decide, by decide⟩, by decide +kernel⟩
set_option maxRecDepth 20000 in
set_option maxHeartbeats 2000000 in
theorem g4_addLine_J69 {X : gX} {p : Program} {l : Launch} {e : Env} {s : State} {m : MethodId} {args : Array Value} {below : List Frame} {meth : Method} {c : Code} (B : gB X p (rm4_addLine) s m args meth c RX4 cX4_addLine 4 (rm4_addLine)) (hS9 : gS X s) (hr : meth.sig.returnType = none) (M : mMem) : GG X p l e (rm4_addLine) s m args below meth c (gP X below args s 0 0 (fun M9 : mMem => (none, M9))) 4 0 0 69 [] [] M (p4_addLine_J69 M) := by
  unfold p4_addLine_J69
  exact g_vreturn B hr (by decide) (by decide) rfl dX4_addLine_69
set_option maxRecDepth 20000 in
set_option maxHeartbeats 2000000 in
theorem g4_addLine {X : gX} {p : Program} {l : Launch} {e : Env} {s : State} {m : MethodId} {args : Array Value} {below : List Frame} {meth : Method} {c : Code} (B : gB X p (rm4_addLine) s m args meth c RX4 cX4_addLine 4 (rm4_addLine)) (hS9 : gS X s) (hr : meth.sig.returnType = none) (a0 : Nat) (x1 : Int32) (x2 : Int32) (x3 : Int32) (M : mMem) : GG X p l e (rm4_addLine) s m args below meth c (gP X below args s 0 0 (fun M9 : mMem => (none, M9))) 4 0 0 0 [(0, .ref a0), (1, .int x1), (2, .int x2), (3, .int x3)] [] M (p4_addLine a0 x1 x2 x3 M) := by
  unfold p4_addLine
  refine g_gd ?_
  refine g_aload_n B dX4_addLine_0 0 rfl ?_
  refine g_getI (ci := 4) (T0 := TX4) (N := 10) B (by decide) rfl in_4 (k := 9) (by decide) rfl wd_207 (fun _ h => h) dX4_addLine_1 (fun v_1 => ?_)
  refine g_if_lt B 69 dX4_addLine_4 (by decide) ?_ ?_
  · refine g_sub (lv' := []) [] rfl ?_
    exact g4_addLine_J69 B hS9 hr M
  · refine g_aload_n B dX4_addLine_7 0 rfl ?_
    refine g_getI (ci := 4) (T0 := TX4) (N := 10) B (by decide) rfl in_4 (k := 9) (by decide) rfl wd_207 (fun _ h => h) dX4_addLine_8 (fun v_2 => ?_)
    refine g_bipush (v := 12) B dX4_addLine_11 (by decide) ?_
    refine g_icmp_ge B 69 dX4_addLine_13 (by decide) ?_ ?_
    · refine g_aload_n B dX4_addLine_16 0 rfl ?_
      refine g_getR (ci := 4) (T0 := TX4) (N := 10) B (by decide) rfl in_4 (k := 0) (by decide) rfl wd_197 (fun _ h => h) dX4_addLine_17 (fun v_3 => ?_)
      refine g_aload_n B dX4_addLine_20 0 rfl ?_
      refine g_getI (ci := 4) (T0 := TX4) (N := 10) B (by decide) rfl in_4 (k := 9) (by decide) rfl wd_207 (fun _ h => h) dX4_addLine_21 (fun v_4 => ?_)
      refine g_iload_n B dX4_addLine_24 1 rfl ?_
      refine g_iastore B dX4_addLine_25 (fun M_5 => ?_)
      refine g_aload_n B dX4_addLine_26 0 rfl ?_
      refine g_getR (ci := 4) (T0 := TX4) (N := 10) B (by decide) rfl in_4 (k := 1) (by decide) rfl wd_198 (fun _ h => h) dX4_addLine_27 (fun v_6 => ?_)
      refine g_aload_n B dX4_addLine_30 0 rfl ?_
      refine g_getI (ci := 4) (T0 := TX4) (N := 10) B (by decide) rfl in_4 (k := 9) (by decide) rfl wd_207 (fun _ h => h) dX4_addLine_31 (fun v_7 => ?_)
      refine g_iload_n B dX4_addLine_34 2 rfl ?_
      refine g_iastore B dX4_addLine_35 (fun M_8 => ?_)
      refine g_aload_n B dX4_addLine_36 0 rfl ?_
      refine g_getR (ci := 4) (T0 := TX4) (N := 10) B (by decide) rfl in_4 (k := 2) (by decide) rfl wd_199 (fun _ h => h) dX4_addLine_37 (fun v_9 => ?_)
      refine g_aload_n B dX4_addLine_40 0 rfl ?_
      refine g_getI (ci := 4) (T0 := TX4) (N := 10) B (by decide) rfl in_4 (k := 9) (by decide) rfl wd_207 (fun _ h => h) dX4_addLine_41 (fun v_10 => ?_)
      refine g_iload_n B dX4_addLine_44 3 rfl ?_
      refine g_iastore B dX4_addLine_45 (fun M_11 => ?_)
      refine g_aload_n B dX4_addLine_46 0 rfl ?_
      refine g_getR (ci := 4) (T0 := TX4) (N := 10) B (by decide) rfl in_4 (k := 3) (by decide) rfl wd_200 (fun _ h => h) dX4_addLine_47 (fun v_12 => ?_)
      refine g_aload_n B dX4_addLine_50 0 rfl ?_
      refine g_getI (ci := 4) (T0 := TX4) (N := 10) B (by decide) rfl in_4 (k := 9) (by decide) rfl wd_207 (fun _ h => h) dX4_addLine_51 (fun v_13 => ?_)
      refine g_aload_n B dX4_addLine_54 0 rfl ?_
      refine g_getI (ci := 4) (T0 := TX4) (N := 10) B (by decide) rfl in_4 (k := 8) (by decide) rfl wd_205 (fun _ h => h) dX4_addLine_55 (fun v_14 => ?_)
      refine g_iastore B dX4_addLine_58 (fun M_15 => ?_)
      refine g_aload_n B dX4_addLine_59 0 rfl ?_
      refine g_dup B dX4_addLine_60 rfl ?_
      refine g_getI (ci := 4) (T0 := TX4) (N := 10) B (by decide) rfl in_4 (k := 9) (by decide) rfl wd_207 (fun _ h => h) dX4_addLine_61 (fun v_16 => ?_)
      refine g_iconst (v := 1) B dX4_addLine_64 (by decide) ?_
      refine g_iadd B dX4_addLine_65 ?_
      refine g_putI (ci := 4) (T0 := TX4) (N := 10) B (by decide) rfl in_4 tyX4 tyX4_ok nmX4 (k := 9) (by decide) wd_207 (fun _ h => h) rfl rfl (ty := .int) (by decide +kernel) rfl rfl dX4_addLine_66 (fun M_17 => ?_)
      refine g_sub (lv' := []) [] rfl ?_
      exact g4_addLine_J69 B hS9 hr M_17
    · refine g_sub (lv' := []) [] rfl ?_
      exact g4_addLine_J69 B hS9 hr M
theorem c4_addLine (X : gX) (l : Launch) (a0 : Nat) (x1 : Int32) (x2 : Int32) (x3 : Int32) (M : mMem) : Con X l yX4_addLine cX4_addLine 4 (none) rm4_addLine (fun M9 : mMem => (none, M9)) [.ref a0, .int x1, .int x2, .int x3] M (p4_addLine a0 x1 x2 x3 M) := g_con (own := RX4) (by decide +kernel) rfl (Nat.le_of_ble_eq_true rfl) (fun p e s m args below meth c B hS9 hr hn => g4_addLine B hS9 hr a0 x1 x2 x3 M)
theorem mf5_sinit : gMF yX9_init cX9_init 2 (none) 1 := ⟨wd_237, wd_6, ⟨by decide, by decide⟩, by decide +kernel⟩
set_option maxRecDepth 20000 in
set_option maxHeartbeats 2000000 in
theorem g5_sinit {X : gX} {p : Program} {l : Launch} {e : Env} {s : State} {m : MethodId} {args : Array Value} {below : List Frame} {meth : Method} {c : Code} (B : gB X p (rm5_sinit) s m args meth c RX9 cX9_init 2 (rm5_sinit)) (hS9 : gS X s) (hr : meth.sig.returnType = none) (hin2 : meth.name = "<init>") (a0 : Nat) (x1 : Int32) (M : mMem) : GG X p l e (rm5_sinit) s m args below meth c (gP X below args s 3 1200 (fun M9 : mMem => (none, M9))) 2 0 0 0 [(0, .ref a0), (1, .int x1)] [] M (p5_sinit a0 x1 M) := by
  unfold p5_sinit
  refine g_gd ?_
  refine g_aload_n B dX9_init_0 0 rfl ?_
  refine g_objinit B wd_238 wd_36 wd_37 (by decide) (by decide) dX9_init_1 ?_
  refine g_aload_n B dX9_init_4 0 rfl ?_
  refine g_sipush (v := 400) B dX9_init_5 (by decide) ?_
  refine g_newarrayI (N := 400) B wd_116 (by decide +kernel) (by decide +kernel) (by decide +kernel) (by decide) dX9_init_8 (fun n_1 => ?_)
  refine g_putRF (ci := 5) (T0 := TX5) (N := 9) B (by decide) rfl in_5 tyX5 tyX5_ok nmX5 (k := 0) (by decide) wd_240 (fun _ h => h) rfl rfl hin2 rfl (ty := (.array .int)) (by decide +kernel) rfl rfl dX9_init_10 (fun M_2 => ?_)
  refine g_aload_n B dX9_init_13 0 rfl ?_
  refine g_sipush (v := 400) B dX9_init_14 (by decide) ?_
  refine g_newarrayI (N := 400) B wd_116 (by decide +kernel) (by decide +kernel) (by decide +kernel) (by decide) dX9_init_17 (fun n_3 => ?_)
  refine g_putRF (ci := 5) (T0 := TX5) (N := 9) B (by decide) rfl in_5 tyX5 tyX5_ok nmX5 (k := 1) (by decide) wd_241 (fun _ h => h) rfl rfl hin2 rfl (ty := (.array .int)) (by decide +kernel) rfl rfl dX9_init_19 (fun M_4 => ?_)
  refine g_aload_n B dX9_init_22 0 rfl ?_
  refine g_sipush (v := 400) B dX9_init_23 (by decide) ?_
  refine g_newarrayI (N := 400) B wd_116 (by decide +kernel) (by decide +kernel) (by decide +kernel) (by decide) dX9_init_26 (fun n_5 => ?_)
  refine g_putRF (ci := 5) (T0 := TX5) (N := 9) B (by decide) rfl in_5 tyX5 tyX5_ok nmX5 (k := 2) (by decide) wd_242 (fun _ h => h) rfl rfl hin2 rfl (ty := (.array .int)) (by decide +kernel) rfl rfl dX9_init_28 (fun M_6 => ?_)
  refine g_aload_n B dX9_init_31 0 rfl ?_
  refine g_iconst (v := 0) B dX9_init_32 (by decide) ?_
  refine g_putI (ci := 5) (T0 := TX5) (N := 9) B (by decide) rfl in_5 tyX5 tyX5_ok nmX5 (k := 4) (by decide) wd_244 (fun _ h => h) rfl rfl (ty := .int) (by decide +kernel) rfl rfl dX9_init_33 (fun M_7 => ?_)
  refine g_aload_n B dX9_init_36 0 rfl ?_
  refine g_iconst (v := 0) B dX9_init_37 (by decide) ?_
  refine g_putI (ci := 5) (T0 := TX5) (N := 9) B (by decide) rfl in_5 tyX5 tyX5_ok nmX5 (k := 5) (by decide) wd_245 (fun _ h => h) rfl rfl (ty := .int) (by decide +kernel) rfl rfl dX9_init_38 (fun M_8 => ?_)
  refine g_aload_n B dX9_init_41 0 rfl ?_
  refine g_iconst (v := 0) B dX9_init_42 (by decide) ?_
  refine g_putI (ci := 5) (T0 := TX5) (N := 9) B (by decide) rfl in_5 tyX5 tyX5_ok nmX5 (k := 6) (by decide) wd_246 (fun _ h => h) rfl rfl (ty := .int) (by decide +kernel) rfl rfl dX9_init_43 (fun M_9 => ?_)
  refine g_aload_n B dX9_init_46 0 rfl ?_
  refine g_iconst (v := 0) B dX9_init_47 (by decide) ?_
  refine g_putI (ci := 5) (T0 := TX5) (N := 9) B (by decide) rfl in_5 tyX5 tyX5_ok nmX5 (k := 7) (by decide) wd_251 (fun _ h => h) rfl rfl (ty := .int) (by decide +kernel) rfl rfl dX9_init_48 (fun M_10 => ?_)
  refine g_aload_n B dX9_init_51 0 rfl ?_
  refine g_iload_n B dX9_init_52 1 rfl ?_
  refine g_putIF (ci := 5) (T0 := TX5) (N := 9) B (by decide) rfl in_5 tyX5 tyX5_ok nmX5 (k := 3) (by decide) wd_243 (fun _ h => h) rfl rfl hin2 rfl (ty := .int) (by decide +kernel) rfl rfl dX9_init_53 (fun M_11 => ?_)
  exact g_vreturn B hr (by decide) (by decide) rfl dX9_init_56
theorem c5_sinit (X : gX) (l : Launch) (a0 : Nat) (x1 : Int32) (M : mMem) : Con X l yX9_init cX9_init 2 (none) rm5_sinit (fun M9 : mMem => (none, M9)) [.ref a0, .int x1] M (p5_sinit a0 x1 M) := g_con (own := RX9) (by decide +kernel) rfl (Nat.le_of_ble_eq_true rfl) (fun p e s m args below meth c B hS9 hr hn => g5_sinit B hS9 hr hn a0 x1 M)
theorem mf5_init : gMF yX5_init cX5_init 2 (none) 1 := ⟨wd_279, wd_8, ⟨by decide, by decide⟩, by decide +kernel⟩
set_option maxRecDepth 20000 in
set_option maxHeartbeats 2000000 in
theorem g5_init {X : gX} {p : Program} {l : Launch} {e : Env} {s : State} {m : MethodId} {args : Array Value} {below : List Frame} {meth : Method} {c : Code} (B : gB X p (rm5_init) s m args meth c RX5 cX5_init 2 (rm5_init)) (hS9 : gS X s) (hr : meth.sig.returnType = none) (hin2 : meth.name = "<init>") (a0 : Nat) (a1 : Nat) (M : mMem) : GG X p l e (rm5_init) s m args below meth c (gP X below args s 3 1200 (fun M9 : mMem => (none, M9))) 2 0 0 0 [(0, .ref a0), (1, .ref a1)] [] M (p5_init a0 a1 M) := by
  unfold p5_init
  refine g_gd ?_
  refine g_aload_n B dX5_init_0 0 rfl ?_
  refine g_bipush (v := 12) B dX5_init_1 (by decide) ?_
  refine g_callI_vw [.int 12] B hS9 mf5_sinit rfl wd_236 wd_280 (c5_sinit X l a0 12 M) (by decide) (by decide) (by decide) rfl (by decide) dX5_init_3 rfl (fun q_1 => ?_)
  refine g_aload_n B dX5_init_6 0 rfl ?_
  refine g_aload_n B dX5_init_7 1 rfl ?_
  refine g_putRF (ci := 5) (T0 := TX5) (N := 9) B (by decide) rfl in_5 tyX5 tyX5_ok nmX5 (k := 8) (by decide) wd_281 (fun _ h => h) rfl rfl hin2 rfl (ty := (.object "CribLine$Law")) (by decide +kernel) rfl rfl dX5_init_8 (fun M_2 => ?_)
  exact g_vreturn B hr (by decide) (by decide) rfl dX5_init_11
theorem c5_init (X : gX) (l : Launch) (a0 : Nat) (a1 : Nat) (M : mMem) : Con X l yX5_init cX5_init 2 (none) rm5_init (fun M9 : mMem => (none, M9)) [.ref a0, .ref a1] M (p5_init a0 a1 M) := g_con (own := RX5) (by decide +kernel) rfl (Nat.le_of_ble_eq_true rfl) (fun p e s m args below meth c B hS9 hr hn => g5_init B hS9 hr hn a0 a1 M)
