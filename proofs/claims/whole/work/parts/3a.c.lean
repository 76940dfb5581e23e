set_option maxRecDepth 20000 in
set_option maxHeartbeats 2000000 in
theorem g8_init {X : gX} {p : Program} {l : Launch} {e : Env} {s : State} {m : MethodId} {args : Array Value} {below : List Frame} {meth : Method} {c : Code} (B : gB X p (rm8_init) s m args meth c RX8 cX8_init 1 (rm8_init)) (hS9 : gS X s) (hr : meth.sig.returnType = none) (hin2 : meth.name = "<init>") (a0 : Nat) (M : mMem) : GG X p l e (rm8_init) s m args below meth c (gP X below args s 0 0 (fun M9 : mMem => (none, M9))) 1 0 0 0 [(0, .ref a0)] [] M (p8_init a0 M) := by
  unfold p8_init
  refine g_gd ?_
  refine g_aload_n B dX8_init_0 0 rfl ?_
  refine g_objinit B wd_50 wd_36 wd_37 (by decide) (by decide) dX8_init_1 ?_
  refine g_aload_n B dX8_init_4 0 rfl ?_
  refine g_iconst (v := (-1)) B dX8_init_5 (by decide) ?_
  refine g_putI (ci := 8) (T0 := TX8) (N := 9) B (by decide) rfl in_8 tyX8 tyX8_ok nmX8 (k := 3) (by decide) wd_68 (fun _ h => h) rfl rfl (ty := .int) (by decide +kernel) rfl rfl dX8_init_6 (fun M_1 => ?_)
  refine g_aload_n B dX8_init_9 0 rfl ?_
  refine g_iconst (v := (-1)) B dX8_init_10 (by decide) ?_
  refine g_putI (ci := 8) (T0 := TX8) (N := 9) B (by decide) rfl in_8 tyX8 tyX8_ok nmX8 (k := 4) (by decide) wd_73 (fun _ h => h) rfl rfl (ty := .int) (by decide +kernel) rfl rfl dX8_init_11 (fun M_2 => ?_)
  refine g_aload_n B dX8_init_14 0 rfl ?_
  refine g_bipush (v := 50) B dX8_init_15 (by decide) ?_
  refine g_putI (ci := 8) (T0 := TX8) (N := 9) B (by decide) rfl in_8 tyX8 tyX8_ok nmX8 (k := 6) (by decide) wd_83 (fun _ h => h) rfl rfl (ty := .int) (by decide +kernel) rfl rfl dX8_init_17 (fun M_3 => ?_)
  exact g_vreturn B hr (by decide) (by decide) rfl dX8_init_20
theorem mf8_init : gMF yX8_init cX8_init 1 (none) 0 := ⟨wd_49, wd_3, ⟨by decide, by decide⟩, by decide +kernel⟩
theorem c8_init (X : gX) (l : Launch) (a0 : Nat) (M : mMem) : Con X l yX8_init cX8_init 1 (none) rm8_init (fun M9 : mMem => (none, M9)) [.ref a0] M (p8_init a0 M) := g_con (own := RX8) (by decide +kernel) rfl (Nat.le_of_ble_eq_true rfl) (fun p e s m args below meth c B hS9 hr hn => g8_init B hS9 hr hn a0 M)
set_option maxRecDepth 20000 in
set_option maxHeartbeats 2000000 in
theorem g6_init {X : gX} {p : Program} {l : Launch} {e : Env} {s : State} {m : MethodId} {args : Array Value} {below : List Frame} {meth : Method} {c : Code} (B : gB X p (rm6_init) s m args meth c RX6 cX6_init 1 (rm6_init)) (hS9 : gS X s) (hr : meth.sig.returnType = none) (hin2 : meth.name = "<init>") (a0 : Nat) (M : mMem) : GG X p l e (rm6_init) s m args below meth c (gP X below args s 1 300 (fun M9 : mMem => (none, M9))) 1 0 0 0 [(0, .ref a0)] [] M (p6_init a0 M) := by
  unfold p6_init
  refine g_gd ?_
  refine g_aload_n B dX6_init_0 0 rfl ?_
  refine g_objinit B wd_122 wd_36 wd_37 (by decide) (by decide) dX6_init_1 ?_
  refine g_aload_n B dX6_init_4 0 rfl ?_
  refine g_sipush (v := 300) B dX6_init_5 (by decide) ?_
  refine g_newarrayI (N := 300) B wd_116 (by decide +kernel) (by decide +kernel) (by decide +kernel) (by decide) dX6_init_8 (fun n_1 => ?_)
  refine g_putRF (ci := 6) (T0 := TX6) (N := 3) B (by decide) rfl in_6 tyX6 tyX6_ok nmX6 (k := 0) (by decide) wd_123 (fun _ h => h) rfl rfl hin2 rfl (ty := (.array .int)) (by decide +kernel) rfl rfl dX6_init_10 (fun M_2 => ?_)
  refine g_aload_n B dX6_init_13 0 rfl ?_
  refine g_iconst (v := 0) B dX6_init_14 (by decide) ?_
  refine g_putI (ci := 6) (T0 := TX6) (N := 3) B (by decide) rfl in_6 tyX6 tyX6_ok nmX6 (k := 1) (by decide) wd_124 (fun _ h => h) rfl rfl (ty := .int) (by decide +kernel) rfl rfl dX6_init_15 (fun M_3 => ?_)
  refine g_aload_n B dX6_init_18 0 rfl ?_
  refine g_iconst (v := 0) B dX6_init_19 (by decide) ?_
  refine g_putI (ci := 6) (T0 := TX6) (N := 3) B (by decide) rfl in_6 tyX6 tyX6_ok nmX6 (k := 2) (by decide) wd_125 (fun _ h => h) rfl rfl (ty := .int) (by decide +kernel) rfl rfl dX6_init_20 (fun M_4 => ?_)
  exact g_vreturn B hr (by decide) (by decide) rfl dX6_init_23
theorem mf6_init : gMF yX6_init cX6_init 1 (none) 0 := ⟨wd_121, wd_4, ⟨by decide, by decide⟩, by decide +kernel⟩
theorem c6_init (X : gX) (l : Launch) (a0 : Nat) (M : mMem) : Con X l yX6_init cX6_init 1 (none) rm6_init (fun M9 : mMem => (none, M9)) [.ref a0] M (p6_init a0 M) := g_con (own := RX6) (by decide +kernel) rfl (Nat.le_of_ble_eq_true rfl) (fun p e s m args below meth c B hS9 hr hn => g6_init B hS9 hr hn a0 M)
set_option maxRecDepth 20000 in
set_option maxHeartbeats 2000000 in
theorem g2_init_L81 {X : gX} {p : Program} {l : Launch} {e : Env} {s : State} {m : MethodId} {args : Array Value} {below : List Frame} {meth : Method} {c : Code} (B : gB X p (rm2_init) s m args meth c RX2 cX2_init 2 (rm2_init)) (hS9 : gS X s) (hr : meth.sig.returnType = none) (hin2 : meth.name = "<init>") : ∀ (n j : Nat) (_ : j + n = 9) (a0 : Nat) (x1 : Int32) (M : mMem), GG X p l e (rm2_init) s m args below meth c (gP X below args s 14 465 (fun M9 : mMem => (none, M9))) 2 (5 + 1 * j) (384 + 9 * j) 81 [(0, .ref a0), (1, .int x1)] [] M (p2_init_L81 n a0 x1 M) := by
  intro n
  induction n with
  | zero => intro j hj a0 x1 M; exact g_none
  | succ n ih =>
    intro j hj a0 x1 M
    rw [p2_init_L81]
    refine g_iload_n B dX2_init_81 1 rfl ?_
    refine g_aload_n B dX2_init_82 0 rfl ?_
    refine g_getR (ci := 2) (T0 := TX2) (N := 11) B (by decide) rfl in_2 (k := 0) (by decide) rfl wd_134 (fun _ h => h) dX2_init_83 (fun v_1 => ?_)
    refine g_alen B dX2_init_86 (fun v_2 => ?_)
    refine g_icmp_ge B 109 dX2_init_87 (by decide) ?_ ?_
    · refine g_aload_n B dX2_init_90 0 rfl ?_
      refine g_getR (ci := 2) (T0 := TX2) (N := 11) B (by decide) rfl in_2 (k := 0) (by decide) rfl wd_134 (fun _ h => h) dX2_init_91 (fun v_3 => ?_)
      refine g_iload_n B dX2_init_94 1 rfl ?_
      refine g_new (ci := 8) (T0 := TX8) (N := 9) B (by decide) rfl in_8 tyX8 tyX8_ok df_8 wd_44 wd_46 wd_3 ⟨by show (5 + 1 * j + 1) ≤ 14; omega, by show (384 + 9 * j + 9) ≤ 465; omega⟩ dX2_init_95 (fun n_4 => ?_)
      refine g_dup B dX2_init_98 rfl ?_
      refine g_callI_vw [] B hS9 mf8_init rfl wd_48 wd_47 (c8_init X l n_4.1 n_4.2) (by decide) (by decide) ⟨by show (5 + 1 * j + 1) + 0 ≤ 14; omega, by show (384 + 9 * j + 9) + 0 ≤ 465; omega⟩ rfl (Nat.le_of_ble_eq_true rfl) dX2_init_99 rfl (fun q_5 => ?_)
      refine g_aastore (k := 24) (t0 := 4) (ci := 8) (T0 := TX8) (N := 9) (Or.inr rfl) (by decide) rfl B rfl dX2_init_102 (fun M_6 => ?_)
      refine g_iinc (v := (x1 + 1)) (lv' := [(1, .int (x1 + 1)), (0, .ref a0)]) B dX2_init_103 1 rfl rfl (by decide) [0, 1] rfl ?_
      refine g_goto B 81 dX2_init_106 (by decide) ?_
      refine g_sub (lv' := [(0, .ref a0), (1, .int (x1 + 1))]) [1, 0] rfl ?_
      exact ih (j + 1) (by omega) a0 (x1 + 1) M_6
    · exact g_vreturn B hr (by omega) (by omega) rfl dX2_init_109
set_option maxRecDepth 20000 in
set_option maxHeartbeats 2000000 in
theorem g2_init {X : gX} {p : Program} {l : Launch} {e : Env} {s : State} {m : MethodId} {args : Array Value} {below : List Frame} {meth : Method} {c : Code} (B : gB X p (rm2_init) s m args meth c RX2 cX2_init 2 (rm2_init)) (hS9 : gS X s) (hr : meth.sig.returnType = none) (hin2 : meth.name = "<init>") (a0 : Nat) (M : mMem) : GG X p l e (rm2_init) s m args below meth c (gP X below args s 14 465 (fun M9 : mMem => (none, M9))) 2 0 0 0 [(0, .ref a0)] [] M (p2_init a0 M) := by
  unfold p2_init
  refine g_gd ?_
  refine g_aload_n B dX2_init_0 0 rfl ?_
  refine g_objinit B wd_43 wd_36 wd_37 (by decide) (by decide) dX2_init_1 ?_
  refine g_aload_n B dX2_init_4 0 rfl ?_
  refine g_bipush (v := 8) B dX2_init_5 (by decide) ?_
  refine g_anewarray (N := 8) (k := 24) (t0 := 4) (Or.inr rfl) B wd_44 hS9.2.2.2 rfl (by decide +kernel) (by decide +kernel) (by decide +kernel) (by decide) dX2_init_7 (fun n_1 => ?_)
  refine g_putRF (ci := 2) (T0 := TX2) (N := 11) B (by decide) rfl in_2 tyX2 tyX2_ok nmX2 (k := 0) (by decide) wd_134 (fun _ h => h) rfl rfl hin2 rfl (ty := (.array (.object "CribLine$Person"))) (by decide +kernel) rfl rfl dX2_init_10 (fun M_2 => ?_)
  refine g_aload_n B dX2_init_13 0 rfl ?_
  refine g_new (ci := 8) (T0 := TX8) (N := 9) B (by decide) rfl in_8 tyX8 tyX8_ok df_8 wd_44 wd_46 wd_3 (by decide) dX2_init_14 (fun n_3 => ?_)
  refine g_dup B dX2_init_17 rfl ?_
  refine g_callI_vw [] B hS9 mf8_init rfl wd_48 wd_47 (c8_init X l n_3.1 n_3.2) (by decide) (by decide) (by decide) rfl (Nat.le_of_ble_eq_true rfl) dX2_init_18 rfl (fun q_4 => ?_)
  refine g_putRF (ci := 2) (T0 := TX2) (N := 11) B (by decide) rfl in_2 tyX2 tyX2_ok nmX2 (k := 1) (by decide) wd_135 (fun _ h => h) rfl rfl hin2 rfl (ty := (.object "CribLine$Person")) (by decide +kernel) rfl rfl dX2_init_21 (fun M_5 => ?_)
  refine g_aload_n B dX2_init_24 0 rfl ?_
  refine g_bipush (v := 64) B dX2_init_25 (by decide) ?_
  refine g_newarrayI (N := 64) B wd_116 (by decide +kernel) (by decide +kernel) (by decide +kernel) (by decide) dX2_init_27 (fun n_6 => ?_)
  refine g_putRF (ci := 2) (T0 := TX2) (N := 11) B (by decide) rfl in_2 tyX2 tyX2_ok nmX2 (k := 2) (by decide) wd_136 (fun _ h => h) rfl rfl hin2 rfl (ty := (.array .int)) (by decide +kernel) rfl rfl dX2_init_29 (fun M_7 => ?_)
  refine g_aload_n B dX2_init_32 0 rfl ?_
  refine g_new (ci := 6) (T0 := TX6) (N := 3) B (by decide) rfl in_6 tyX6 tyX6_ok df_6 wd_117 wd_118 wd_4 (by decide) dX2_init_33 (fun n_8 => ?_)
  refine g_dup B dX2_init_36 rfl ?_
  refine g_callI_vw [] B hS9 mf6_init rfl wd_120 wd_119 (c6_init X l n_8.1 n_8.2) (by decide) (by decide) (by decide) rfl (Nat.le_of_ble_eq_true rfl) dX2_init_37 rfl (fun q_9 => ?_)
  refine g_putRF (ci := 2) (T0 := TX2) (N := 11) B (by decide) rfl in_2 tyX2 tyX2_ok nmX2 (k := 3) (by decide) wd_137 (fun _ h => h) rfl rfl hin2 rfl (ty := (.object "CribLine$Log")) (by decide +kernel) rfl rfl dX2_init_40 (fun M_10 => ?_)
  refine g_aload_n B dX2_init_43 0 rfl ?_
  refine g_iconst (v := 0) B dX2_init_44 (by decide) ?_
  refine g_putI (ci := 2) (T0 := TX2) (N := 11) B (by decide) rfl in_2 tyX2 tyX2_ok nmX2 (k := 4) (by decide) wd_139 (fun _ h => h) rfl rfl (ty := .int) (by decide +kernel) rfl rfl dX2_init_45 (fun M_11 => ?_)
  refine g_aload_n B dX2_init_48 0 rfl ?_
  refine g_bipush (v := 90) B dX2_init_49 (by decide) ?_
  refine g_putI (ci := 2) (T0 := TX2) (N := 11) B (by decide) rfl in_2 tyX2 tyX2_ok nmX2 (k := 5) (by decide) wd_146 (fun _ h => h) rfl rfl (ty := .int) (by decide +kernel) rfl rfl dX2_init_51 (fun M_12 => ?_)
  refine g_aload_n B dX2_init_54 0 rfl ?_
  refine g_iconst (v := 5) B dX2_init_55 (by decide) ?_
  refine g_putI (ci := 2) (T0 := TX2) (N := 11) B (by decide) rfl in_2 tyX2 tyX2_ok nmX2 (k := 6) (by decide) wd_150 (fun _ h => h) rfl rfl (ty := .int) (by decide +kernel) rfl rfl dX2_init_56 (fun M_13 => ?_)
  refine g_aload_n B dX2_init_59 0 rfl ?_
  refine g_iconst (v := 1) B dX2_init_60 (by decide) ?_
  refine g_putI (ci := 2) (T0 := TX2) (N := 11) B (by decide) rfl in_2 tyX2 tyX2_ok nmX2 (k := 7) (by decide) wd_154 (fun _ h => h) rfl rfl (ty := .int) (by decide +kernel) rfl rfl dX2_init_61 (fun M_14 => ?_)
  refine g_aload_n B dX2_init_64 0 rfl ?_
  refine g_iconst (v := 0) B dX2_init_65 (by decide) ?_
  refine g_putI (ci := 2) (T0 := TX2) (N := 11) B (by decide) rfl in_2 tyX2 tyX2_ok nmX2 (k := 8) (by decide) wd_159 (fun _ h => h) rfl rfl (ty := .int) (by decide +kernel) rfl rfl dX2_init_66 (fun M_15 => ?_)
  refine g_aload_n B dX2_init_69 0 rfl ?_
  refine g_iconst (v := 1) B dX2_init_70 (by decide) ?_
  refine g_putI (ci := 2) (T0 := TX2) (N := 11) B (by decide) rfl in_2 tyX2 tyX2_ok nmX2 (k := 9) (by decide) wd_163 (fun _ h => h) rfl rfl (ty := .int) (by decide +kernel) rfl rfl dX2_init_71 (fun M_16 => ?_)
  refine g_aload_n B dX2_init_74 0 rfl ?_
  refine g_iconst (v := 0) B dX2_init_75 (by decide) ?_
  refine g_putI (ci := 2) (T0 := TX2) (N := 11) B (by decide) rfl in_2 tyX2 tyX2_ok nmX2 (k := 10) (by decide) wd_166 (fun _ h => h) rfl rfl (ty := .int) (by decide +kernel) rfl rfl dX2_init_76 (fun M_17 => ?_)
  refine g_iconst (v := 0) B dX2_init_79 (by decide) ?_
  refine g_istore_n (lv' := [(1, .int 0), (0, .ref a0)]) B dX2_init_80 (by decide) [0, 1] rfl ?_
  refine g_sub (lv' := [(0, .ref a0), (1, .int 0)]) [1, 0] rfl ?_
  exact (g2_init_L81 B hS9 hr hin2) 9 0 rfl a0 0 M_17
theorem mf2_init : gMF yX2_init cX2_init 2 (none) 0 := ⟨wd_42, wd_2, ⟨by decide, by decide⟩, by decide +kernel⟩
theorem c2_init (X : gX) (l : Launch) (a0 : Nat) (M : mMem) : Con X l yX2_init cX2_init 2 (none) rm2_init (fun M9 : mMem => (none, M9)) [.ref a0] M (p2_init a0 M) := g_con (own := RX2) (by decide +kernel) rfl (Nat.le_of_ble_eq_true rfl) (fun p e s m args below meth c B hS9 hr hn => g2_init B hS9 hr hn a0 M)
set_option maxRecDepth 20000 in
set_option maxHeartbeats 2000000 in
theorem g2_has_J17 {X : gX} {p : Program} {l : Launch} {e : Env} {s : State} {m : MethodId} {args : Array Value} {below : List Frame} {meth : Method} {c : Code} (B : gB X p (rm2_has) s m args meth c RX2 cX2_has 2 (rm2_has)) (hS9 : gS X s) (hr : meth.sig.returnType = some .boolean) {M : mMem} (u0 : Int32) : GG X p l e (rm2_has) s m args below meth c (gP X below args s 0 0 (fun r9 : Int32 => (some (.int r9), M))) 2 0 0 17 [] [.int u0] M (p2_has_J17 M u0) := by
  unfold p2_has_J17
  exact g_zreturn (f := fun z => z) B hr (by decide) (by decide) rfl dX2_has_17
set_option maxRecDepth 20000 in
set_option maxHeartbeats 2000000 in
theorem g2_has_J16 {X : gX} {p : Program} {l : Launch} {e : Env} {s : State} {m : MethodId} {args : Array Value} {below : List Frame} {meth : Method} {c : Code} (B : gB X p (rm2_has) s m args meth c RX2 cX2_has 2 (rm2_has)) (hS9 : gS X s) (hr : meth.sig.returnType = some .boolean) {M : mMem} : GG X p l e (rm2_has) s m args below meth c (gP X below args s 0 0 (fun r9 : Int32 => (some (.int r9), M))) 2 0 0 16 [] [] M (p2_has_J16 M) := by
  unfold p2_has_J16
  refine g_iconst (v := 0) B dX2_has_16 (by decide) ?_
  refine g_sub (lv' := []) [] rfl ?_
  exact g2_has_J17 B hS9 hr 0
set_option maxRecDepth 20000 in
set_option maxHeartbeats 2000000 in
theorem g2_has {X : gX} {p : Program} {l : Launch} {e : Env} {s : State} {m : MethodId} {args : Array Value} {below : List Frame} {meth : Method} {c : Code} (B : gB X p (rm2_has) s m args meth c RX2 cX2_has 2 (rm2_has)) (hS9 : gS X s) (hr : meth.sig.returnType = some .boolean) {M : mMem} (a0 : Nat) (x1 : Int32) : GG X p l e (rm2_has) s m args below meth c (gP X below args s 0 0 (fun r9 : Int32 => (some (.int r9), M))) 2 0 0 0 [(0, .ref a0), (1, .int x1)] [] M (p2_has a0 x1 M) := by
  unfold p2_has
  refine g_gd ?_
  refine g_iload_n B dX2_has_0 1 rfl ?_
  refine g_if_lt B 16 dX2_has_1 (by decide) ?_ ?_
  · refine g_sub (lv' := []) [] rfl ?_
    exact g2_has_J16 B hS9 hr
  · refine g_iload_n B dX2_has_4 1 rfl ?_
    refine g_aload_n B dX2_has_5 0 rfl ?_
    refine g_getI (ci := 2) (T0 := TX2) (N := 11) B (by decide) rfl in_2 (k := 4) (by decide) rfl wd_139 (fun _ h => h) dX2_has_6 (fun v_1 => ?_)
    refine g_icmp_ge B 16 dX2_has_9 (by decide) ?_ ?_
    · refine g_iconst (v := 1) B dX2_has_12 (by decide) ?_
      refine g_goto B 17 dX2_has_13 (by decide) ?_
      refine g_sub (lv' := []) [] rfl ?_
      exact g2_has_J17 B hS9 hr 1
    · refine g_sub (lv' := []) [] rfl ?_
      exact g2_has_J16 B hS9 hr
theorem mf2_has : gMF yX2_has cX2_has 2 (some .boolean) 1 := ⟨wd_505, wd_2, ⟨by decide, by decide⟩, by decide +kernel⟩
theorem c2_has (X : gX) (l : Launch) (a0 : Nat) (x1 : Int32) (M : mMem) : Con X l yX2_has cX2_has 2 (some .boolean) rm2_has (fun r9 : Int32 => (some (.int r9), M)) [.ref a0, .int x1] M (p2_has a0 x1 M) := g_con (own := RX2) (by decide +kernel) rfl (Nat.le_of_ble_eq_true rfl) (fun p e s m args below meth c B hS9 hr hn => g2_has B hS9 hr a0 x1)
set_option maxRecDepth 20000 in
set_option maxHeartbeats 2000000 in
theorem g2_at_J26 {X : gX} {p : Program} {l : Launch} {e : Env} {s : State} {m : MethodId} {args : Array Value} {below : List Frame} {meth : Method} {c : Code} (B : gB X p (rm2_at) s m args meth c RX2 cX2_at 2 (rm2_at)) (hS9 : gS X s) (hr : meth.sig.returnType = some (.object "CribLine$Person")) {M : mMem} (b0 : Nat) : GG X p l e (rm2_at) s m args below meth c (gP X below args s 0 0 (fun r9 : Nat => (some (.ref r9), M))) 2 0 0 26 [] [.ref b0] M (p2_at_J26 M b0) := by
  unfold p2_at_J26
  exact g_areturn B hr (by decide) (by decide) rfl dX2_at_26
set_option maxRecDepth 20000 in
set_option maxHeartbeats 2000000 in
theorem g2_at_J22 {X : gX} {p : Program} {l : Launch} {e : Env} {s : State} {m : MethodId} {args : Array Value} {below : List Frame} {meth : Method} {c : Code} (B : gB X p (rm2_at) s m args meth c RX2 cX2_at 2 (rm2_at)) (hS9 : gS X s) (hr : meth.sig.returnType = some (.object "CribLine$Person")) {M : mMem} (a0 : Nat) : GG X p l e (rm2_at) s m args below meth c (gP X below args s 0 0 (fun r9 : Nat => (some (.ref r9), M))) 2 0 0 22 [(0, .ref a0)] [] M (p2_at_J22 M a0) := by
  unfold p2_at_J22
  refine g_aload_n B dX2_at_22 0 rfl ?_
  refine g_getR (ci := 2) (T0 := TX2) (N := 11) B (by decide) rfl in_2 (k := 1) (by decide) rfl wd_135 (fun _ h => h) dX2_at_23 (fun v_1 => ?_)
  refine g_sub (lv' := []) [] rfl ?_
  exact g2_at_J26 B hS9 hr v_1
set_option maxRecDepth 20000 in
set_option maxHeartbeats 2000000 in
theorem g2_at {X : gX} {p : Program} {l : Launch} {e : Env} {s : State} {m : MethodId} {args : Array Value} {below : List Frame} {meth : Method} {c : Code} (B : gB X p (rm2_at) s m args meth c RX2 cX2_at 2 (rm2_at)) (hS9 : gS X s) (hr : meth.sig.returnType = some (.object "CribLine$Person")) {M : mMem} (a0 : Nat) (x1 : Int32) : GG X p l e (rm2_at) s m args below meth c (gP X below args s 0 0 (fun r9 : Nat => (some (.ref r9), M))) 2 0 0 0 [(0, .ref a0), (1, .int x1)] [] M (p2_at a0 x1 M) := by
  unfold p2_at
  refine g_gd ?_
  refine g_iload_n B dX2_at_0 1 rfl ?_
  refine g_if_lt B 22 dX2_at_1 (by decide) ?_ ?_
  · refine g_sub (lv' := [(0, .ref a0)]) [0] rfl ?_
    exact g2_at_J22 B hS9 hr a0
  · refine g_iload_n B dX2_at_4 1 rfl ?_
    refine g_aload_n B dX2_at_5 0 rfl ?_
    refine g_getR (ci := 2) (T0 := TX2) (N := 11) B (by decide) rfl in_2 (k := 0) (by decide) rfl wd_134 (fun _ h => h) dX2_at_6 (fun v_1 => ?_)
    refine g_alen B dX2_at_9 (fun v_2 => ?_)
    refine g_icmp_ge B 22 dX2_at_10 (by decide) ?_ ?_
    · refine g_aload_n B dX2_at_13 0 rfl ?_
      refine g_getR (ci := 2) (T0 := TX2) (N := 11) B (by decide) rfl in_2 (k := 0) (by decide) rfl wd_134 (fun _ h => h) dX2_at_14 (fun v_3 => ?_)
      refine g_iload_n B dX2_at_17 1 rfl ?_
      refine g_aaload24 B dX2_at_18 (fun v_4 => ?_)
      refine g_goto B 26 dX2_at_19 (by decide) ?_
      refine g_sub (lv' := []) [] rfl ?_
      exact g2_at_J26 B hS9 hr v_4
    · refine g_sub (lv' := [(0, .ref a0)]) [0] rfl ?_
      exact g2_at_J22 B hS9 hr a0
theorem mf2_at : gMF yX2_at cX2_at 2 (some (.object "CribLine$Person")) 1 := ⟨wd_468, wd_2, ⟨by decide, by decide⟩, by decide +kernel⟩
theorem c2_at (X : gX) (l : Launch) (a0 : Nat) (x1 : Int32) (M : mMem) : Con X l yX2_at cX2_at 2 (some (.object "CribLine$Person")) rm2_at (fun r9 : Nat => (some (.ref r9), M)) [.ref a0, .int x1] M (p2_at a0 x1 M) := g_con (own := RX2) (by decide +kernel) rfl (Nat.le_of_ble_eq_true rfl) (fun p e s m args below meth c B hS9 hr hn => g2_at B hS9 hr a0 x1)
set_option maxRecDepth 20000 in
set_option maxHeartbeats 2000000 in
theorem g2_governs_J29 {X : gX} {p : Program} {l : Launch} {e : Env} {s : State} {m : MethodId} {args : Array Value} {below : List Frame} {meth : Method} {c : Code} (B : gB X p (rm2_governs) s m args meth c RX2 cX2_governs 3 (rm2_governs)) (hS9 : gS X s) (hr : meth.sig.returnType = some .boolean) {M : mMem} (u0 : Int32) : GG X p l e (rm2_governs) s m args below meth c (gP X below args s 0 0 (fun r9 : Int32 => (some (.int r9), M))) 3 0 0 29 [] [.int u0] M (p2_governs_J29 M u0) := by
  unfold p2_governs_J29
  exact g_zreturn (f := fun z => z) B hr (by decide) (by decide) rfl dX2_governs_29
set_option maxRecDepth 20000 in
set_option maxHeartbeats 2000000 in
theorem g2_governs_J28 {X : gX} {p : Program} {l : Launch} {e : Env} {s : State} {m : MethodId} {args : Array Value} {below : List Frame} {meth : Method} {c : Code} (B : gB X p (rm2_governs) s m args meth c RX2 cX2_governs 3 (rm2_governs)) (hS9 : gS X s) (hr : meth.sig.returnType = some .boolean) {M : mMem} : GG X p l e (rm2_governs) s m args below meth c (gP X below args s 0 0 (fun r9 : Int32 => (some (.int r9), M))) 3 0 0 28 [] [] M (p2_governs_J28 M) := by
  unfold p2_governs_J28
  refine g_iconst (v := 0) B dX2_governs_28 (by decide) ?_
  refine g_sub (lv' := []) [] rfl ?_
  exact g2_governs_J29 B hS9 hr 0
set_option maxRecDepth 20000 in
set_option maxHeartbeats 2000000 in
theorem g2_governs {X : gX} {p : Program} {l : Launch} {e : Env} {s : State} {m : MethodId} {args : Array Value} {below : List Frame} {meth : Method} {c : Code} (B : gB X p (rm2_governs) s m args meth c RX2 cX2_governs 3 (rm2_governs)) (hS9 : gS X s) (hr : meth.sig.returnType = some .boolean) {M : mMem} (a0 : Nat) (x1 : Int32) (x2 : Int32) : GG X p l e (rm2_governs) s m args below meth c (gP X below args s 0 0 (fun r9 : Int32 => (some (.int r9), M))) 3 0 0 0 [(0, .ref a0), (1, .int x1), (2, .int x2)] [] M (p2_governs a0 x1 x2 M) := by
  unfold p2_governs
  refine g_gd ?_
  refine g_aload_n B dX2_governs_0 0 rfl ?_
  refine g_iload_n B dX2_governs_1 1 rfl ?_
  refine g_callV_ip [.int x1] (ci := 2) (T0 := TX2) (N := 11) B hS9 mf2_has wd_503 (gw B wd_504) wd_502 (by decide) rfl (fun h => (gd_ne h).1) (c2_has X l a0 x1 M) (by decide) (by decide) (by decide) rfl (by decide) dX2_governs_2 rfl (fun v_1 => ?_)
  refine g_if_eq B 28 dX2_governs_5 (by decide) ?_ ?_
  · refine g_sub (lv' := []) [] rfl ?_
    exact g2_governs_J28 B hS9 hr
  · refine g_aload_n B dX2_governs_8 0 rfl ?_
    refine g_iload_n B dX2_governs_9 2 rfl ?_
    refine g_callV_ap [.int x2] (ci := 2) (T0 := TX2) (N := 11) B hS9 mf2_at wd_466 (gw B wd_467) wd_465 (by decide) rfl (fun h => (gd_ne h).1) (c2_at X l a0 x2 M) (by decide) (by decide) (by decide) rfl (by decide) dX2_governs_10 rfl (fun v_2 => ?_)
    refine g_getI (ci := 8) (T0 := TX8) (N := 9) B (by decide) rfl in_8 (k := 8) (by decide) rfl wd_94 (fun _ h => h) dX2_governs_13 (fun v_3 => ?_)
    refine g_iload_n B dX2_governs_16 1 rfl ?_
    refine g_ishr B dX2_governs_17 ?_
    refine g_iconst (v := 1) B dX2_governs_18 (by decide) ?_
    refine g_iand B dX2_governs_19 ?_
    refine g_iconst (v := 1) B dX2_governs_20 (by decide) ?_
    refine g_icmp_ne B 28 dX2_governs_21 (by decide) ?_ ?_
    · refine g_iconst (v := 1) B dX2_governs_24 (by decide) ?_
      refine g_goto B 29 dX2_governs_25 (by decide) ?_
      refine g_sub (lv' := []) [] rfl ?_
      exact g2_governs_J29 B hS9 hr 1
    · refine g_sub (lv' := []) [] rfl ?_
      exact g2_governs_J28 B hS9 hr
theorem mf2_governs : gMF yX2_governs cX2_governs 3 (some .boolean) 2 := ⟨wd_501, wd_2, ⟨by decide, by decide⟩, by decide +kernel⟩
theorem c2_governs (X : gX) (l : Launch) (a0 : Nat) (x1 : Int32) (x2 : Int32) (M : mMem) : Con X l yX2_governs cX2_governs 3 (some .boolean) rm2_governs (fun r9 : Int32 => (some (.int r9), M)) [.ref a0, .int x1, .int x2] M (p2_governs a0 x1 x2 M) := g_con (own := RX2) (by decide +kernel) rfl (Nat.le_of_ble_eq_true rfl) (fun p e s m args below meth c B hS9 hr hn => g2_governs B hS9 hr a0 x1 x2)
set_option maxRecDepth 20000 in
set_option maxHeartbeats 2000000 in
theorem g2_leftByRound_J17 {X : gX} {p : Program} {l : Launch} {e : Env} {s : State} {m : MethodId} {args : Array Value} {below : List Frame} {meth : Method} {c : Code} (B : gB X p (rm2_leftByRound) s m args meth c RX2 cX2_leftByRound 2 (rm2_leftByRound)) (hS9 : gS X s) (hr : meth.sig.returnType = some .int) {M : mMem} (u0 : Int32) : GG X p l e (rm2_leftByRound) s m args below meth c (gP X below args s 0 0 (fun r9 : Int32 => (some (.int r9), M))) 2 0 0 17 [] [.int u0] M (p2_leftByRound_J17 M u0) := by
  unfold p2_leftByRound_J17
  exact g_ireturn B hr rfl (by decide) (by decide) rfl dX2_leftByRound_17
set_option maxRecDepth 20000 in
set_option maxHeartbeats 2000000 in
theorem g2_leftByRound {X : gX} {p : Program} {l : Launch} {e : Env} {s : State} {m : MethodId} {args : Array Value} {below : List Frame} {meth : Method} {c : Code} (B : gB X p (rm2_leftByRound) s m args meth c RX2 cX2_leftByRound 2 (rm2_leftByRound)) (hS9 : gS X s) (hr : meth.sig.returnType = some .int) {M : mMem} (a0 : Nat) (x1 : Int32) : GG X p l e (rm2_leftByRound) s m args below meth c (gP X below args s 0 0 (fun r9 : Int32 => (some (.int r9), M))) 2 0 0 0 [(0, .ref a0), (1, .int x1)] [] M (p2_leftByRound a0 x1 M) := by
  unfold p2_leftByRound
  refine g_gd ?_
  refine g_aload_n B dX2_leftByRound_0 0 rfl ?_
  refine g_getI (ci := 2) (T0 := TX2) (N := 11) B (by decide) rfl in_2 (k := 5) (by decide) rfl wd_146 (fun _ h => h) dX2_leftByRound_1 (fun v_1 => ?_)
  refine g_if_le B 16 dX2_leftByRound_4 (by decide) ?_ ?_
  · refine g_iload_n B dX2_leftByRound_7 1 rfl ?_
    refine g_aload_n B dX2_leftByRound_8 0 rfl ?_
    refine g_getI (ci := 2) (T0 := TX2) (N := 11) B (by decide) rfl in_2 (k := 5) (by decide) rfl wd_146 (fun _ h => h) dX2_leftByRound_9 (fun v_2 => ?_)
    refine g_irem B dX2_leftByRound_12 (fun v_3 => ?_)
    refine g_goto B 17 dX2_leftByRound_13 (by decide) ?_
    refine g_sub (lv' := []) [] rfl ?_
    exact g2_leftByRound_J17 B hS9 hr v_3
  · refine g_iconst (v := 0) B dX2_leftByRound_16 (by decide) ?_
    refine g_sub (lv' := []) [] rfl ?_
    exact g2_leftByRound_J17 B hS9 hr 0
theorem mf2_leftByRound : gMF yX2_leftByRound cX2_leftByRound 2 (some .int) 1 := ⟨wd_531, wd_2, ⟨by decide, by decide⟩, by decide +kernel⟩
theorem c2_leftByRound (X : gX) (l : Launch) (a0 : Nat) (x1 : Int32) (M : mMem) : Con X l yX2_leftByRound cX2_leftByRound 2 (some .int) rm2_leftByRound (fun r9 : Int32 => (some (.int r9), M)) [.ref a0, .int x1] M (p2_leftByRound a0 x1 M) := g_con (own := RX2) (by decide +kernel) rfl (Nat.le_of_ble_eq_true rfl) (fun p e s m args below meth c B hS9 hr hn => g2_leftByRound B hS9 hr a0 x1)
set_option maxRecDepth 20000 in
set_option maxHeartbeats 2000000 in
theorem g2_moved_J49 {X : gX} {p : Program} {l : Launch} {e : Env} {s : State} {m : MethodId} {args : Array Value} {below : List Frame} {meth : Method} {c : Code} (B : gB X p (rm2_moved) s m args meth c RX2 cX2_moved 5 (rm2_moved)) (hS9 : gS X s) (hr : meth.sig.returnType = some .int) {M : mMem} (u0 : Int32) : GG X p l e (rm2_moved) s m args below meth c (gP X below args s 0 0 (fun r9 : Int32 => (some (.int r9), M))) 5 0 0 49 [] [.int u0] M (p2_moved_J49 M u0) := by
  unfold p2_moved_J49
  exact g_ireturn B hr rfl (by decide) (by decide) rfl dX2_moved_49
set_option maxRecDepth 20000 in
set_option maxHeartbeats 2000000 in
theorem g2_moved_J13 {X : gX} {p : Program} {l : Launch} {e : Env} {s : State} {m : MethodId} {args : Array Value} {below : List Frame} {meth : Method} {c : Code} (B : gB X p (rm2_moved) s m args meth c RX2 cX2_moved 5 (rm2_moved)) (hS9 : gS X s) (hr : meth.sig.returnType = some .int) {M : mMem} (a0 : Nat) (u0 : Int32) : GG X p l e (rm2_moved) s m args below meth c (gP X below args s 0 0 (fun r9 : Int32 => (some (.int r9), M))) 5 0 0 13 [(0, .ref a0)] [.int u0] M (p2_moved_J13 M a0 u0) := by
  unfold p2_moved_J13
  refine g_istore (lv' := [(4, .int u0), (0, .ref a0)]) B dX2_moved_13 (by decide) [0, 1] rfl ?_
  refine g_iload B dX2_moved_15 0 rfl ?_
  refine g_if_ge B 28 dX2_moved_17 (by decide) ?_ ?_
  · refine g_iload B dX2_moved_20 0 rfl ?_
    refine g_aload_n B dX2_moved_22 1 rfl ?_
    refine g_getI (ci := 2) (T0 := TX2) (N := 11) B (by decide) rfl in_2 (k := 5) (by decide) rfl wd_146 (fun _ h => h) dX2_moved_23 (fun v_3 => ?_)
    refine g_iadd B dX2_moved_26 ?_
    exact g_ireturn B hr rfl (by decide) (by decide) rfl dX2_moved_27
  · refine g_iload B dX2_moved_28 0 rfl ?_
    refine g_aload_n B dX2_moved_30 1 rfl ?_
    refine g_getI (ci := 2) (T0 := TX2) (N := 11) B (by decide) rfl in_2 (k := 5) (by decide) rfl wd_146 (fun _ h => h) dX2_moved_31 (fun v_1 => ?_)
    refine g_icmp_lt B 47 dX2_moved_34 (by decide) ?_ ?_
    · refine g_iload B dX2_moved_47 0 rfl ?_
      refine g_sub (lv' := []) [] rfl ?_
      exact g2_moved_J49 B hS9 hr u0
    · refine g_iload B dX2_moved_37 0 rfl ?_
      refine g_aload_n B dX2_moved_39 1 rfl ?_
      refine g_getI (ci := 2) (T0 := TX2) (N := 11) B (by decide) rfl in_2 (k := 5) (by decide) rfl wd_146 (fun _ h => h) dX2_moved_40 (fun v_2 => ?_)
      refine g_isub B dX2_moved_43 ?_
      refine g_goto B 49 dX2_moved_44 (by decide) ?_
      refine g_sub (lv' := []) [] rfl ?_
      exact g2_moved_J49 B hS9 hr (u0 - v_2)
set_option maxRecDepth 20000 in
set_option maxHeartbeats 2000000 in
theorem g2_moved {X : gX} {p : Program} {l : Launch} {e : Env} {s : State} {m : MethodId} {args : Array Value} {below : List Frame} {meth : Method} {c : Code} (B : gB X p (rm2_moved) s m args meth c RX2 cX2_moved 5 (rm2_moved)) (hS9 : gS X s) (hr : meth.sig.returnType = some .int) {M : mMem} (a0 : Nat) (x1 : Int32) (x2 : Int32) (x3 : Int32) : GG X p l e (rm2_moved) s m args below meth c (gP X below args s 0 0 (fun r9 : Int32 => (some (.int r9), M))) 5 0 0 0 [(0, .ref a0), (1, .int x1), (2, .int x2), (3, .int x3)] [] M (p2_moved a0 x1 x2 x3 M) := by
  unfold p2_moved
  refine g_gd ?_
  refine g_iload_n B dX2_moved_0 3 rfl ?_
  refine g_if_eq B 10 dX2_moved_1 (by decide) ?_ ?_
  · refine g_iload_n B dX2_moved_10 1 rfl ?_
    refine g_iload_n B dX2_moved_11 2 rfl ?_
    refine g_isub B dX2_moved_12 ?_
    refine g_sub (lv' := [(0, .ref a0)]) [0] rfl ?_
    exact g2_moved_J13 B hS9 hr a0 (x1 - x2)
  · refine g_iload_n B dX2_moved_4 1 rfl ?_
    refine g_iload_n B dX2_moved_5 2 rfl ?_
    refine g_iadd B dX2_moved_6 ?_
    refine g_goto B 13 dX2_moved_7 (by decide) ?_
    refine g_sub (lv' := [(0, .ref a0)]) [0] rfl ?_
    exact g2_moved_J13 B hS9 hr a0 (x1 + x2)
theorem mf2_moved : gMF yX2_moved cX2_moved 5 (some .int) 3 := ⟨wd_543, wd_2, ⟨by decide, by decide⟩, by decide +kernel⟩
theorem c2_moved (X : gX) (l : Launch) (a0 : Nat) (x1 : Int32) (x2 : Int32) (x3 : Int32) (M : mMem) : Con X l yX2_moved cX2_moved 5 (some .int) rm2_moved (fun r9 : Int32 => (some (.int r9), M)) [.ref a0, .int x1, .int x2, .int x3] M (p2_moved a0 x1 x2 x3 M) := g_con (own := RX2) (by decide +kernel) rfl (Nat.le_of_ble_eq_true rfl) (fun p e s m args below meth c B hS9 hr hn => g2_moved B hS9 hr a0 x1 x2 x3)
set_option maxRecDepth 20000 in
set_option maxHeartbeats 2000000 in
theorem g8_take {X : gX} {p : Program} {l : Launch} {e : Env} {s : State} {m : MethodId} {args : Array Value} {below : List Frame} {meth : Method} {c : Code} (B : gB X p (rm8_take) s m args meth c RX8 cX8_take 2 (rm8_take)) (hS9 : gS X s) (hr : meth.sig.returnType = none) (a0 : Nat) (a1 : Nat) (M : mMem) : GG X p l e (rm8_take) s m args below meth c (gP X below args s 0 0 (fun M9 : mMem => (none, M9))) 2 0 0 0 [(0, .ref a0), (1, .ref a1)] [] M (p8_take a0 a1 M) := by
  unfold p8_take
  refine g_gd ?_
  refine g_aload_n B dX8_take_0 0 rfl ?_
  refine g_aload_n B dX8_take_1 1 rfl ?_
  refine g_getI (ci := 8) (T0 := TX8) (N := 9) B (by decide) rfl in_8 (k := 0) (by decide) rfl wd_51 (fun _ h => h) dX8_take_2 (fun v_1 => ?_)
  refine g_putI (ci := 8) (T0 := TX8) (N := 9) B (by decide) rfl in_8 tyX8 tyX8_ok nmX8 (k := 0) (by decide) wd_51 (fun _ h => h) rfl rfl (ty := .int) (by decide +kernel) rfl rfl dX8_take_5 (fun M_2 => ?_)
  refine g_aload_n B dX8_take_8 0 rfl ?_
  refine g_aload_n B dX8_take_9 1 rfl ?_
  refine g_getI (ci := 8) (T0 := TX8) (N := 9) B (by decide) rfl in_8 (k := 1) (by decide) rfl wd_59 (fun _ h => h) dX8_take_10 (fun v_3 => ?_)
  refine g_putI (ci := 8) (T0 := TX8) (N := 9) B (by decide) rfl in_8 tyX8 tyX8_ok nmX8 (k := 1) (by decide) wd_59 (fun _ h => h) rfl rfl (ty := .int) (by decide +kernel) rfl rfl dX8_take_13 (fun M_4 => ?_)
  refine g_aload_n B dX8_take_16 0 rfl ?_
  refine g_aload_n B dX8_take_17 1 rfl ?_
  refine g_getI (ci := 8) (T0 := TX8) (N := 9) B (by decide) rfl in_8 (k := 2) (by decide) rfl wd_64 (fun _ h => h) dX8_take_18 (fun v_5 => ?_)
  refine g_putI (ci := 8) (T0 := TX8) (N := 9) B (by decide) rfl in_8 tyX8 tyX8_ok nmX8 (k := 2) (by decide) wd_64 (fun _ h => h) rfl rfl (ty := .int) (by decide +kernel) rfl rfl dX8_take_21 (fun M_6 => ?_)
  refine g_aload_n B dX8_take_24 0 rfl ?_
  refine g_aload_n B dX8_take_25 1 rfl ?_
  refine g_getI (ci := 8) (T0 := TX8) (N := 9) B (by decide) rfl in_8 (k := 3) (by decide) rfl wd_68 (fun _ h => h) dX8_take_26 (fun v_7 => ?_)
  refine g_putI (ci := 8) (T0 := TX8) (N := 9) B (by decide) rfl in_8 tyX8 tyX8_ok nmX8 (k := 3) (by decide) wd_68 (fun _ h => h) rfl rfl (ty := .int) (by decide +kernel) rfl rfl dX8_take_29 (fun M_8 => ?_)
  refine g_aload_n B dX8_take_32 0 rfl ?_
  refine g_aload_n B dX8_take_33 1 rfl ?_
  refine g_getI (ci := 8) (T0 := TX8) (N := 9) B (by decide) rfl in_8 (k := 4) (by decide) rfl wd_73 (fun _ h => h) dX8_take_34 (fun v_9 => ?_)
  refine g_putI (ci := 8) (T0 := TX8) (N := 9) B (by decide) rfl in_8 tyX8 tyX8_ok nmX8 (k := 4) (by decide) wd_73 (fun _ h => h) rfl rfl (ty := .int) (by decide +kernel) rfl rfl dX8_take_37 (fun M_10 => ?_)
  refine g_aload_n B dX8_take_40 0 rfl ?_
  refine g_aload_n B dX8_take_41 1 rfl ?_
  refine g_getI (ci := 8) (T0 := TX8) (N := 9) B (by decide) rfl in_8 (k := 5) (by decide) rfl wd_78 (fun _ h => h) dX8_take_42 (fun v_11 => ?_)
  refine g_putI (ci := 8) (T0 := TX8) (N := 9) B (by decide) rfl in_8 tyX8 tyX8_ok nmX8 (k := 5) (by decide) wd_78 (fun _ h => h) rfl rfl (ty := .int) (by decide +kernel) rfl rfl dX8_take_45 (fun M_12 => ?_)
  refine g_aload_n B dX8_take_48 0 rfl ?_
  refine g_aload_n B dX8_take_49 1 rfl ?_
  refine g_getI (ci := 8) (T0 := TX8) (N := 9) B (by decide) rfl in_8 (k := 6) (by decide) rfl wd_83 (fun _ h => h) dX8_take_50 (fun v_13 => ?_)
  refine g_putI (ci := 8) (T0 := TX8) (N := 9) B (by decide) rfl in_8 tyX8 tyX8_ok nmX8 (k := 6) (by decide) wd_83 (fun _ h => h) rfl rfl (ty := .int) (by decide +kernel) rfl rfl dX8_take_53 (fun M_14 => ?_)
  refine g_aload_n B dX8_take_56 0 rfl ?_
  refine g_aload_n B dX8_take_57 1 rfl ?_
  refine g_getI (ci := 8) (T0 := TX8) (N := 9) B (by decide) rfl in_8 (k := 7) (by decide) rfl wd_88 (fun _ h => h) dX8_take_58 (fun v_15 => ?_)
  refine g_putI (ci := 8) (T0 := TX8) (N := 9) B (by decide) rfl in_8 tyX8 tyX8_ok nmX8 (k := 7) (by decide) wd_88 (fun _ h => h) rfl rfl (ty := .int) (by decide +kernel) rfl rfl dX8_take_61 (fun M_16 => ?_)
  refine g_aload_n B dX8_take_64 0 rfl ?_
  refine g_aload_n B dX8_take_65 1 rfl ?_
  refine g_getI (ci := 8) (T0 := TX8) (N := 9) B (by decide) rfl in_8 (k := 8) (by decide) rfl wd_92 (fun _ h => h) dX8_take_66 (fun v_17 => ?_)
  refine g_putI (ci := 8) (T0 := TX8) (N := 9) B (by decide) rfl in_8 tyX8 tyX8_ok nmX8 (k := 8) (by decide) wd_92 (fun _ h => h) rfl rfl (ty := .int) (by decide +kernel) rfl rfl dX8_take_69 (fun M_18 => ?_)
  exact g_vreturn B hr (by decide) (by decide) rfl dX8_take_72
theorem mf8_take : gMF yX8_take cX8_take 2 (none) 1 := ⟨wd_472, wd_3, ⟨by decide, by decide⟩, by decide +kernel⟩
theorem c8_take (X : gX) (l : Launch) (a0 : Nat) (a1 : Nat) (M : mMem) : Con X l yX8_take cX8_take 2 (none) rm8_take (fun M9 : mMem => (none, M9)) [.ref a0, .ref a1] M (p8_take a0 a1 M) := g_con (own := RX8) (by decide +kernel) rfl (Nat.le_of_ble_eq_true rfl) (fun p e s m args below meth c B hS9 hr hn => g8_take B hS9 hr a0 a1 M)
set_option maxRecDepth 20000 in
set_option maxHeartbeats 2000000 in
theorem g6_take {X : gX} {p : Program} {l : Launch} {e : Env} {s : State} {m : MethodId} {args : Array Value} {below : List Frame} {meth : Method} {c : Code} (B : gB X p (rm6_take) s m args meth c RX6 cX6_take 2 (rm6_take)) (hS9 : gS X s) (hr : meth.sig.returnType = none) (a0 : Nat) (a1 : Nat) (M : mMem) : GG X p l e (rm6_take) s m args below meth c (gP X below args s 0 0 (fun M9 : mMem => (none, M9))) 2 0 0 0 [(0, .ref a0), (1, .ref a1)] [] M (p6_take a0 a1 M) := by
  unfold p6_take
  refine g_gd ?_
  refine g_aload_n B dX6_take_0 1 rfl ?_
  refine g_getR (ci := 6) (T0 := TX6) (N := 3) B (by decide) rfl in_6 (k := 0) (by decide) rfl wd_123 (fun _ h => h) dX6_take_1 (fun v_1 => ?_)
  refine g_iconst (v := 0) B dX6_take_4 (by decide) ?_
  refine g_aload_n B dX6_take_5 0 rfl ?_
  refine g_getR (ci := 6) (T0 := TX6) (N := 3) B (by decide) rfl in_6 (k := 0) (by decide) rfl wd_123 (fun _ h => h) dX6_take_6 (fun v_2 => ?_)
  refine g_iconst (v := 0) B dX6_take_9 (by decide) ?_
  refine g_aload_n B dX6_take_10 0 rfl ?_
  refine g_getR (ci := 6) (T0 := TX6) (N := 3) B (by decide) rfl in_6 (k := 0) (by decide) rfl wd_123 (fun _ h => h) dX6_take_11 (fun v_3 => ?_)
  refine g_alen B dX6_take_14 (fun v_4 => ?_)
  refine g_copyI B wd_480 wd_475 wd_474 wd_14 (by decide) (Nat.le_of_ble_eq_true rfl) dX6_take_15 (fun M_5 => ?_)
  refine g_aload_n B dX6_take_18 0 rfl ?_
  refine g_aload_n B dX6_take_19 1 rfl ?_
  refine g_getI (ci := 6) (T0 := TX6) (N := 3) B (by decide) rfl in_6 (k := 1) (by decide) rfl wd_124 (fun _ h => h) dX6_take_20 (fun v_6 => ?_)
  refine g_putI (ci := 6) (T0 := TX6) (N := 3) B (by decide) rfl in_6 tyX6 tyX6_ok nmX6 (k := 1) (by decide) wd_124 (fun _ h => h) rfl rfl (ty := .int) (by decide +kernel) rfl rfl dX6_take_23 (fun M_7 => ?_)
  refine g_aload_n B dX6_take_26 0 rfl ?_
  refine g_aload_n B dX6_take_27 1 rfl ?_
  refine g_getI (ci := 6) (T0 := TX6) (N := 3) B (by decide) rfl in_6 (k := 2) (by decide) rfl wd_125 (fun _ h => h) dX6_take_28 (fun v_8 => ?_)
  refine g_putI (ci := 6) (T0 := TX6) (N := 3) B (by decide) rfl in_6 tyX6 tyX6_ok nmX6 (k := 2) (by decide) wd_125 (fun _ h => h) rfl rfl (ty := .int) (by decide +kernel) rfl rfl dX6_take_31 (fun M_9 => ?_)
  exact g_vreturn B hr (by decide) (by decide) rfl dX6_take_34
theorem mf6_take : gMF yX6_take cX6_take 2 (none) 1 := ⟨wd_479, wd_4, ⟨by decide, by decide⟩, by decide +kernel⟩
theorem c6_take (X : gX) (l : Launch) (a0 : Nat) (a1 : Nat) (M : mMem) : Con X l yX6_take cX6_take 2 (none) rm6_take (fun M9 : mMem => (none, M9)) [.ref a0, .ref a1] M (p6_take a0 a1 M) := g_con (own := RX6) (by decide +kernel) rfl (Nat.le_of_ble_eq_true rfl) (fun p e s m args below meth c B hS9 hr hn => g6_take B hS9 hr a0 a1 M)
set_option maxRecDepth 20000 in
set_option maxHeartbeats 2000000 in
theorem g2_take_L2 {X : gX} {p : Program} {l : Launch} {e : Env} {s : State} {m : MethodId} {args : Array Value} {below : List Frame} {meth : Method} {c : Code} (B : gB X p (rm2_take) s m args meth c RX2 cX2_take 3 (rm2_take)) (hS9 : gS X s) (hr : meth.sig.returnType = none) : ∀ (n : Nat) (a0 : Nat) (a1 : Nat) (x2 : Int32) (M : mMem), GG X p l e (rm2_take) s m args below meth c (gP X below args s 0 0 (fun M9 : mMem => (none, M9))) 3 0 0 2 [(0, .ref a0), (1, .ref a1), (2, .int x2)] [] M (p2_take_L2 n a0 a1 x2 M) := by
  intro n
  induction n with
  | zero => intro a0 a1 x2 M; exact g_none
  | succ n ih =>
    intro a0 a1 x2 M
    rw [p2_take_L2]
    refine g_iload_n B dX2_take_2 2 rfl ?_
    refine g_aload_n B dX2_take_3 0 rfl ?_
    refine g_getR (ci := 2) (T0 := TX2) (N := 11) B (by decide) rfl in_2 (k := 0) (by decide) rfl wd_134 (fun _ h => h) dX2_take_4 (fun v_1 => ?_)
    refine g_alen B dX2_take_7 (fun v_2 => ?_)
    refine g_icmp_ge B 31 dX2_take_8 (by decide) ?_ ?_
    · refine g_aload_n B dX2_take_11 0 rfl ?_
      refine g_getR (ci := 2) (T0 := TX2) (N := 11) B (by decide) rfl in_2 (k := 0) (by decide) rfl wd_134 (fun _ h => h) dX2_take_12 (fun v_25 => ?_)
      refine g_iload_n B dX2_take_15 2 rfl ?_
      refine g_aaload24 B dX2_take_16 (fun v_26 => ?_)
      refine g_aload_n B dX2_take_17 1 rfl ?_
      refine g_iload_n B dX2_take_18 2 rfl ?_
      refine g_callV_ap [.int x2] (ci := 2) (T0 := TX2) (N := 11) B hS9 mf2_at wd_466 (gw B wd_467) wd_465 (by decide) rfl (fun h => (gd_ne h).1) (c2_at X l a1 x2 M) (by decide) (by decide) (by decide) rfl (Nat.le_of_ble_eq_true rfl) dX2_take_19 rfl (fun v_27 => ?_)
      refine g_callV_vw [.ref v_27] (ci := 8) (T0 := TX8) (N := 9) B hS9 mf8_take wd_470 (gw B wd_471) wd_469 (by decide) rfl (fun h => (gd_ne h).1) (c8_take X l v_26 v_27 M) (by decide) (by decide) (by decide) rfl (by decide) dX2_take_22 rfl (fun q_28 => ?_)
      refine g_iinc (v := (x2 + 1)) (lv' := [(2, .int (x2 + 1)), (0, .ref a0), (1, .ref a1)]) B dX2_take_25 2 rfl rfl (by decide) [0, 1, 2] rfl ?_
      refine g_goto B 2 dX2_take_28 (by decide) ?_
      refine g_sub (lv' := [(0, .ref a0), (1, .ref a1), (2, .int (x2 + 1))]) [1, 2, 0] rfl ?_
      exact ih a0 a1 (x2 + 1) q_28
    · refine g_aload_n B dX2_take_31 1 rfl ?_
      refine g_getR (ci := 2) (T0 := TX2) (N := 11) B (by decide) rfl in_2 (k := 2) (by decide) rfl wd_136 (fun _ h => h) dX2_take_32 (fun v_3 => ?_)
      refine g_iconst (v := 0) B dX2_take_35 (by decide) ?_
      refine g_aload_n B dX2_take_36 0 rfl ?_
      refine g_getR (ci := 2) (T0 := TX2) (N := 11) B (by decide) rfl in_2 (k := 2) (by decide) rfl wd_136 (fun _ h => h) dX2_take_37 (fun v_4 => ?_)
      refine g_iconst (v := 0) B dX2_take_40 (by decide) ?_
      refine g_aload_n B dX2_take_41 0 rfl ?_
      refine g_getR (ci := 2) (T0 := TX2) (N := 11) B (by decide) rfl in_2 (k := 2) (by decide) rfl wd_136 (fun _ h => h) dX2_take_42 (fun v_5 => ?_)
      refine g_alen B dX2_take_45 (fun v_6 => ?_)
      refine g_copyI B wd_473 wd_475 wd_474 wd_14 (by decide) (Nat.le_of_ble_eq_true rfl) dX2_take_46 (fun M_7 => ?_)
      refine g_aload_n B dX2_take_49 0 rfl ?_
      refine g_getR (ci := 2) (T0 := TX2) (N := 11) B (by decide) rfl in_2 (k := 3) (by decide) rfl wd_137 (fun _ h => h) dX2_take_50 (fun v_8 => ?_)
      refine g_aload_n B dX2_take_53 1 rfl ?_
      refine g_getR (ci := 2) (T0 := TX2) (N := 11) B (by decide) rfl in_2 (k := 3) (by decide) rfl wd_137 (fun _ h => h) dX2_take_54 (fun v_9 => ?_)
      refine g_callV_vw [.ref v_9] (ci := 6) (T0 := TX6) (N := 3) B hS9 mf6_take wd_477 (gw B wd_478) wd_476 (by decide) rfl (fun h => (gd_ne h).1) (c6_take X l v_8 v_9 M_7) (by decide) (by decide) (by decide) rfl (by decide) dX2_take_57 rfl (fun q_10 => ?_)
      refine g_aload_n B dX2_take_60 0 rfl ?_
      refine g_aload_n B dX2_take_61 1 rfl ?_
      refine g_getI (ci := 2) (T0 := TX2) (N := 11) B (by decide) rfl in_2 (k := 4) (by decide) rfl wd_139 (fun _ h => h) dX2_take_62 (fun v_11 => ?_)
      refine g_putI (ci := 2) (T0 := TX2) (N := 11) B (by decide) rfl in_2 tyX2 tyX2_ok nmX2 (k := 4) (by decide) wd_139 (fun _ h => h) rfl rfl (ty := .int) (by decide +kernel) rfl rfl dX2_take_65 (fun M_12 => ?_)
      refine g_aload_n B dX2_take_68 0 rfl ?_
      refine g_aload_n B dX2_take_69 1 rfl ?_
      refine g_getI (ci := 2) (T0 := TX2) (N := 11) B (by decide) rfl in_2 (k := 5) (by decide) rfl wd_146 (fun _ h => h) dX2_take_70 (fun v_13 => ?_)
      refine g_putI (ci := 2) (T0 := TX2) (N := 11) B (by decide) rfl in_2 tyX2 tyX2_ok nmX2 (k := 5) (by decide) wd_146 (fun _ h => h) rfl rfl (ty := .int) (by decide +kernel) rfl rfl dX2_take_73 (fun M_14 => ?_)
      refine g_aload_n B dX2_take_76 0 rfl ?_
      refine g_aload_n B dX2_take_77 1 rfl ?_
      refine g_getI (ci := 2) (T0 := TX2) (N := 11) B (by decide) rfl in_2 (k := 6) (by decide) rfl wd_150 (fun _ h => h) dX2_take_78 (fun v_15 => ?_)
      refine g_putI (ci := 2) (T0 := TX2) (N := 11) B (by decide) rfl in_2 tyX2 tyX2_ok nmX2 (k := 6) (by decide) wd_150 (fun _ h => h) rfl rfl (ty := .int) (by decide +kernel) rfl rfl dX2_take_81 (fun M_16 => ?_)
      refine g_aload_n B dX2_take_84 0 rfl ?_
      refine g_aload_n B dX2_take_85 1 rfl ?_
      refine g_getI (ci := 2) (T0 := TX2) (N := 11) B (by decide) rfl in_2 (k := 7) (by decide) rfl wd_154 (fun _ h => h) dX2_take_86 (fun v_17 => ?_)
      refine g_putI (ci := 2) (T0 := TX2) (N := 11) B (by decide) rfl in_2 tyX2 tyX2_ok nmX2 (k := 7) (by decide) wd_154 (fun _ h => h) rfl rfl (ty := .int) (by decide +kernel) rfl rfl dX2_take_89 (fun M_18 => ?_)
      refine g_aload_n B dX2_take_92 0 rfl ?_
      refine g_aload_n B dX2_take_93 1 rfl ?_
      refine g_getI (ci := 2) (T0 := TX2) (N := 11) B (by decide) rfl in_2 (k := 8) (by decide) rfl wd_159 (fun _ h => h) dX2_take_94 (fun v_19 => ?_)
      refine g_putI (ci := 2) (T0 := TX2) (N := 11) B (by decide) rfl in_2 tyX2 tyX2_ok nmX2 (k := 8) (by decide) wd_159 (fun _ h => h) rfl rfl (ty := .int) (by decide +kernel) rfl rfl dX2_take_97 (fun M_20 => ?_)
      refine g_aload_n B dX2_take_100 0 rfl ?_
      refine g_aload_n B dX2_take_101 1 rfl ?_
      refine g_getI (ci := 2) (T0 := TX2) (N := 11) B (by decide) rfl in_2 (k := 9) (by decide) rfl wd_163 (fun _ h => h) dX2_take_102 (fun v_21 => ?_)
      refine g_putI (ci := 2) (T0 := TX2) (N := 11) B (by decide) rfl in_2 tyX2 tyX2_ok nmX2 (k := 9) (by decide) wd_163 (fun _ h => h) rfl rfl (ty := .int) (by decide +kernel) rfl rfl dX2_take_105 (fun M_22 => ?_)
      refine g_aload_n B dX2_take_108 0 rfl ?_
      refine g_aload_n B dX2_take_109 1 rfl ?_
      refine g_getI (ci := 2) (T0 := TX2) (N := 11) B (by decide) rfl in_2 (k := 10) (by decide) rfl wd_166 (fun _ h => h) dX2_take_110 (fun v_23 => ?_)
      refine g_putI (ci := 2) (T0 := TX2) (N := 11) B (by decide) rfl in_2 tyX2 tyX2_ok nmX2 (k := 10) (by decide) wd_166 (fun _ h => h) rfl rfl (ty := .int) (by decide +kernel) rfl rfl dX2_take_113 (fun M_24 => ?_)
      exact g_vreturn B hr (by decide) (by decide) rfl dX2_take_116
set_option maxRecDepth 20000 in
set_option maxHeartbeats 2000000 in
theorem g2_take {X : gX} {p : Program} {l : Launch} {e : Env} {s : State} {m : MethodId} {args : Array Value} {below : List Frame} {meth : Method} {c : Code} (B : gB X p (rm2_take) s m args meth c RX2 cX2_take 3 (rm2_take)) (hS9 : gS X s) (hr : meth.sig.returnType = none) (a0 : Nat) (a1 : Nat) (M : mMem) : GG X p l e (rm2_take) s m args below meth c (gP X below args s 0 0 (fun M9 : mMem => (none, M9))) 3 0 0 0 [(0, .ref a0), (1, .ref a1)] [] M (p2_take a0 a1 M) := by
  unfold p2_take
  refine g_gd ?_
  refine g_iconst (v := 0) B dX2_take_0 (by decide) ?_
  refine g_istore_n (lv' := [(2, .int 0), (0, .ref a0), (1, .ref a1)]) B dX2_take_1 (by decide) [0, 1, 2] rfl ?_
  refine g_sub (lv' := [(0, .ref a0), (1, .ref a1), (2, .int 0)]) [1, 2, 0] rfl ?_
  exact (g2_take_L2 B hS9 hr) gF a0 a1 0 M
theorem mf2_take : gMF yX2_take cX2_take 3 (none) 1 := ⟨wd_464, wd_2, ⟨by decide, by decide⟩, by decide +kernel⟩
theorem c2_take (X : gX) (l : Launch) (a0 : Nat) (a1 : Nat) (M : mMem) : Con X l yX2_take cX2_take 3 (none) rm2_take (fun M9 : mMem => (none, M9)) [.ref a0, .ref a1] M (p2_take a0 a1 M) := g_con (own := RX2) (by decide +kernel) rfl (Nat.le_of_ble_eq_true rfl) (fun p e s m args below meth c B hS9 hr hn => g2_take B hS9 hr a0 a1 M)
set_option maxRecDepth 20000 in
set_option maxHeartbeats 2000000 in
theorem g2_draw {X : gX} {p : Program} {l : Launch} {e : Env} {s : State} {m : MethodId} {args : Array Value} {below : List Frame} {meth : Method} {c : Code} (B : gB X p (rm2_draw) s m args meth c RX2 cX2_draw 1 (rm2_draw)) (hS9 : gS X s) (hr : meth.sig.returnType = some .int) (a0 : Nat) (M : mMem) : GG X p l e (rm2_draw) s m args below meth c (gP X below args s 0 0 (fun r9 : (Int32 × mMem) => (some (.int r9.1), r9.2))) 1 0 0 0 [(0, .ref a0)] [] M (p2_draw a0 M) := by
  unfold p2_draw
  refine g_gd ?_
  refine g_aload_n B dX2_draw_0 0 rfl ?_
  refine g_ldc B dX2_draw_1 wd_1281 ?_
  refine g_aload_n B dX2_draw_3 0 rfl ?_
  refine g_getI (ci := 2) (T0 := TX2) (N := 11) B (by decide) rfl in_2 (k := 9) (by decide) rfl wd_163 (fun _ h => h) dX2_draw_4 (fun v_1 => ?_)
  refine g_imul B dX2_draw_7 ?_
  refine g_sipush (v := 12345) B dX2_draw_8 (by decide) ?_
  refine g_iadd B dX2_draw_11 ?_
  refine g_putI (ci := 2) (T0 := TX2) (N := 11) B (by decide) rfl in_2 tyX2 tyX2_ok nmX2 (k := 9) (by decide) wd_163 (fun _ h => h) rfl rfl (ty := .int) (by decide +kernel) rfl rfl dX2_draw_12 (fun M_2 => ?_)
  refine g_aload_n B dX2_draw_15 0 rfl ?_
  refine g_getI (ci := 2) (T0 := TX2) (N := 11) B (by decide) rfl in_2 (k := 9) (by decide) rfl wd_163 (fun _ h => h) dX2_draw_16 (fun v_3 => ?_)
  refine g_bipush (v := 16) B dX2_draw_19 (by decide) ?_
  refine g_iushr B dX2_draw_21 ?_
  refine g_sipush (v := 32767) B dX2_draw_22 (by decide) ?_
  refine g_iand B dX2_draw_25 ?_
  exact g_ireturn B hr rfl (by decide) (by decide) rfl dX2_draw_26
theorem mf2_draw : gMF yX2_draw cX2_draw 1 (some .int) 0 := ⟨wd_1280, wd_2, ⟨by decide, by decide⟩, by decide +kernel⟩
theorem c2_draw (X : gX) (l : Launch) (a0 : Nat) (M : mMem) : Con X l yX2_draw cX2_draw 1 (some .int) rm2_draw (fun r9 : (Int32 × mMem) => (some (.int r9.1), r9.2)) [.ref a0] M (p2_draw a0 M) := g_con (own := RX2) (by decide +kernel) rfl (Nat.le_of_ble_eq_true rfl) (fun p e s m args below meth c B hS9 hr hn => g2_draw B hS9 hr a0 M)
set_option maxRecDepth 20000 in
set_option maxHeartbeats 2000000 in
theorem g2_governorAt_J35 {X : gX} {p : Program} {l : Launch} {e : Env} {s : State} {m : MethodId} {args : Array Value} {below : List Frame} {meth : Method} {c : Code} (B : gB X p (rm2_governorAt) s m args meth c RX2 cX2_governorAt 5 (rm2_governorAt)) (hS9 : gS X s) (hr : meth.sig.returnType = some .int) {M : mMem} (rec5 : Nat → Int32 → Int32 → Int32 → Int32 → Option Int32) (hrec5 : ∀ (a0 : Nat) (x1 : Int32) (x2 : Int32) (x3 : Int32) (x4 : Int32), GG X p l e (rm2_governorAt) s m args below meth c (gP X below args s 0 0 (fun r9 : Int32 => (some (.int r9), M))) 5 0 0 5 [(0, .ref a0), (1, .int x1), (2, .int x2), (3, .int x3), (4, .int x4)] [] M (rec5 a0 x1 x2 x3 x4)) (a0 : Nat) (x1 : Int32) (x2 : Int32) (x3 : Int32) (x4 : Int32) : GG X p l e (rm2_governorAt) s m args below meth c (gP X below args s 0 0 (fun r9 : Int32 => (some (.int r9), M))) 5 0 0 35 [(0, .ref a0), (1, .int x1), (2, .int x2), (3, .int x3), (4, .int x4)] [] M (p2_governorAt_J35 M rec5 a0 x1 x2 x3 x4) := by
  unfold p2_governorAt_J35
  refine g_iinc (v := (x4 + 1)) (lv' := [(4, .int (x4 + 1)), (0, .ref a0), (1, .int x1), (2, .int x2), (3, .int x3)]) B dX2_governorAt_35 4 rfl rfl (by decide) [0, 1, 2, 3, 4] rfl ?_
  refine g_goto B 5 dX2_governorAt_38 (by decide) ?_
  refine g_sub (lv' := [(0, .ref a0), (1, .int x1), (2, .int x2), (3, .int x3), (4, .int (x4 + 1))]) [1, 2, 3, 4, 0] rfl ?_
  exact hrec5 a0 x1 x2 x3 (x4 + 1)
set_option maxRecDepth 20000 in
set_option maxHeartbeats 2000000 in
theorem g2_governorAt_L5 {X : gX} {p : Program} {l : Launch} {e : Env} {s : State} {m : MethodId} {args : Array Value} {below : List Frame} {meth : Method} {c : Code} (B : gB X p (rm2_governorAt) s m args meth c RX2 cX2_governorAt 5 (rm2_governorAt)) (hS9 : gS X s) (hr : meth.sig.returnType = some .int) {M : mMem} : ∀ (n : Nat) (a0 : Nat) (x1 : Int32) (x2 : Int32) (x3 : Int32) (x4 : Int32), GG X p l e (rm2_governorAt) s m args below meth c (gP X below args s 0 0 (fun r9 : Int32 => (some (.int r9), M))) 5 0 0 5 [(0, .ref a0), (1, .int x1), (2, .int x2), (3, .int x3), (4, .int x4)] [] M (p2_governorAt_L5 M n a0 x1 x2 x3 x4) := by
  intro n
  induction n with
  | zero => intro a0 x1 x2 x3 x4; exact g_none
  | succ n ih =>
    intro a0 x1 x2 x3 x4
    rw [p2_governorAt_L5]
    refine g_iload B dX2_governorAt_5 4 rfl ?_
    refine g_aload_n B dX2_governorAt_7 0 rfl ?_
    refine g_getI (ci := 2) (T0 := TX2) (N := 11) B (by decide) rfl in_2 (k := 4) (by decide) rfl wd_139 (fun _ h => h) dX2_governorAt_8 (fun v_1 => ?_)
    refine g_icmp_ge B 41 dX2_governorAt_11 (by decide) ?_ ?_
    · refine g_aload_n B dX2_governorAt_14 0 rfl ?_
      refine g_iload B dX2_governorAt_15 4 rfl ?_
      refine g_iload_n B dX2_governorAt_17 1 rfl ?_
      refine g_callV_ip [.int x4, .int x1] (ci := 2) (T0 := TX2) (N := 11) B hS9 mf2_governs wd_499 (gw B wd_500) wd_498 (by decide) rfl (fun h => (gd_ne h).1) (c2_governs X l a0 x4 x1 M) (by decide) (by decide) (by decide) rfl (by decide) dX2_governorAt_18 rfl (fun v_2 => ?_)
      refine g_if_eq B 35 dX2_governorAt_21 (by decide) ?_ ?_
      · refine g_sub (lv' := [(0, .ref a0), (1, .int x1), (2, .int x2), (3, .int x3), (4, .int x4)]) [0, 1, 2, 3, 4] rfl ?_
        exact g2_governorAt_J35 B hS9 hr (p2_governorAt_L5 M n) ih a0 x1 x2 x3 x4
      · refine g_iload_n B dX2_governorAt_24 3 rfl ?_
        refine g_iload_n B dX2_governorAt_25 2 rfl ?_
        refine g_icmp_ne B 32 dX2_governorAt_26 (by decide) ?_ ?_
        · refine g_iload B dX2_governorAt_29 4 rfl ?_
          exact g_ireturn B hr rfl (by decide) (by decide) rfl dX2_governorAt_31
        · refine g_iinc (v := (x3 + 1)) (lv' := [(3, .int (x3 + 1)), (0, .ref a0), (1, .int x1), (2, .int x2), (4, .int x4)]) B dX2_governorAt_32 3 rfl rfl (by decide) [0, 1, 2, 3, 4] rfl ?_
          refine g_sub (lv' := [(0, .ref a0), (1, .int x1), (2, .int x2), (3, .int (x3 + 1)), (4, .int x4)]) [1, 2, 3, 0, 4] rfl ?_
          exact g2_governorAt_J35 B hS9 hr (p2_governorAt_L5 M n) ih a0 x1 x2 (x3 + 1) x4
    · refine g_iconst (v := (-1)) B dX2_governorAt_41 (by decide) ?_
      exact g_ireturn B hr rfl (by decide) (by decide) rfl dX2_governorAt_42
set_option maxRecDepth 20000 in
set_option maxHeartbeats 2000000 in
theorem g2_governorAt {X : gX} {p : Program} {l : Launch} {e : Env} {s : State} {m : MethodId} {args : Array Value} {below : List Frame} {meth : Method} {c : Code} (B : gB X p (rm2_governorAt) s m args meth c RX2 cX2_governorAt 5 (rm2_governorAt)) (hS9 : gS X s) (hr : meth.sig.returnType = some .int) {M : mMem} (a0 : Nat) (x1 : Int32) (x2 : Int32) : GG X p l e (rm2_governorAt) s m args below meth c (gP X below args s 0 0 (fun r9 : Int32 => (some (.int r9), M))) 5 0 0 0 [(0, .ref a0), (1, .int x1), (2, .int x2)] [] M (p2_governorAt a0 x1 x2 M) := by
  unfold p2_governorAt
  refine g_gd ?_
  refine g_iconst (v := 0) B dX2_governorAt_0 (by decide) ?_
  refine g_istore_n (lv' := [(3, .int 0), (0, .ref a0), (1, .int x1), (2, .int x2)]) B dX2_governorAt_1 (by decide) [0, 1, 2, 3] rfl ?_
  refine g_iconst (v := 0) B dX2_governorAt_2 (by decide) ?_
  refine g_istore (lv' := [(4, .int 0), (3, .int 0), (0, .ref a0), (1, .int x1), (2, .int x2)]) B dX2_governorAt_3 (by decide) [0, 1, 2, 3, 4] rfl ?_
  refine g_sub (lv' := [(0, .ref a0), (1, .int x1), (2, .int x2), (3, .int 0), (4, .int 0)]) [2, 3, 4, 1, 0] rfl ?_
  exact (g2_governorAt_L5 B hS9 hr) gF a0 x1 x2 0 0
theorem mf2_governorAt : gMF yX2_governorAt cX2_governorAt 5 (some .int) 2 := ⟨wd_497, wd_2, ⟨by decide, by decide⟩, by decide +kernel⟩
theorem c2_governorAt (X : gX) (l : Launch) (a0 : Nat) (x1 : Int32) (x2 : Int32) (M : mMem) : Con X l yX2_governorAt cX2_governorAt 5 (some .int) rm2_governorAt (fun r9 : Int32 => (some (.int r9), M)) [.ref a0, .int x1, .int x2] M (p2_governorAt a0 x1 x2 M) := g_con (own := RX2) (by decide +kernel) rfl (Nat.le_of_ble_eq_true rfl) (fun p e s m args below meth c B hS9 hr hn => g2_governorAt B hS9 hr a0 x1 x2)
set_option maxRecDepth 20000 in
set_option maxHeartbeats 2000000 in
theorem g6_add_J25 {X : gX} {p : Program} {l : Launch} {e : Env} {s : State} {m : MethodId} {args : Array Value} {below : List Frame} {meth : Method} {c : Code} (B : gB X p (rm6_add) s m args meth c RX6 cX6_add 7 (rm6_add)) (hS9 : gS X s) (hr : meth.sig.returnType = none) (M : mMem) : GG X p l e (rm6_add) s m args below meth c (gP X below args s 0 0 (fun M9 : mMem => (none, M9))) 7 0 0 25 [] [] M (p6_add_J25 M) := by
  unfold p6_add_J25
  exact g_vreturn B hr (by decide) (by decide) rfl dX6_add_25
set_option maxRecDepth 20000 in
set_option maxHeartbeats 2000000 in
theorem g6_add_J108 {X : gX} {p : Program} {l : Launch} {e : Env} {s : State} {m : MethodId} {args : Array Value} {below : List Frame} {meth : Method} {c : Code} (B : gB X p (rm6_add) s m args meth c RX6 cX6_add 7 (rm6_add)) (hS9 : gS X s) (hr : meth.sig.returnType = none) (a0 : Nat) (b0 : Nat) (u1 : Int32) (M : mMem) : GG X p l e (rm6_add) s m args below meth c (gP X below args s 0 0 (fun M9 : mMem => (none, M9))) 7 0 0 108 [(0, .ref a0)] [.int u1, .ref b0] M (p6_add_J108 a0 b0 u1 M) := by
  unfold p6_add_J108
  refine g_putI (ci := 6) (T0 := TX6) (N := 3) B (by decide) rfl in_6 tyX6 tyX6_ok nmX6 (k := 1) (by decide) wd_124 (fun _ h => h) rfl rfl (ty := .int) (by decide +kernel) rfl rfl dX6_add_108 (fun M_1 => ?_)
  refine g_aload_n B dX6_add_111 0 rfl ?_
  refine g_bipush (v := 60) B dX6_add_112 (by decide) ?_
  refine g_aload_n B dX6_add_114 0 rfl ?_
  refine g_getI (ci := 6) (T0 := TX6) (N := 3) B (by decide) rfl in_6 (k := 2) (by decide) rfl wd_125 (fun _ h => h) dX6_add_115 (fun v_2 => ?_)
  refine g_iconst (v := 1) B dX6_add_118 (by decide) ?_
  refine g_iadd B dX6_add_119 ?_
  refine g_min B wd_548 wd_538 wd_15 wd_539 (by decide) (Nat.le_of_ble_eq_true rfl) (by decide) dX6_add_120 ?_
  refine g_putI (ci := 6) (T0 := TX6) (N := 3) B (by decide) rfl in_6 tyX6 tyX6_ok nmX6 (k := 2) (by decide) wd_125 (fun _ h => h) rfl rfl (ty := .int) (by decide +kernel) rfl rfl dX6_add_123 (fun M_3 => ?_)
  exact g_vreturn B hr (by decide) (by decide) rfl dX6_add_126
set_option maxRecDepth 20000 in
set_option maxHeartbeats 2000000 in
theorem g6_add_J74 {X : gX} {p : Program} {l : Launch} {e : Env} {s : State} {m : MethodId} {args : Array Value} {below : List Frame} {meth : Method} {c : Code} (B : gB X p (rm6_add) s m args meth c RX6 cX6_add 7 (rm6_add)) (hS9 : gS X s) (hr : meth.sig.returnType = none) (a0 : Nat) (x5 : Int32) (x6 : Int32) (b0 : Nat) (u1 : Int32) (u2 : Int32) (M : mMem) : GG X p l e (rm6_add) s m args below meth c (gP X below args s 0 0 (fun M9 : mMem => (none, M9))) 7 0 0 74 [(0, .ref a0), (5, .int x5), (6, .int x6)] [.int u2, .int u1, .ref b0] M (p6_add_J74 a0 x5 x6 b0 u1 u2 M) := by
  unfold p6_add_J74
  refine g_iastore B dX6_add_74 (fun M_1 => ?_)
  refine g_aload_n B dX6_add_75 0 rfl ?_
  refine g_getR (ci := 6) (T0 := TX6) (N := 3) B (by decide) rfl in_6 (k := 0) (by decide) rfl wd_123 (fun _ h => h) dX6_add_76 (fun v_2 => ?_)
  refine g_iload B dX6_add_79 2 rfl ?_
  refine g_iconst (v := 4) B dX6_add_81 (by decide) ?_
  refine g_iadd B dX6_add_82 ?_
  refine g_iload B dX6_add_83 1 rfl ?_
  refine g_iastore B dX6_add_85 (fun M_3 => ?_)
  refine g_aload_n B dX6_add_86 0 rfl ?_
  refine g_aload_n B dX6_add_87 0 rfl ?_
  refine g_getI (ci := 6) (T0 := TX6) (N := 3) B (by decide) rfl in_6 (k := 1) (by decide) rfl wd_124 (fun _ h => h) dX6_add_88 (fun v_4 => ?_)
  refine g_iconst (v := 1) B dX6_add_91 (by decide) ?_
  refine g_iadd B dX6_add_92 ?_
  refine g_bipush (v := 60) B dX6_add_93 (by decide) ?_
  refine g_icmp_ge B 107 dX6_add_95 (by decide) ?_ ?_
  · refine g_aload_n B dX6_add_98 0 rfl ?_
    refine g_getI (ci := 6) (T0 := TX6) (N := 3) B (by decide) rfl in_6 (k := 1) (by decide) rfl wd_124 (fun _ h => h) dX6_add_99 (fun v_5 => ?_)
    refine g_iconst (v := 1) B dX6_add_102 (by decide) ?_
    refine g_iadd B dX6_add_103 ?_
    refine g_goto B 108 dX6_add_104 (by decide) ?_
    refine g_sub (lv' := [(0, .ref a0)]) [0] rfl ?_
    exact g6_add_J108 B hS9 hr a0 a0 (v_5 + 1) M_3
  · refine g_iconst (v := 0) B dX6_add_107 (by decide) ?_
    refine g_sub (lv' := [(0, .ref a0)]) [0] rfl ?_
    exact g6_add_J108 B hS9 hr a0 a0 0 M_3
set_option maxRecDepth 20000 in
set_option maxHeartbeats 2000000 in
theorem g6_add {X : gX} {p : Program} {l : Launch} {e : Env} {s : State} {m : MethodId} {args : Array Value} {below : List Frame} {meth : Method} {c : Code} (B : gB X p (rm6_add) s m args meth c RX6 cX6_add 7 (rm6_add)) (hS9 : gS X s) (hr : meth.sig.returnType = none) (a0 : Nat) (x1 : Int32) (x2 : Int32) (x3 : Int32) (x4 : Int32) (x5 : Int32) (M : mMem) : GG X p l e (rm6_add) s m args below meth c (gP X below args s 0 0 (fun M9 : mMem => (none, M9))) 7 0 0 0 [(0, .ref a0), (1, .int x1), (2, .int x2), (3, .int x3), (4, .int x4), (5, .int x5)] [] M (p6_add a0 x1 x2 x3 x4 x5 M) := by
  unfold p6_add
  refine g_gd ?_
  refine g_aload_n B dX6_add_0 0 rfl ?_
  refine g_getI (ci := 6) (T0 := TX6) (N := 3) B (by decide) rfl in_6 (k := 1) (by decide) rfl wd_124 (fun _ h => h) dX6_add_1 (fun v_1 => ?_)
  refine g_iconst (v := 5) B dX6_add_4 (by decide) ?_
  refine g_imul B dX6_add_5 ?_
  refine g_istore (lv' := [(6, .int (v_1 * 5)), (0, .ref a0), (1, .int x1), (2, .int x2), (3, .int x3), (4, .int x4), (5, .int x5)]) B dX6_add_6 (by decide) [0, 1, 2, 3, 4, 5, 6] rfl ?_
  refine g_iload B dX6_add_8 0 rfl ?_
  refine g_if_lt B 25 dX6_add_10 (by decide) ?_ ?_
  · refine g_sub (lv' := []) [] rfl ?_
    exact g6_add_J25 B hS9 hr M
  · refine g_iload B dX6_add_13 0 rfl ?_
    refine g_iconst (v := 4) B dX6_add_15 (by decide) ?_
    refine g_iadd B dX6_add_16 ?_
    refine g_aload_n B dX6_add_17 1 rfl ?_
    refine g_getR (ci := 6) (T0 := TX6) (N := 3) B (by decide) rfl in_6 (k := 0) (by decide) rfl wd_123 (fun _ h => h) dX6_add_18 (fun v_2 => ?_)
    refine g_alen B dX6_add_21 (fun v_3 => ?_)
    refine g_icmp_lt B 26 dX6_add_22 (by decide) ?_ ?_
    · refine g_aload_n B dX6_add_26 1 rfl ?_
      refine g_getR (ci := 6) (T0 := TX6) (N := 3) B (by decide) rfl in_6 (k := 0) (by decide) rfl wd_123 (fun _ h => h) dX6_add_27 (fun v_4 => ?_)
      refine g_iload B dX6_add_30 0 rfl ?_
      refine g_iconst (v := 0) B dX6_add_32 (by decide) ?_
      refine g_iadd B dX6_add_33 ?_
      refine g_iload_n B dX6_add_34 2 rfl ?_
      refine g_iastore B dX6_add_35 (fun M_5 => ?_)
      refine g_aload_n B dX6_add_36 1 rfl ?_
      refine g_getR (ci := 6) (T0 := TX6) (N := 3) B (by decide) rfl in_6 (k := 0) (by decide) rfl wd_123 (fun _ h => h) dX6_add_37 (fun v_6 => ?_)
      refine g_iload B dX6_add_40 0 rfl ?_
      refine g_iconst (v := 1) B dX6_add_42 (by decide) ?_
      refine g_iadd B dX6_add_43 ?_
      refine g_iload_n B dX6_add_44 3 rfl ?_
      refine g_iastore B dX6_add_45 (fun M_7 => ?_)
      refine g_aload_n B dX6_add_46 1 rfl ?_
      refine g_getR (ci := 6) (T0 := TX6) (N := 3) B (by decide) rfl in_6 (k := 0) (by decide) rfl wd_123 (fun _ h => h) dX6_add_47 (fun v_8 => ?_)
      refine g_iload B dX6_add_50 0 rfl ?_
      refine g_iconst (v := 2) B dX6_add_52 (by decide) ?_
      refine g_iadd B dX6_add_53 ?_
      refine g_iload_n B dX6_add_54 4 rfl ?_
      refine g_iastore B dX6_add_55 (fun M_9 => ?_)
      refine g_aload_n B dX6_add_56 1 rfl ?_
      refine g_getR (ci := 6) (T0 := TX6) (N := 3) B (by decide) rfl in_6 (k := 0) (by decide) rfl wd_123 (fun _ h => h) dX6_add_57 (fun v_10 => ?_)
      refine g_iload B dX6_add_60 0 rfl ?_
      refine g_iconst (v := 3) B dX6_add_62 (by decide) ?_
      refine g_iadd B dX6_add_63 ?_
      refine g_iload B dX6_add_64 5 rfl ?_
      refine g_if_eq B 73 dX6_add_66 (by decide) ?_ ?_
      · refine g_iconst (v := 0) B dX6_add_73 (by decide) ?_
        refine g_sub (lv' := [(0, .ref a0), (5, .int x5), (6, .int (v_1 * 5))]) [1, 6, 0] rfl ?_
        exact g6_add_J74 B hS9 hr a0 x5 (v_1 * 5) v_10 ((v_1 * 5) + 3) 0 M_9
      · refine g_iconst (v := 1) B dX6_add_69 (by decide) ?_
        refine g_goto B 74 dX6_add_70 (by decide) ?_
        refine g_sub (lv' := [(0, .ref a0), (5, .int x5), (6, .int (v_1 * 5))]) [1, 6, 0] rfl ?_
        exact g6_add_J74 B hS9 hr a0 x5 (v_1 * 5) v_10 ((v_1 * 5) + 3) 1 M_9
    · refine g_sub (lv' := []) [] rfl ?_
      exact g6_add_J25 B hS9 hr M
theorem mf6_add : gMF yX6_add cX6_add 7 (none) 5 := ⟨wd_547, wd_4, ⟨by decide, by decide⟩, by decide +kernel⟩
theorem c6_add (X : gX) (l : Launch) (a0 : Nat) (x1 : Int32) (x2 : Int32) (x3 : Int32) (x4 : Int32) (x5 : Int32) (M : mMem) : Con X l yX6_add cX6_add 7 (none) rm6_add (fun M9 : mMem => (none, M9)) [.ref a0, .int x1, .int x2, .int x3, .int x4, .int x5] M (p6_add a0 x1 x2 x3 x4 x5 M) := g_con (own := RX6) (by decide +kernel) rfl (Nat.le_of_ble_eq_true rfl) (fun p e s m args below meth c B hS9 hr hn => g6_add B hS9 hr a0 x1 x2 x3 x4 x5 M)
set_option maxRecDepth 20000 in
set_option maxHeartbeats 2000000 in
theorem g2_tell_J75 {X : gX} {p : Program} {l : Launch} {e : Env} {s : State} {m : MethodId} {args : Array Value} {below : List Frame} {meth : Method} {c : Code} (B : gB X p (rm2_tell) s m args meth c RX2 cX2_tell 6 (rm2_tell)) (hS9 : gS X s) (hr : meth.sig.returnType = some .int) (a0 : Nat) (x1 : Int32) (x2 : Int32) (x3 : Int32) (x4 : Int32) (a5 : Nat) (M : mMem) : GG X p l e (rm2_tell) s m args below meth c (gP X below args s 0 0 (fun r9 : (Int32 × mMem) => (some (.int r9.1), r9.2))) 6 0 0 75 [(0, .ref a0), (1, .int x1), (2, .int x2), (3, .int x3), (4, .int x4), (5, .ref a5)] [] M (p2_tell_J75 a0 x1 x2 x3 x4 a5 M) := by
  unfold p2_tell_J75
  refine g_aload B dX2_tell_75 5 rfl ?_
  refine g_aload_n B dX2_tell_77 0 rfl ?_
  refine g_aload B dX2_tell_78 5 rfl ?_
  refine g_getI (ci := 8) (T0 := TX8) (N := 9) B (by decide) rfl in_8 (k := 0) (by decide) rfl wd_53 (fun _ h => h) dX2_tell_80 (fun v_1 => ?_)
  refine g_iload B dX2_tell_83 4 rfl ?_
  refine g_iload_n B dX2_tell_85 3 rfl ?_
  refine g_callV_ip [.int v_1, .int x4, .int x3] (ci := 2) (T0 := TX2) (N := 11) B hS9 mf2_moved wd_541 (gw B wd_542) wd_540 (by decide) rfl (fun h => (gd_ne h).1) (c2_moved X l a0 v_1 x4 x3 M) (by decide) (by decide) (by decide) rfl (Nat.le_of_ble_eq_true rfl) dX2_tell_86 rfl (fun v_2 => ?_)
  refine g_putI (ci := 8) (T0 := TX8) (N := 9) B (by decide) rfl in_8 tyX8 tyX8_ok nmX8 (k := 0) (by decide) wd_53 (fun _ h => h) rfl rfl (ty := .int) (by decide +kernel) rfl rfl dX2_tell_89 (fun M_3 => ?_)
  refine g_aload_n B dX2_tell_92 0 rfl ?_
  refine g_getR (ci := 2) (T0 := TX2) (N := 11) B (by decide) rfl in_2 (k := 3) (by decide) rfl wd_137 (fun _ h => h) dX2_tell_93 (fun v_4 => ?_)
  refine g_aload_n B dX2_tell_96 0 rfl ?_
  refine g_getI (ci := 2) (T0 := TX2) (N := 11) B (by decide) rfl in_2 (k := 8) (by decide) rfl wd_159 (fun _ h => h) dX2_tell_97 (fun v_5 => ?_)
  refine g_iload_n B dX2_tell_100 1 rfl ?_
  refine g_iload_n B dX2_tell_101 2 rfl ?_
  refine g_iload_n B dX2_tell_102 3 rfl ?_
  refine g_aload B dX2_tell_103 5 rfl ?_
  refine g_getI (ci := 8) (T0 := TX8) (N := 9) B (by decide) rfl in_8 (k := 0) (by decide) rfl wd_53 (fun _ h => h) dX2_tell_105 (fun v_6 => ?_)
  refine g_callV_vw [.int v_5, .int x1, .int x2, .int x3, .int v_6] (ci := 6) (T0 := TX6) (N := 3) B hS9 mf6_add wd_545 (gw B wd_546) wd_544 (by decide) rfl (fun h => (gd_ne h).1) (c6_add X l v_4 v_5 x1 x2 x3 v_6 M_3) (by decide) (by decide) (by decide) rfl (by decide) dX2_tell_108 rfl (fun q_7 => ?_)
  refine g_aload B dX2_tell_111 5 rfl ?_
  refine g_getI (ci := 8) (T0 := TX8) (N := 9) B (by decide) rfl in_8 (k := 0) (by decide) rfl wd_53 (fun _ h => h) dX2_tell_113 (fun v_8 => ?_)
  exact g_ireturn B hr rfl (by decide) (by decide) rfl dX2_tell_116
set_option maxRecDepth 20000 in
set_option maxHeartbeats 2000000 in
theorem g2_tell_J43 {X : gX} {p : Program} {l : Launch} {e : Env} {s : State} {m : MethodId} {args : Array Value} {below : List Frame} {meth : Method} {c : Code} (B : gB X p (rm2_tell) s m args meth c RX2 cX2_tell 6 (rm2_tell)) (hS9 : gS X s) (hr : meth.sig.returnType = some .int) (a0 : Nat) (x1 : Int32) (x2 : Int32) (x3 : Int32) (x4 : Int32) (a5 : Nat) (M : mMem) : GG X p l e (rm2_tell) s m args below meth c (gP X below args s 0 0 (fun r9 : (Int32 × mMem) => (some (.int r9.1), r9.2))) 6 0 0 43 [(0, .ref a0), (1, .int x1), (2, .int x2), (3, .int x3), (4, .int x4), (5, .ref a5)] [] M (p2_tell_J43 a0 x1 x2 x3 x4 a5 M) := by
  unfold p2_tell_J43
  refine g_iload_n B dX2_tell_43 3 rfl ?_
  refine g_if_ne B 75 dX2_tell_44 (by decide) ?_ ?_
  · refine g_aload B dX2_tell_47 5 rfl ?_
    refine g_getI (ci := 8) (T0 := TX8) (N := 9) B (by decide) rfl in_8 (k := 0) (by decide) rfl wd_53 (fun _ h => h) dX2_tell_49 (fun v_1 => ?_)
    refine g_iload B dX2_tell_52 4 rfl ?_
    refine g_isub B dX2_tell_54 ?_
    refine g_if_ge B 75 dX2_tell_55 (by decide) ?_ ?_
    · refine g_aload B dX2_tell_58 5 rfl ?_
      refine g_bipush (v := 99) B dX2_tell_60 (by decide) ?_
      refine g_aload B dX2_tell_62 5 rfl ?_
      refine g_getI (ci := 8) (T0 := TX8) (N := 9) B (by decide) rfl in_8 (k := 1) (by decide) rfl wd_61 (fun _ h => h) dX2_tell_64 (fun v_2 => ?_)
      refine g_iconst (v := 1) B dX2_tell_67 (by decide) ?_
      refine g_iadd B dX2_tell_68 ?_
      refine g_min B wd_537 wd_538 wd_15 wd_539 (by decide) (Nat.le_of_ble_eq_true rfl) (by decide) dX2_tell_69 ?_
      refine g_putI (ci := 8) (T0 := TX8) (N := 9) B (by decide) rfl in_8 tyX8 tyX8_ok nmX8 (k := 1) (by decide) wd_61 (fun _ h => h) rfl rfl (ty := .int) (by decide +kernel) rfl rfl dX2_tell_72 (fun M_3 => ?_)
      refine g_sub (lv' := [(0, .ref a0), (1, .int x1), (2, .int x2), (3, .int x3), (4, .int x4), (5, .ref a5)]) [0, 1, 2, 3, 4, 5] rfl ?_
      exact g2_tell_J75 B hS9 hr a0 x1 x2 x3 x4 a5 M_3
    · refine g_sub (lv' := [(0, .ref a0), (1, .int x1), (2, .int x2), (3, .int x3), (4, .int x4), (5, .ref a5)]) [0, 1, 2, 3, 4, 5] rfl ?_
      exact g2_tell_J75 B hS9 hr a0 x1 x2 x3 x4 a5 M
  · refine g_sub (lv' := [(0, .ref a0), (1, .int x1), (2, .int x2), (3, .int x3), (4, .int x4), (5, .ref a5)]) [0, 1, 2, 3, 4, 5] rfl ?_
    exact g2_tell_J75 B hS9 hr a0 x1 x2 x3 x4 a5 M
set_option maxRecDepth 20000 in
set_option maxHeartbeats 2000000 in
theorem g2_tell {X : gX} {p : Program} {l : Launch} {e : Env} {s : State} {m : MethodId} {args : Array Value} {below : List Frame} {meth : Method} {c : Code} (B : gB X p (rm2_tell) s m args meth c RX2 cX2_tell 6 (rm2_tell)) (hS9 : gS X s) (hr : meth.sig.returnType = some .int) (a0 : Nat) (x1 : Int32) (x2 : Int32) (x3 : Int32) (x4 : Int32) (M : mMem) : GG X p l e (rm2_tell) s m args below meth c (gP X below args s 0 0 (fun r9 : (Int32 × mMem) => (some (.int r9.1), r9.2))) 6 0 0 0 [(0, .ref a0), (1, .int x1), (2, .int x2), (3, .int x3), (4, .int x4)] [] M (p2_tell a0 x1 x2 x3 x4 M) := by
  unfold p2_tell
  refine g_gd ?_
  refine g_aload_n B dX2_tell_0 0 rfl ?_
  refine g_iload_n B dX2_tell_1 2 rfl ?_
  refine g_callV_ap [.int x2] (ci := 2) (T0 := TX2) (N := 11) B hS9 mf2_at wd_466 (gw B wd_467) wd_465 (by decide) rfl (fun h => (gd_ne h).1) (c2_at X l a0 x2 M) (by decide) (by decide) (by decide) rfl (by decide) dX2_tell_2 rfl (fun v_1 => ?_)
  refine g_astore (lv' := [(5, .ref v_1), (0, .ref a0), (1, .int x1), (2, .int x2), (3, .int x3), (4, .int x4)]) B dX2_tell_5 (by decide) [0, 1, 2, 3, 4, 5] rfl ?_
  refine g_iload_n B dX2_tell_7 4 rfl ?_
  refine g_if_eq B 43 dX2_tell_8 (by decide) ?_ ?_
  · refine g_sub (lv' := [(0, .ref a0), (1, .int x1), (2, .int x2), (3, .int x3), (4, .int x4), (5, .ref v_1)]) [1, 2, 3, 4, 5, 0] rfl ?_
    exact g2_tell_J43 B hS9 hr a0 x1 x2 x3 x4 v_1 M
  · refine g_aload B dX2_tell_11 0 rfl ?_
    refine g_getI (ci := 8) (T0 := TX8) (N := 9) B (by decide) rfl in_8 (k := 0) (by decide) rfl wd_53 (fun _ h => h) dX2_tell_13 (fun v_2 => ?_)
    refine g_iload B dX2_tell_16 5 rfl ?_
    refine g_iadd B dX2_tell_18 ?_
    refine g_aload_n B dX2_tell_19 1 rfl ?_
    refine g_getI (ci := 2) (T0 := TX2) (N := 11) B (by decide) rfl in_2 (k := 5) (by decide) rfl wd_146 (fun _ h => h) dX2_tell_20 (fun v_3 => ?_)
    refine g_icmp_lt B 43 dX2_tell_23 (by decide) ?_ ?_
    · refine g_sub (lv' := [(0, .ref a0), (1, .int x1), (2, .int x2), (3, .int x3), (4, .int x4), (5, .ref v_1)]) [1, 2, 3, 4, 5, 0] rfl ?_
      exact g2_tell_J43 B hS9 hr a0 x1 x2 x3 x4 v_1 M
    · refine g_aload B dX2_tell_26 0 rfl ?_
      refine g_bipush (v := (-99)) B dX2_tell_28 (by decide) ?_
      refine g_aload B dX2_tell_30 0 rfl ?_
      refine g_getI (ci := 8) (T0 := TX8) (N := 9) B (by decide) rfl in_8 (k := 1) (by decide) rfl wd_61 (fun _ h => h) dX2_tell_32 (fun v_4 => ?_)
      refine g_iconst (v := 1) B dX2_tell_35 (by decide) ?_
      refine g_isub B dX2_tell_36 ?_
      refine g_max B wd_536 wd_516 wd_15 wd_517 (by decide) (Nat.le_of_ble_eq_true rfl) (by decide) dX2_tell_37 ?_
      refine g_putI (ci := 8) (T0 := TX8) (N := 9) B (by decide) rfl in_8 tyX8 tyX8_ok nmX8 (k := 1) (by decide) wd_61 (fun _ h => h) rfl rfl (ty := .int) (by decide +kernel) rfl rfl dX2_tell_40 (fun M_5 => ?_)
      refine g_sub (lv' := [(0, .ref a0), (1, .int x1), (2, .int x2), (3, .int x3), (4, .int x4), (5, .ref v_1)]) [1, 2, 3, 4, 5, 0] rfl ?_
      exact g2_tell_J43 B hS9 hr a0 x1 x2 x3 x4 v_1 M_5
theorem mf2_tell : gMF yX2_tell cX2_tell 6 (some .int) 4 := ⟨wd_535, wd_2, ⟨by decide, by decide⟩, by decide +kernel⟩
theorem c2_tell (X : gX) (l : Launch) (a0 : Nat) (x1 : Int32) (x2 : Int32) (x3 : Int32) (x4 : Int32) (M : mMem) : Con X l yX2_tell cX2_tell 6 (some .int) rm2_tell (fun r9 : (Int32 × mMem) => (some (.int r9.1), r9.2)) [.ref a0, .int x1, .int x2, .int x3, .int x4] M (p2_tell a0 x1 x2 x3 x4 M) := g_con (own := RX2) (by decide +kernel) rfl (Nat.le_of_ble_eq_true rfl) (fun p e s m args below meth c B hS9 hr hn => g2_tell B hS9 hr a0 x1 x2 x3 x4 M)
set_option maxRecDepth 20000 in
set_option maxHeartbeats 2000000 in
theorem g2_endDay {X : gX} {p : Program} {l : Launch} {e : Env} {s : State} {m : MethodId} {args : Array Value} {below : List Frame} {meth : Method} {c : Code} (B : gB X p (rm2_endDay) s m args meth c RX2 cX2_endDay 1 (rm2_endDay)) (hS9 : gS X s) (hr : meth.sig.returnType = none) (a0 : Nat) (M : mMem) : GG X p l e (rm2_endDay) s m args below meth c (gP X below args s 0 0 (fun M9 : mMem => (none, M9))) 1 0 0 0 [(0, .ref a0)] [] M (p2_endDay a0 M) := by
  unfold p2_endDay
  refine g_gd ?_
  refine g_aload_n B dX2_endDay_0 0 rfl ?_
  refine g_sipush (v := 9999) B dX2_endDay_1 (by decide) ?_
  refine g_aload_n B dX2_endDay_4 0 rfl ?_
  refine g_getI (ci := 2) (T0 := TX2) (N := 11) B (by decide) rfl in_2 (k := 8) (by decide) rfl wd_159 (fun _ h => h) dX2_endDay_5 (fun v_1 => ?_)
  refine g_iconst (v := 1) B dX2_endDay_8 (by decide) ?_
  refine g_iadd B dX2_endDay_9 ?_
  refine g_min B wd_537 wd_538 wd_15 wd_539 (by decide) (Nat.le_of_ble_eq_true rfl) (by decide) dX2_endDay_10 ?_
  refine g_putI (ci := 2) (T0 := TX2) (N := 11) B (by decide) rfl in_2 tyX2 tyX2_ok nmX2 (k := 8) (by decide) wd_159 (fun _ h => h) rfl rfl (ty := .int) (by decide +kernel) rfl rfl dX2_endDay_13 (fun M_2 => ?_)
  exact g_vreturn B hr (by decide) (by decide) rfl dX2_endDay_16
theorem mf2_endDay : gMF yX2_endDay cX2_endDay 1 (none) 0 := ⟨wd_552, wd_2, ⟨by decide, by decide⟩, by decide +kernel⟩
theorem c2_endDay (X : gX) (l : Launch) (a0 : Nat) (M : mMem) : Con X l yX2_endDay cX2_endDay 1 (none) rm2_endDay (fun M9 : mMem => (none, M9)) [.ref a0] M (p2_endDay a0 M) := g_con (own := RX2) (by decide +kernel) rfl (Nat.le_of_ble_eq_true rfl) (fun p e s m args below meth c B hS9 hr hn => g2_endDay B hS9 hr a0 M)
set_option maxRecDepth 20000 in
set_option maxHeartbeats 2000000 in
theorem g2_inCrib_J33 {X : gX} {p : Program} {l : Launch} {e : Env} {s : State} {m : MethodId} {args : Array Value} {below : List Frame} {meth : Method} {c : Code} (B : gB X p (rm2_inCrib) s m args meth c RX2 cX2_inCrib 3 (rm2_inCrib)) (hS9 : gS X s) (hr : meth.sig.returnType = some .int) {M : mMem} (rec4 : Nat → Int32 → Int32 → Option Int32) (hrec4 : ∀ (a0 : Nat) (x1 : Int32) (x2 : Int32), GG X p l e (rm2_inCrib) s m args below meth c (gP X below args s 0 0 (fun r9 : Int32 => (some (.int r9), M))) 3 0 0 4 [(0, .ref a0), (1, .int x1), (2, .int x2)] [] M (rec4 a0 x1 x2)) (a0 : Nat) (x1 : Int32) (x2 : Int32) : GG X p l e (rm2_inCrib) s m args below meth c (gP X below args s 0 0 (fun r9 : Int32 => (some (.int r9), M))) 3 0 0 33 [(0, .ref a0), (1, .int x1), (2, .int x2)] [] M (p2_inCrib_J33 M rec4 a0 x1 x2) := by
  unfold p2_inCrib_J33
  refine g_iinc (v := (x2 + 1)) (lv' := [(2, .int (x2 + 1)), (0, .ref a0), (1, .int x1)]) B dX2_inCrib_33 2 rfl rfl (by decide) [0, 1, 2] rfl ?_
  refine g_goto B 4 dX2_inCrib_36 (by decide) ?_
  refine g_sub (lv' := [(0, .ref a0), (1, .int x1), (2, .int (x2 + 1))]) [1, 2, 0] rfl ?_
  exact hrec4 a0 x1 (x2 + 1)
set_option maxRecDepth 20000 in
set_option maxHeartbeats 2000000 in
theorem g2_inCrib_L4 {X : gX} {p : Program} {l : Launch} {e : Env} {s : State} {m : MethodId} {args : Array Value} {below : List Frame} {meth : Method} {c : Code} (B : gB X p (rm2_inCrib) s m args meth c RX2 cX2_inCrib 3 (rm2_inCrib)) (hS9 : gS X s) (hr : meth.sig.returnType = some .int) {M : mMem} : ∀ (n : Nat) (a0 : Nat) (x1 : Int32) (x2 : Int32), GG X p l e (rm2_inCrib) s m args below meth c (gP X below args s 0 0 (fun r9 : Int32 => (some (.int r9), M))) 3 0 0 4 [(0, .ref a0), (1, .int x1), (2, .int x2)] [] M (p2_inCrib_L4 M n a0 x1 x2) := by
  intro n
  induction n with
  | zero => intro a0 x1 x2; exact g_none
  | succ n ih =>
    intro a0 x1 x2
    rw [p2_inCrib_L4]
    refine g_iload_n B dX2_inCrib_4 2 rfl ?_
    refine g_aload_n B dX2_inCrib_5 0 rfl ?_
    refine g_getI (ci := 2) (T0 := TX2) (N := 11) B (by decide) rfl in_2 (k := 4) (by decide) rfl wd_139 (fun _ h => h) dX2_inCrib_6 (fun v_1 => ?_)
    refine g_icmp_ge B 39 dX2_inCrib_9 (by decide) ?_ ?_
    · refine g_aload_n B dX2_inCrib_12 0 rfl ?_
      refine g_iload_n B dX2_inCrib_13 2 rfl ?_
      refine g_callV_ap [.int x2] (ci := 2) (T0 := TX2) (N := 11) B hS9 mf2_at wd_466 (gw B wd_467) wd_465 (by decide) rfl (fun h => (gd_ne h).1) (c2_at X l a0 x2 M) (by decide) (by decide) (by decide) rfl (by decide) dX2_inCrib_14 rfl (fun v_2 => ?_)
      refine g_getI (ci := 8) (T0 := TX8) (N := 9) B (by decide) rfl in_8 (k := 0) (by decide) rfl wd_53 (fun _ h => h) dX2_inCrib_17 (fun v_3 => ?_)
      refine g_aload_n B dX2_inCrib_20 0 rfl ?_
      refine g_getI (ci := 2) (T0 := TX2) (N := 11) B (by decide) rfl in_2 (k := 6) (by decide) rfl wd_150 (fun _ h => h) dX2_inCrib_21 (fun v_4 => ?_)
      refine g_icmp_ge B 33 dX2_inCrib_24 (by decide) ?_ ?_
      · refine g_iload_n B dX2_inCrib_27 1 rfl ?_
        refine g_iconst (v := 1) B dX2_inCrib_28 (by decide) ?_
        refine g_iload_n B dX2_inCrib_29 2 rfl ?_
        refine g_ishl B dX2_inCrib_30 ?_
        refine g_ior B dX2_inCrib_31 ?_
        refine g_istore_n (lv' := [(1, .int (x1 ||| (1 <<< (x2 &&& 31)))), (0, .ref a0), (2, .int x2)]) B dX2_inCrib_32 (by decide) [0, 1, 2] rfl ?_
        refine g_sub (lv' := [(0, .ref a0), (1, .int (x1 ||| (1 <<< (x2 &&& 31)))), (2, .int x2)]) [1, 0, 2] rfl ?_
        exact g2_inCrib_J33 B hS9 hr (p2_inCrib_L4 M n) ih a0 (x1 ||| (1 <<< (x2 &&& 31))) x2
      · refine g_sub (lv' := [(0, .ref a0), (1, .int x1), (2, .int x2)]) [0, 1, 2] rfl ?_
        exact g2_inCrib_J33 B hS9 hr (p2_inCrib_L4 M n) ih a0 x1 x2
    · refine g_iload_n B dX2_inCrib_39 1 rfl ?_
      exact g_ireturn B hr rfl (by decide) (by decide) rfl dX2_inCrib_40
set_option maxRecDepth 20000 in
set_option maxHeartbeats 2000000 in
theorem g2_inCrib {X : gX} {p : Program} {l : Launch} {e : Env} {s : State} {m : MethodId} {args : Array Value} {below : List Frame} {meth : Method} {c : Code} (B : gB X p (rm2_inCrib) s m args meth c RX2 cX2_inCrib 3 (rm2_inCrib)) (hS9 : gS X s) (hr : meth.sig.returnType = some .int) {M : mMem} (a0 : Nat) : GG X p l e (rm2_inCrib) s m args below meth c (gP X below args s 0 0 (fun r9 : Int32 => (some (.int r9), M))) 3 0 0 0 [(0, .ref a0)] [] M (p2_inCrib a0 M) := by
  unfold p2_inCrib
  refine g_gd ?_
  refine g_iconst (v := 0) B dX2_inCrib_0 (by decide) ?_
  refine g_istore_n (lv' := [(1, .int 0), (0, .ref a0)]) B dX2_inCrib_1 (by decide) [0, 1] rfl ?_
  refine g_iconst (v := 0) B dX2_inCrib_2 (by decide) ?_
  refine g_istore_n (lv' := [(2, .int 0), (1, .int 0), (0, .ref a0)]) B dX2_inCrib_3 (by decide) [0, 1, 2] rfl ?_
  refine g_sub (lv' := [(0, .ref a0), (1, .int 0), (2, .int 0)]) [2, 1, 0] rfl ?_
  exact (g2_inCrib_L4 B hS9 hr) gF a0 0 0
theorem mf2_inCrib : gMF yX2_inCrib cX2_inCrib 3 (some .int) 0 := ⟨wd_484, wd_2, ⟨by decide, by decide⟩, by decide +kernel⟩
theorem c2_inCrib (X : gX) (l : Launch) (a0 : Nat) (M : mMem) : Con X l yX2_inCrib cX2_inCrib 3 (some .int) rm2_inCrib (fun r9 : Int32 => (some (.int r9), M)) [.ref a0] M (p2_inCrib a0 M) := g_con (own := RX2) (by decide +kernel) rfl (Nat.le_of_ble_eq_true rfl) (fun p e s m args below meth c B hS9 hr hn => g2_inCrib B hS9 hr a0)
set_option maxRecDepth 20000 in
set_option maxHeartbeats 2000000 in
theorem g2_agesTogether_L4 {X : gX} {p : Program} {l : Launch} {e : Env} {s : State} {m : MethodId} {args : Array Value} {below : List Frame} {meth : Method} {c : Code} (B : gB X p (rm2_agesTogether) s m args meth c RX2 cX2_agesTogether 3 (rm2_agesTogether)) (hS9 : gS X s) (hr : meth.sig.returnType = some .int) {M : mMem} : ∀ (n : Nat) (a0 : Nat) (x1 : Int32) (x2 : Int32), GG X p l e (rm2_agesTogether) s m args below meth c (gP X below args s 0 0 (fun r9 : Int32 => (some (.int r9), M))) 3 0 0 4 [(0, .ref a0), (1, .int x1), (2, .int x2)] [] M (p2_agesTogether_L4 M n a0 x1 x2) := by
  intro n
  induction n with
  | zero => intro a0 x1 x2; exact g_none
  | succ n ih =>
    intro a0 x1 x2
    rw [p2_agesTogether_L4]
    refine g_iload_n B dX2_agesTogether_4 2 rfl ?_
    refine g_aload_n B dX2_agesTogether_5 0 rfl ?_
    refine g_getI (ci := 2) (T0 := TX2) (N := 11) B (by decide) rfl in_2 (k := 4) (by decide) rfl wd_139 (fun _ h => h) dX2_agesTogether_6 (fun v_1 => ?_)
    refine g_icmp_ge B 29 dX2_agesTogether_9 (by decide) ?_ ?_
    · refine g_iload_n B dX2_agesTogether_12 1 rfl ?_
      refine g_aload_n B dX2_agesTogether_13 0 rfl ?_
      refine g_iload_n B dX2_agesTogether_14 2 rfl ?_
      refine g_callV_ap [.int x2] (ci := 2) (T0 := TX2) (N := 11) B hS9 mf2_at wd_466 (gw B wd_467) wd_465 (by decide) rfl (fun h => (gd_ne h).1) (c2_at X l a0 x2 M) (by decide) (by decide) (by decide) rfl (Nat.le_of_ble_eq_true rfl) dX2_agesTogether_15 rfl (fun v_2 => ?_)
      refine g_getI (ci := 8) (T0 := TX8) (N := 9) B (by decide) rfl in_8 (k := 0) (by decide) rfl wd_53 (fun _ h => h) dX2_agesTogether_18 (fun v_3 => ?_)
      refine g_iadd B dX2_agesTogether_21 ?_
      refine g_istore_n (lv' := [(1, .int (x1 + v_3)), (0, .ref a0), (2, .int x2)]) B dX2_agesTogether_22 (by decide) [0, 1, 2] rfl ?_
      refine g_iinc (v := (x2 + 1)) (lv' := [(2, .int (x2 + 1)), (1, .int (x1 + v_3)), (0, .ref a0)]) B dX2_agesTogether_23 2 rfl rfl (by decide) [0, 1, 2] rfl ?_
      refine g_goto B 4 dX2_agesTogether_26 (by decide) ?_
      refine g_sub (lv' := [(0, .ref a0), (1, .int (x1 + v_3)), (2, .int (x2 + 1))]) [2, 1, 0] rfl ?_
      exact ih a0 (x1 + v_3) (x2 + 1)
    · refine g_iload_n B dX2_agesTogether_29 1 rfl ?_
      exact g_ireturn B hr rfl (by decide) (by decide) rfl dX2_agesTogether_30
set_option maxRecDepth 20000 in
set_option maxHeartbeats 2000000 in
theorem g2_agesTogether {X : gX} {p : Program} {l : Launch} {e : Env} {s : State} {m : MethodId} {args : Array Value} {below : List Frame} {meth : Method} {c : Code} (B : gB X p (rm2_agesTogether) s m args meth c RX2 cX2_agesTogether 3 (rm2_agesTogether)) (hS9 : gS X s) (hr : meth.sig.returnType = some .int) {M : mMem} (a0 : Nat) : GG X p l e (rm2_agesTogether) s m args below meth c (gP X below args s 0 0 (fun r9 : Int32 => (some (.int r9), M))) 3 0 0 0 [(0, .ref a0)] [] M (p2_agesTogether a0 M) := by
  unfold p2_agesTogether
  refine g_gd ?_
  refine g_iconst (v := 0) B dX2_agesTogether_0 (by decide) ?_
  refine g_istore_n (lv' := [(1, .int 0), (0, .ref a0)]) B dX2_agesTogether_1 (by decide) [0, 1] rfl ?_
  refine g_iconst (v := 0) B dX2_agesTogether_2 (by decide) ?_
  refine g_istore_n (lv' := [(2, .int 0), (1, .int 0), (0, .ref a0)]) B dX2_agesTogether_3 (by decide) [0, 1, 2] rfl ?_
  refine g_sub (lv' := [(0, .ref a0), (1, .int 0), (2, .int 0)]) [2, 1, 0] rfl ?_
  exact (g2_agesTogether_L4 B hS9 hr) gF a0 0 0
theorem mf2_agesTogether : gMF yX2_agesTogether cX2_agesTogether 3 (some .int) 0 := ⟨wd_662, wd_2, ⟨by decide, by decide⟩, by decide +kernel⟩
theorem c2_agesTogether (X : gX) (l : Launch) (a0 : Nat) (M : mMem) : Con X l yX2_agesTogether cX2_agesTogether 3 (some .int) rm2_agesTogether (fun r9 : Int32 => (some (.int r9), M)) [.ref a0] M (p2_agesTogether a0 M) := g_con (own := RX2) (by decide +kernel) rfl (Nat.le_of_ble_eq_true rfl) (fun p e s m args below meth c B hS9 hr hn => g2_agesTogether B hS9 hr a0)
set_option maxRecDepth 20000 in
set_option maxHeartbeats 2000000 in
theorem g2_add {X : gX} {p : Program} {l : Launch} {e : Env} {s : State} {m : MethodId} {args : Array Value} {below : List Frame} {meth : Method} {c : Code} (B : gB X p (rm2_add) s m args meth c RX2 cX2_add 5 (rm2_add)) (hS9 : gS X s) (hr : meth.sig.returnType = some .int) (a0 : Nat) (x1 : Int32) (x2 : Int32) (x3 : Int32) (M : mMem) : GG X p l e (rm2_add) s m args below meth c (gP X below args s 0 0 (fun r9 : (Int32 × mMem) => (some (.int r9.1), r9.2))) 5 0 0 0 [(0, .ref a0), (1, .int x1), (2, .int x2), (3, .int x3)] [] M (p2_add a0 x1 x2 x3 M) := by
  unfold p2_add
  refine g_gd ?_
  refine g_aload_n B dX2_add_0 0 rfl ?_
  refine g_aload_n B dX2_add_1 0 rfl ?_
  refine g_getI (ci := 2) (T0 := TX2) (N := 11) B (by decide) rfl in_2 (k := 4) (by decide) rfl wd_139 (fun _ h => h) dX2_add_2 (fun v_1 => ?_)
  refine g_callV_ap [.int v_1] (ci := 2) (T0 := TX2) (N := 11) B hS9 mf2_at wd_466 (gw B wd_467) wd_465 (by decide) rfl (fun h => (gd_ne h).1) (c2_at X l a0 v_1 M) (by decide) (by decide) (by decide) rfl (by decide) dX2_add_5 rfl (fun v_2 => ?_)
  refine g_astore (lv' := [(4, .ref v_2), (0, .ref a0), (1, .int x1), (2, .int x2), (3, .int x3)]) B dX2_add_8 (by decide) [0, 1, 2, 3, 4] rfl ?_
  refine g_aload B dX2_add_10 0 rfl ?_
  refine g_aload_n B dX2_add_12 1 rfl ?_
  refine g_getR (ci := 2) (T0 := TX2) (N := 11) B (by decide) rfl in_2 (k := 1) (by decide) rfl wd_135 (fun _ h => h) dX2_add_13 (fun v_3 => ?_)
  refine g_callV_vw [.ref v_3] (ci := 8) (T0 := TX8) (N := 9) B hS9 mf8_take wd_470 (gw B wd_471) wd_469 (by decide) rfl (fun h => (gd_ne h).1) (c8_take X l v_2 v_3 M) (by decide) (by decide) (by decide) rfl (by decide) dX2_add_16 rfl (fun q_4 => ?_)
  refine g_aload B dX2_add_19 0 rfl ?_
  refine g_iload_n B dX2_add_21 2 rfl ?_
  refine g_putI (ci := 8) (T0 := TX8) (N := 9) B (by decide) rfl in_8 tyX8 tyX8_ok nmX8 (k := 2) (by decide) wd_66 (fun _ h => h) rfl rfl (ty := .int) (by decide +kernel) rfl rfl dX2_add_22 (fun M_5 => ?_)
  refine g_aload B dX2_add_25 0 rfl ?_
  refine g_iload_n B dX2_add_27 3 rfl ?_
  refine g_putI (ci := 8) (T0 := TX8) (N := 9) B (by decide) rfl in_8 tyX8 tyX8_ok nmX8 (k := 0) (by decide) wd_53 (fun _ h => h) rfl rfl (ty := .int) (by decide +kernel) rfl rfl dX2_add_28 (fun M_6 => ?_)
  refine g_aload B dX2_add_31 0 rfl ?_
  refine g_iload_n B dX2_add_33 4 rfl ?_
  refine g_putI (ci := 8) (T0 := TX8) (N := 9) B (by decide) rfl in_8 tyX8 tyX8_ok nmX8 (k := 3) (by decide) wd_70 (fun _ h => h) rfl rfl (ty := .int) (by decide +kernel) rfl rfl dX2_add_34 (fun M_7 => ?_)
  refine g_aload_n B dX2_add_37 1 rfl ?_
  refine g_dup B dX2_add_38 rfl ?_
  refine g_getI (ci := 2) (T0 := TX2) (N := 11) B (by decide) rfl in_2 (k := 4) (by decide) rfl wd_139 (fun _ h => h) dX2_add_39 (fun v_8 => ?_)
  refine g_iconst (v := 1) B dX2_add_42 (by decide) ?_
  refine g_iadd B dX2_add_43 ?_
  refine g_putI (ci := 2) (T0 := TX2) (N := 11) B (by decide) rfl in_2 tyX2 tyX2_ok nmX2 (k := 4) (by decide) wd_139 (fun _ h => h) rfl rfl (ty := .int) (by decide +kernel) rfl rfl dX2_add_44 (fun M_9 => ?_)
  refine g_aload_n B dX2_add_47 1 rfl ?_
  refine g_getI (ci := 2) (T0 := TX2) (N := 11) B (by decide) rfl in_2 (k := 4) (by decide) rfl wd_139 (fun _ h => h) dX2_add_48 (fun v_10 => ?_)
  refine g_iconst (v := 1) B dX2_add_51 (by decide) ?_
  refine g_isub B dX2_add_52 ?_
  exact g_ireturn B hr rfl (by decide) (by decide) rfl dX2_add_53
theorem mf2_add : gMF yX2_add cX2_add 5 (some .int) 3 := ⟨wd_894, wd_2, ⟨by decide, by decide⟩, by decide +kernel⟩
theorem c2_add (X : gX) (l : Launch) (a0 : Nat) (x1 : Int32) (x2 : Int32) (x3 : Int32) (M : mMem) : Con X l yX2_add cX2_add 5 (some .int) rm2_add (fun r9 : (Int32 × mMem) => (some (.int r9.1), r9.2)) [.ref a0, .int x1, .int x2, .int x3] M (p2_add a0 x1 x2 x3 M) := g_con (own := RX2) (by decide +kernel) rfl (Nat.le_of_ble_eq_true rfl) (fun p e s m args below meth c B hS9 hr hn => g2_add B hS9 hr a0 x1 x2 x3 M)
set_option maxRecDepth 20000 in
set_option maxHeartbeats 2000000 in
theorem g2_gapOf_J28 {X : gX} {p : Program} {l : Launch} {e : Env} {s : State} {m : MethodId} {args : Array Value} {below : List Frame} {meth : Method} {c : Code} (B : gB X p (rm2_gapOf) s m args meth c RX2 cX2_gapOf 4 (rm2_gapOf)) (hS9 : gS X s) (hr : meth.sig.returnType = some .int) {M : mMem} (a0 : Nat) (u0 : Int32) : GG X p l e (rm2_gapOf) s m args below meth c (gP X below args s 0 0 (fun r9 : Int32 => (some (.int r9), M))) 4 0 0 28 [(0, .ref a0)] [.int u0] M (p2_gapOf_J28 M a0 u0) := by
  unfold p2_gapOf_J28
  refine g_istore_n (lv' := [(3, .int u0), (0, .ref a0)]) B dX2_gapOf_28 (by decide) [0, 1] rfl ?_
  refine g_iload_n B dX2_gapOf_29 0 rfl ?_
  refine g_aload_n B dX2_gapOf_30 1 rfl ?_
  refine g_getI (ci := 2) (T0 := TX2) (N := 11) B (by decide) rfl in_2 (k := 5) (by decide) rfl wd_146 (fun _ h => h) dX2_gapOf_31 (fun v_1 => ?_)
  refine g_iload_n B dX2_gapOf_34 0 rfl ?_
  refine g_isub B dX2_gapOf_35 ?_
  refine g_min B wd_537 wd_538 wd_15 wd_539 (by decide) (Nat.le_of_ble_eq_true rfl) (by decide) dX2_gapOf_36 ?_
  exact g_ireturn B hr rfl (by decide) (by decide) rfl dX2_gapOf_39
set_option maxRecDepth 20000 in
set_option maxHeartbeats 2000000 in
theorem g2_gapOf {X : gX} {p : Program} {l : Launch} {e : Env} {s : State} {m : MethodId} {args : Array Value} {below : List Frame} {meth : Method} {c : Code} (B : gB X p (rm2_gapOf) s m args meth c RX2 cX2_gapOf 4 (rm2_gapOf)) (hS9 : gS X s) (hr : meth.sig.returnType = some .int) {M : mMem} (a0 : Nat) (x1 : Int32) (x2 : Int32) : GG X p l e (rm2_gapOf) s m args below meth c (gP X below args s 0 0 (fun r9 : Int32 => (some (.int r9), M))) 4 0 0 0 [(0, .ref a0), (1, .int x1), (2, .int x2)] [] M (p2_gapOf a0 x1 x2 M) := by
  unfold p2_gapOf
  refine g_gd ?_
  refine g_aload_n B dX2_gapOf_0 0 rfl ?_
  refine g_iload_n B dX2_gapOf_1 1 rfl ?_
  refine g_callV_ap [.int x1] (ci := 2) (T0 := TX2) (N := 11) B hS9 mf2_at wd_466 (gw B wd_467) wd_465 (by decide) rfl (fun h => (gd_ne h).1) (c2_at X l a0 x1 M) (by decide) (by decide) (by decide) rfl (by decide) dX2_gapOf_2 rfl (fun v_1 => ?_)
  refine g_getI (ci := 8) (T0 := TX8) (N := 9) B (by decide) rfl in_8 (k := 0) (by decide) rfl wd_53 (fun _ h => h) dX2_gapOf_5 (fun v_2 => ?_)
  refine g_aload_n B dX2_gapOf_8 0 rfl ?_
  refine g_iload_n B dX2_gapOf_9 2 rfl ?_
  refine g_callV_ap [.int x2] (ci := 2) (T0 := TX2) (N := 11) B hS9 mf2_at wd_466 (gw B wd_467) wd_465 (by decide) rfl (fun h => (gd_ne h).1) (c2_at X l a0 x2 M) (by decide) (by decide) (by decide) rfl (Nat.le_of_ble_eq_true rfl) dX2_gapOf_10 rfl (fun v_3 => ?_)
  refine g_getI (ci := 8) (T0 := TX8) (N := 9) B (by decide) rfl in_8 (k := 0) (by decide) rfl wd_53 (fun _ h => h) dX2_gapOf_13 (fun v_4 => ?_)
  refine g_isub B dX2_gapOf_16 ?_
  refine g_istore_n (lv' := [(3, .int (v_2 - v_4)), (0, .ref a0), (1, .int x1), (2, .int x2)]) B dX2_gapOf_17 (by decide) [0, 1, 2, 3] rfl ?_
  refine g_iload_n B dX2_gapOf_18 0 rfl ?_
  refine g_if_ge B 27 dX2_gapOf_19 (by decide) ?_ ?_
  · refine g_iload_n B dX2_gapOf_22 0 rfl ?_
    refine g_ineg B dX2_gapOf_23 ?_
    refine g_goto B 28 dX2_gapOf_24 (by decide) ?_
    refine g_sub (lv' := [(0, .ref a0)]) [1] rfl ?_
    exact g2_gapOf_J28 B hS9 hr a0 (-(v_2 - v_4))
  · refine g_iload_n B dX2_gapOf_27 0 rfl ?_
    refine g_sub (lv' := [(0, .ref a0)]) [1] rfl ?_
    exact g2_gapOf_J28 B hS9 hr a0 (v_2 - v_4)
theorem mf2_gapOf : gMF yX2_gapOf cX2_gapOf 4 (some .int) 2 := ⟨wd_598, wd_2, ⟨by decide, by decide⟩, by decide +kernel⟩
theorem c2_gapOf (X : gX) (l : Launch) (a0 : Nat) (x1 : Int32) (x2 : Int32) (M : mMem) : Con X l yX2_gapOf cX2_gapOf 4 (some .int) rm2_gapOf (fun r9 : Int32 => (some (.int r9), M)) [.ref a0, .int x1, .int x2] M (p2_gapOf a0 x1 x2 M) := g_con (own := RX2) (by decide +kernel) rfl (Nat.le_of_ble_eq_true rfl) (fun p e s m args below meth c B hS9 hr hn => g2_gapOf B hS9 hr a0 x1 x2)
set_option maxRecDepth 20000 in
set_option maxHeartbeats 2000000 in
theorem g2_setGoverns_J55 {X : gX} {p : Program} {l : Launch} {e : Env} {s : State} {m : MethodId} {args : Array Value} {below : List Frame} {meth : Method} {c : Code} (B : gB X p (rm2_setGoverns) s m args meth c RX2 cX2_setGoverns 5 (rm2_setGoverns)) (hS9 : gS X s) (hr : meth.sig.returnType = none) (M : mMem) : GG X p l e (rm2_setGoverns) s m args below meth c (gP X below args s 0 0 (fun M9 : mMem => (none, M9))) 5 0 0 55 [] [] M (p2_setGoverns_J55 M) := by
  unfold p2_setGoverns_J55
  exact g_vreturn B hr (by decide) (by decide) rfl dX2_setGoverns_55
set_option maxRecDepth 20000 in
set_option maxHeartbeats 2000000 in
theorem g2_setGoverns_J52 {X : gX} {p : Program} {l : Launch} {e : Env} {s : State} {m : MethodId} {args : Array Value} {below : List Frame} {meth : Method} {c : Code} (B : gB X p (rm2_setGoverns) s m args meth c RX2 cX2_setGoverns 5 (rm2_setGoverns)) (hS9 : gS X s) (hr : meth.sig.returnType = none) (b0 : Nat) (u1 : Int32) (M : mMem) : GG X p l e (rm2_setGoverns) s m args below meth c (gP X below args s 0 0 (fun M9 : mMem => (none, M9))) 5 0 0 52 [] [.int u1, .ref b0] M (p2_setGoverns_J52 b0 u1 M) := by
  unfold p2_setGoverns_J52
  refine g_putI (ci := 8) (T0 := TX8) (N := 9) B (by decide) rfl in_8 tyX8 tyX8_ok nmX8 (k := 8) (by decide) wd_94 (fun _ h => h) rfl rfl (ty := .int) (by decide +kernel) rfl rfl dX2_setGoverns_52 (fun M_1 => ?_)
  refine g_sub (lv' := []) [] rfl ?_
  exact g2_setGoverns_J55 B hS9 hr M_1
set_option maxRecDepth 20000 in
set_option maxHeartbeats 2000000 in
theorem g2_setGoverns {X : gX} {p : Program} {l : Launch} {e : Env} {s : State} {m : MethodId} {args : Array Value} {below : List Frame} {meth : Method} {c : Code} (B : gB X p (rm2_setGoverns) s m args meth c RX2 cX2_setGoverns 5 (rm2_setGoverns)) (hS9 : gS X s) (hr : meth.sig.returnType = none) (a0 : Nat) (x1 : Int32) (x2 : Int32) (x3 : Int32) (M : mMem) : GG X p l e (rm2_setGoverns) s m args below meth c (gP X below args s 0 0 (fun M9 : mMem => (none, M9))) 5 0 0 0 [(0, .ref a0), (1, .int x1), (2, .int x2), (3, .int x3)] [] M (p2_setGoverns a0 x1 x2 x3 M) := by
  unfold p2_setGoverns
  refine g_gd ?_
  refine g_aload_n B dX2_setGoverns_0 0 rfl ?_
  refine g_iload_n B dX2_setGoverns_1 1 rfl ?_
  refine g_callV_ip [.int x1] (ci := 2) (T0 := TX2) (N := 11) B hS9 mf2_has wd_503 (gw B wd_504) wd_502 (by decide) rfl (fun h => (gd_ne h).1) (c2_has X l a0 x1 M) (by decide) (by decide) (by decide) rfl (by decide) dX2_setGoverns_2 rfl (fun v_1 => ?_)
  refine g_if_eq B 55 dX2_setGoverns_5 (by decide) ?_ ?_
  · refine g_sub (lv' := []) [] rfl ?_
    exact g2_setGoverns_J55 B hS9 hr M
  · refine g_aload_n B dX2_setGoverns_8 0 rfl ?_
    refine g_iload_n B dX2_setGoverns_9 2 rfl ?_
    refine g_callV_ip [.int x2] (ci := 2) (T0 := TX2) (N := 11) B hS9 mf2_has wd_503 (gw B wd_504) wd_502 (by decide) rfl (fun h => (gd_ne h).1) (c2_has X l a0 x2 M) (by decide) (by decide) (by decide) rfl (by decide) dX2_setGoverns_10 rfl (fun v_2 => ?_)
    refine g_if_eq B 55 dX2_setGoverns_13 (by decide) ?_ ?_
    · refine g_sub (lv' := []) [] rfl ?_
      exact g2_setGoverns_J55 B hS9 hr M
    · refine g_aload_n B dX2_setGoverns_16 0 rfl ?_
      refine g_iload_n B dX2_setGoverns_17 2 rfl ?_
      refine g_callV_ap [.int x2] (ci := 2) (T0 := TX2) (N := 11) B hS9 mf2_at wd_466 (gw B wd_467) wd_465 (by decide) rfl (fun h => (gd_ne h).1) (c2_at X l a0 x2 M) (by decide) (by decide) (by decide) rfl (by decide) dX2_setGoverns_18 rfl (fun v_3 => ?_)
      refine g_astore (lv' := [(4, .ref v_3), (0, .ref a0), (1, .int x1), (2, .int x2), (3, .int x3)]) B dX2_setGoverns_21 (by decide) [0, 1, 2, 3, 4] rfl ?_
      refine g_aload B dX2_setGoverns_23 0 rfl ?_
      refine g_iload_n B dX2_setGoverns_25 4 rfl ?_
      refine g_if_eq B 41 dX2_setGoverns_26 (by decide) ?_ ?_
      · refine g_aload B dX2_setGoverns_41 0 rfl ?_
        refine g_getI (ci := 8) (T0 := TX8) (N := 9) B (by decide) rfl in_8 (k := 8) (by decide) rfl wd_94 (fun _ h => h) dX2_setGoverns_43 (fun v_4 => ?_)
        refine g_iconst (v := 1) B dX2_setGoverns_46 (by decide) ?_
        refine g_iload_n B dX2_setGoverns_47 2 rfl ?_
        refine g_ishl B dX2_setGoverns_48 ?_
        refine g_iconst (v := (-1)) B dX2_setGoverns_49 (by decide) ?_
        refine g_ixor B dX2_setGoverns_50 ?_
        refine g_iand B dX2_setGoverns_51 ?_
        refine g_sub (lv' := []) [] rfl ?_
        exact g2_setGoverns_J52 B hS9 hr v_3 (v_4 &&& ((1 <<< (x1 &&& 31)) ^^^ (-1))) M
      · refine g_aload B dX2_setGoverns_29 0 rfl ?_
        refine g_getI (ci := 8) (T0 := TX8) (N := 9) B (by decide) rfl in_8 (k := 8) (by decide) rfl wd_94 (fun _ h => h) dX2_setGoverns_31 (fun v_5 => ?_)
        refine g_iconst (v := 1) B dX2_setGoverns_34 (by decide) ?_
        refine g_iload_n B dX2_setGoverns_35 2 rfl ?_
        refine g_ishl B dX2_setGoverns_36 ?_
        refine g_ior B dX2_setGoverns_37 ?_
        refine g_goto B 52 dX2_setGoverns_38 (by decide) ?_
        refine g_sub (lv' := []) [] rfl ?_
        exact g2_setGoverns_J52 B hS9 hr v_3 (v_5 ||| (1 <<< (x1 &&& 31))) M
theorem mf2_setGoverns : gMF yX2_setGoverns cX2_setGoverns 5 (none) 3 := ⟨wd_907, wd_2, ⟨by decide, by decide⟩, by decide +kernel⟩
theorem c2_setGoverns (X : gX) (l : Launch) (a0 : Nat) (x1 : Int32) (x2 : Int32) (x3 : Int32) (M : mMem) : Con X l yX2_setGoverns cX2_setGoverns 5 (none) rm2_setGoverns (fun M9 : mMem => (none, M9)) [.ref a0, .int x1, .int x2, .int x3] M (p2_setGoverns a0 x1 x2 x3 M) := g_con (own := RX2) (by decide +kernel) rfl (Nat.le_of_ble_eq_true rfl) (fun p e s m args below meth c B hS9 hr hn => g2_setGoverns B hS9 hr a0 x1 x2 x3 M)
set_option maxRecDepth 20000 in
set_option maxHeartbeats 2000000 in
theorem g2_governedBy_J27 {X : gX} {p : Program} {l : Launch} {e : Env} {s : State} {m : MethodId} {args : Array Value} {below : List Frame} {meth : Method} {c : Code} (B : gB X p (rm2_governedBy) s m args meth c RX2 cX2_governedBy 4 (rm2_governedBy)) (hS9 : gS X s) (hr : meth.sig.returnType = some .int) {M : mMem} (rec4 : Nat → Int32 → Int32 → Int32 → Option Int32) (hrec4 : ∀ (a0 : Nat) (x1 : Int32) (x2 : Int32) (x3 : Int32), GG X p l e (rm2_governedBy) s m args below meth c (gP X below args s 0 0 (fun r9 : Int32 => (some (.int r9), M))) 4 0 0 4 [(0, .ref a0), (1, .int x1), (2, .int x2), (3, .int x3)] [] M (rec4 a0 x1 x2 x3)) (a0 : Nat) (x1 : Int32) (x2 : Int32) (x3 : Int32) : GG X p l e (rm2_governedBy) s m args below meth c (gP X below args s 0 0 (fun r9 : Int32 => (some (.int r9), M))) 4 0 0 27 [(0, .ref a0), (1, .int x1), (2, .int x2), (3, .int x3)] [] M (p2_governedBy_J27 M rec4 a0 x1 x2 x3) := by
  unfold p2_governedBy_J27
  refine g_iinc (v := (x3 + 1)) (lv' := [(3, .int (x3 + 1)), (0, .ref a0), (1, .int x1), (2, .int x2)]) B dX2_governedBy_27 3 rfl rfl (by decide) [0, 1, 2, 3] rfl ?_
  refine g_goto B 4 dX2_governedBy_30 (by decide) ?_
  refine g_sub (lv' := [(0, .ref a0), (1, .int x1), (2, .int x2), (3, .int (x3 + 1))]) [1, 2, 3, 0] rfl ?_
  exact hrec4 a0 x1 x2 (x3 + 1)
set_option maxRecDepth 20000 in
set_option maxHeartbeats 2000000 in
theorem g2_governedBy_L4 {X : gX} {p : Program} {l : Launch} {e : Env} {s : State} {m : MethodId} {args : Array Value} {below : List Frame} {meth : Method} {c : Code} (B : gB X p (rm2_governedBy) s m args meth c RX2 cX2_governedBy 4 (rm2_governedBy)) (hS9 : gS X s) (hr : meth.sig.returnType = some .int) {M : mMem} : ∀ (n : Nat) (a0 : Nat) (x1 : Int32) (x2 : Int32) (x3 : Int32), GG X p l e (rm2_governedBy) s m args below meth c (gP X below args s 0 0 (fun r9 : Int32 => (some (.int r9), M))) 4 0 0 4 [(0, .ref a0), (1, .int x1), (2, .int x2), (3, .int x3)] [] M (p2_governedBy_L4 M n a0 x1 x2 x3) := by
  intro n
  induction n with
  | zero => intro a0 x1 x2 x3; exact g_none
  | succ n ih =>
    intro a0 x1 x2 x3
    rw [p2_governedBy_L4]
    refine g_iload_n B dX2_governedBy_4 3 rfl ?_
    refine g_aload_n B dX2_governedBy_5 0 rfl ?_
    refine g_getI (ci := 2) (T0 := TX2) (N := 11) B (by decide) rfl in_2 (k := 4) (by decide) rfl wd_139 (fun _ h => h) dX2_governedBy_6 (fun v_1 => ?_)
    refine g_icmp_ge B 33 dX2_governedBy_9 (by decide) ?_ ?_
    · refine g_aload_n B dX2_governedBy_12 0 rfl ?_
      refine g_iload_n B dX2_governedBy_13 1 rfl ?_
      refine g_iload_n B dX2_governedBy_14 3 rfl ?_
      refine g_callV_ip [.int x1, .int x3] (ci := 2) (T0 := TX2) (N := 11) B hS9 mf2_governs wd_499 (gw B wd_500) wd_498 (by decide) rfl (fun h => (gd_ne h).1) (c2_governs X l a0 x1 x3 M) (by decide) (by decide) (by decide) rfl (by decide) dX2_governedBy_15 rfl (fun v_2 => ?_)
      refine g_if_eq B 27 dX2_governedBy_18 (by decide) ?_ ?_
      · refine g_sub (lv' := [(0, .ref a0), (1, .int x1), (2, .int x2), (3, .int x3)]) [0, 1, 2, 3] rfl ?_
        exact g2_governedBy_J27 B hS9 hr (p2_governedBy_L4 M n) ih a0 x1 x2 x3
      · refine g_iload_n B dX2_governedBy_21 2 rfl ?_
        refine g_iconst (v := 1) B dX2_governedBy_22 (by decide) ?_
        refine g_iload_n B dX2_governedBy_23 3 rfl ?_
        refine g_ishl B dX2_governedBy_24 ?_
        refine g_ior B dX2_governedBy_25 ?_
        refine g_istore_n (lv' := [(2, .int (x2 ||| (1 <<< (x3 &&& 31)))), (0, .ref a0), (1, .int x1), (3, .int x3)]) B dX2_governedBy_26 (by decide) [0, 1, 2, 3] rfl ?_
        refine g_sub (lv' := [(0, .ref a0), (1, .int x1), (2, .int (x2 ||| (1 <<< (x3 &&& 31)))), (3, .int x3)]) [1, 2, 0, 3] rfl ?_
        exact g2_governedBy_J27 B hS9 hr (p2_governedBy_L4 M n) ih a0 x1 (x2 ||| (1 <<< (x3 &&& 31))) x3
    · refine g_iload_n B dX2_governedBy_33 2 rfl ?_
      exact g_ireturn B hr rfl (by decide) (by decide) rfl dX2_governedBy_34
set_option maxRecDepth 20000 in
set_option maxHeartbeats 2000000 in
theorem g2_governedBy {X : gX} {p : Program} {l : Launch} {e : Env} {s : State} {m : MethodId} {args : Array Value} {below : List Frame} {meth : Method} {c : Code} (B : gB X p (rm2_governedBy) s m args meth c RX2 cX2_governedBy 4 (rm2_governedBy)) (hS9 : gS X s) (hr : meth.sig.returnType = some .int) {M : mMem} (a0 : Nat) (x1 : Int32) : GG X p l e (rm2_governedBy) s m args below meth c (gP X below args s 0 0 (fun r9 : Int32 => (some (.int r9), M))) 4 0 0 0 [(0, .ref a0), (1, .int x1)] [] M (p2_governedBy a0 x1 M) := by
  unfold p2_governedBy
  refine g_gd ?_
  refine g_iconst (v := 0) B dX2_governedBy_0 (by decide) ?_
  refine g_istore_n (lv' := [(2, .int 0), (0, .ref a0), (1, .int x1)]) B dX2_governedBy_1 (by decide) [0, 1, 2] rfl ?_
  refine g_iconst (v := 0) B dX2_governedBy_2 (by decide) ?_
  refine g_istore_n (lv' := [(3, .int 0), (2, .int 0), (0, .ref a0), (1, .int x1)]) B dX2_governedBy_3 (by decide) [0, 1, 2, 3] rfl ?_
  refine g_sub (lv' := [(0, .ref a0), (1, .int x1), (2, .int 0), (3, .int 0)]) [2, 3, 1, 0] rfl ?_
  exact (g2_governedBy_L4 B hS9 hr) gF a0 x1 0 0
theorem mf2_governedBy : gMF yX2_governedBy cX2_governedBy 4 (some .int) 1 := ⟨wd_1107, wd_2, ⟨by decide, by decide⟩, by decide +kernel⟩
theorem c2_governedBy (X : gX) (l : Launch) (a0 : Nat) (x1 : Int32) (M : mMem) : Con X l yX2_governedBy cX2_governedBy 4 (some .int) rm2_governedBy (fun r9 : Int32 => (some (.int r9), M)) [.ref a0, .int x1] M (p2_governedBy a0 x1 M) := g_con (own := RX2) (by decide +kernel) rfl (Nat.le_of_ble_eq_true rfl) (fun p e s m args below meth c B hS9 hr hn => g2_governedBy B hS9 hr a0 x1)
set_option maxRecDepth 20000 in
set_option maxHeartbeats 2000000 in
theorem g2_areParentAndChild_J29 {X : gX} {p : Program} {l : Launch} {e : Env} {s : State} {m : MethodId} {args : Array Value} {below : List Frame} {meth : Method} {c : Code} (B : gB X p (rm2_areParentAndChild) s m args meth c RX2 cX2_areParentAndChild 3 (rm2_areParentAndChild)) (hS9 : gS X s) (hr : meth.sig.returnType = some .boolean) {M : mMem} (u0 : Int32) : GG X p l e (rm2_areParentAndChild) s m args below meth c (gP X below args s 0 0 (fun r9 : Int32 => (some (.int r9), M))) 3 0 0 29 [] [.int u0] M (p2_areParentAndChild_J29 M u0) := by
  unfold p2_areParentAndChild_J29
  exact g_zreturn (f := fun z => z) B hr (by decide) (by decide) rfl dX2_areParentAndChild_29
set_option maxRecDepth 20000 in
set_option maxHeartbeats 2000000 in
theorem g2_areParentAndChild_J24 {X : gX} {p : Program} {l : Launch} {e : Env} {s : State} {m : MethodId} {args : Array Value} {below : List Frame} {meth : Method} {c : Code} (B : gB X p (rm2_areParentAndChild) s m args meth c RX2 cX2_areParentAndChild 3 (rm2_areParentAndChild)) (hS9 : gS X s) (hr : meth.sig.returnType = some .boolean) {M : mMem} : GG X p l e (rm2_areParentAndChild) s m args below meth c (gP X below args s 0 0 (fun r9 : Int32 => (some (.int r9), M))) 3 0 0 24 [] [] M (p2_areParentAndChild_J24 M) := by
  unfold p2_areParentAndChild_J24
  refine g_iconst (v := 1) B dX2_areParentAndChild_24 (by decide) ?_
  refine g_goto B 29 dX2_areParentAndChild_25 (by decide) ?_
  refine g_sub (lv' := []) [] rfl ?_
  exact g2_areParentAndChild_J29 B hS9 hr 1
set_option maxRecDepth 20000 in
set_option maxHeartbeats 2000000 in
theorem g2_areParentAndChild {X : gX} {p : Program} {l : Launch} {e : Env} {s : State} {m : MethodId} {args : Array Value} {below : List Frame} {meth : Method} {c : Code} (B : gB X p (rm2_areParentAndChild) s m args meth c RX2 cX2_areParentAndChild 3 (rm2_areParentAndChild)) (hS9 : gS X s) (hr : meth.sig.returnType = some .boolean) {M : mMem} (a0 : Nat) (x1 : Int32) (x2 : Int32) : GG X p l e (rm2_areParentAndChild) s m args below meth c (gP X below args s 0 0 (fun r9 : Int32 => (some (.int r9), M))) 3 0 0 0 [(0, .ref a0), (1, .int x1), (2, .int x2)] [] M (p2_areParentAndChild a0 x1 x2 M) := by
  unfold p2_areParentAndChild
  refine g_gd ?_
  refine g_aload_n B dX2_areParentAndChild_0 0 rfl ?_
  refine g_iload_n B dX2_areParentAndChild_1 1 rfl ?_
  refine g_callV_ap [.int x1] (ci := 2) (T0 := TX2) (N := 11) B hS9 mf2_at wd_466 (gw B wd_467) wd_465 (by decide) rfl (fun h => (gd_ne h).1) (c2_at X l a0 x1 M) (by decide) (by decide) (by decide) rfl (by decide) dX2_areParentAndChild_2 rfl (fun v_1 => ?_)
  refine g_getI (ci := 8) (T0 := TX8) (N := 9) B (by decide) rfl in_8 (k := 3) (by decide) rfl wd_70 (fun _ h => h) dX2_areParentAndChild_5 (fun v_2 => ?_)
  refine g_iload_n B dX2_areParentAndChild_8 2 rfl ?_
  refine g_icmp_eq B 24 dX2_areParentAndChild_9 (by decide) ?_ ?_
  · refine g_sub (lv' := []) [] rfl ?_
    exact g2_areParentAndChild_J24 B hS9 hr
  · refine g_aload_n B dX2_areParentAndChild_12 0 rfl ?_
    refine g_iload_n B dX2_areParentAndChild_13 2 rfl ?_
    refine g_callV_ap [.int x2] (ci := 2) (T0 := TX2) (N := 11) B hS9 mf2_at wd_466 (gw B wd_467) wd_465 (by decide) rfl (fun h => (gd_ne h).1) (c2_at X l a0 x2 M) (by decide) (by decide) (by decide) rfl (by decide) dX2_areParentAndChild_14 rfl (fun v_3 => ?_)
    refine g_getI (ci := 8) (T0 := TX8) (N := 9) B (by decide) rfl in_8 (k := 3) (by decide) rfl wd_70 (fun _ h => h) dX2_areParentAndChild_17 (fun v_4 => ?_)
    refine g_iload_n B dX2_areParentAndChild_20 1 rfl ?_
    refine g_icmp_ne B 28 dX2_areParentAndChild_21 (by decide) ?_ ?_
    · refine g_sub (lv' := []) [] rfl ?_
      exact g2_areParentAndChild_J24 B hS9 hr
    · refine g_iconst (v := 0) B dX2_areParentAndChild_28 (by decide) ?_
      refine g_sub (lv' := []) [] rfl ?_
      exact g2_areParentAndChild_J29 B hS9 hr 0
theorem mf2_areParentAndChild : gMF yX2_areParentAndChild cX2_areParentAndChild 3 (some .boolean) 2 := ⟨wd_594, wd_2, ⟨by decide, by decide⟩, by decide +kernel⟩
theorem c2_areParentAndChild (X : gX) (l : Launch) (a0 : Nat) (x1 : Int32) (x2 : Int32) (M : mMem) : Con X l yX2_areParentAndChild cX2_areParentAndChild 3 (some .boolean) rm2_areParentAndChild (fun r9 : Int32 => (some (.int r9), M)) [.ref a0, .int x1, .int x2] M (p2_areParentAndChild a0 x1 x2 M) := g_con (own := RX2) (by decide +kernel) rfl (Nat.le_of_ble_eq_true rfl) (fun p e s m args below meth c B hS9 hr hn => g2_areParentAndChild B hS9 hr a0 x1 x2)
set_option maxRecDepth 20000 in
set_option maxHeartbeats 2000000 in
theorem g2_mayWed_J57 {X : gX} {p : Program} {l : Launch} {e : Env} {s : State} {m : MethodId} {args : Array Value} {below : List Frame} {meth : Method} {c : Code} (B : gB X p (rm2_mayWed) s m args meth c RX2 cX2_mayWed 3 (rm2_mayWed)) (hS9 : gS X s) (hr : meth.sig.returnType = some .boolean) {M : mMem} (u0 : Int32) : GG X p l e (rm2_mayWed) s m args below meth c (gP X below args s 0 0 (fun r9 : Int32 => (some (.int r9), M))) 3 0 0 57 [] [.int u0] M (p2_mayWed_J57 M u0) := by
  unfold p2_mayWed_J57
  exact g_zreturn (f := fun z => z) B hr (by decide) (by decide) rfl dX2_mayWed_57
set_option maxRecDepth 20000 in
set_option maxHeartbeats 2000000 in
theorem g2_mayWed_J56 {X : gX} {p : Program} {l : Launch} {e : Env} {s : State} {m : MethodId} {args : Array Value} {below : List Frame} {meth : Method} {c : Code} (B : gB X p (rm2_mayWed) s m args meth c RX2 cX2_mayWed 3 (rm2_mayWed)) (hS9 : gS X s) (hr : meth.sig.returnType = some .boolean) {M : mMem} : GG X p l e (rm2_mayWed) s m args below meth c (gP X below args s 0 0 (fun r9 : Int32 => (some (.int r9), M))) 3 0 0 56 [] [] M (p2_mayWed_J56 M) := by
  unfold p2_mayWed_J56
  refine g_iconst (v := 0) B dX2_mayWed_56 (by decide) ?_
  refine g_sub (lv' := []) [] rfl ?_
  exact g2_mayWed_J57 B hS9 hr 0
set_option maxRecDepth 20000 in
set_option maxHeartbeats 2000000 in
theorem g2_mayWed {X : gX} {p : Program} {l : Launch} {e : Env} {s : State} {m : MethodId} {args : Array Value} {below : List Frame} {meth : Method} {c : Code} (B : gB X p (rm2_mayWed) s m args meth c RX2 cX2_mayWed 3 (rm2_mayWed)) (hS9 : gS X s) (hr : meth.sig.returnType = some .boolean) {M : mMem} (a0 : Nat) (x1 : Int32) (x2 : Int32) : GG X p l e (rm2_mayWed) s m args below meth c (gP X below args s 0 0 (fun r9 : Int32 => (some (.int r9), M))) 3 0 0 0 [(0, .ref a0), (1, .int x1), (2, .int x2)] [] M (p2_mayWed a0 x1 x2 M) := by
  unfold p2_mayWed
  refine g_gd ?_
  refine g_aload_n B dX2_mayWed_0 0 rfl ?_
  refine g_iload_n B dX2_mayWed_1 1 rfl ?_
  refine g_callV_ap [.int x1] (ci := 2) (T0 := TX2) (N := 11) B hS9 mf2_at wd_466 (gw B wd_467) wd_465 (by decide) rfl (fun h => (gd_ne h).1) (c2_at X l a0 x1 M) (by decide) (by decide) (by decide) rfl (by decide) dX2_mayWed_2 rfl (fun v_1 => ?_)
  refine g_getI (ci := 8) (T0 := TX8) (N := 9) B (by decide) rfl in_8 (k := 2) (by decide) rfl wd_66 (fun _ h => h) dX2_mayWed_5 (fun v_2 => ?_)
  refine g_aload_n B dX2_mayWed_8 0 rfl ?_
  refine g_iload_n B dX2_mayWed_9 2 rfl ?_
  refine g_callV_ap [.int x2] (ci := 2) (T0 := TX2) (N := 11) B hS9 mf2_at wd_466 (gw B wd_467) wd_465 (by decide) rfl (fun h => (gd_ne h).1) (c2_at X l a0 x2 M) (by decide) (by decide) (by decide) rfl (Nat.le_of_ble_eq_true rfl) dX2_mayWed_10 rfl (fun v_3 => ?_)
  refine g_getI (ci := 8) (T0 := TX8) (N := 9) B (by decide) rfl in_8 (k := 2) (by decide) rfl wd_66 (fun _ h => h) dX2_mayWed_13 (fun v_4 => ?_)
  refine g_icmp_eq B 56 dX2_mayWed_16 (by decide) ?_ ?_
  · refine g_sub (lv' := []) [] rfl ?_
    exact g2_mayWed_J56 B hS9 hr
  · refine g_aload_n B dX2_mayWed_19 0 rfl ?_
    refine g_iload_n B dX2_mayWed_20 1 rfl ?_
    refine g_callV_ap [.int x1] (ci := 2) (T0 := TX2) (N := 11) B hS9 mf2_at wd_466 (gw B wd_467) wd_465 (by decide) rfl (fun h => (gd_ne h).1) (c2_at X l a0 x1 M) (by decide) (by decide) (by decide) rfl (by decide) dX2_mayWed_21 rfl (fun v_5 => ?_)
    refine g_getI (ci := 8) (T0 := TX8) (N := 9) B (by decide) rfl in_8 (k := 4) (by decide) rfl wd_77 (fun _ h => h) dX2_mayWed_24 (fun v_6 => ?_)
    refine g_iconst (v := (-1)) B dX2_mayWed_27 (by decide) ?_
    refine g_icmp_ne B 56 dX2_mayWed_28 (by decide) ?_ ?_
    · refine g_aload_n B dX2_mayWed_31 0 rfl ?_
      refine g_iload_n B dX2_mayWed_32 2 rfl ?_
      refine g_callV_ap [.int x2] (ci := 2) (T0 := TX2) (N := 11) B hS9 mf2_at wd_466 (gw B wd_467) wd_465 (by decide) rfl (fun h => (gd_ne h).1) (c2_at X l a0 x2 M) (by decide) (by decide) (by decide) rfl (by decide) dX2_mayWed_33 rfl (fun v_7 => ?_)
      refine g_getI (ci := 8) (T0 := TX8) (N := 9) B (by decide) rfl in_8 (k := 4) (by decide) rfl wd_77 (fun _ h => h) dX2_mayWed_36 (fun v_8 => ?_)
      refine g_iconst (v := (-1)) B dX2_mayWed_39 (by decide) ?_
      refine g_icmp_ne B 56 dX2_mayWed_40 (by decide) ?_ ?_
      · refine g_aload_n B dX2_mayWed_43 0 rfl ?_
        refine g_iload_n B dX2_mayWed_44 1 rfl ?_
        refine g_iload_n B dX2_mayWed_45 2 rfl ?_
        refine g_callV_ip [.int x1, .int x2] (ci := 2) (T0 := TX2) (N := 11) B hS9 mf2_areParentAndChild wd_592 (gw B wd_593) wd_591 (by decide) rfl (fun h => (gd_ne h).1) (c2_areParentAndChild X l a0 x1 x2 M) (by decide) (by decide) (by decide) rfl (by decide) dX2_mayWed_46 rfl (fun v_9 => ?_)
        refine g_if_ne B 56 dX2_mayWed_49 (by decide) ?_ ?_
        · refine g_iconst (v := 1) B dX2_mayWed_52 (by decide) ?_
          refine g_goto B 57 dX2_mayWed_53 (by decide) ?_
          refine g_sub (lv' := []) [] rfl ?_
          exact g2_mayWed_J57 B hS9 hr 1
        · refine g_sub (lv' := []) [] rfl ?_
          exact g2_mayWed_J56 B hS9 hr
      · refine g_sub (lv' := []) [] rfl ?_
        exact g2_mayWed_J56 B hS9 hr
    · refine g_sub (lv' := []) [] rfl ?_
      exact g2_mayWed_J56 B hS9 hr
theorem mf2_mayWed : gMF yX2_mayWed cX2_mayWed 3 (some .boolean) 2 := ⟨wd_590, wd_2, ⟨by decide, by decide⟩, by decide +kernel⟩
theorem c2_mayWed (X : gX) (l : Launch) (a0 : Nat) (x1 : Int32) (x2 : Int32) (M : mMem) : Con X l yX2_mayWed cX2_mayWed 3 (some .boolean) rm2_mayWed (fun r9 : Int32 => (some (.int r9), M)) [.ref a0, .int x1, .int x2] M (p2_mayWed a0 x1 x2 M) := g_con (own := RX2) (by decide +kernel) rfl (Nat.le_of_ble_eq_true rfl) (fun p e s m args below meth c B hS9 hr hn => g2_mayWed B hS9 hr a0 x1 x2)
set_option maxRecDepth 20000 in
set_option maxHeartbeats 2000000 in
theorem g2_join {X : gX} {p : Program} {l : Launch} {e : Env} {s : State} {m : MethodId} {args : Array Value} {below : List Frame} {meth : Method} {c : Code} (B : gB X p (rm2_join) s m args meth c RX2 cX2_join 3 (rm2_join)) (hS9 : gS X s) (hr : meth.sig.returnType = none) (a0 : Nat) (x1 : Int32) (x2 : Int32) (M : mMem) : GG X p l e (rm2_join) s m args below meth c (gP X below args s 0 0 (fun M9 : mMem => (none, M9))) 3 0 0 0 [(0, .ref a0), (1, .int x1), (2, .int x2)] [] M (p2_join a0 x1 x2 M) := by
  unfold p2_join
  refine g_gd ?_
  refine g_aload_n B dX2_join_0 0 rfl ?_
  refine g_iload_n B dX2_join_1 1 rfl ?_
  refine g_callV_ap [.int x1] (ci := 2) (T0 := TX2) (N := 11) B hS9 mf2_at wd_466 (gw B wd_467) wd_465 (by decide) rfl (fun h => (gd_ne h).1) (c2_at X l a0 x1 M) (by decide) (by decide) (by decide) rfl (by decide) dX2_join_2 rfl (fun v_1 => ?_)
  refine g_iload_n B dX2_join_5 2 rfl ?_
  refine g_putI (ci := 8) (T0 := TX8) (N := 9) B (by decide) rfl in_8 tyX8 tyX8_ok nmX8 (k := 4) (by decide) wd_77 (fun _ h => h) rfl rfl (ty := .int) (by decide +kernel) rfl rfl dX2_join_6 (fun M_2 => ?_)
  refine g_aload_n B dX2_join_9 0 rfl ?_
  refine g_iload_n B dX2_join_10 2 rfl ?_
  refine g_callV_ap [.int x2] (ci := 2) (T0 := TX2) (N := 11) B hS9 mf2_at wd_466 (gw B wd_467) wd_465 (by decide) rfl (fun h => (gd_ne h).1) (c2_at X l a0 x2 M_2) (by decide) (by decide) (by decide) rfl (by decide) dX2_join_11 rfl (fun v_3 => ?_)
  refine g_iload_n B dX2_join_14 1 rfl ?_
  refine g_putI (ci := 8) (T0 := TX8) (N := 9) B (by decide) rfl in_8 tyX8 tyX8_ok nmX8 (k := 4) (by decide) wd_77 (fun _ h => h) rfl rfl (ty := .int) (by decide +kernel) rfl rfl dX2_join_15 (fun M_4 => ?_)
  exact g_vreturn B hr (by decide) (by decide) rfl dX2_join_18
theorem mf2_join : gMF yX2_join cX2_join 3 (none) 2 := ⟨wd_916, wd_2, ⟨by decide, by decide⟩, by decide +kernel⟩
theorem c2_join (X : gX) (l : Launch) (a0 : Nat) (x1 : Int32) (x2 : Int32) (M : mMem) : Con X l yX2_join cX2_join 3 (none) rm2_join (fun M9 : mMem => (none, M9)) [.ref a0, .int x1, .int x2] M (p2_join a0 x1 x2 M) := g_con (own := RX2) (by decide +kernel) rfl (Nat.le_of_ble_eq_true rfl) (fun p e s m args below meth c B hS9 hr hn => g2_join B hS9 hr a0 x1 x2 M)
set_option maxRecDepth 20000 in
set_option maxHeartbeats 2000000 in
theorem g2_lentBy_J31 {X : gX} {p : Program} {l : Launch} {e : Env} {s : State} {m : MethodId} {args : Array Value} {below : List Frame} {meth : Method} {c : Code} (B : gB X p (rm2_lentBy) s m args meth c RX2 cX2_lentBy 3 (rm2_lentBy)) (hS9 : gS X s) (hr : meth.sig.returnType = some .int) {M : mMem} (u0 : Int32) : GG X p l e (rm2_lentBy) s m args below meth c (gP X below args s 0 0 (fun r9 : Int32 => (some (.int r9), M))) 3 0 0 31 [] [.int u0] M (p2_lentBy_J31 M u0) := by
  unfold p2_lentBy_J31
  exact g_ireturn B hr rfl (by decide) (by decide) rfl dX2_lentBy_31
set_option maxRecDepth 20000 in
set_option maxHeartbeats 2000000 in
theorem g2_lentBy_J30 {X : gX} {p : Program} {l : Launch} {e : Env} {s : State} {m : MethodId} {args : Array Value} {below : List Frame} {meth : Method} {c : Code} (B : gB X p (rm2_lentBy) s m args meth c RX2 cX2_lentBy 3 (rm2_lentBy)) (hS9 : gS X s) (hr : meth.sig.returnType = some .int) {M : mMem} : GG X p l e (rm2_lentBy) s m args below meth c (gP X below args s 0 0 (fun r9 : Int32 => (some (.int r9), M))) 3 0 0 30 [] [] M (p2_lentBy_J30 M) := by
  unfold p2_lentBy_J30
  refine g_iconst (v := 0) B dX2_lentBy_30 (by decide) ?_
  refine g_sub (lv' := []) [] rfl ?_
  exact g2_lentBy_J31 B hS9 hr 0
set_option maxRecDepth 20000 in
set_option maxHeartbeats 2000000 in
theorem g2_lentBy {X : gX} {p : Program} {l : Launch} {e : Env} {s : State} {m : MethodId} {args : Array Value} {below : List Frame} {meth : Method} {c : Code} (B : gB X p (rm2_lentBy) s m args meth c RX2 cX2_lentBy 3 (rm2_lentBy)) (hS9 : gS X s) (hr : meth.sig.returnType = some .int) {M : mMem} (a0 : Nat) (x1 : Int32) (x2 : Int32) : GG X p l e (rm2_lentBy) s m args below meth c (gP X below args s 0 0 (fun r9 : Int32 => (some (.int r9), M))) 3 0 0 0 [(0, .ref a0), (1, .int x1), (2, .int x2)] [] M (p2_lentBy a0 x1 x2 M) := by
  unfold p2_lentBy
  refine g_gd ?_
  refine g_aload_n B dX2_lentBy_0 0 rfl ?_
  refine g_iload_n B dX2_lentBy_1 1 rfl ?_
  refine g_callV_ip [.int x1] (ci := 2) (T0 := TX2) (N := 11) B hS9 mf2_has wd_503 (gw B wd_504) wd_502 (by decide) rfl (fun h => (gd_ne h).1) (c2_has X l a0 x1 M) (by decide) (by decide) (by decide) rfl (by decide) dX2_lentBy_2 rfl (fun v_1 => ?_)
  refine g_if_eq B 30 dX2_lentBy_5 (by decide) ?_ ?_
  · refine g_sub (lv' := []) [] rfl ?_
    exact g2_lentBy_J30 B hS9 hr
  · refine g_aload_n B dX2_lentBy_8 0 rfl ?_
    refine g_iload_n B dX2_lentBy_9 2 rfl ?_
    refine g_callV_ip [.int x2] (ci := 2) (T0 := TX2) (N := 11) B hS9 mf2_has wd_503 (gw B wd_504) wd_502 (by decide) rfl (fun h => (gd_ne h).1) (c2_has X l a0 x2 M) (by decide) (by decide) (by decide) rfl (by decide) dX2_lentBy_10 rfl (fun v_2 => ?_)
    refine g_if_eq B 30 dX2_lentBy_13 (by decide) ?_ ?_
    · refine g_sub (lv' := []) [] rfl ?_
      exact g2_lentBy_J30 B hS9 hr
    · refine g_aload_n B dX2_lentBy_16 0 rfl ?_
      refine g_getR (ci := 2) (T0 := TX2) (N := 11) B (by decide) rfl in_2 (k := 2) (by decide) rfl wd_136 (fun _ h => h) dX2_lentBy_17 (fun v_3 => ?_)
      refine g_iload_n B dX2_lentBy_20 1 rfl ?_
      refine g_bipush (v := 8) B dX2_lentBy_21 (by decide) ?_
      refine g_imul B dX2_lentBy_23 ?_
      refine g_iload_n B dX2_lentBy_24 2 rfl ?_
      refine g_iadd B dX2_lentBy_25 ?_
      refine g_iaload B dX2_lentBy_26 (fun v_4 => ?_)
      refine g_goto B 31 dX2_lentBy_27 (by decide) ?_
      refine g_sub (lv' := []) [] rfl ?_
      exact g2_lentBy_J31 B hS9 hr v_4
theorem mf2_lentBy : gMF yX2_lentBy cX2_lentBy 3 (some .int) 2 := ⟨wd_623, wd_2, ⟨by decide, by decide⟩, by decide +kernel⟩
theorem c2_lentBy (X : gX) (l : Launch) (a0 : Nat) (x1 : Int32) (x2 : Int32) (M : mMem) : Con X l yX2_lentBy cX2_lentBy 3 (some .int) rm2_lentBy (fun r9 : Int32 => (some (.int r9), M)) [.ref a0, .int x1, .int x2] M (p2_lentBy a0 x1 x2 M) := g_con (own := RX2) (by decide +kernel) rfl (Nat.le_of_ble_eq_true rfl) (fun p e s m args below meth c B hS9 hr hn => g2_lentBy B hS9 hr a0 x1 x2)
set_option maxRecDepth 20000 in
set_option maxHeartbeats 2000000 in
theorem g2_lendOne_J59 {X : gX} {p : Program} {l : Launch} {e : Env} {s : State} {m : MethodId} {args : Array Value} {below : List Frame} {meth : Method} {c : Code} (B : gB X p (rm2_lendOne) s m args meth c RX2 cX2_lendOne 3 (rm2_lendOne)) (hS9 : gS X s) (hr : meth.sig.returnType = none) (M : mMem) : GG X p l e (rm2_lendOne) s m args below meth c (gP X below args s 0 0 (fun M9 : mMem => (none, M9))) 3 0 0 59 [] [] M (p2_lendOne_J59 M) := by
  unfold p2_lendOne_J59
  exact g_vreturn B hr (by decide) (by decide) rfl dX2_lendOne_59
set_option maxRecDepth 20000 in
set_option maxHeartbeats 2000000 in
theorem g2_lendOne {X : gX} {p : Program} {l : Launch} {e : Env} {s : State} {m : MethodId} {args : Array Value} {below : List Frame} {meth : Method} {c : Code} (B : gB X p (rm2_lendOne) s m args meth c RX2 cX2_lendOne 3 (rm2_lendOne)) (hS9 : gS X s) (hr : meth.sig.returnType = none) (a0 : Nat) (x1 : Int32) (x2 : Int32) (M : mMem) : GG X p l e (rm2_lendOne) s m args below meth c (gP X below args s 0 0 (fun M9 : mMem => (none, M9))) 3 0 0 0 [(0, .ref a0), (1, .int x1), (2, .int x2)] [] M (p2_lendOne a0 x1 x2 M) := by
  unfold p2_lendOne
  refine g_gd ?_
  refine g_aload_n B dX2_lendOne_0 0 rfl ?_
  refine g_iload_n B dX2_lendOne_1 1 rfl ?_
  refine g_callV_ip [.int x1] (ci := 2) (T0 := TX2) (N := 11) B hS9 mf2_has wd_503 (gw B wd_504) wd_502 (by decide) rfl (fun h => (gd_ne h).1) (c2_has X l a0 x1 M) (by decide) (by decide) (by decide) rfl (by decide) dX2_lendOne_2 rfl (fun v_1 => ?_)
  refine g_if_eq B 59 dX2_lendOne_5 (by decide) ?_ ?_
  · refine g_sub (lv' := []) [] rfl ?_
    exact g2_lendOne_J59 B hS9 hr M
  · refine g_aload_n B dX2_lendOne_8 0 rfl ?_
    refine g_iload_n B dX2_lendOne_9 2 rfl ?_
    refine g_callV_ip [.int x2] (ci := 2) (T0 := TX2) (N := 11) B hS9 mf2_has wd_503 (gw B wd_504) wd_502 (by decide) rfl (fun h => (gd_ne h).1) (c2_has X l a0 x2 M) (by decide) (by decide) (by decide) rfl (by decide) dX2_lendOne_10 rfl (fun v_2 => ?_)
    refine g_if_eq B 59 dX2_lendOne_13 (by decide) ?_ ?_
    · refine g_sub (lv' := []) [] rfl ?_
      exact g2_lendOne_J59 B hS9 hr M
    · refine g_aload_n B dX2_lendOne_16 0 rfl ?_
      refine g_getR (ci := 2) (T0 := TX2) (N := 11) B (by decide) rfl in_2 (k := 2) (by decide) rfl wd_136 (fun _ h => h) dX2_lendOne_17 (fun v_3 => ?_)
      refine g_iload_n B dX2_lendOne_20 1 rfl ?_
      refine g_bipush (v := 8) B dX2_lendOne_21 (by decide) ?_
      refine g_imul B dX2_lendOne_23 ?_
      refine g_iload_n B dX2_lendOne_24 2 rfl ?_
      refine g_iadd B dX2_lendOne_25 ?_
      refine g_dup2_11 B dX2_lendOne_26 rfl rfl ?_
      refine g_iaload B dX2_lendOne_27 (fun v_4 => ?_)
      refine g_iconst (v := 1) B dX2_lendOne_28 (by decide) ?_
      refine g_iadd B dX2_lendOne_29 ?_
      refine g_iastore B dX2_lendOne_30 (fun M_5 => ?_)
      refine g_aload_n B dX2_lendOne_31 0 rfl ?_
      refine g_iload_n B dX2_lendOne_32 1 rfl ?_
      refine g_callV_ap [.int x1] (ci := 2) (T0 := TX2) (N := 11) B hS9 mf2_at wd_466 (gw B wd_467) wd_465 (by decide) rfl (fun h => (gd_ne h).1) (c2_at X l a0 x1 M_5) (by decide) (by decide) (by decide) rfl (by decide) dX2_lendOne_33 rfl (fun v_6 => ?_)
      refine g_dup B dX2_lendOne_36 rfl ?_
      refine g_getI (ci := 8) (T0 := TX8) (N := 9) B (by decide) rfl in_8 (k := 7) (by decide) rfl wd_91 (fun _ h => h) dX2_lendOne_37 (fun v_7 => ?_)
      refine g_iconst (v := 1) B dX2_lendOne_40 (by decide) ?_
      refine g_isub B dX2_lendOne_41 ?_
      refine g_putI (ci := 8) (T0 := TX8) (N := 9) B (by decide) rfl in_8 tyX8 tyX8_ok nmX8 (k := 7) (by decide) wd_91 (fun _ h => h) rfl rfl (ty := .int) (by decide +kernel) rfl rfl dX2_lendOne_42 (fun M_8 => ?_)
      refine g_aload_n B dX2_lendOne_45 0 rfl ?_
      refine g_iload_n B dX2_lendOne_46 2 rfl ?_
      refine g_callV_ap [.int x2] (ci := 2) (T0 := TX2) (N := 11) B hS9 mf2_at wd_466 (gw B wd_467) wd_465 (by decide) rfl (fun h => (gd_ne h).1) (c2_at X l a0 x2 M_8) (by decide) (by decide) (by decide) rfl (by decide) dX2_lendOne_47 rfl (fun v_9 => ?_)
      refine g_dup B dX2_lendOne_50 rfl ?_
      refine g_getI (ci := 8) (T0 := TX8) (N := 9) B (by decide) rfl in_8 (k := 7) (by decide) rfl wd_91 (fun _ h => h) dX2_lendOne_51 (fun v_10 => ?_)
      refine g_iconst (v := 1) B dX2_lendOne_54 (by decide) ?_
      refine g_iadd B dX2_lendOne_55 ?_
      refine g_putI (ci := 8) (T0 := TX8) (N := 9) B (by decide) rfl in_8 tyX8 tyX8_ok nmX8 (k := 7) (by decide) wd_91 (fun _ h => h) rfl rfl (ty := .int) (by decide +kernel) rfl rfl dX2_lendOne_56 (fun M_11 => ?_)
      refine g_sub (lv' := []) [] rfl ?_
      exact g2_lendOne_J59 B hS9 hr M_11
theorem mf2_lendOne : gMF yX2_lendOne cX2_lendOne 3 (none) 2 := ⟨wd_1229, wd_2, ⟨by decide, by decide⟩, by decide +kernel⟩
theorem c2_lendOne (X : gX) (l : Launch) (a0 : Nat) (x1 : Int32) (x2 : Int32) (M : mMem) : Con X l yX2_lendOne cX2_lendOne 3 (none) rm2_lendOne (fun M9 : mMem => (none, M9)) [.ref a0, .int x1, .int x2] M (p2_lendOne a0 x1 x2 M) := g_con (own := RX2) (by decide +kernel) rfl (Nat.le_of_ble_eq_true rfl) (fun p e s m args below meth c B hS9 hr hn => g2_lendOne B hS9 hr a0 x1 x2 M)
set_option maxRecDepth 20000 in
set_option maxHeartbeats 2000000 in
theorem g2_turnsTogether_L4 {X : gX} {p : Program} {l : Launch} {e : Env} {s : State} {m : MethodId} {args : Array Value} {below : List Frame} {meth : Method} {c : Code} (B : gB X p (rm2_turnsTogether) s m args meth c RX2 cX2_turnsTogether 3 (rm2_turnsTogether)) (hS9 : gS X s) (hr : meth.sig.returnType = some .int) {M : mMem} : ∀ (n : Nat) (a0 : Nat) (x1 : Int32) (x2 : Int32), GG X p l e (rm2_turnsTogether) s m args below meth c (gP X below args s 0 0 (fun r9 : Int32 => (some (.int r9), M))) 3 0 0 4 [(0, .ref a0), (1, .int x1), (2, .int x2)] [] M (p2_turnsTogether_L4 M n a0 x1 x2) := by
  intro n
  induction n with
  | zero => intro a0 x1 x2; exact g_none
  | succ n ih =>
    intro a0 x1 x2
    rw [p2_turnsTogether_L4]
    refine g_iload_n B dX2_turnsTogether_4 2 rfl ?_
    refine g_aload_n B dX2_turnsTogether_5 0 rfl ?_
    refine g_getI (ci := 2) (T0 := TX2) (N := 11) B (by decide) rfl in_2 (k := 4) (by decide) rfl wd_139 (fun _ h => h) dX2_turnsTogether_6 (fun v_1 => ?_)
    refine g_icmp_ge B 29 dX2_turnsTogether_9 (by decide) ?_ ?_
    · refine g_iload_n B dX2_turnsTogether_12 1 rfl ?_
      refine g_aload_n B dX2_turnsTogether_13 0 rfl ?_
      refine g_iload_n B dX2_turnsTogether_14 2 rfl ?_
      refine g_callV_ap [.int x2] (ci := 2) (T0 := TX2) (N := 11) B hS9 mf2_at wd_466 (gw B wd_467) wd_465 (by decide) rfl (fun h => (gd_ne h).1) (c2_at X l a0 x2 M) (by decide) (by decide) (by decide) rfl (Nat.le_of_ble_eq_true rfl) dX2_turnsTogether_15 rfl (fun v_2 => ?_)
      refine g_getI (ci := 8) (T0 := TX8) (N := 9) B (by decide) rfl in_8 (k := 1) (by decide) rfl wd_61 (fun _ h => h) dX2_turnsTogether_18 (fun v_3 => ?_)
      refine g_iadd B dX2_turnsTogether_21 ?_
      refine g_istore_n (lv' := [(1, .int (x1 + v_3)), (0, .ref a0), (2, .int x2)]) B dX2_turnsTogether_22 (by decide) [0, 1, 2] rfl ?_
      refine g_iinc (v := (x2 + 1)) (lv' := [(2, .int (x2 + 1)), (1, .int (x1 + v_3)), (0, .ref a0)]) B dX2_turnsTogether_23 2 rfl rfl (by decide) [0, 1, 2] rfl ?_
      refine g_goto B 4 dX2_turnsTogether_26 (by decide) ?_
      refine g_sub (lv' := [(0, .ref a0), (1, .int (x1 + v_3)), (2, .int (x2 + 1))]) [2, 1, 0] rfl ?_
      exact ih a0 (x1 + v_3) (x2 + 1)
    · refine g_iload_n B dX2_turnsTogether_29 1 rfl ?_
      exact g_ireturn B hr rfl (by decide) (by decide) rfl dX2_turnsTogether_30
set_option maxRecDepth 20000 in
set_option maxHeartbeats 2000000 in
theorem g2_turnsTogether {X : gX} {p : Program} {l : Launch} {e : Env} {s : State} {m : MethodId} {args : Array Value} {below : List Frame} {meth : Method} {c : Code} (B : gB X p (rm2_turnsTogether) s m args meth c RX2 cX2_turnsTogether 3 (rm2_turnsTogether)) (hS9 : gS X s) (hr : meth.sig.returnType = some .int) {M : mMem} (a0 : Nat) : GG X p l e (rm2_turnsTogether) s m args below meth c (gP X below args s 0 0 (fun r9 : Int32 => (some (.int r9), M))) 3 0 0 0 [(0, .ref a0)] [] M (p2_turnsTogether a0 M) := by
  unfold p2_turnsTogether
  refine g_gd ?_
  refine g_iconst (v := 0) B dX2_turnsTogether_0 (by decide) ?_
  refine g_istore_n (lv' := [(1, .int 0), (0, .ref a0)]) B dX2_turnsTogether_1 (by decide) [0, 1] rfl ?_
  refine g_iconst (v := 0) B dX2_turnsTogether_2 (by decide) ?_
  refine g_istore_n (lv' := [(2, .int 0), (1, .int 0), (0, .ref a0)]) B dX2_turnsTogether_3 (by decide) [0, 1, 2] rfl ?_
  refine g_sub (lv' := [(0, .ref a0), (1, .int 0), (2, .int 0)]) [2, 1, 0] rfl ?_
  exact (g2_turnsTogether_L4 B hS9 hr) gF a0 0 0
theorem mf2_turnsTogether : gMF yX2_turnsTogether cX2_turnsTogether 3 (some .int) 0 := ⟨wd_714, wd_2, ⟨by decide, by decide⟩, by decide +kernel⟩
theorem c2_turnsTogether (X : gX) (l : Launch) (a0 : Nat) (M : mMem) : Con X l yX2_turnsTogether cX2_turnsTogether 3 (some .int) rm2_turnsTogether (fun r9 : Int32 => (some (.int r9), M)) [.ref a0] M (p2_turnsTogether a0 M) := g_con (own := RX2) (by decide +kernel) rfl (Nat.le_of_ble_eq_true rfl) (fun p e s m args below meth c B hS9 hr hn => g2_turnsTogether B hS9 hr a0)
set_option maxRecDepth 20000 in
set_option maxHeartbeats 2000000 in
theorem g2_boys_J29 {X : gX} {p : Program} {l : Launch} {e : Env} {s : State} {m : MethodId} {args : Array Value} {below : List Frame} {meth : Method} {c : Code} (B : gB X p (rm2_boys) s m args meth c RX2 cX2_boys 3 (rm2_boys)) (hS9 : gS X s) (hr : meth.sig.returnType = some .int) {M : mMem} (rec4 : Nat → Int32 → Int32 → Option Int32) (hrec4 : ∀ (a0 : Nat) (x1 : Int32) (x2 : Int32), GG X p l e (rm2_boys) s m args below meth c (gP X below args s 0 0 (fun r9 : Int32 => (some (.int r9), M))) 3 0 0 4 [(0, .ref a0), (1, .int x1), (2, .int x2)] [] M (rec4 a0 x1 x2)) (a0 : Nat) (x1 : Int32) (x2 : Int32) : GG X p l e (rm2_boys) s m args below meth c (gP X below args s 0 0 (fun r9 : Int32 => (some (.int r9), M))) 3 0 0 29 [(0, .ref a0), (1, .int x1), (2, .int x2)] [] M (p2_boys_J29 M rec4 a0 x1 x2) := by
  unfold p2_boys_J29
  refine g_iinc (v := (x2 + 1)) (lv' := [(2, .int (x2 + 1)), (0, .ref a0), (1, .int x1)]) B dX2_boys_29 2 rfl rfl (by decide) [0, 1, 2] rfl ?_
  refine g_goto B 4 dX2_boys_32 (by decide) ?_
  refine g_sub (lv' := [(0, .ref a0), (1, .int x1), (2, .int (x2 + 1))]) [1, 2, 0] rfl ?_
  exact hrec4 a0 x1 (x2 + 1)
set_option maxRecDepth 20000 in
set_option maxHeartbeats 2000000 in
theorem g2_boys_L4 {X : gX} {p : Program} {l : Launch} {e : Env} {s : State} {m : MethodId} {args : Array Value} {below : List Frame} {meth : Method} {c : Code} (B : gB X p (rm2_boys) s m args meth c RX2 cX2_boys 3 (rm2_boys)) (hS9 : gS X s) (hr : meth.sig.returnType = some .int) {M : mMem} : ∀ (n : Nat) (a0 : Nat) (x1 : Int32) (x2 : Int32), GG X p l e (rm2_boys) s m args below meth c (gP X below args s 0 0 (fun r9 : Int32 => (some (.int r9), M))) 3 0 0 4 [(0, .ref a0), (1, .int x1), (2, .int x2)] [] M (p2_boys_L4 M n a0 x1 x2) := by
  intro n
  induction n with
  | zero => intro a0 x1 x2; exact g_none
  | succ n ih =>
    intro a0 x1 x2
    rw [p2_boys_L4]
    refine g_iload_n B dX2_boys_4 2 rfl ?_
    refine g_aload_n B dX2_boys_5 0 rfl ?_
    refine g_getI (ci := 2) (T0 := TX2) (N := 11) B (by decide) rfl in_2 (k := 4) (by decide) rfl wd_139 (fun _ h => h) dX2_boys_6 (fun v_1 => ?_)
    refine g_icmp_ge B 35 dX2_boys_9 (by decide) ?_ ?_
    · refine g_aload_n B dX2_boys_12 0 rfl ?_
      refine g_iload_n B dX2_boys_13 2 rfl ?_
      refine g_callV_ap [.int x2] (ci := 2) (T0 := TX2) (N := 11) B hS9 mf2_at wd_466 (gw B wd_467) wd_465 (by decide) rfl (fun h => (gd_ne h).1) (c2_at X l a0 x2 M) (by decide) (by decide) (by decide) rfl (by decide) dX2_boys_14 rfl (fun v_2 => ?_)
      refine g_getI (ci := 8) (T0 := TX8) (N := 9) B (by decide) rfl in_8 (k := 2) (by decide) rfl wd_66 (fun _ h => h) dX2_boys_17 (fun v_3 => ?_)
      refine g_if_ne B 29 dX2_boys_20 (by decide) ?_ ?_
      · refine g_iload_n B dX2_boys_23 1 rfl ?_
        refine g_iconst (v := 1) B dX2_boys_24 (by decide) ?_
        refine g_iload_n B dX2_boys_25 2 rfl ?_
        refine g_ishl B dX2_boys_26 ?_
        refine g_ior B dX2_boys_27 ?_
        refine g_istore_n (lv' := [(1, .int (x1 ||| (1 <<< (x2 &&& 31)))), (0, .ref a0), (2, .int x2)]) B dX2_boys_28 (by decide) [0, 1, 2] rfl ?_
        refine g_sub (lv' := [(0, .ref a0), (1, .int (x1 ||| (1 <<< (x2 &&& 31)))), (2, .int x2)]) [1, 0, 2] rfl ?_
        exact g2_boys_J29 B hS9 hr (p2_boys_L4 M n) ih a0 (x1 ||| (1 <<< (x2 &&& 31))) x2
      · refine g_sub (lv' := [(0, .ref a0), (1, .int x1), (2, .int x2)]) [0, 1, 2] rfl ?_
        exact g2_boys_J29 B hS9 hr (p2_boys_L4 M n) ih a0 x1 x2
    · refine g_iload_n B dX2_boys_35 1 rfl ?_
      exact g_ireturn B hr rfl (by decide) (by decide) rfl dX2_boys_36
set_option maxRecDepth 20000 in
set_option maxHeartbeats 2000000 in
theorem g2_boys {X : gX} {p : Program} {l : Launch} {e : Env} {s : State} {m : MethodId} {args : Array Value} {below : List Frame} {meth : Method} {c : Code} (B : gB X p (rm2_boys) s m args meth c RX2 cX2_boys 3 (rm2_boys)) (hS9 : gS X s) (hr : meth.sig.returnType = some .int) {M : mMem} (a0 : Nat) : GG X p l e (rm2_boys) s m args below meth c (gP X below args s 0 0 (fun r9 : Int32 => (some (.int r9), M))) 3 0 0 0 [(0, .ref a0)] [] M (p2_boys a0 M) := by
  unfold p2_boys
  refine g_gd ?_
  refine g_iconst (v := 0) B dX2_boys_0 (by decide) ?_
  refine g_istore_n (lv' := [(1, .int 0), (0, .ref a0)]) B dX2_boys_1 (by decide) [0, 1] rfl ?_
  refine g_iconst (v := 0) B dX2_boys_2 (by decide) ?_
  refine g_istore_n (lv' := [(2, .int 0), (1, .int 0), (0, .ref a0)]) B dX2_boys_3 (by decide) [0, 1, 2] rfl ?_
  refine g_sub (lv' := [(0, .ref a0), (1, .int 0), (2, .int 0)]) [2, 1, 0] rfl ?_
  exact (g2_boys_L4 B hS9 hr) gF a0 0 0
theorem mf2_boys : gMF yX2_boys cX2_boys 3 (some .int) 0 := ⟨wd_718, wd_2, ⟨by decide, by decide⟩, by decide +kernel⟩
theorem c2_boys (X : gX) (l : Launch) (a0 : Nat) (M : mMem) : Con X l yX2_boys cX2_boys 3 (some .int) rm2_boys (fun r9 : Int32 => (some (.int r9), M)) [.ref a0] M (p2_boys a0 M) := g_con (own := RX2) (by decide +kernel) rfl (Nat.le_of_ble_eq_true rfl) (fun p e s m args below meth c B hS9 hr hn => g2_boys B hS9 hr a0)
set_option maxRecDepth 20000 in
set_option maxHeartbeats 2000000 in
theorem g2_wedded_J30 {X : gX} {p : Program} {l : Launch} {e : Env} {s : State} {m : MethodId} {args : Array Value} {below : List Frame} {meth : Method} {c : Code} (B : gB X p (rm2_wedded) s m args meth c RX2 cX2_wedded 3 (rm2_wedded)) (hS9 : gS X s) (hr : meth.sig.returnType = some .int) {M : mMem} (rec4 : Nat → Int32 → Int32 → Option Int32) (hrec4 : ∀ (a0 : Nat) (x1 : Int32) (x2 : Int32), GG X p l e (rm2_wedded) s m args below meth c (gP X below args s 0 0 (fun r9 : Int32 => (some (.int r9), M))) 3 0 0 4 [(0, .ref a0), (1, .int x1), (2, .int x2)] [] M (rec4 a0 x1 x2)) (a0 : Nat) (x1 : Int32) (x2 : Int32) : GG X p l e (rm2_wedded) s m args below meth c (gP X below args s 0 0 (fun r9 : Int32 => (some (.int r9), M))) 3 0 0 30 [(0, .ref a0), (1, .int x1), (2, .int x2)] [] M (p2_wedded_J30 M rec4 a0 x1 x2) := by
  unfold p2_wedded_J30
  refine g_iinc (v := (x2 + 1)) (lv' := [(2, .int (x2 + 1)), (0, .ref a0), (1, .int x1)]) B dX2_wedded_30 2 rfl rfl (by decide) [0, 1, 2] rfl ?_
  refine g_goto B 4 dX2_wedded_33 (by decide) ?_
  refine g_sub (lv' := [(0, .ref a0), (1, .int x1), (2, .int (x2 + 1))]) [1, 2, 0] rfl ?_
  exact hrec4 a0 x1 (x2 + 1)
set_option maxRecDepth 20000 in
set_option maxHeartbeats 2000000 in
theorem g2_wedded_L4 {X : gX} {p : Program} {l : Launch} {e : Env} {s : State} {m : MethodId} {args : Array Value} {below : List Frame} {meth : Method} {c : Code} (B : gB X p (rm2_wedded) s m args meth c RX2 cX2_wedded 3 (rm2_wedded)) (hS9 : gS X s) (hr : meth.sig.returnType = some .int) {M : mMem} : ∀ (n : Nat) (a0 : Nat) (x1 : Int32) (x2 : Int32), GG X p l e (rm2_wedded) s m args below meth c (gP X below args s 0 0 (fun r9 : Int32 => (some (.int r9), M))) 3 0 0 4 [(0, .ref a0), (1, .int x1), (2, .int x2)] [] M (p2_wedded_L4 M n a0 x1 x2) := by
  intro n
  induction n with
  | zero => intro a0 x1 x2; exact g_none
  | succ n ih =>
    intro a0 x1 x2
    rw [p2_wedded_L4]
    refine g_iload_n B dX2_wedded_4 2 rfl ?_
    refine g_aload_n B dX2_wedded_5 0 rfl ?_
    refine g_getI (ci := 2) (T0 := TX2) (N := 11) B (by decide) rfl in_2 (k := 4) (by decide) rfl wd_139 (fun _ h => h) dX2_wedded_6 (fun v_1 => ?_)
    refine g_icmp_ge B 36 dX2_wedded_9 (by decide) ?_ ?_
    · refine g_aload_n B dX2_wedded_12 0 rfl ?_
      refine g_iload_n B dX2_wedded_13 2 rfl ?_
      refine g_callV_ap [.int x2] (ci := 2) (T0 := TX2) (N := 11) B hS9 mf2_at wd_466 (gw B wd_467) wd_465 (by decide) rfl (fun h => (gd_ne h).1) (c2_at X l a0 x2 M) (by decide) (by decide) (by decide) rfl (by decide) dX2_wedded_14 rfl (fun v_2 => ?_)
      refine g_getI (ci := 8) (T0 := TX8) (N := 9) B (by decide) rfl in_8 (k := 4) (by decide) rfl wd_77 (fun _ h => h) dX2_wedded_17 (fun v_3 => ?_)
      refine g_iconst (v := (-1)) B dX2_wedded_20 (by decide) ?_
      refine g_icmp_eq B 30 dX2_wedded_21 (by decide) ?_ ?_
      · refine g_sub (lv' := [(0, .ref a0), (1, .int x1), (2, .int x2)]) [0, 1, 2] rfl ?_
        exact g2_wedded_J30 B hS9 hr (p2_wedded_L4 M n) ih a0 x1 x2
      · refine g_iload_n B dX2_wedded_24 1 rfl ?_
        refine g_iconst (v := 1) B dX2_wedded_25 (by decide) ?_
        refine g_iload_n B dX2_wedded_26 2 rfl ?_
        refine g_ishl B dX2_wedded_27 ?_
        refine g_ior B dX2_wedded_28 ?_
        refine g_istore_n (lv' := [(1, .int (x1 ||| (1 <<< (x2 &&& 31)))), (0, .ref a0), (2, .int x2)]) B dX2_wedded_29 (by decide) [0, 1, 2] rfl ?_
        refine g_sub (lv' := [(0, .ref a0), (1, .int (x1 ||| (1 <<< (x2 &&& 31)))), (2, .int x2)]) [1, 0, 2] rfl ?_
        exact g2_wedded_J30 B hS9 hr (p2_wedded_L4 M n) ih a0 (x1 ||| (1 <<< (x2 &&& 31))) x2
    · refine g_iload_n B dX2_wedded_36 1 rfl ?_
      exact g_ireturn B hr rfl (by decide) (by decide) rfl dX2_wedded_37
set_option maxRecDepth 20000 in
set_option maxHeartbeats 2000000 in
theorem g2_wedded {X : gX} {p : Program} {l : Launch} {e : Env} {s : State} {m : MethodId} {args : Array Value} {below : List Frame} {meth : Method} {c : Code} (B : gB X p (rm2_wedded) s m args meth c RX2 cX2_wedded 3 (rm2_wedded)) (hS9 : gS X s) (hr : meth.sig.returnType = some .int) {M : mMem} (a0 : Nat) : GG X p l e (rm2_wedded) s m args below meth c (gP X below args s 0 0 (fun r9 : Int32 => (some (.int r9), M))) 3 0 0 0 [(0, .ref a0)] [] M (p2_wedded a0 M) := by
  unfold p2_wedded
  refine g_gd ?_
  refine g_iconst (v := 0) B dX2_wedded_0 (by decide) ?_
  refine g_istore_n (lv' := [(1, .int 0), (0, .ref a0)]) B dX2_wedded_1 (by decide) [0, 1] rfl ?_
  refine g_iconst (v := 0) B dX2_wedded_2 (by decide) ?_
  refine g_istore_n (lv' := [(2, .int 0), (1, .int 0), (0, .ref a0)]) B dX2_wedded_3 (by decide) [0, 1, 2] rfl ?_
  refine g_sub (lv' := [(0, .ref a0), (1, .int 0), (2, .int 0)]) [2, 1, 0] rfl ?_
  exact (g2_wedded_L4 B hS9 hr) gF a0 0 0
theorem mf2_wedded : gMF yX2_wedded cX2_wedded 3 (some .int) 0 := ⟨wd_722, wd_2, ⟨by decide, by decide⟩, by decide +kernel⟩
theorem c2_wedded (X : gX) (l : Launch) (a0 : Nat) (M : mMem) : Con X l yX2_wedded cX2_wedded 3 (some .int) rm2_wedded (fun r9 : Int32 => (some (.int r9), M)) [.ref a0] M (p2_wedded a0 M) := g_con (own := RX2) (by decide +kernel) rfl (Nat.le_of_ble_eq_true rfl) (fun p e s m args below meth c B hS9 hr hn => g2_wedded B hS9 hr a0)
set_option maxRecDepth 20000 in
set_option maxHeartbeats 2000000 in
theorem g6_cell_J21 {X : gX} {p : Program} {l : Launch} {e : Env} {s : State} {m : MethodId} {args : Array Value} {below : List Frame} {meth : Method} {c : Code} (B : gB X p (rm6_cell) s m args meth c RX6 cX6_cell 5 (rm6_cell)) (hS9 : gS X s) (hr : meth.sig.returnType = some .int) {M : mMem} : GG X p l e (rm6_cell) s m args below meth c (gP X below args s 0 0 (fun r9 : Int32 => (some (.int r9), M))) 5 0 0 21 [] [] M (p6_cell_J21 M) := by
  unfold p6_cell_J21
  refine g_iconst (v := (-1)) B dX6_cell_21 (by decide) ?_
  exact g_ireturn B hr rfl (by decide) (by decide) rfl dX6_cell_22
set_option maxRecDepth 20000 in
set_option maxHeartbeats 2000000 in
theorem g6_cell_J76 {X : gX} {p : Program} {l : Launch} {e : Env} {s : State} {m : MethodId} {args : Array Value} {below : List Frame} {meth : Method} {c : Code} (B : gB X p (rm6_cell) s m args meth c RX6 cX6_cell 5 (rm6_cell)) (hS9 : gS X s) (hr : meth.sig.returnType = some .int) {M : mMem} (u0 : Int32) : GG X p l e (rm6_cell) s m args below meth c (gP X below args s 0 0 (fun r9 : Int32 => (some (.int r9), M))) 5 0 0 76 [] [.int u0] M (p6_cell_J76 M u0) := by
  unfold p6_cell_J76
  exact g_ireturn B hr rfl (by decide) (by decide) rfl dX6_cell_76
set_option maxRecDepth 20000 in
set_option maxHeartbeats 2000000 in
theorem g6_cell_J75 {X : gX} {p : Program} {l : Launch} {e : Env} {s : State} {m : MethodId} {args : Array Value} {below : List Frame} {meth : Method} {c : Code} (B : gB X p (rm6_cell) s m args meth c RX6 cX6_cell 5 (rm6_cell)) (hS9 : gS X s) (hr : meth.sig.returnType = some .int) {M : mMem} : GG X p l e (rm6_cell) s m args below meth c (gP X below args s 0 0 (fun r9 : Int32 => (some (.int r9), M))) 5 0 0 75 [] [] M (p6_cell_J75 M) := by
  unfold p6_cell_J75
  refine g_iconst (v := (-1)) B dX6_cell_75 (by decide) ?_
  refine g_sub (lv' := []) [] rfl ?_
  exact g6_cell_J76 B hS9 hr (-1)
set_option maxRecDepth 20000 in
set_option maxHeartbeats 2000000 in
theorem g6_cell_J44 {X : gX} {p : Program} {l : Launch} {e : Env} {s : State} {m : MethodId} {args : Array Value} {below : List Frame} {meth : Method} {c : Code} (B : gB X p (rm6_cell) s m args meth c RX6 cX6_cell 5 (rm6_cell)) (hS9 : gS X s) (hr : meth.sig.returnType = some .int) {M : mMem} (a0 : Nat) (x2 : Int32) (u0 : Int32) : GG X p l e (rm6_cell) s m args below meth c (gP X below args s 0 0 (fun r9 : Int32 => (some (.int r9), M))) 5 0 0 44 [(0, .ref a0), (2, .int x2)] [.int u0] M (p6_cell_J44 M a0 x2 u0) := by
  unfold p6_cell_J44
  refine g_iconst (v := 5) B dX6_cell_44 (by decide) ?_
  refine g_imul B dX6_cell_45 ?_
  refine g_iload_n B dX6_cell_46 1 rfl ?_
  refine g_iadd B dX6_cell_47 ?_
  refine g_istore (lv' := [(4, .int ((u0 * 5) + x2)), (0, .ref a0), (2, .int x2)]) B dX6_cell_48 (by decide) [0, 1, 2] rfl ?_
  refine g_iload B dX6_cell_50 0 rfl ?_
  refine g_if_lt B 75 dX6_cell_52 (by decide) ?_ ?_
  · refine g_sub (lv' := []) [] rfl ?_
    exact g6_cell_J75 B hS9 hr
  · refine g_iload B dX6_cell_55 0 rfl ?_
    refine g_aload_n B dX6_cell_57 1 rfl ?_
    refine g_getR (ci := 6) (T0 := TX6) (N := 3) B (by decide) rfl in_6 (k := 0) (by decide) rfl wd_123 (fun _ h => h) dX6_cell_58 (fun v_1 => ?_)
    refine g_alen B dX6_cell_61 (fun v_2 => ?_)
    refine g_icmp_ge B 75 dX6_cell_62 (by decide) ?_ ?_
    · refine g_aload_n B dX6_cell_65 1 rfl ?_
      refine g_getR (ci := 6) (T0 := TX6) (N := 3) B (by decide) rfl in_6 (k := 0) (by decide) rfl wd_123 (fun _ h => h) dX6_cell_66 (fun v_3 => ?_)
      refine g_iload B dX6_cell_69 0 rfl ?_
      refine g_iaload B dX6_cell_71 (fun v_4 => ?_)
      refine g_goto B 76 dX6_cell_72 (by decide) ?_
      refine g_sub (lv' := []) [] rfl ?_
      exact g6_cell_J76 B hS9 hr v_4
    · refine g_sub (lv' := []) [] rfl ?_
      exact g6_cell_J75 B hS9 hr
set_option maxRecDepth 20000 in
set_option maxHeartbeats 2000000 in
theorem g6_cell {X : gX} {p : Program} {l : Launch} {e : Env} {s : State} {m : MethodId} {args : Array Value} {below : List Frame} {meth : Method} {c : Code} (B : gB X p (rm6_cell) s m args meth c RX6 cX6_cell 5 (rm6_cell)) (hS9 : gS X s) (hr : meth.sig.returnType = some .int) {M : mMem} (a0 : Nat) (x1 : Int32) (x2 : Int32) : GG X p l e (rm6_cell) s m args below meth c (gP X below args s 0 0 (fun r9 : Int32 => (some (.int r9), M))) 5 0 0 0 [(0, .ref a0), (1, .int x1), (2, .int x2)] [] M (p6_cell a0 x1 x2 M) := by
  unfold p6_cell
  refine g_gd ?_
  refine g_iload_n B dX6_cell_0 1 rfl ?_
  refine g_if_lt B 21 dX6_cell_1 (by decide) ?_ ?_
  · refine g_sub (lv' := []) [] rfl ?_
    exact g6_cell_J21 B hS9 hr
  · refine g_iload_n B dX6_cell_4 1 rfl ?_
    refine g_aload_n B dX6_cell_5 0 rfl ?_
    refine g_getI (ci := 6) (T0 := TX6) (N := 3) B (by decide) rfl in_6 (k := 2) (by decide) rfl wd_125 (fun _ h => h) dX6_cell_6 (fun v_1 => ?_)
    refine g_icmp_ge B 21 dX6_cell_9 (by decide) ?_ ?_
    · refine g_iload_n B dX6_cell_12 2 rfl ?_
      refine g_if_lt B 21 dX6_cell_13 (by decide) ?_ ?_
      · refine g_sub (lv' := []) [] rfl ?_
        exact g6_cell_J21 B hS9 hr
      · refine g_iload_n B dX6_cell_16 2 rfl ?_
        refine g_iconst (v := 5) B dX6_cell_17 (by decide) ?_
        refine g_icmp_lt B 23 dX6_cell_18 (by decide) ?_ ?_
        · refine g_aload_n B dX6_cell_23 0 rfl ?_
          refine g_getI (ci := 6) (T0 := TX6) (N := 3) B (by decide) rfl in_6 (k := 1) (by decide) rfl wd_124 (fun _ h => h) dX6_cell_24 (fun v_2 => ?_)
          refine g_iconst (v := 1) B dX6_cell_27 (by decide) ?_
          refine g_isub B dX6_cell_28 ?_
          refine g_iload_n B dX6_cell_29 1 rfl ?_
          refine g_isub B dX6_cell_30 ?_
          refine g_istore_n (lv' := [(3, .int ((v_2 - 1) - x1)), (0, .ref a0), (1, .int x1), (2, .int x2)]) B dX6_cell_31 (by decide) [0, 1, 2, 3] rfl ?_
          refine g_iload_n B dX6_cell_32 0 rfl ?_
          refine g_if_ge B 43 dX6_cell_33 (by decide) ?_ ?_
          · refine g_iload_n B dX6_cell_36 0 rfl ?_
            refine g_bipush (v := 60) B dX6_cell_37 (by decide) ?_
            refine g_iadd B dX6_cell_39 ?_
            refine g_goto B 44 dX6_cell_40 (by decide) ?_
            refine g_sub (lv' := [(0, .ref a0), (2, .int x2)]) [1, 3] rfl ?_
            exact g6_cell_J44 B hS9 hr a0 x2 (((v_2 - 1) - x1) + 60)
          · refine g_iload_n B dX6_cell_43 0 rfl ?_
            refine g_sub (lv' := [(0, .ref a0), (2, .int x2)]) [1, 3] rfl ?_
            exact g6_cell_J44 B hS9 hr a0 x2 ((v_2 - 1) - x1)
        · refine g_sub (lv' := []) [] rfl ?_
          exact g6_cell_J21 B hS9 hr
    · refine g_sub (lv' := []) [] rfl ?_
      exact g6_cell_J21 B hS9 hr
theorem mf6_cell : gMF yX6_cell cX6_cell 5 (some .int) 2 := ⟨wd_1115, wd_4, ⟨by decide, by decide⟩, by decide +kernel⟩
theorem c6_cell (X : gX) (l : Launch) (a0 : Nat) (x1 : Int32) (x2 : Int32) (M : mMem) : Con X l yX6_cell cX6_cell 5 (some .int) rm6_cell (fun r9 : Int32 => (some (.int r9), M)) [.ref a0, .int x1, .int x2] M (p6_cell a0 x1 x2 M) := g_con (own := RX6) (by decide +kernel) rfl (Nat.le_of_ble_eq_true rfl) (fun p e s m args below meth c B hS9 hr hn => g6_cell B hS9 hr a0 x1 x2)
set_option maxRecDepth 20000 in
set_option maxHeartbeats 2000000 in
theorem g6_shareOf_J48 {X : gX} {p : Program} {l : Launch} {e : Env} {s : State} {m : MethodId} {args : Array Value} {below : List Frame} {meth : Method} {c : Code} (B : gB X p (rm6_shareOf) s m args meth c RX6 cX6_shareOf 5 (rm6_shareOf)) (hS9 : gS X s) (hr : meth.sig.returnType = some .int) {M : mMem} (rec7 : Nat → Int32 → Int32 → Int32 → Int32 → Option Int32) (hrec7 : ∀ (a0 : Nat) (x1 : Int32) (x2 : Int32) (x3 : Int32) (x4 : Int32), GG X p l e (rm6_shareOf) s m args below meth c (gP X below args s 0 0 (fun r9 : Int32 => (some (.int r9), M))) 5 0 0 7 [(0, .ref a0), (1, .int x1), (2, .int x2), (3, .int x3), (4, .int x4)] [] M (rec7 a0 x1 x2 x3 x4)) (a0 : Nat) (x1 : Int32) (x2 : Int32) (x3 : Int32) (x4 : Int32) : GG X p l e (rm6_shareOf) s m args below meth c (gP X below args s 0 0 (fun r9 : Int32 => (some (.int r9), M))) 5 0 0 48 [(0, .ref a0), (1, .int x1), (2, .int x2), (3, .int x3), (4, .int x4)] [] M (p6_shareOf_J48 M rec7 a0 x1 x2 x3 x4) := by
  unfold p6_shareOf_J48
  refine g_iinc (v := (x4 + 1)) (lv' := [(4, .int (x4 + 1)), (0, .ref a0), (1, .int x1), (2, .int x2), (3, .int x3)]) B dX6_shareOf_48 4 rfl rfl (by decide) [0, 1, 2, 3, 4] rfl ?_
  refine g_goto B 7 dX6_shareOf_51 (by decide) ?_
  refine g_sub (lv' := [(0, .ref a0), (1, .int x1), (2, .int x2), (3, .int x3), (4, .int (x4 + 1))]) [1, 2, 3, 4, 0] rfl ?_
  exact hrec7 a0 x1 x2 x3 (x4 + 1)
set_option maxRecDepth 20000 in
set_option maxHeartbeats 2000000 in
theorem g6_shareOf_J46 {X : gX} {p : Program} {l : Launch} {e : Env} {s : State} {m : MethodId} {args : Array Value} {below : List Frame} {meth : Method} {c : Code} (B : gB X p (rm6_shareOf) s m args meth c RX6 cX6_shareOf 5 (rm6_shareOf)) (hS9 : gS X s) (hr : meth.sig.returnType = some .int) {M : mMem} (rec7 : Nat → Int32 → Int32 → Int32 → Int32 → Option Int32) (hrec7 : ∀ (a0 : Nat) (x1 : Int32) (x2 : Int32) (x3 : Int32) (x4 : Int32), GG X p l e (rm6_shareOf) s m args below meth c (gP X below args s 0 0 (fun r9 : Int32 => (some (.int r9), M))) 5 0 0 7 [(0, .ref a0), (1, .int x1), (2, .int x2), (3, .int x3), (4, .int x4)] [] M (rec7 a0 x1 x2 x3 x4)) (a0 : Nat) (x1 : Int32) (x2 : Int32) (x4 : Int32) (u0 : Int32) (u1 : Int32) : GG X p l e (rm6_shareOf) s m args below meth c (gP X below args s 0 0 (fun r9 : Int32 => (some (.int r9), M))) 5 0 0 46 [(0, .ref a0), (1, .int x1), (2, .int x2), (4, .int x4)] [.int u1, .int u0] M (p6_shareOf_J46 M rec7 a0 x1 x2 x4 u0 u1) := by
  unfold p6_shareOf_J46
  refine g_iadd B dX6_shareOf_46 ?_
  refine g_istore_n (lv' := [(3, .int (u0 + u1)), (0, .ref a0), (1, .int x1), (2, .int x2), (4, .int x4)]) B dX6_shareOf_47 (by decide) [0, 1, 2, 3, 4] rfl ?_
  refine g_sub (lv' := [(0, .ref a0), (1, .int x1), (2, .int x2), (3, .int (u0 + u1)), (4, .int x4)]) [1, 2, 3, 0, 4] rfl ?_
  exact g6_shareOf_J48 B hS9 hr rec7 hrec7 a0 x1 x2 (u0 + u1) x4
set_option maxRecDepth 20000 in
set_option maxHeartbeats 2000000 in
theorem g6_shareOf_L7 {X : gX} {p : Program} {l : Launch} {e : Env} {s : State} {m : MethodId} {args : Array Value} {below : List Frame} {meth : Method} {c : Code} (B : gB X p (rm6_shareOf) s m args meth c RX6 cX6_shareOf 5 (rm6_shareOf)) (hS9 : gS X s) (hr : meth.sig.returnType = some .int) {M : mMem} (k54 : Int32 → Int32 → Option Int32) (hk54 : ∀ (x2 : Int32) (x3 : Int32), GG X p l e (rm6_shareOf) s m args below meth c (gP X below args s 0 0 (fun r9 : Int32 => (some (.int r9), M))) 5 0 0 54 [(2, .int x2), (3, .int x3)] [] M (k54 x2 x3)) : ∀ (n : Nat) (a0 : Nat) (x1 : Int32) (x2 : Int32) (x3 : Int32) (x4 : Int32), GG X p l e (rm6_shareOf) s m args below meth c (gP X below args s 0 0 (fun r9 : Int32 => (some (.int r9), M))) 5 0 0 7 [(0, .ref a0), (1, .int x1), (2, .int x2), (3, .int x3), (4, .int x4)] [] M (p6_shareOf_L7 M k54 n a0 x1 x2 x3 x4) := by
  intro n
  induction n with
  | zero => intro a0 x1 x2 x3 x4; exact g_none
  | succ n ih =>
    intro a0 x1 x2 x3 x4
    rw [p6_shareOf_L7]
    refine g_iload B dX6_shareOf_7 4 rfl ?_
    refine g_aload_n B dX6_shareOf_9 0 rfl ?_
    refine g_getI (ci := 6) (T0 := TX6) (N := 3) B (by decide) rfl in_6 (k := 2) (by decide) rfl wd_125 (fun _ h => h) dX6_shareOf_10 (fun v_1 => ?_)
    refine g_icmp_ge B 54 dX6_shareOf_13 (by decide) ?_ ?_
    · refine g_aload_n B dX6_shareOf_16 0 rfl ?_
      refine g_iload B dX6_shareOf_17 4 rfl ?_
      refine g_iconst (v := 3) B dX6_shareOf_19 (by decide) ?_
      refine g_callV_ip [.int x4, .int 3] (ci := 6) (T0 := TX6) (N := 3) B hS9 mf6_cell wd_1113 (gw B wd_1114) wd_1112 (by decide) rfl (fun h => (gd_ne h).1) (c6_cell X l a0 x4 3 M) (by decide) (by decide) (by decide) rfl (by decide) dX6_shareOf_20 rfl (fun v_2 => ?_)
      refine g_if_ne B 48 dX6_shareOf_23 (by decide) ?_ ?_
      · refine g_iinc (v := (x2 + 1)) (lv' := [(2, .int (x2 + 1)), (0, .ref a0), (1, .int x1), (3, .int x3), (4, .int x4)]) B dX6_shareOf_26 2 rfl rfl (by decide) [0, 1, 2, 3, 4] rfl ?_
        refine g_iload_n B dX6_shareOf_29 3 rfl ?_
        refine g_aload_n B dX6_shareOf_30 1 rfl ?_
        refine g_iload B dX6_shareOf_31 4 rfl ?_
        refine g_iconst (v := 2) B dX6_shareOf_33 (by decide) ?_
        refine g_callV_ip [.int x4, .int 2] (ci := 6) (T0 := TX6) (N := 3) B hS9 mf6_cell wd_1113 (gw B wd_1114) wd_1112 (by decide) rfl (fun h => (gd_ne h).1) (c6_cell X l a0 x4 2 M) (by decide) (by decide) (by decide) rfl (Nat.le_of_ble_eq_true rfl) dX6_shareOf_34 rfl (fun v_3 => ?_)
        refine g_iload_n B dX6_shareOf_37 2 rfl ?_
        refine g_icmp_ne B 45 dX6_shareOf_38 (by decide) ?_ ?_
        · refine g_iconst (v := 1) B dX6_shareOf_41 (by decide) ?_
          refine g_goto B 46 dX6_shareOf_42 (by decide) ?_
          refine g_sub (lv' := [(0, .ref a0), (1, .int x1), (2, .int (x2 + 1)), (4, .int x4)]) [1, 2, 0, 4] rfl ?_
          exact g6_shareOf_J46 B hS9 hr (p6_shareOf_L7 M k54 n) ih a0 x1 (x2 + 1) x4 x3 1
        · refine g_iconst (v := 0) B dX6_shareOf_45 (by decide) ?_
          refine g_sub (lv' := [(0, .ref a0), (1, .int x1), (2, .int (x2 + 1)), (4, .int x4)]) [1, 2, 0, 4] rfl ?_
          exact g6_shareOf_J46 B hS9 hr (p6_shareOf_L7 M k54 n) ih a0 x1 (x2 + 1) x4 x3 0
      · refine g_sub (lv' := [(0, .ref a0), (1, .int x1), (2, .int x2), (3, .int x3), (4, .int x4)]) [0, 1, 2, 3, 4] rfl ?_
        exact g6_shareOf_J48 B hS9 hr (p6_shareOf_L7 M k54 n) ih a0 x1 x2 x3 x4
    · refine g_sub (lv' := [(2, .int x2), (3, .int x3)]) [2, 3] rfl ?_
      exact hk54 x2 x3
set_option maxRecDepth 20000 in
set_option maxHeartbeats 2000000 in
theorem g6_shareOf_J68 {X : gX} {p : Program} {l : Launch} {e : Env} {s : State} {m : MethodId} {args : Array Value} {below : List Frame} {meth : Method} {c : Code} (B : gB X p (rm6_shareOf) s m args meth c RX6 cX6_shareOf 5 (rm6_shareOf)) (hS9 : gS X s) (hr : meth.sig.returnType = some .int) {M : mMem} (u0 : Int32) : GG X p l e (rm6_shareOf) s m args below meth c (gP X below args s 0 0 (fun r9 : Int32 => (some (.int r9), M))) 5 0 0 68 [] [.int u0] M (p6_shareOf_J68 M u0) := by
  unfold p6_shareOf_J68
  exact g_ireturn B hr rfl (by decide) (by decide) rfl dX6_shareOf_68
set_option maxRecDepth 20000 in
set_option maxHeartbeats 2000000 in
theorem g6_shareOf_J54 {X : gX} {p : Program} {l : Launch} {e : Env} {s : State} {m : MethodId} {args : Array Value} {below : List Frame} {meth : Method} {c : Code} (B : gB X p (rm6_shareOf) s m args meth c RX6 cX6_shareOf 5 (rm6_shareOf)) (hS9 : gS X s) (hr : meth.sig.returnType = some .int) {M : mMem} (x2 : Int32) (x3 : Int32) : GG X p l e (rm6_shareOf) s m args below meth c (gP X below args s 0 0 (fun r9 : Int32 => (some (.int r9), M))) 5 0 0 54 [(2, .int x2), (3, .int x3)] [] M (p6_shareOf_J54 M x2 x3) := by
  unfold p6_shareOf_J54
  refine g_iload_n B dX6_shareOf_54 0 rfl ?_
  refine g_if_le B 67 dX6_shareOf_55 (by decide) ?_ ?_
  · refine g_bipush (v := 100) B dX6_shareOf_58 (by decide) ?_
    refine g_iload_n B dX6_shareOf_60 1 rfl ?_
    refine g_imul B dX6_shareOf_61 ?_
    refine g_iload_n B dX6_shareOf_62 0 rfl ?_
    refine g_idiv B dX6_shareOf_63 (fun v_1 => ?_)
    refine g_goto B 68 dX6_shareOf_64 (by decide) ?_
    refine g_sub (lv' := []) [] rfl ?_
    exact g6_shareOf_J68 B hS9 hr v_1
  · refine g_iconst (v := 0) B dX6_shareOf_67 (by decide) ?_
    refine g_sub (lv' := []) [] rfl ?_
    exact g6_shareOf_J68 B hS9 hr 0
set_option maxRecDepth 20000 in
set_option maxHeartbeats 2000000 in
theorem g6_shareOf {X : gX} {p : Program} {l : Launch} {e : Env} {s : State} {m : MethodId} {args : Array Value} {below : List Frame} {meth : Method} {c : Code} (B : gB X p (rm6_shareOf) s m args meth c RX6 cX6_shareOf 5 (rm6_shareOf)) (hS9 : gS X s) (hr : meth.sig.returnType = some .int) {M : mMem} (a0 : Nat) (x1 : Int32) : GG X p l e (rm6_shareOf) s m args below meth c (gP X below args s 0 0 (fun r9 : Int32 => (some (.int r9), M))) 5 0 0 0 [(0, .ref a0), (1, .int x1)] [] M (p6_shareOf a0 x1 M) := by
  unfold p6_shareOf
  refine g_gd ?_
  refine g_iconst (v := 0) B dX6_shareOf_0 (by decide) ?_
  refine g_istore_n (lv' := [(2, .int 0), (0, .ref a0), (1, .int x1)]) B dX6_shareOf_1 (by decide) [0, 1, 2] rfl ?_
  refine g_iconst (v := 0) B dX6_shareOf_2 (by decide) ?_
  refine g_istore_n (lv' := [(3, .int 0), (2, .int 0), (0, .ref a0), (1, .int x1)]) B dX6_shareOf_3 (by decide) [0, 1, 2, 3] rfl ?_
  refine g_iconst (v := 0) B dX6_shareOf_4 (by decide) ?_
  refine g_istore (lv' := [(4, .int 0), (3, .int 0), (2, .int 0), (0, .ref a0), (1, .int x1)]) B dX6_shareOf_5 (by decide) [0, 1, 2, 3, 4] rfl ?_
  refine g_sub (lv' := [(0, .ref a0), (1, .int x1), (2, .int 0), (3, .int 0), (4, .int 0)]) [3, 4, 2, 1, 0] rfl ?_
  exact (g6_shareOf_L7 B hS9 hr (p6_shareOf_J54 M) (fun e0 e1 => g6_shareOf_J54 B hS9 hr e0 e1)) gF a0 x1 0 0 0
theorem mf6_shareOf : gMF yX6_shareOf cX6_shareOf 5 (some .int) 1 := ⟨wd_1111, wd_4, ⟨by decide, by decide⟩, by decide +kernel⟩
theorem c6_shareOf (X : gX) (l : Launch) (a0 : Nat) (x1 : Int32) (M : mMem) : Con X l yX6_shareOf cX6_shareOf 5 (some .int) rm6_shareOf (fun r9 : Int32 => (some (.int r9), M)) [.ref a0, .int x1] M (p6_shareOf a0 x1 M) := g_con (own := RX6) (by decide +kernel) rfl (Nat.le_of_ble_eq_true rfl) (fun p e s m args below meth c B hS9 hr hn => g6_shareOf B hS9 hr a0 x1)
set_option maxRecDepth 20000 in
set_option maxHeartbeats 2000000 in
theorem g6_rowsTo_J25 {X : gX} {p : Program} {l : Launch} {e : Env} {s : State} {m : MethodId} {args : Array Value} {below : List Frame} {meth : Method} {c : Code} (B : gB X p (rm6_rowsTo) s m args meth c RX6 cX6_rowsTo 4 (rm6_rowsTo)) (hS9 : gS X s) (hr : meth.sig.returnType = some .int) {M : mMem} (rec4 : Nat → Int32 → Int32 → Int32 → Option Int32) (hrec4 : ∀ (a0 : Nat) (x1 : Int32) (x2 : Int32) (x3 : Int32), GG X p l e (rm6_rowsTo) s m args below meth c (gP X below args s 0 0 (fun r9 : Int32 => (some (.int r9), M))) 4 0 0 4 [(0, .ref a0), (1, .int x1), (2, .int x2), (3, .int x3)] [] M (rec4 a0 x1 x2 x3)) (a0 : Nat) (x1 : Int32) (x2 : Int32) (x3 : Int32) : GG X p l e (rm6_rowsTo) s m args below meth c (gP X below args s 0 0 (fun r9 : Int32 => (some (.int r9), M))) 4 0 0 25 [(0, .ref a0), (1, .int x1), (2, .int x2), (3, .int x3)] [] M (p6_rowsTo_J25 M rec4 a0 x1 x2 x3) := by
  unfold p6_rowsTo_J25
  refine g_iinc (v := (x3 + 1)) (lv' := [(3, .int (x3 + 1)), (0, .ref a0), (1, .int x1), (2, .int x2)]) B dX6_rowsTo_25 3 rfl rfl (by decide) [0, 1, 2, 3] rfl ?_
  refine g_goto B 4 dX6_rowsTo_28 (by decide) ?_
  refine g_sub (lv' := [(0, .ref a0), (1, .int x1), (2, .int x2), (3, .int (x3 + 1))]) [1, 2, 3, 0] rfl ?_
  exact hrec4 a0 x1 x2 (x3 + 1)
set_option maxRecDepth 20000 in
set_option maxHeartbeats 2000000 in
theorem g6_rowsTo_L4 {X : gX} {p : Program} {l : Launch} {e : Env} {s : State} {m : MethodId} {args : Array Value} {below : List Frame} {meth : Method} {c : Code} (B : gB X p (rm6_rowsTo) s m args meth c RX6 cX6_rowsTo 4 (rm6_rowsTo)) (hS9 : gS X s) (hr : meth.sig.returnType = some .int) {M : mMem} : ∀ (n : Nat) (a0 : Nat) (x1 : Int32) (x2 : Int32) (x3 : Int32), GG X p l e (rm6_rowsTo) s m args below meth c (gP X below args s 0 0 (fun r9 : Int32 => (some (.int r9), M))) 4 0 0 4 [(0, .ref a0), (1, .int x1), (2, .int x2), (3, .int x3)] [] M (p6_rowsTo_L4 M n a0 x1 x2 x3) := by
  intro n
  induction n with
  | zero => intro a0 x1 x2 x3; exact g_none
  | succ n ih =>
    intro a0 x1 x2 x3
    rw [p6_rowsTo_L4]
    refine g_iload_n B dX6_rowsTo_4 3 rfl ?_
    refine g_aload_n B dX6_rowsTo_5 0 rfl ?_
    refine g_getI (ci := 6) (T0 := TX6) (N := 3) B (by decide) rfl in_6 (k := 2) (by decide) rfl wd_125 (fun _ h => h) dX6_rowsTo_6 (fun v_1 => ?_)
    refine g_icmp_ge B 31 dX6_rowsTo_9 (by decide) ?_ ?_
    · refine g_aload_n B dX6_rowsTo_12 0 rfl ?_
      refine g_iload_n B dX6_rowsTo_13 3 rfl ?_
      refine g_iconst (v := 2) B dX6_rowsTo_14 (by decide) ?_
      refine g_callV_ip [.int x3, .int 2] (ci := 6) (T0 := TX6) (N := 3) B hS9 mf6_cell wd_1113 (gw B wd_1114) wd_1112 (by decide) rfl (fun h => (gd_ne h).1) (c6_cell X l a0 x3 2 M) (by decide) (by decide) (by decide) rfl (by decide) dX6_rowsTo_15 rfl (fun v_2 => ?_)
      refine g_iload_n B dX6_rowsTo_18 1 rfl ?_
      refine g_icmp_ne B 25 dX6_rowsTo_19 (by decide) ?_ ?_
      · refine g_iinc (v := (x2 + 1)) (lv' := [(2, .int (x2 + 1)), (0, .ref a0), (1, .int x1), (3, .int x3)]) B dX6_rowsTo_22 2 rfl rfl (by decide) [0, 1, 2, 3] rfl ?_
        refine g_sub (lv' := [(0, .ref a0), (1, .int x1), (2, .int (x2 + 1)), (3, .int x3)]) [1, 2, 0, 3] rfl ?_
        exact g6_rowsTo_J25 B hS9 hr (p6_rowsTo_L4 M n) ih a0 x1 (x2 + 1) x3
      · refine g_sub (lv' := [(0, .ref a0), (1, .int x1), (2, .int x2), (3, .int x3)]) [0, 1, 2, 3] rfl ?_
        exact g6_rowsTo_J25 B hS9 hr (p6_rowsTo_L4 M n) ih a0 x1 x2 x3
    · refine g_iload_n B dX6_rowsTo_31 2 rfl ?_
      exact g_ireturn B hr rfl (by decide) (by decide) rfl dX6_rowsTo_32
set_option maxRecDepth 20000 in
set_option maxHeartbeats 2000000 in
theorem g6_rowsTo {X : gX} {p : Program} {l : Launch} {e : Env} {s : State} {m : MethodId} {args : Array Value} {below : List Frame} {meth : Method} {c : Code} (B : gB X p (rm6_rowsTo) s m args meth c RX6 cX6_rowsTo 4 (rm6_rowsTo)) (hS9 : gS X s) (hr : meth.sig.returnType = some .int) {M : mMem} (a0 : Nat) (x1 : Int32) : GG X p l e (rm6_rowsTo) s m args below meth c (gP X below args s 0 0 (fun r9 : Int32 => (some (.int r9), M))) 4 0 0 0 [(0, .ref a0), (1, .int x1)] [] M (p6_rowsTo a0 x1 M) := by
  unfold p6_rowsTo
  refine g_gd ?_
  refine g_iconst (v := 0) B dX6_rowsTo_0 (by decide) ?_
  refine g_istore_n (lv' := [(2, .int 0), (0, .ref a0), (1, .int x1)]) B dX6_rowsTo_1 (by decide) [0, 1, 2] rfl ?_
  refine g_iconst (v := 0) B dX6_rowsTo_2 (by decide) ?_
  refine g_istore_n (lv' := [(3, .int 0), (2, .int 0), (0, .ref a0), (1, .int x1)]) B dX6_rowsTo_3 (by decide) [0, 1, 2, 3] rfl ?_
  refine g_sub (lv' := [(0, .ref a0), (1, .int x1), (2, .int 0), (3, .int 0)]) [2, 3, 1, 0] rfl ?_
  exact (g6_rowsTo_L4 B hS9 hr) gF a0 x1 0 0
theorem mf6_rowsTo : gMF yX6_rowsTo cX6_rowsTo 4 (some .int) 1 := ⟨wd_1622, wd_4, ⟨by decide, by decide⟩, by decide +kernel⟩
theorem c6_rowsTo (X : gX) (l : Launch) (a0 : Nat) (x1 : Int32) (M : mMem) : Con X l yX6_rowsTo cX6_rowsTo 4 (some .int) rm6_rowsTo (fun r9 : Int32 => (some (.int r9), M)) [.ref a0, .int x1] M (p6_rowsTo a0 x1 M) := g_con (own := RX6) (by decide +kernel) rfl (Nat.le_of_ble_eq_true rfl) (fun p e s m args below meth c B hS9 hr hn => g6_rowsTo B hS9 hr a0 x1)
set_option maxRecDepth 20000 in
set_option maxHeartbeats 2000000 in
theorem g6_latestDayTo_L2 {X : gX} {p : Program} {l : Launch} {e : Env} {s : State} {m : MethodId} {args : Array Value} {below : List Frame} {meth : Method} {c : Code} (B : gB X p (rm6_latestDayTo) s m args meth c RX6 cX6_latestDayTo 3 (rm6_latestDayTo)) (hS9 : gS X s) (hr : meth.sig.returnType = some .int) {M : mMem} : ∀ (n : Nat) (a0 : Nat) (x1 : Int32) (x2 : Int32), GG X p l e (rm6_latestDayTo) s m args below meth c (gP X below args s 0 0 (fun r9 : Int32 => (some (.int r9), M))) 3 0 0 2 [(0, .ref a0), (1, .int x1), (2, .int x2)] [] M (p6_latestDayTo_L2 M n a0 x1 x2) := by
  intro n
  induction n with
  | zero => intro a0 x1 x2; exact g_none
  | succ n ih =>
    intro a0 x1 x2
    rw [p6_latestDayTo_L2]
    refine g_iload_n B dX6_latestDayTo_2 2 rfl ?_
    refine g_aload_n B dX6_latestDayTo_3 0 rfl ?_
    refine g_getI (ci := 6) (T0 := TX6) (N := 3) B (by decide) rfl in_6 (k := 2) (by decide) rfl wd_125 (fun _ h => h) dX6_latestDayTo_4 (fun v_1 => ?_)
    refine g_icmp_ge B 33 dX6_latestDayTo_7 (by decide) ?_ ?_
    · refine g_aload_n B dX6_latestDayTo_10 0 rfl ?_
      refine g_iload_n B dX6_latestDayTo_11 2 rfl ?_
      refine g_iconst (v := 2) B dX6_latestDayTo_12 (by decide) ?_
      refine g_callV_ip [.int x2, .int 2] (ci := 6) (T0 := TX6) (N := 3) B hS9 mf6_cell wd_1113 (gw B wd_1114) wd_1112 (by decide) rfl (fun h => (gd_ne h).1) (c6_cell X l a0 x2 2 M) (by decide) (by decide) (by decide) rfl (by decide) dX6_latestDayTo_13 rfl (fun v_2 => ?_)
      refine g_iload_n B dX6_latestDayTo_16 1 rfl ?_
      refine g_icmp_ne B 27 dX6_latestDayTo_17 (by decide) ?_ ?_
      · refine g_aload_n B dX6_latestDayTo_20 0 rfl ?_
        refine g_iload_n B dX6_latestDayTo_21 2 rfl ?_
        refine g_iconst (v := 0) B dX6_latestDayTo_22 (by decide) ?_
        refine g_callV_ip [.int x2, .int 0] (ci := 6) (T0 := TX6) (N := 3) B hS9 mf6_cell wd_1113 (gw B wd_1114) wd_1112 (by decide) rfl (fun h => (gd_ne h).1) (c6_cell X l a0 x2 0 M) (by decide) (by decide) (by decide) rfl (by decide) dX6_latestDayTo_23 rfl (fun v_3 => ?_)
        exact g_ireturn B hr rfl (by decide) (by decide) rfl dX6_latestDayTo_26
      · refine g_iinc (v := (x2 + 1)) (lv' := [(2, .int (x2 + 1)), (0, .ref a0), (1, .int x1)]) B dX6_latestDayTo_27 2 rfl rfl (by decide) [0, 1, 2] rfl ?_
        refine g_goto B 2 dX6_latestDayTo_30 (by decide) ?_
        refine g_sub (lv' := [(0, .ref a0), (1, .int x1), (2, .int (x2 + 1))]) [1, 2, 0] rfl ?_
        exact ih a0 x1 (x2 + 1)
    · refine g_iconst (v := (-1)) B dX6_latestDayTo_33 (by decide) ?_
      exact g_ireturn B hr rfl (by decide) (by decide) rfl dX6_latestDayTo_34
set_option maxRecDepth 20000 in
set_option maxHeartbeats 2000000 in
theorem g6_latestDayTo {X : gX} {p : Program} {l : Launch} {e : Env} {s : State} {m : MethodId} {args : Array Value} {below : List Frame} {meth : Method} {c : Code} (B : gB X p (rm6_latestDayTo) s m args meth c RX6 cX6_latestDayTo 3 (rm6_latestDayTo)) (hS9 : gS X s) (hr : meth.sig.returnType = some .int) {M : mMem} (a0 : Nat) (x1 : Int32) : GG X p l e (rm6_latestDayTo) s m args below meth c (gP X below args s 0 0 (fun r9 : Int32 => (some (.int r9), M))) 3 0 0 0 [(0, .ref a0), (1, .int x1)] [] M (p6_latestDayTo a0 x1 M) := by
  unfold p6_latestDayTo
  refine g_gd ?_
  refine g_iconst (v := 0) B dX6_latestDayTo_0 (by decide) ?_
  refine g_istore_n (lv' := [(2, .int 0), (0, .ref a0), (1, .int x1)]) B dX6_latestDayTo_1 (by decide) [0, 1, 2] rfl ?_
  refine g_sub (lv' := [(0, .ref a0), (1, .int x1), (2, .int 0)]) [1, 2, 0] rfl ?_
  exact (g6_latestDayTo_L2 B hS9 hr) gF a0 x1 0
theorem mf6_latestDayTo : gMF yX6_latestDayTo cX6_latestDayTo 3 (some .int) 1 := ⟨wd_1618, wd_4, ⟨by decide, by decide⟩, by decide +kernel⟩
theorem c6_latestDayTo (X : gX) (l : Launch) (a0 : Nat) (x1 : Int32) (M : mMem) : Con X l yX6_latestDayTo cX6_latestDayTo 3 (some .int) rm6_latestDayTo (fun r9 : Int32 => (some (.int r9), M)) [.ref a0, .int x1] M (p6_latestDayTo a0 x1 M) := g_con (own := RX6) (by decide +kernel) rfl (Nat.le_of_ble_eq_true rfl) (fun p e s m args below meth c B hS9 hr hn => g6_latestDayTo B hS9 hr a0 x1)
