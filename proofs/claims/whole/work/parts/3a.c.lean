theorem mf8_init : gMF yX8_init cX8_init 1 (none) 0 := ⟨wd_49, wd_3, ⟨by decide, by decide⟩, by decide +kernel⟩
set_option maxRecDepth 20000 in
set_option maxHeartbeats 2000000 in
theorem g8_init {X : gX} {p : Program} {l : Launch} {e : Env} {s : State} {m : MethodId} {args : Array Value} {below : List Frame} {meth : Method} {c : Code} (B : gB X p (rm8_init) s m args meth c RX8 cX8_init 1 (rm8_init)) (hS9 : gS X s) (hr : meth.sig.returnType = none) (hin2 : meth.name = "<init>") (a0 : Nat) (M : mMem) : GG X p l e (rm8_init) s m args below meth c (gP X below args s 0 0 (fun M9 : mMem => (none, M9))) 1 0 0 0 [(0, .ref a0)] [] M (p8_init a0 M) := by
  unfold p8_init
  refine g_gd ?_
  refine g_aload_n B dX8_init_0 0 rfl ?_
  refine g_objinit B wd_50 wd_36 wd_37 (by decide) (by decide) dX8_init_1 ?_
  refine g_aload_n B dX8_init_4 0 rfl ?_
  refine g_iconst (v := (-1)) B dX8_init_5 (by decide) ?_
  refine g_putI (ci := 8) (T0 := TX8) (N := 9) B (by decide) rfl in_8 tyX8 tyX8_ok nmX8 (k := 3) (by decide) wd_68 (fun _ h => h) rfl rfl (ty := .int) (by decide +kernel) rfl rfl dX8_init_6 (fun M_1 => ?_)
  refine g_aload_n B dX8_init_9 0 rfl ?_
  refine g_iconst (v := (-1)) B dX8_init_10 (by decide) ?_
  refine g_putI (ci := 8) (T0 := TX8) (N := 9) B (by decide) rfl in_8 tyX8 tyX8_ok nmX8 (k := 4) (by decide) wd_73 (fun _ h => h) rfl rfl (ty := .int) (by decide +kernel) rfl rfl dX8_init_11 (fun M_2 => ?_)
  refine g_aload_n B dX8_init_14 0 rfl ?_
  refine g_bipush (v := 50) B dX8_init_15 (by decide) ?_
  refine g_putI (ci := 8) (T0 := TX8) (N := 9) B (by decide) rfl in_8 tyX8 tyX8_ok nmX8 (k := 6) (by decide) wd_83 (fun _ h => h) rfl rfl (ty := .int) (by decide +kernel) rfl rfl dX8_init_17 (fun M_3 => ?_)
  exact g_vreturn B hr (by decide) (by decide) rfl dX8_init_20
theorem c8_init (X : gX) (l : Launch) (a0 : Nat) (M : mMem) : Con X l yX8_init cX8_init 1 (none) rm8_init (fun M9 : mMem => (none, M9)) [.ref a0] M (p8_init a0 M) := g_con (own := RX8) (by decide +kernel) rfl (Nat.le_of_ble_eq_true rfl) (fun p e s m args below meth c B hS9 hr hn => g8_init B hS9 hr hn a0 M)
theorem mf6_init : gMF yX6_init cX6_init 1 (none) 0 := ⟨wd_121, wd_4, ⟨by decide, by decide⟩, by decide +kernel⟩
set_option maxRecDepth 20000 in
set_option maxHeartbeats 2000000 in
theorem g6_init {X : gX} {p : Program} {l : Launch} {e : Env} {s : State} {m : MethodId} {args : Array Value} {below : List Frame} {meth : Method} {c : Code} (B : gB X p (rm6_init) s m args meth c RX6 cX6_init 1 (rm6_init)) (hS9 : gS X s) (hr : meth.sig.returnType = none) (hin2 : meth.name = "<init>") (a0 : Nat) (M : mMem) : GG X p l e (rm6_init) s m args below meth c (gP X below args s 1 300 (fun M9 : mMem => (none, M9))) 1 0 0 0 [(0, .ref a0)] [] M (p6_init a0 M) := by
  unfold p6_init
  refine g_gd ?_
  refine g_aload_n B dX6_init_0 0 rfl ?_
  refine g_objinit B wd_122 wd_36 wd_37 (by decide) (by decide) dX6_init_1 ?_
  refine g_aload_n B dX6_init_4 0 rfl ?_
  refine g_sipush (v := 300) B dX6_init_5 (by decide) ?_
  refine g_newarrayI (N := 300) B wd_116 (by decide +kernel) (by decide +kernel) (by decide +kernel) (by decide) dX6_init_8 (fun n_1 => ?_)
  refine g_putRF (ci := 6) (T0 := TX6) (N := 3) B (by decide) rfl in_6 tyX6 tyX6_ok nmX6 (k := 0) (by decide) wd_123 (fun _ h => h) rfl rfl hin2 rfl (ty := (.array .int)) (by decide +kernel) rfl rfl dX6_init_10 (fun M_2 => ?_)
  refine g_aload_n B dX6_init_13 0 rfl ?_
  refine g_iconst (v := 0) B dX6_init_14 (by decide) ?_
  refine g_putI (ci := 6) (T0 := TX6) (N := 3) B (by decide) rfl in_6 tyX6 tyX6_ok nmX6 (k := 1) (by decide) wd_124 (fun _ h => h) rfl rfl (ty := .int) (by decide +kernel) rfl rfl dX6_init_15 (fun M_3 => ?_)
  refine g_aload_n B dX6_init_18 0 rfl ?_
  refine g_iconst (v := 0) B dX6_init_19 (by decide) ?_
  refine g_putI (ci := 6) (T0 := TX6) (N := 3) B (by decide) rfl in_6 tyX6 tyX6_ok nmX6 (k := 2) (by decide) wd_125 (fun _ h => h) rfl rfl (ty := .int) (by decide +kernel) rfl rfl dX6_init_20 (fun M_4 => ?_)
  exact g_vreturn B hr (by decide) (by decide) rfl dX6_init_23
theorem c6_init (X : gX) (l : Launch) (a0 : Nat) (M : mMem) : Con X l yX6_init cX6_init 1 (none) rm6_init (fun M9 : mMem => (none, M9)) [.ref a0] M (p6_init a0 M) := g_con (own := RX6) (by decide +kernel) rfl (Nat.le_of_ble_eq_true rfl) (fun p e s m args below meth c B hS9 hr hn => g6_init B hS9 hr hn a0 M)
theorem mf2_init : gMF yX2_init cX2_init 2 (none) 0 := ⟨wd_42, wd_2, ⟨by decide, by decide⟩, by decide +kernel⟩
set_option maxRecDepth 20000 in
set_option maxHeartbeats 2000000 in
theorem g2_init_L81 {X : gX} {p : Program} {l : Launch} {e : Env} {s : State} {m : MethodId} {args : Array Value} {below : List Frame} {meth : Method} {c : Code} (B : gB X p (rm2_init) s m args meth c RX2 cX2_init 2 (rm2_init)) (hS9 : gS X s) (hr : meth.sig.returnType = none) (hin2 : meth.name = "<init>") : ∀ (n j : Nat) (_ : j + n = 9) (a0 : Nat) (x1 : Int32) (M : mMem), GG X p l e (rm2_init) s m args below meth c (gP X below args s 14 465 (fun M9 : mMem => (none, M9))) 2 (5 + 1 * j) (384 + 9 * j) 81 [(0, .ref a0), (1, .int x1)] [] M (p2_init_L81 n a0 x1 M) := by
  intro n
  induction n with
  | zero => intro j hj a0 x1 M; exact g_none
  | succ n ih =>
    intro j hj a0 x1 M
    rw [p2_init_L81]
    refine g_iload_n B dX2_init_81 1 rfl ?_
    refine g_aload_n B dX2_init_82 0 rfl ?_
    refine g_getR (ci := 2) (T0 := TX2) (N := 11) B (by decide) rfl in_2 (k := 0) (by decide) rfl wd_134 (fun _ h => h) dX2_init_83 (fun v_1 => ?_)
    refine g_alen B dX2_init_86 (fun v_2 => ?_)
    refine g_icmp_ge B 109 dX2_init_87 (by decide) ?_ ?_
    · refine g_aload_n B dX2_init_90 0 rfl ?_
      refine g_getR (ci := 2) (T0 := TX2) (N := 11) B (by decide) rfl in_2 (k := 0) (by decide) rfl wd_134 (fun _ h => h) dX2_init_91 (fun v_3 => ?_)
      refine g_iload_n B dX2_init_94 1 rfl ?_
      refine g_new (ci := 8) (T0 := TX8) (N := 9) B (by decide) rfl in_8 tyX8 tyX8_ok df_8 wd_44 wd_46 wd_3 ⟨by show (5 + 1 * j + 1) ≤ 14; omega, by show (384 + 9 * j + 9) ≤ 465; omega⟩ dX2_init_95 (fun n_4 => ?_)
      refine g_dup B dX2_init_98 rfl ?_
      refine g_callI_vw [] B hS9 mf8_init rfl wd_48 wd_47 (c8_init X l n_4.1 n_4.2) (by decide) (by decide) ⟨by show (5 + 1 * j + 1) + 0 ≤ 14; omega, by show (384 + 9 * j + 9) + 0 ≤ 465; omega⟩ rfl (Nat.le_of_ble_eq_true rfl) dX2_init_99 rfl (fun q_5 => ?_)
      refine g_aastore (k := 24) (t0 := 4) (ci := 8) (T0 := TX8) (N := 9) (Or.inr rfl) (by decide) rfl B rfl dX2_init_102 (fun M_6 => ?_)
      refine g_iinc (v := (x1 + 1)) (lv' := [(1, .int (x1 + 1)), (0, .ref a0)]) B dX2_init_103 1 rfl rfl (by decide) [0, 1] rfl ?_
      refine g_goto B 81 dX2_init_106 (by decide) ?_
      refine g_sub (lv' := [(0, .ref a0), (1, .int (x1 + 1))]) [1, 0] rfl ?_
      exact ih (j + 1) (by omega) a0 (x1 + 1) M_6
    · exact g_vreturn B hr (by omega) (by omega) rfl dX2_init_109
set_option maxRecDepth 20000 in
set_option maxHeartbeats 2000000 in
theorem g2_init {X : gX} {p : Program} {l : Launch} {e : Env} {s : State} {m : MethodId} {args : Array Value} {below : List Frame} {meth : Method} {c : Code} (B : gB X p (rm2_init) s m args meth c RX2 cX2_init 2 (rm2_init)) (hS9 : gS X s) (hr : meth.sig.returnType = none) (hin2 : meth.name = "<init>") (a0 : Nat) (M : mMem) : GG X p l e (rm2_init) s m args below meth c (gP X below args s 14 465 (fun M9 : mMem => (none, M9))) 2 0 0 0 [(0, .ref a0)] [] M (p2_init a0 M) := by
  unfold p2_init
  refine g_gd ?_
  refine g_aload_n B dX2_init_0 0 rfl ?_
  refine g_objinit B wd_43 wd_36 wd_37 (by decide) (by decide) dX2_init_1 ?_
  refine g_aload_n B dX2_init_4 0 rfl ?_
  refine g_bipush (v := 8) B dX2_init_5 (by decide) ?_
  refine g_anewarray (N := 8) (k := 24) (t0 := 4) (Or.inr rfl) B wd_44 hS9.2.2.2.1 rfl (by decide +kernel) (by decide +kernel) (by decide +kernel) (by decide) dX2_init_7 (fun n_1 => ?_)
  refine g_putRF (ci := 2) (T0 := TX2) (N := 11) B (by decide) rfl in_2 tyX2 tyX2_ok nmX2 (k := 0) (by decide) wd_134 (fun _ h => h) rfl rfl hin2 rfl (ty := (.array (.object "CribLine$Person"))) (by decide +kernel) rfl rfl dX2_init_10 (fun M_2 => ?_)
  refine g_aload_n B dX2_init_13 0 rfl ?_
  refine g_new (ci := 8) (T0 := TX8) (N := 9) B (by decide) rfl in_8 tyX8 tyX8_ok df_8 wd_44 wd_46 wd_3 (by decide) dX2_init_14 (fun n_3 => ?_)
  refine g_dup B dX2_init_17 rfl ?_
  refine g_callI_vw [] B hS9 mf8_init rfl wd_48 wd_47 (c8_init X l n_3.1 n_3.2) (by decide) (by decide) (by decide) rfl (Nat.le_of_ble_eq_true rfl) dX2_init_18 rfl (fun q_4 => ?_)
  refine g_putRF (ci := 2) (T0 := TX2) (N := 11) B (by decide) rfl in_2 tyX2 tyX2_ok nmX2 (k := 1) (by decide) wd_135 (fun _ h => h) rfl rfl hin2 rfl (ty := (.object "CribLine$Person")) (by decide +kernel) rfl rfl dX2_init_21 (fun M_5 => ?_)
  refine g_aload_n B dX2_init_24 0 rfl ?_
  refine g_bipush (v := 64) B dX2_init_25 (by decide) ?_
  refine g_newarrayI (N := 64) B wd_116 (by decide +kernel) (by decide +kernel) (by decide +kernel) (by decide) dX2_init_27 (fun n_6 => ?_)
  refine g_putRF (ci := 2) (T0 := TX2) (N := 11) B (by decide) rfl in_2 tyX2 tyX2_ok nmX2 (k := 2) (by decide) wd_136 (fun _ h => h) rfl rfl hin2 rfl (ty := (.array .int)) (by decide +kernel) rfl rfl dX2_init_29 (fun M_7 => ?_)
  refine g_aload_n B dX2_init_32 0 rfl ?_
  refine g_new (ci := 6) (T0 := TX6) (N := 3) B (by decide) rfl in_6 tyX6 tyX6_ok df_6 wd_117 wd_118 wd_4 (by decide) dX2_init_33 (fun n_8 => ?_)
  refine g_dup B dX2_init_36 rfl ?_
  refine g_callI_vw [] B hS9 mf6_init rfl wd_120 wd_119 (c6_init X l n_8.1 n_8.2) (by decide) (by decide) (by decide) rfl (Nat.le_of_ble_eq_true rfl) dX2_init_37 rfl (fun q_9 => ?_)
  refine g_putRF (ci := 2) (T0 := TX2) (N := 11) B (by decide) rfl in_2 tyX2 tyX2_ok nmX2 (k := 3) (by decide) wd_137 (fun _ h => h) rfl rfl hin2 rfl (ty := (.object "CribLine$Log")) (by decide +kernel) rfl rfl dX2_init_40 (fun M_10 => ?_)
  refine g_aload_n B dX2_init_43 0 rfl ?_
  refine g_iconst (v := 0) B dX2_init_44 (by decide) ?_
  refine g_putI (ci := 2) (T0 := TX2) (N := 11) B (by decide) rfl in_2 tyX2 tyX2_ok nmX2 (k := 4) (by decide) wd_139 (fun _ h => h) rfl rfl (ty := .int) (by decide +kernel) rfl rfl dX2_init_45 (fun M_11 => ?_)
  refine g_aload_n B dX2_init_48 0 rfl ?_
  refine g_bipush (v := 90) B dX2_init_49 (by decide) ?_
  refine g_putI (ci := 2) (T0 := TX2) (N := 11) B (by decide) rfl in_2 tyX2 tyX2_ok nmX2 (k := 5) (by decide) wd_146 (fun _ h => h) rfl rfl (ty := .int) (by decide +kernel) rfl rfl dX2_init_51 (fun M_12 => ?_)
  refine g_aload_n B dX2_init_54 0 rfl ?_
  refine g_iconst (v := 5) B dX2_init_55 (by decide) ?_
  refine g_putI (ci := 2) (T0 := TX2) (N := 11) B (by decide) rfl in_2 tyX2 tyX2_ok nmX2 (k := 6) (by decide) wd_150 (fun _ h => h) rfl rfl (ty := .int) (by decide +kernel) rfl rfl dX2_init_56 (fun M_13 => ?_)
  refine g_aload_n B dX2_init_59 0 rfl ?_
  refine g_iconst (v := 1) B dX2_init_60 (by decide) ?_
  refine g_putI (ci := 2) (T0 := TX2) (N := 11) B (by decide) rfl in_2 tyX2 tyX2_ok nmX2 (k := 7) (by decide) wd_154 (fun _ h => h) rfl rfl (ty := .int) (by decide +kernel) rfl rfl dX2_init_61 (fun M_14 => ?_)
  refine g_aload_n B dX2_init_64 0 rfl ?_
  refine g_iconst (v := 0) B dX2_init_65 (by decide) ?_
  refine g_putI (ci := 2) (T0 := TX2) (N := 11) B (by decide) rfl in_2 tyX2 tyX2_ok nmX2 (k := 8) (by decide) wd_159 (fun _ h => h) rfl rfl (ty := .int) (by decide +kernel) rfl rfl dX2_init_66 (fun M_15 => ?_)
  refine g_aload_n B dX2_init_69 0 rfl ?_
  refine g_iconst (v := 1) B dX2_init_70 (by decide) ?_
  refine g_putI (ci := 2) (T0 := TX2) (N := 11) B (by decide) rfl in_2 tyX2 tyX2_ok nmX2 (k := 9) (by decide) wd_163 (fun _ h => h) rfl rfl (ty := .int) (by decide +kernel) rfl rfl dX2_init_71 (fun M_16 => ?_)
  refine g_aload_n B dX2_init_74 0 rfl ?_
  refine g_iconst (v := 0) B dX2_init_75 (by decide) ?_
  refine g_putI (ci := 2) (T0 := TX2) (N := 11) B (by decide) rfl in_2 tyX2 tyX2_ok nmX2 (k := 10) (by decide) wd_166 (fun _ h => h) rfl rfl (ty := .int) (by decide +kernel) rfl rfl dX2_init_76 (fun M_17 => ?_)
  refine g_iconst (v := 0) B dX2_init_79 (by decide) ?_
  refine g_istore_n (lv' := [(1, .int 0), (0, .ref a0)]) B dX2_init_80 (by decide) [0, 1] rfl ?_
  refine g_sub (lv' := [(0, .ref a0), (1, .int 0)]) [1, 0] rfl ?_
  exact (g2_init_L81 B hS9 hr hin2) 9 0 rfl a0 0 M_17
theorem c2_init (X : gX) (l : Launch) (a0 : Nat) (M : mMem) : Con X l yX2_init cX2_init 2 (none) rm2_init (fun M9 : mMem => (none, M9)) [.ref a0] M (p2_init a0 M) := g_con (own := RX2) (by decide +kernel) rfl (Nat.le_of_ble_eq_true rfl) (fun p e s m args below meth c B hS9 hr hn => g2_init B hS9 hr hn a0 M)
theorem mf0_init : gMF yX0_init cX0_init 3 (none) 2 := ⟨wd_316, wd_10, ⟨by decide, by decide⟩, by decide +kernel⟩
set_option maxRecDepth 20000 in
set_option maxHeartbeats 2000000 in
theorem g0_init {X : gX} {p : Program} {l : Launch} {e : Env} {s : State} {m : MethodId} {args : Array Value} {below : List Frame} {meth : Method} {c : Code} (B : gB X p (rm0_init) s m args meth c RX0 cX0_init 3 (rm0_init)) (hS9 : gS X s) (hr : meth.sig.returnType = none) (hin2 : meth.name = "<init>") (a0 : Nat) (a1 : Nat) (a2 : Nat) (M : mMem) : GG X p l e (rm0_init) s m args below meth c (gP X below args s 19 872 (fun M9 : mMem => (none, M9))) 3 0 0 0 [(0, .ref a0), (1, .ref a1), (2, .ref a2)] [] M (p0_init a0 a1 a2 M) := by
  unfold p0_init
  refine g_gd ?_
  refine g_aload_n B dX0_init_0 0 rfl ?_
  refine g_objinit B wd_317 wd_36 wd_37 (by decide) (by decide) dX0_init_1 ?_
  refine g_aload_n B dX0_init_4 0 rfl ?_
  refine g_new (ci := 2) (T0 := TX2) (N := 11) B (by decide) rfl in_2 tyX2 tyX2_ok df_2 wd_318 wd_39 wd_2 (by decide) dX0_init_5 (fun n_1 => ?_)
  refine g_dup B dX0_init_8 rfl ?_
  refine g_callI_vw [] B hS9 mf2_init rfl wd_41 wd_319 (c2_init X l n_1.1 n_1.2) (by decide) (by decide) (by decide) rfl (Nat.le_of_ble_eq_true rfl) dX0_init_9 rfl (fun q_2 => ?_)
  refine g_putRF (ci := 0) (T0 := TX0) (N := 8) B (by decide) rfl in_0 tyX0 tyX0_ok nmX0 (k := 2) (by decide) wd_322 (fun _ h => h) rfl rfl hin2 rfl (ty := (.object "CribLine$Family")) (by decide +kernel) rfl rfl dX0_init_12 (fun M_3 => ?_)
  refine g_aload_n B dX0_init_15 0 rfl ?_
  refine g_bipush (v := 99) B dX0_init_16 (by decide) ?_
  refine g_newarrayI (N := 99) B wd_116 (by decide +kernel) (by decide +kernel) (by decide +kernel) (by decide) dX0_init_18 (fun n_4 => ?_)
  refine g_putRF (ci := 0) (T0 := TX0) (N := 8) B (by decide) rfl in_0 tyX0 tyX0_ok nmX0 (k := 3) (by decide) wd_323 (fun _ h => h) rfl rfl hin2 rfl (ty := (.array .int)) (by decide +kernel) rfl rfl dX0_init_20 (fun M_5 => ?_)
  refine g_aload_n B dX0_init_23 0 rfl ?_
  refine g_bipush (v := 99) B dX0_init_24 (by decide) ?_
  refine g_newarrayI (N := 99) B wd_116 (by decide +kernel) (by decide +kernel) (by decide +kernel) (by decide) dX0_init_26 (fun n_6 => ?_)
  refine g_putRF (ci := 0) (T0 := TX0) (N := 8) B (by decide) rfl in_0 tyX0 tyX0_ok nmX0 (k := 4) (by decide) wd_324 (fun _ h => h) rfl rfl hin2 rfl (ty := (.array .int)) (by decide +kernel) rfl rfl dX0_init_28 (fun M_7 => ?_)
  refine g_aload_n B dX0_init_31 0 rfl ?_
  refine g_bipush (v := 99) B dX0_init_32 (by decide) ?_
  refine g_newarrayI (N := 99) B wd_116 (by decide +kernel) (by decide +kernel) (by decide +kernel) (by decide) dX0_init_34 (fun n_8 => ?_)
  refine g_putRF (ci := 0) (T0 := TX0) (N := 8) B (by decide) rfl in_0 tyX0 tyX0_ok nmX0 (k := 5) (by decide) wd_325 (fun _ h => h) rfl rfl hin2 rfl (ty := (.array .int)) (by decide +kernel) rfl rfl dX0_init_36 (fun M_9 => ?_)
  refine g_aload_n B dX0_init_39 0 rfl ?_
  refine g_bipush (v := 99) B dX0_init_40 (by decide) ?_
  refine g_newarrayI (N := 99) B wd_116 (by decide +kernel) (by decide +kernel) (by decide +kernel) (by decide) dX0_init_42 (fun n_10 => ?_)
  refine g_putRF (ci := 0) (T0 := TX0) (N := 8) B (by decide) rfl in_0 tyX0 tyX0_ok nmX0 (k := 6) (by decide) wd_326 (fun _ h => h) rfl rfl hin2 rfl (ty := (.array .int)) (by decide +kernel) rfl rfl dX0_init_44 (fun M_11 => ?_)
  refine g_aload_n B dX0_init_47 0 rfl ?_
  refine g_iconst (v := 0) B dX0_init_48 (by decide) ?_
  refine g_putI (ci := 0) (T0 := TX0) (N := 8) B (by decide) rfl in_0 tyX0 tyX0_ok nmX0 (k := 7) (by decide) wd_327 (fun _ h => h) rfl rfl (ty := .int) (by decide +kernel) rfl rfl dX0_init_49 (fun M_12 => ?_)
  refine g_aload_n B dX0_init_52 0 rfl ?_
  refine g_aload_n B dX0_init_53 1 rfl ?_
  refine g_putRF (ci := 0) (T0 := TX0) (N := 8) B (by decide) rfl in_0 tyX0 tyX0_ok nmX0 (k := 0) (by decide) wd_320 (fun _ h => h) rfl rfl hin2 rfl (ty := (.object "CribLine$Family")) (by decide +kernel) rfl rfl dX0_init_54 (fun M_13 => ?_)
  refine g_aload_n B dX0_init_57 0 rfl ?_
  refine g_aload_n B dX0_init_58 2 rfl ?_
  refine g_putRF (ci := 0) (T0 := TX0) (N := 8) B (by decide) rfl in_0 tyX0 tyX0_ok nmX0 (k := 1) (by decide) wd_321 (fun _ h => h) rfl rfl hin2 rfl (ty := (.object "CribLine$Law")) (by decide +kernel) rfl rfl dX0_init_59 (fun M_14 => ?_)
  exact g_vreturn B hr (by decide) (by decide) rfl dX0_init_62
theorem c0_init (X : gX) (l : Launch) (a0 : Nat) (a1 : Nat) (a2 : Nat) (M : mMem) : Con X l yX0_init cX0_init 3 (none) rm0_init (fun M9 : mMem => (none, M9)) [.ref a0, .ref a1, .ref a2] M (p0_init a0 a1 a2 M) := g_con (own := RX0) (by decide +kernel) rfl (Nat.le_of_ble_eq_true rfl) (fun p e s m args below meth c B hS9 hr hn => g0_init B hS9 hr hn a0 a1 a2 M)
theorem mf2_has : gMF yX2_has cX2_has 2 (some .boolean) 1 := ⟨wd_505, wd_2, ⟨by decide, by decide⟩, by decide +kernel⟩
set_option maxRecDepth 20000 in
set_option maxHeartbeats 2000000 in
theorem g2_has_J17 {X : gX} {p : Program} {l : Launch} {e : Env} {s : State} {m : MethodId} {args : Array Value} {below : List Frame} {meth : Method} {c : Code} (B : gB X p (rm2_has) s m args meth c RX2 cX2_has 2 (rm2_has)) (hS9 : gS X s) (hr : meth.sig.returnType = some .boolean) {M : mMem} (u0 : Int32) : GG X p l e (rm2_has) s m args below meth c (gP X below args s 0 0 (fun r9 : Int32 => (some (.int r9), M))) 2 0 0 17 [] [.int u0] M (p2_has_J17 M u0) := by
  unfold p2_has_J17
  exact g_zreturn (f := fun z => z) B hr (by decide) (by decide) rfl dX2_has_17
set_option maxRecDepth 20000 in
set_option maxHeartbeats 2000000 in
theorem g2_has_J16 {X : gX} {p : Program} {l : Launch} {e : Env} {s : State} {m : MethodId} {args : Array Value} {below : List Frame} {meth : Method} {c : Code} (B : gB X p (rm2_has) s m args meth c RX2 cX2_has 2 (rm2_has)) (hS9 : gS X s) (hr : meth.sig.returnType = some .boolean) {M : mMem} : GG X p l e (rm2_has) s m args below meth c (gP X below args s 0 0 (fun r9 : Int32 => (some (.int r9), M))) 2 0 0 16 [] [] M (p2_has_J16 M) := by
  unfold p2_has_J16
  refine g_iconst (v := 0) B dX2_has_16 (by decide) ?_
  refine g_sub (lv' := []) [] rfl ?_
  exact g2_has_J17 B hS9 hr 0
set_option maxRecDepth 20000 in
set_option maxHeartbeats 2000000 in
theorem g2_has {X : gX} {p : Program} {l : Launch} {e : Env} {s : State} {m : MethodId} {args : Array Value} {below : List Frame} {meth : Method} {c : Code} (B : gB X p (rm2_has) s m args meth c RX2 cX2_has 2 (rm2_has)) (hS9 : gS X s) (hr : meth.sig.returnType = some .boolean) {M : mMem} (a0 : Nat) (x1 : Int32) : GG X p l e (rm2_has) s m args below meth c (gP X below args s 0 0 (fun r9 : Int32 => (some (.int r9), M))) 2 0 0 0 [(0, .ref a0), (1, .int x1)] [] M (p2_has a0 x1 M) := by
  unfold p2_has
  refine g_gd ?_
  refine g_iload_n B dX2_has_0 1 rfl ?_
  refine g_if_lt B 16 dX2_has_1 (by decide) ?_ ?_
  · refine g_sub (lv' := []) [] rfl ?_
    exact g2_has_J16 B hS9 hr
  · refine g_iload_n B dX2_has_4 1 rfl ?_
    refine g_aload_n B dX2_has_5 0 rfl ?_
    refine g_getI (ci := 2) (T0 := TX2) (N := 11) B (by decide) rfl in_2 (k := 4) (by decide) rfl wd_139 (fun _ h => h) dX2_has_6 (fun v_1 => ?_)
    refine g_icmp_ge B 16 dX2_has_9 (by decide) ?_ ?_
    · refine g_iconst (v := 1) B dX2_has_12 (by decide) ?_
      refine g_goto B 17 dX2_has_13 (by decide) ?_
      refine g_sub (lv' := []) [] rfl ?_
      exact g2_has_J17 B hS9 hr 1
    · refine g_sub (lv' := []) [] rfl ?_
      exact g2_has_J16 B hS9 hr
theorem c2_has (X : gX) (l : Launch) (a0 : Nat) (x1 : Int32) (M : mMem) : Con X l yX2_has cX2_has 2 (some .boolean) rm2_has (fun r9 : Int32 => (some (.int r9), M)) [.ref a0, .int x1] M (p2_has a0 x1 M) := g_con (own := RX2) (by decide +kernel) rfl (Nat.le_of_ble_eq_true rfl) (fun p e s m args below meth c B hS9 hr hn => g2_has B hS9 hr a0 x1)
theorem mf2_at : gMF yX2_at cX2_at 2 (some (.object "CribLine$Person")) 1 := ⟨wd_468, wd_2, ⟨by decide, by decide⟩, by decide +kernel⟩
set_option maxRecDepth 20000 in
set_option maxHeartbeats 2000000 in
theorem g2_at_J26 {X : gX} {p : Program} {l : Launch} {e : Env} {s : State} {m : MethodId} {args : Array Value} {below : List Frame} {meth : Method} {c : Code} (B : gB X p (rm2_at) s m args meth c RX2 cX2_at 2 (rm2_at)) (hS9 : gS X s) (hr : meth.sig.returnType = some (.object "CribLine$Person")) {M : mMem} (b0 : Nat) : GG X p l e (rm2_at) s m args below meth c (gP X below args s 0 0 (fun r9 : Nat => (some (.ref r9), M))) 2 0 0 26 [] [.ref b0] M (p2_at_J26 M b0) := by
  unfold p2_at_J26
  exact g_areturn B hr (by decide) (by decide) rfl dX2_at_26
set_option maxRecDepth 20000 in
set_option maxHeartbeats 2000000 in
theorem g2_at_J22 {X : gX} {p : Program} {l : Launch} {e : Env} {s : State} {m : MethodId} {args : Array Value} {below : List Frame} {meth : Method} {c : Code} (B : gB X p (rm2_at) s m args meth c RX2 cX2_at 2 (rm2_at)) (hS9 : gS X s) (hr : meth.sig.returnType = some (.object "CribLine$Person")) {M : mMem} (a0 : Nat) : GG X p l e (rm2_at) s m args below meth c (gP X below args s 0 0 (fun r9 : Nat => (some (.ref r9), M))) 2 0 0 22 [(0, .ref a0)] [] M (p2_at_J22 M a0) := by
  unfold p2_at_J22
  refine g_aload_n B dX2_at_22 0 rfl ?_
  refine g_getR (ci := 2) (T0 := TX2) (N := 11) B (by decide) rfl in_2 (k := 1) (by decide) rfl wd_135 (fun _ h => h) dX2_at_23 (fun v_1 => ?_)
  refine g_sub (lv' := []) [] rfl ?_
  exact g2_at_J26 B hS9 hr v_1
set_option maxRecDepth 20000 in
set_option maxHeartbeats 2000000 in
theorem g2_at {X : gX} {p : Program} {l : Launch} {e : Env} {s : State} {m : MethodId} {args : Array Value} {below : List Frame} {meth : Method} {c : Code} (B : gB X p (rm2_at) s m args meth c RX2 cX2_at 2 (rm2_at)) (hS9 : gS X s) (hr : meth.sig.returnType = some (.object "CribLine$Person")) {M : mMem} (a0 : Nat) (x1 : Int32) : GG X p l e (rm2_at) s m args below meth c (gP X below args s 0 0 (fun r9 : Nat => (some (.ref r9), M))) 2 0 0 0 [(0, .ref a0), (1, .int x1)] [] M (p2_at a0 x1 M) := by
  unfold p2_at
  refine g_gd ?_
  refine g_iload_n B dX2_at_0 1 rfl ?_
  refine g_if_lt B 22 dX2_at_1 (by decide) ?_ ?_
  · refine g_sub (lv' := [(0, .ref a0)]) [0] rfl ?_
    exact g2_at_J22 B hS9 hr a0
  · refine g_iload_n B dX2_at_4 1 rfl ?_
    refine g_aload_n B dX2_at_5 0 rfl ?_
    refine g_getR (ci := 2) (T0 := TX2) (N := 11) B (by decide) rfl in_2 (k := 0) (by decide) rfl wd_134 (fun _ h => h) dX2_at_6 (fun v_1 => ?_)
    refine g_alen B dX2_at_9 (fun v_2 => ?_)
    refine g_icmp_ge B 22 dX2_at_10 (by decide) ?_ ?_
    · refine g_aload_n B dX2_at_13 0 rfl ?_
      refine g_getR (ci := 2) (T0 := TX2) (N := 11) B (by decide) rfl in_2 (k := 0) (by decide) rfl wd_134 (fun _ h => h) dX2_at_14 (fun v_3 => ?_)
      refine g_iload_n B dX2_at_17 1 rfl ?_
      refine g_aaload24 B dX2_at_18 (fun v_4 => ?_)
      refine g_goto B 26 dX2_at_19 (by decide) ?_
      refine g_sub (lv' := []) [] rfl ?_
      exact g2_at_J26 B hS9 hr v_4
    · refine g_sub (lv' := [(0, .ref a0)]) [0] rfl ?_
      exact g2_at_J22 B hS9 hr a0
theorem c2_at (X : gX) (l : Launch) (a0 : Nat) (x1 : Int32) (M : mMem) : Con X l yX2_at cX2_at 2 (some (.object "CribLine$Person")) rm2_at (fun r9 : Nat => (some (.ref r9), M)) [.ref a0, .int x1] M (p2_at a0 x1 M) := g_con (own := RX2) (by decide +kernel) rfl (Nat.le_of_ble_eq_true rfl) (fun p e s m args below meth c B hS9 hr hn => g2_at B hS9 hr a0 x1)
theorem mf2_governs : gMF yX2_governs cX2_governs 3 (some .boolean) 2 := ⟨wd_501, wd_2, ⟨by decide, by decide⟩, by decide +kernel⟩
set_option maxRecDepth 20000 in
set_option maxHeartbeats 2000000 in
theorem g2_governs_J29 {X : gX} {p : Program} {l : Launch} {e : Env} {s : State} {m : MethodId} {args : Array Value} {below : List Frame} {meth : Method} {c : Code} (B : gB X p (rm2_governs) s m args meth c RX2 cX2_governs 3 (rm2_governs)) (hS9 : gS X s) (hr : meth.sig.returnType = some .boolean) {M : mMem} (u0 : Int32) : GG X p l e (rm2_governs) s m args below meth c (gP X below args s 0 0 (fun r9 : Int32 => (some (.int r9), M))) 3 0 0 29 [] [.int u0] M (p2_governs_J29 M u0) := by
  unfold p2_governs_J29
  exact g_zreturn (f := fun z => z) B hr (by decide) (by decide) rfl dX2_governs_29
set_option maxRecDepth 20000 in
set_option maxHeartbeats 2000000 in
theorem g2_governs_J28 {X : gX} {p : Program} {l : Launch} {e : Env} {s : State} {m : MethodId} {args : Array Value} {below : List Frame} {meth : Method} {c : Code} (B : gB X p (rm2_governs) s m args meth c RX2 cX2_governs 3 (rm2_governs)) (hS9 : gS X s) (hr : meth.sig.returnType = some .boolean) {M : mMem} : GG X p l e (rm2_governs) s m args below meth c (gP X below args s 0 0 (fun r9 : Int32 => (some (.int r9), M))) 3 0 0 28 [] [] M (p2_governs_J28 M) := by
  unfold p2_governs_J28
  refine g_iconst (v := 0) B dX2_governs_28 (by decide) ?_
  refine g_sub (lv' := []) [] rfl ?_
  exact g2_governs_J29 B hS9 hr 0
set_option maxRecDepth 20000 in
set_option maxHeartbeats 2000000 in
theorem g2_governs {X : gX} {p : Program} {l : Launch} {e : Env} {s : State} {m : MethodId} {args : Array Value} {below : List Frame} {meth : Method} {c : Code} (B : gB X p (rm2_governs) s m args meth c RX2 cX2_governs 3 (rm2_governs)) (hS9 : gS X s) (hr : meth.sig.returnType = some .boolean) {M : mMem} (a0 : Nat) (x1 : Int32) (x2 : Int32) : GG X p l e (rm2_governs) s m args below meth c (gP X below args s 0 0 (fun r9 : Int32 => (some (.int r9), M))) 3 0 0 0 [(0, .ref a0), (1, .int x1), (2, .int x2)] [] M (p2_governs a0 x1 x2 M) := by
  unfold p2_governs
  refine g_gd ?_
  refine g_aload_n B dX2_governs_0 0 rfl ?_
  refine g_iload_n B dX2_governs_1 1 rfl ?_
  refine g_callV_ip [.int x1] (ci := 2) (T0 := TX2) (N := 11) B hS9 mf2_has wd_503 (gw B wd_504) wd_502 (by decide) rfl (fun h => (gd_ne h).1) (c2_has X l a0 x1 M) (by decide) (by decide) (by decide) rfl (by decide) dX2_governs_2 rfl (fun v_1 => ?_)
  refine g_if_eq B 28 dX2_governs_5 (by decide) ?_ ?_
  · refine g_sub (lv' := []) [] rfl ?_
    exact g2_governs_J28 B hS9 hr
  · refine g_aload_n B dX2_governs_8 0 rfl ?_
    refine g_iload_n B dX2_governs_9 2 rfl ?_
    refine g_callV_ap [.int x2] (ci := 2) (T0 := TX2) (N := 11) B hS9 mf2_at wd_466 (gw B wd_467) wd_465 (by decide) rfl (fun h => (gd_ne h).1) (c2_at X l a0 x2 M) (by decide) (by decide) (by decide) rfl (by decide) dX2_governs_10 rfl (fun v_2 => ?_)
    refine g_getI (ci := 8) (T0 := TX8) (N := 9) B (by decide) rfl in_8 (k := 8) (by decide) rfl wd_94 (fun _ h => h) dX2_governs_13 (fun v_3 => ?_)
    refine g_iload_n B dX2_governs_16 1 rfl ?_
    refine g_ishr B dX2_governs_17 ?_
    refine g_iconst (v := 1) B dX2_governs_18 (by decide) ?_
    refine g_iand B dX2_governs_19 ?_
    refine g_iconst (v := 1) B dX2_governs_20 (by decide) ?_
    refine g_icmp_ne B 28 dX2_governs_21 (by decide) ?_ ?_
    · refine g_iconst (v := 1) B dX2_governs_24 (by decide) ?_
      refine g_goto B 29 dX2_governs_25 (by decide) ?_
      refine g_sub (lv' := []) [] rfl ?_
      exact g2_governs_J29 B hS9 hr 1
    · refine g_sub (lv' := []) [] rfl ?_
      exact g2_governs_J28 B hS9 hr
theorem c2_governs (X : gX) (l : Launch) (a0 : Nat) (x1 : Int32) (x2 : Int32) (M : mMem) : Con X l yX2_governs cX2_governs 3 (some .boolean) rm2_governs (fun r9 : Int32 => (some (.int r9), M)) [.ref a0, .int x1, .int x2] M (p2_governs a0 x1 x2 M) := g_con (own := RX2) (by decide +kernel) rfl (Nat.le_of_ble_eq_true rfl) (fun p e s m args below meth c B hS9 hr hn => g2_governs B hS9 hr a0 x1 x2)
theorem mf0_canBeSaid : gMF yX0_canBeSaid cX0_canBeSaid 3 (some .boolean) 2 := ⟨wd_1319, wd_10, ⟨by decide, by decide⟩, by decide +kernel⟩
set_option maxRecDepth 20000 in
set_option maxHeartbeats 2000000 in
theorem g0_canBeSaid {X : gX} {p : Program} {l : Launch} {e : Env} {s : State} {m : MethodId} {args : Array Value} {below : List Frame} {meth : Method} {c : Code} (B : gB X p (rm0_canBeSaid) s m args meth c RX0 cX0_canBeSaid 3 (rm0_canBeSaid)) (hS9 : gS X s) (hr : meth.sig.returnType = some .boolean) {M : mMem} (a0 : Nat) (x1 : Int32) (x2 : Int32) : GG X p l e (rm0_canBeSaid) s m args below meth c (gP X below args s 0 0 (fun r9 : Int32 => (some (.int r9), M))) 3 0 0 0 [(0, .ref a0), (1, .int x1), (2, .int x2)] [] M (p0_canBeSaid a0 x1 x2 M) := by
  unfold p0_canBeSaid
  refine g_gd ?_
  refine g_aload_n B dX0_canBeSaid_0 0 rfl ?_
  refine g_getR (ci := 0) (T0 := TX0) (N := 8) B (by decide) rfl in_0 (k := 0) (by decide) rfl wd_320 (fun _ h => h) dX0_canBeSaid_1 (fun v_1 => ?_)
  refine g_iload_n B dX0_canBeSaid_4 1 rfl ?_
  refine g_iconst (v := 2) B dX0_canBeSaid_5 (by decide) ?_
  refine g_idiv B dX0_canBeSaid_6 (fun v_2 => ?_)
  refine g_iload_n B dX0_canBeSaid_7 2 rfl ?_
  refine g_callV_ip [.int v_2, .int x2] (ci := 2) (T0 := TX2) (N := 11) B hS9 mf2_governs wd_499 (gw B wd_500) wd_1320 (by decide) rfl (fun h => (gd_ne h).1) (c2_governs X l v_1 v_2 x2 M) (by decide) (by decide) (by decide) rfl (by decide) dX0_canBeSaid_8 rfl (fun v_3 => ?_)
  exact g_zreturn (f := fun z => z) B hr (by decide) (by decide) rfl dX0_canBeSaid_11
theorem c0_canBeSaid (X : gX) (l : Launch) (a0 : Nat) (x1 : Int32) (x2 : Int32) (M : mMem) : Con X l yX0_canBeSaid cX0_canBeSaid 3 (some .boolean) rm0_canBeSaid (fun r9 : Int32 => (some (.int r9), M)) [.ref a0, .int x1, .int x2] M (p0_canBeSaid a0 x1 x2 M) := g_con (own := RX0) (by decide +kernel) rfl (Nat.le_of_ble_eq_true rfl) (fun p e s m args below meth c B hS9 hr hn => g0_canBeSaid B hS9 hr a0 x1 x2)
theorem mf4_gatherFacts : gMF yX4_gatherFacts cX4_gatherFacts 5 (none) 3 := ⟨wd_513, wd_5, ⟨by decide, by decide⟩, by decide +kernel⟩
set_option maxRecDepth 20000 in
set_option maxHeartbeats 2000000 in
theorem g4_gatherFacts_J142 {X : gX} {p : Program} {l : Launch} {e : Env} {s : State} {m : MethodId} {args : Array Value} {below : List Frame} {meth : Method} {c : Code} (B : gB X p (rm4_gatherFacts) s m args meth c RX4 cX4_gatherFacts 5 (rm4_gatherFacts)) (hS9 : gS X s) (hr : meth.sig.returnType = none) (b0 : Nat) (u1 : Int32) (u2 : Int32) (M : mMem) : GG X p l e (rm4_gatherFacts) s m args below meth c (gP X below args s 0 0 (fun M9 : mMem => (none, M9))) 5 0 0 142 [] [.int u2, .int u1, .ref b0] M (p4_gatherFacts_J142 b0 u1 u2 M) := by
  unfold p4_gatherFacts_J142
  refine g_iastore B dX4_gatherFacts_142 (fun M_1 => ?_)
  exact g_vreturn B hr (by decide) (by decide) rfl dX4_gatherFacts_143
set_option maxRecDepth 20000 in
set_option maxHeartbeats 2000000 in
theorem g4_gatherFacts_J118 {X : gX} {p : Program} {l : Launch} {e : Env} {s : State} {m : MethodId} {args : Array Value} {below : List Frame} {meth : Method} {c : Code} (B : gB X p (rm4_gatherFacts) s m args meth c RX4 cX4_gatherFacts 5 (rm4_gatherFacts)) (hS9 : gS X s) (hr : meth.sig.returnType = none) (a0 : Nat) (a1 : Nat) (a4 : Nat) (b0 : Nat) (u1 : Int32) (u2 : Int32) (M : mMem) : GG X p l e (rm4_gatherFacts) s m args below meth c (gP X below args s 0 0 (fun M9 : mMem => (none, M9))) 5 0 0 118 [(0, .ref a0), (1, .ref a1), (4, .ref a4)] [.int u2, .int u1, .ref b0] M (p4_gatherFacts_J118 a0 a1 a4 b0 u1 u2 M) := by
  unfold p4_gatherFacts_J118
  refine g_iastore B dX4_gatherFacts_118 (fun M_1 => ?_)
  refine g_aload_n B dX4_gatherFacts_119 0 rfl ?_
  refine g_getR (ci := 4) (T0 := TX4) (N := 10) B (by decide) rfl in_4 (k := 6) (by decide) rfl wd_203 (fun _ h => h) dX4_gatherFacts_120 (fun v_2 => ?_)
  refine g_bipush (v := 25) B dX4_gatherFacts_123 (by decide) ?_
  refine g_aload B dX4_gatherFacts_125 2 rfl ?_
  refine g_getI (ci := 8) (T0 := TX8) (N := 9) B (by decide) rfl in_8 (k := 0) (by decide) rfl wd_55 (fun _ h => h) dX4_gatherFacts_127 (fun v_3 => ?_)
  refine g_aload_n B dX4_gatherFacts_130 1 rfl ?_
  refine g_getI (ci := 2) (T0 := TX2) (N := 11) B (by decide) rfl in_2 (k := 6) (by decide) rfl wd_152 (fun _ h => h) dX4_gatherFacts_131 (fun v_4 => ?_)
  refine g_icmp_ge B 141 dX4_gatherFacts_134 (by decide) ?_ ?_
  · refine g_iconst (v := 1) B dX4_gatherFacts_137 (by decide) ?_
    refine g_goto B 142 dX4_gatherFacts_138 (by decide) ?_
    refine g_sub (lv' := []) [] rfl ?_
    exact g4_gatherFacts_J142 B hS9 hr v_2 25 1 M_1
  · refine g_iconst (v := 0) B dX4_gatherFacts_141 (by decide) ?_
    refine g_sub (lv' := []) [] rfl ?_
    exact g4_gatherFacts_J142 B hS9 hr v_2 25 0 M_1
set_option maxRecDepth 20000 in
set_option maxHeartbeats 2000000 in
theorem g4_gatherFacts_J97 {X : gX} {p : Program} {l : Launch} {e : Env} {s : State} {m : MethodId} {args : Array Value} {below : List Frame} {meth : Method} {c : Code} (B : gB X p (rm4_gatherFacts) s m args meth c RX4 cX4_gatherFacts 5 (rm4_gatherFacts)) (hS9 : gS X s) (hr : meth.sig.returnType = none) (a0 : Nat) (a1 : Nat) (x2 : Int32) (a4 : Nat) (b0 : Nat) (u1 : Int32) (u2 : Int32) (M : mMem) : GG X p l e (rm4_gatherFacts) s m args below meth c (gP X below args s 0 0 (fun M9 : mMem => (none, M9))) 5 0 0 97 [(0, .ref a0), (1, .ref a1), (2, .int x2), (4, .ref a4)] [.int u2, .int u1, .ref b0] M (p4_gatherFacts_J97 a0 a1 x2 a4 b0 u1 u2 M) := by
  unfold p4_gatherFacts_J97
  refine g_iastore B dX4_gatherFacts_97 (fun M_1 => ?_)
  refine g_aload_n B dX4_gatherFacts_98 0 rfl ?_
  refine g_getR (ci := 4) (T0 := TX4) (N := 10) B (by decide) rfl in_4 (k := 6) (by decide) rfl wd_203 (fun _ h => h) dX4_gatherFacts_99 (fun v_2 => ?_)
  refine g_bipush (v := 24) B dX4_gatherFacts_102 (by decide) ?_
  refine g_aload B dX4_gatherFacts_104 3 rfl ?_
  refine g_getI (ci := 8) (T0 := TX8) (N := 9) B (by decide) rfl in_8 (k := 3) (by decide) rfl wd_71 (fun _ h => h) dX4_gatherFacts_106 (fun v_3 => ?_)
  refine g_iload_n B dX4_gatherFacts_109 2 rfl ?_
  refine g_icmp_ne B 117 dX4_gatherFacts_110 (by decide) ?_ ?_
  · refine g_iconst (v := 1) B dX4_gatherFacts_113 (by decide) ?_
    refine g_goto B 118 dX4_gatherFacts_114 (by decide) ?_
    refine g_sub (lv' := [(0, .ref a0), (1, .ref a1), (4, .ref a4)]) [0, 1, 3] rfl ?_
    exact g4_gatherFacts_J118 B hS9 hr a0 a1 a4 v_2 24 1 M_1
  · refine g_iconst (v := 0) B dX4_gatherFacts_117 (by decide) ?_
    refine g_sub (lv' := [(0, .ref a0), (1, .ref a1), (4, .ref a4)]) [0, 1, 3] rfl ?_
    exact g4_gatherFacts_J118 B hS9 hr a0 a1 a4 v_2 24 0 M_1
set_option maxRecDepth 20000 in
set_option maxHeartbeats 2000000 in
theorem g4_gatherFacts {X : gX} {p : Program} {l : Launch} {e : Env} {s : State} {m : MethodId} {args : Array Value} {below : List Frame} {meth : Method} {c : Code} (B : gB X p (rm4_gatherFacts) s m args meth c RX4 cX4_gatherFacts 5 (rm4_gatherFacts)) (hS9 : gS X s) (hr : meth.sig.returnType = none) (a0 : Nat) (a1 : Nat) (x2 : Int32) (x3 : Int32) (M : mMem) : GG X p l e (rm4_gatherFacts) s m args below meth c (gP X below args s 0 0 (fun M9 : mMem => (none, M9))) 5 0 0 0 [(0, .ref a0), (1, .ref a1), (2, .int x2), (3, .int x3)] [] M (p4_gatherFacts a0 a1 x2 x3 M) := by
  unfold p4_gatherFacts
  refine g_gd ?_
  refine g_aload_n B dX4_gatherFacts_0 1 rfl ?_
  refine g_iload_n B dX4_gatherFacts_1 3 rfl ?_
  refine g_callV_ap [.int x3] (ci := 2) (T0 := TX2) (N := 11) B hS9 mf2_at wd_466 (gw B wd_467) wd_514 (by decide) rfl (fun h => (gd_ne h).1) (c2_at X l a1 x3 M) (by decide) (by decide) (by decide) rfl (by decide) dX4_gatherFacts_2 rfl (fun v_1 => ?_)
  refine g_astore (lv' := [(4, .ref v_1), (0, .ref a0), (1, .ref a1), (2, .int x2), (3, .int x3)]) B dX4_gatherFacts_5 (by decide) [0, 1, 2, 3, 4] rfl ?_
  refine g_aload_n B dX4_gatherFacts_7 1 rfl ?_
  refine g_getR (ci := 4) (T0 := TX4) (N := 10) B (by decide) rfl in_4 (k := 6) (by decide) rfl wd_203 (fun _ h => h) dX4_gatherFacts_8 (fun v_2 => ?_)
  refine g_bipush (v := 26) B dX4_gatherFacts_11 (by decide) ?_
  refine g_iload_n B dX4_gatherFacts_13 3 rfl ?_
  refine g_iastore B dX4_gatherFacts_14 (fun M_3 => ?_)
  refine g_aload_n B dX4_gatherFacts_15 1 rfl ?_
  refine g_getR (ci := 4) (T0 := TX4) (N := 10) B (by decide) rfl in_4 (k := 6) (by decide) rfl wd_203 (fun _ h => h) dX4_gatherFacts_16 (fun v_4 => ?_)
  refine g_bipush (v := 27) B dX4_gatherFacts_19 (by decide) ?_
  refine g_iload_n B dX4_gatherFacts_21 4 rfl ?_
  refine g_iastore B dX4_gatherFacts_22 (fun M_5 => ?_)
  refine g_aload_n B dX4_gatherFacts_23 1 rfl ?_
  refine g_getR (ci := 4) (T0 := TX4) (N := 10) B (by decide) rfl in_4 (k := 6) (by decide) rfl wd_203 (fun _ h => h) dX4_gatherFacts_24 (fun v_6 => ?_)
  refine g_bipush (v := 6) B dX4_gatherFacts_27 (by decide) ?_
  refine g_aload B dX4_gatherFacts_29 0 rfl ?_
  refine g_getI (ci := 8) (T0 := TX8) (N := 9) B (by decide) rfl in_8 (k := 0) (by decide) rfl wd_55 (fun _ h => h) dX4_gatherFacts_31 (fun v_7 => ?_)
  refine g_iastore B dX4_gatherFacts_34 (fun M_8 => ?_)
  refine g_aload_n B dX4_gatherFacts_35 1 rfl ?_
  refine g_getR (ci := 4) (T0 := TX4) (N := 10) B (by decide) rfl in_4 (k := 6) (by decide) rfl wd_203 (fun _ h => h) dX4_gatherFacts_36 (fun v_9 => ?_)
  refine g_bipush (v := 28) B dX4_gatherFacts_39 (by decide) ?_
  refine g_aload_n B dX4_gatherFacts_41 2 rfl ?_
  refine g_iload_n B dX4_gatherFacts_42 3 rfl ?_
  refine g_callV_ap [.int x2] (ci := 2) (T0 := TX2) (N := 11) B hS9 mf2_at wd_466 (gw B wd_467) wd_514 (by decide) rfl (fun h => (gd_ne h).1) (c2_at X l a1 x2 M_8) (by decide) (by decide) (by decide) rfl (Nat.le_of_ble_eq_true rfl) dX4_gatherFacts_43 rfl (fun v_10 => ?_)
  refine g_getI (ci := 8) (T0 := TX8) (N := 9) B (by decide) rfl in_8 (k := 0) (by decide) rfl wd_55 (fun _ h => h) dX4_gatherFacts_46 (fun v_11 => ?_)
  refine g_iastore B dX4_gatherFacts_49 (fun M_12 => ?_)
  refine g_aload_n B dX4_gatherFacts_50 1 rfl ?_
  refine g_getR (ci := 4) (T0 := TX4) (N := 10) B (by decide) rfl in_4 (k := 6) (by decide) rfl wd_203 (fun _ h => h) dX4_gatherFacts_51 (fun v_13 => ?_)
  refine g_bipush (v := 29) B dX4_gatherFacts_54 (by decide) ?_
  refine g_iconst (v := 0) B dX4_gatherFacts_56 (by decide) ?_
  refine g_aload B dX4_gatherFacts_57 0 rfl ?_
  refine g_getI (ci := 8) (T0 := TX8) (N := 9) B (by decide) rfl in_8 (k := 1) (by decide) rfl wd_60 (fun _ h => h) dX4_gatherFacts_59 (fun v_14 => ?_)
  refine g_max B wd_515 wd_516 wd_15 wd_517 (by decide) (Nat.le_of_ble_eq_true rfl) (by decide) dX4_gatherFacts_62 ?_
  refine g_iastore B dX4_gatherFacts_65 (fun M_15 => ?_)
  refine g_aload_n B dX4_gatherFacts_66 1 rfl ?_
  refine g_getR (ci := 4) (T0 := TX4) (N := 10) B (by decide) rfl in_4 (k := 6) (by decide) rfl wd_203 (fun _ h => h) dX4_gatherFacts_67 (fun v_16 => ?_)
  refine g_bipush (v := 16) B dX4_gatherFacts_70 (by decide) ?_
  refine g_aload_n B dX4_gatherFacts_72 2 rfl ?_
  refine g_getI (ci := 2) (T0 := TX2) (N := 11) B (by decide) rfl in_2 (k := 8) (by decide) rfl wd_161 (fun _ h => h) dX4_gatherFacts_73 (fun v_17 => ?_)
  refine g_iastore B dX4_gatherFacts_76 (fun M_18 => ?_)
  refine g_aload_n B dX4_gatherFacts_77 1 rfl ?_
  refine g_getR (ci := 4) (T0 := TX4) (N := 10) B (by decide) rfl in_4 (k := 6) (by decide) rfl wd_203 (fun _ h => h) dX4_gatherFacts_78 (fun v_19 => ?_)
  refine g_bipush (v := 12) B dX4_gatherFacts_81 (by decide) ?_
  refine g_aload B dX4_gatherFacts_83 0 rfl ?_
  refine g_getI (ci := 8) (T0 := TX8) (N := 9) B (by decide) rfl in_8 (k := 4) (by decide) rfl wd_75 (fun _ h => h) dX4_gatherFacts_85 (fun v_20 => ?_)
  refine g_iconst (v := (-1)) B dX4_gatherFacts_88 (by decide) ?_
  refine g_icmp_eq B 96 dX4_gatherFacts_89 (by decide) ?_ ?_
  · refine g_iconst (v := 0) B dX4_gatherFacts_96 (by decide) ?_
    refine g_sub (lv' := [(0, .ref a0), (1, .ref a1), (2, .int x2), (4, .ref v_1)]) [1, 2, 3, 0] rfl ?_
    exact g4_gatherFacts_J97 B hS9 hr a0 a1 x2 v_1 v_19 12 0 M_18
  · refine g_iconst (v := 1) B dX4_gatherFacts_92 (by decide) ?_
    refine g_goto B 97 dX4_gatherFacts_93 (by decide) ?_
    refine g_sub (lv' := [(0, .ref a0), (1, .ref a1), (2, .int x2), (4, .ref v_1)]) [1, 2, 3, 0] rfl ?_
    exact g4_gatherFacts_J97 B hS9 hr a0 a1 x2 v_1 v_19 12 1 M_18
theorem c4_gatherFacts (X : gX) (l : Launch) (a0 : Nat) (a1 : Nat) (x2 : Int32) (x3 : Int32) (M : mMem) : Con X l yX4_gatherFacts cX4_gatherFacts 5 (none) rm4_gatherFacts (fun M9 : mMem => (none, M9)) [.ref a0, .ref a1, .int x2, .int x3] M (p4_gatherFacts a0 a1 x2 x3 M) := g_con (own := RX4) (by decide +kernel) rfl (Nat.le_of_ble_eq_true rfl) (fun p e s m args below meth c B hS9 hr hn => g4_gatherFacts B hS9 hr a0 a1 x2 x3 M)
theorem mf4_joins : gMF yX4_joins cX4_joins 1 (some .boolean) 1 := ⟨wd_524, wd_5, ⟨by decide, by decide⟩, by decide +kernel⟩
set_option maxRecDepth 20000 in
set_option maxHeartbeats 2000000 in
theorem g4_joins_J35 {X : gX} {p : Program} {l : Launch} {e : Env} {s : State} {m : MethodId} {args : Array Value} {below : List Frame} {meth : Method} {c : Code} (B : gB X p (rm4_joins) s m args meth c RX4 cX4_joins 1 (rm4_joins)) (hS9 : gS X s) (hr : meth.sig.returnType = some .boolean) {M : mMem} (u0 : Int32) : GG X p l e (rm4_joins) s m args below meth c (gP X below args s 0 0 (fun r9 : Int32 => (some (.int r9), M))) 1 0 0 35 [] [.int u0] M (p4_joins_J35 M u0) := by
  unfold p4_joins_J35
  exact g_zreturn (f := fun z => z) B hr (by decide) (by decide) rfl dX4_joins_35
set_option maxRecDepth 20000 in
set_option maxHeartbeats 2000000 in
theorem g4_joins_J30 {X : gX} {p : Program} {l : Launch} {e : Env} {s : State} {m : MethodId} {args : Array Value} {below : List Frame} {meth : Method} {c : Code} (B : gB X p (rm4_joins) s m args meth c RX4 cX4_joins 1 (rm4_joins)) (hS9 : gS X s) (hr : meth.sig.returnType = some .boolean) {M : mMem} : GG X p l e (rm4_joins) s m args below meth c (gP X below args s 0 0 (fun r9 : Int32 => (some (.int r9), M))) 1 0 0 30 [] [] M (p4_joins_J30 M) := by
  unfold p4_joins_J30
  refine g_iconst (v := 1) B dX4_joins_30 (by decide) ?_
  refine g_goto B 35 dX4_joins_31 (by decide) ?_
  refine g_sub (lv' := []) [] rfl ?_
  exact g4_joins_J35 B hS9 hr 1
set_option maxRecDepth 20000 in
set_option maxHeartbeats 2000000 in
theorem g4_joins {X : gX} {p : Program} {l : Launch} {e : Env} {s : State} {m : MethodId} {args : Array Value} {below : List Frame} {meth : Method} {c : Code} (B : gB X p (rm4_joins) s m args meth c RX4 cX4_joins 1 (rm4_joins)) (hS9 : gS X s) (hr : meth.sig.returnType = some .boolean) {M : mMem} (x0 : Int32) : GG X p l e (rm4_joins) s m args below meth c (gP X below args s 0 0 (fun r9 : Int32 => (some (.int r9), M))) 1 0 0 0 [(0, .int x0)] [] M (p4_joins x0 M) := by
  unfold p4_joins
  refine g_iload_n B dX4_joins_0 0 rfl ?_
  refine g_bipush (v := 43) B dX4_joins_1 (by decide) ?_
  refine g_icmp_eq B 30 dX4_joins_3 (by decide) ?_ ?_
  · refine g_sub (lv' := []) [] rfl ?_
    exact g4_joins_J30 B hS9 hr
  · refine g_iload_n B dX4_joins_6 0 rfl ?_
    refine g_bipush (v := 60) B dX4_joins_7 (by decide) ?_
    refine g_icmp_eq B 30 dX4_joins_9 (by decide) ?_ ?_
    · refine g_sub (lv' := []) [] rfl ?_
      exact g4_joins_J30 B hS9 hr
    · refine g_iload_n B dX4_joins_12 0 rfl ?_
      refine g_bipush (v := 62) B dX4_joins_13 (by decide) ?_
      refine g_icmp_eq B 30 dX4_joins_15 (by decide) ?_ ?_
      · refine g_sub (lv' := []) [] rfl ?_
        exact g4_joins_J30 B hS9 hr
      · refine g_iload_n B dX4_joins_18 0 rfl ?_
        refine g_bipush (v := 22) B dX4_joins_19 (by decide) ?_
        refine g_icmp_eq B 30 dX4_joins_21 (by decide) ?_ ?_
        · refine g_sub (lv' := []) [] rfl ?_
          exact g4_joins_J30 B hS9 hr
        · refine g_iload_n B dX4_joins_24 0 rfl ?_
          refine g_bipush (v := 21) B dX4_joins_25 (by decide) ?_
          refine g_icmp_ne B 34 dX4_joins_27 (by decide) ?_ ?_
          · refine g_sub (lv' := []) [] rfl ?_
            exact g4_joins_J30 B hS9 hr
          · refine g_iconst (v := 0) B dX4_joins_34 (by decide) ?_
            refine g_sub (lv' := []) [] rfl ?_
            exact g4_joins_J35 B hS9 hr 0
theorem c4_joins (X : gX) (l : Launch) (x0 : Int32) (M : mMem) : Con X l yX4_joins cX4_joins 1 (some .boolean) rm4_joins (fun r9 : Int32 => (some (.int r9), M)) [.int x0] M (p4_joins x0 M) := g_con (own := RX4) (by decide +kernel) rfl (Nat.le_of_ble_eq_true rfl) (fun p e s m args below meth c B hS9 hr hn => g4_joins B hS9 hr x0)
theorem mf4_joined : gMF yX4_joined cX4_joined 3 (some .int) 3 := ⟨wd_527, wd_5, ⟨by decide, by decide⟩, by decide +kernel⟩
set_option maxRecDepth 20000 in
set_option maxHeartbeats 2000000 in
theorem g4_joined_J58 {X : gX} {p : Program} {l : Launch} {e : Env} {s : State} {m : MethodId} {args : Array Value} {below : List Frame} {meth : Method} {c : Code} (B : gB X p (rm4_joined) s m args meth c RX4 cX4_joined 3 (rm4_joined)) (hS9 : gS X s) (hr : meth.sig.returnType = some .int) {M : mMem} (u0 : Int32) : GG X p l e (rm4_joined) s m args below meth c (gP X below args s 0 0 (fun r9 : Int32 => (some (.int r9), M))) 3 0 0 58 [] [.int u0] M (p4_joined_J58 M u0) := by
  unfold p4_joined_J58
  exact g_ireturn B hr rfl (by decide) (by decide) rfl dX4_joined_58
set_option maxRecDepth 20000 in
set_option maxHeartbeats 2000000 in
theorem g4_joined_J69 {X : gX} {p : Program} {l : Launch} {e : Env} {s : State} {m : MethodId} {args : Array Value} {below : List Frame} {meth : Method} {c : Code} (B : gB X p (rm4_joined) s m args meth c RX4 cX4_joined 3 (rm4_joined)) (hS9 : gS X s) (hr : meth.sig.returnType = some .int) {M : mMem} (u0 : Int32) : GG X p l e (rm4_joined) s m args below meth c (gP X below args s 0 0 (fun r9 : Int32 => (some (.int r9), M))) 3 0 0 69 [] [.int u0] M (p4_joined_J69 M u0) := by
  unfold p4_joined_J69
  exact g_ireturn B hr rfl (by decide) (by decide) rfl dX4_joined_69
set_option maxRecDepth 20000 in
set_option maxHeartbeats 2000000 in
theorem g4_joined {X : gX} {p : Program} {l : Launch} {e : Env} {s : State} {m : MethodId} {args : Array Value} {below : List Frame} {meth : Method} {c : Code} (B : gB X p (rm4_joined) s m args meth c RX4 cX4_joined 3 (rm4_joined)) (hS9 : gS X s) (hr : meth.sig.returnType = some .int) {M : mMem} (x0 : Int32) (x1 : Int32) (x2 : Int32) : GG X p l e (rm4_joined) s m args below meth c (gP X below args s 0 0 (fun r9 : Int32 => (some (.int r9), M))) 3 0 0 0 [(0, .int x0), (1, .int x1), (2, .int x2)] [] M (p4_joined x0 x1 x2 M) := by
  unfold p4_joined
  refine g_iload_n B dX4_joined_0 0 rfl ?_
  refine g_lookupswitch B [22, 43, 60, 62] [70, 44, 48, 59] 74 dX4_joined_1 (by decide) (by decide) ?_ ?_
  · refine g_iload_n B dX4_joined_74 1 rfl ?_
    refine g_iload_n B dX4_joined_75 2 rfl ?_
    refine g_ior B dX4_joined_76 ?_
    exact g_ireturn B hr rfl (by decide) (by decide) rfl dX4_joined_77
  · refine ⟨rfl, ?_, ?_, ?_, ?_, trivial⟩
    · refine g_iload_n B dX4_joined_70 1 rfl ?_
      refine g_iload_n B dX4_joined_71 2 rfl ?_
      refine g_iand B dX4_joined_72 ?_
      exact g_ireturn B hr rfl (by decide) (by decide) rfl dX4_joined_73
    · refine g_iload_n B dX4_joined_44 1 rfl ?_
      refine g_iload_n B dX4_joined_45 2 rfl ?_
      refine g_iadd B dX4_joined_46 ?_
      exact g_ireturn B hr rfl (by decide) (by decide) rfl dX4_joined_47
    · refine g_iload_n B dX4_joined_48 1 rfl ?_
      refine g_iload_n B dX4_joined_49 2 rfl ?_
      refine g_icmp_ge B 57 dX4_joined_50 (by decide) ?_ ?_
      · refine g_iconst (v := 1) B dX4_joined_53 (by decide) ?_
        refine g_goto B 58 dX4_joined_54 (by decide) ?_
        refine g_sub (lv' := []) [] rfl ?_
        exact g4_joined_J58 B hS9 hr 1
      · refine g_iconst (v := 0) B dX4_joined_57 (by decide) ?_
        refine g_sub (lv' := []) [] rfl ?_
        exact g4_joined_J58 B hS9 hr 0
    · refine g_iload_n B dX4_joined_59 1 rfl ?_
      refine g_iload_n B dX4_joined_60 2 rfl ?_
      refine g_icmp_le B 68 dX4_joined_61 (by decide) ?_ ?_
      · refine g_iconst (v := 1) B dX4_joined_64 (by decide) ?_
        refine g_goto B 69 dX4_joined_65 (by decide) ?_
        refine g_sub (lv' := []) [] rfl ?_
        exact g4_joined_J69 B hS9 hr 1
      · refine g_iconst (v := 0) B dX4_joined_68 (by decide) ?_
        refine g_sub (lv' := []) [] rfl ?_
        exact g4_joined_J69 B hS9 hr 0
theorem c4_joined (X : gX) (l : Launch) (x0 : Int32) (x1 : Int32) (x2 : Int32) (M : mMem) : Con X l yX4_joined cX4_joined 3 (some .int) rm4_joined (fun r9 : Int32 => (some (.int r9), M)) [.int x0, .int x1, .int x2] M (p4_joined x0 x1 x2 M) := g_con (own := RX4) (by decide +kernel) rfl (Nat.le_of_ble_eq_true rfl) (fun p e s m args below meth c B hS9 hr hn => g4_joined B hS9 hr x0 x1 x2)
theorem mf4_holds : gMF yX4_holds cX4_holds 6 (some .boolean) 2 := ⟨wd_521, wd_5, ⟨by decide, by decide⟩, by decide +kernel⟩
set_option maxRecDepth 20000 in
set_option maxHeartbeats 2000000 in
theorem g4_holds_J186 {X : gX} {p : Program} {l : Launch} {e : Env} {s : State} {m : MethodId} {args : Array Value} {below : List Frame} {meth : Method} {c : Code} (B : gB X p (rm4_holds) s m args meth c RX4 cX4_holds 6 (rm4_holds)) (hS9 : gS X s) (hr : meth.sig.returnType = some .boolean) (rec5 : Nat → Int32 → Int32 → Int32 → mMem → Option (Int32 × mMem)) (hrec5 : ∀ (a0 : Nat) (x2 : Int32) (x3 : Int32) (x4 : Int32) (M : mMem), GG X p l e (rm4_holds) s m args below meth c (gP X below args s 0 0 (fun r9 : (Int32 × mMem) => (some (.int r9.1), r9.2))) 6 0 0 5 [(0, .ref a0), (2, .int x2), (3, .int x3), (4, .int x4)] [] M (rec5 a0 x2 x3 x4 M)) (a0 : Nat) (x2 : Int32) (x3 : Int32) (x4 : Int32) (M : mMem) : GG X p l e (rm4_holds) s m args below meth c (gP X below args s 0 0 (fun r9 : (Int32 × mMem) => (some (.int r9.1), r9.2))) 6 0 0 186 [(0, .ref a0), (2, .int x2), (3, .int x3), (4, .int x4)] [] M (p4_holds_J186 rec5 a0 x2 x3 x4 M) := by
  unfold p4_holds_J186
  refine g_iinc (v := (x4 + 1)) (lv' := [(4, .int (x4 + 1)), (0, .ref a0), (2, .int x2), (3, .int x3)]) B dX4_holds_186 3 rfl rfl (by decide) [0, 1, 2, 3] rfl ?_
  refine g_goto B 5 dX4_holds_189 (by decide) ?_
  refine g_sub (lv' := [(0, .ref a0), (2, .int x2), (3, .int x3), (4, .int (x4 + 1))]) [1, 2, 3, 0] rfl ?_
  exact hrec5 a0 x2 x3 (x4 + 1) M
set_option maxRecDepth 20000 in
set_option maxHeartbeats 2000000 in
theorem g4_holds_J182 {X : gX} {p : Program} {l : Launch} {e : Env} {s : State} {m : MethodId} {args : Array Value} {below : List Frame} {meth : Method} {c : Code} (B : gB X p (rm4_holds) s m args meth c RX4 cX4_holds 6 (rm4_holds)) (hS9 : gS X s) (hr : meth.sig.returnType = some .boolean) (rec5 : Nat → Int32 → Int32 → Int32 → mMem → Option (Int32 × mMem)) (hrec5 : ∀ (a0 : Nat) (x2 : Int32) (x3 : Int32) (x4 : Int32) (M : mMem), GG X p l e (rm4_holds) s m args below meth c (gP X below args s 0 0 (fun r9 : (Int32 × mMem) => (some (.int r9.1), r9.2))) 6 0 0 5 [(0, .ref a0), (2, .int x2), (3, .int x3), (4, .int x4)] [] M (rec5 a0 x2 x3 x4 M)) (a0 : Nat) (x2 : Int32) (x3 : Int32) (x4 : Int32) (b0 : Nat) (u1 : Int32) (u2 : Int32) (M : mMem) : GG X p l e (rm4_holds) s m args below meth c (gP X below args s 0 0 (fun r9 : (Int32 × mMem) => (some (.int r9.1), r9.2))) 6 0 0 182 [(0, .ref a0), (2, .int x2), (3, .int x3), (4, .int x4)] [.int u2, .int u1, .ref b0] M (p4_holds_J182 rec5 a0 x2 x3 x4 b0 u1 u2 M) := by
  unfold p4_holds_J182
  refine g_iastore B dX4_holds_182 (fun M_1 => ?_)
  refine g_iinc (v := (x3 + 1)) (lv' := [(3, .int (x3 + 1)), (0, .ref a0), (2, .int x2), (4, .int x4)]) B dX4_holds_183 2 rfl rfl (by decide) [0, 1, 2, 3] rfl ?_
  refine g_sub (lv' := [(0, .ref a0), (2, .int x2), (3, .int (x3 + 1)), (4, .int x4)]) [1, 2, 0, 3] rfl ?_
  exact g4_holds_J186 B hS9 hr rec5 hrec5 a0 x2 (x3 + 1) x4 M_1
set_option maxRecDepth 20000 in
set_option maxHeartbeats 2000000 in
theorem g4_holds_J175 {X : gX} {p : Program} {l : Launch} {e : Env} {s : State} {m : MethodId} {args : Array Value} {below : List Frame} {meth : Method} {c : Code} (B : gB X p (rm4_holds) s m args meth c RX4 cX4_holds 6 (rm4_holds)) (hS9 : gS X s) (hr : meth.sig.returnType = some .boolean) (rec5 : Nat → Int32 → Int32 → Int32 → mMem → Option (Int32 × mMem)) (hrec5 : ∀ (a0 : Nat) (x2 : Int32) (x3 : Int32) (x4 : Int32) (M : mMem), GG X p l e (rm4_holds) s m args below meth c (gP X below args s 0 0 (fun r9 : (Int32 × mMem) => (some (.int r9.1), r9.2))) 6 0 0 5 [(0, .ref a0), (2, .int x2), (3, .int x3), (4, .int x4)] [] M (rec5 a0 x2 x3 x4 M)) (a0 : Nat) (x2 : Int32) (x3 : Int32) (x4 : Int32) (b0 : Nat) (u1 : Int32) (M : mMem) : GG X p l e (rm4_holds) s m args below meth c (gP X below args s 0 0 (fun r9 : (Int32 × mMem) => (some (.int r9.1), r9.2))) 6 0 0 175 [(0, .ref a0), (2, .int x2), (3, .int x3), (4, .int x4)] [.int u1, .ref b0] M (p4_holds_J175 rec5 a0 x2 x3 x4 b0 u1 M) := by
  unfold p4_holds_J175
  refine g_aload_n B dX4_holds_175 0 rfl ?_
  refine g_getR (ci := 4) (T0 := TX4) (N := 10) B (by decide) rfl in_4 (k := 5) (by decide) rfl wd_202 (fun _ h => h) dX4_holds_176 (fun v_1 => ?_)
  refine g_iload B dX4_holds_179 3 rfl ?_
  refine g_iaload B dX4_holds_181 (fun v_2 => ?_)
  refine g_sub (lv' := [(0, .ref a0), (2, .int x2), (3, .int x3), (4, .int x4)]) [0, 1, 2, 3] rfl ?_
  exact g4_holds_J182 B hS9 hr rec5 hrec5 a0 x2 x3 x4 b0 u1 v_2 M
set_option maxRecDepth 20000 in
set_option maxHeartbeats 2000000 in
theorem g4_holds_L5 {X : gX} {p : Program} {l : Launch} {e : Env} {s : State} {m : MethodId} {args : Array Value} {below : List Frame} {meth : Method} {c : Code} (B : gB X p (rm4_holds) s m args meth c RX4 cX4_holds 6 (rm4_holds)) (hS9 : gS X s) (hr : meth.sig.returnType = some .boolean) (k192 : Nat → Int32 → mMem → Option (Int32 × mMem)) (hk192 : ∀ (a0 : Nat) (x3 : Int32) (M : mMem), GG X p l e (rm4_holds) s m args below meth c (gP X below args s 0 0 (fun r9 : (Int32 × mMem) => (some (.int r9.1), r9.2))) 6 0 0 192 [(0, .ref a0), (3, .int x3)] [] M (k192 a0 x3 M)) : ∀ (n : Nat) (a0 : Nat) (x2 : Int32) (x3 : Int32) (x4 : Int32) (M : mMem), GG X p l e (rm4_holds) s m args below meth c (gP X below args s 0 0 (fun r9 : (Int32 × mMem) => (some (.int r9.1), r9.2))) 6 0 0 5 [(0, .ref a0), (2, .int x2), (3, .int x3), (4, .int x4)] [] M (p4_holds_L5 k192 n a0 x2 x3 x4 M) := by
  intro n
  induction n with
  | zero => intro a0 x2 x3 x4 M; exact g_none
  | succ n ih =>
    intro a0 x2 x3 x4 M
    rw [p4_holds_L5]
    refine g_iload B dX4_holds_5 3 rfl ?_
    refine g_iload_n B dX4_holds_7 1 rfl ?_
    refine g_icmp_ge B 192 dX4_holds_8 (by decide) ?_ ?_
    · refine g_iload B dX4_holds_11 3 rfl ?_
      refine g_if_lt B 192 dX4_holds_13 (by decide) ?_ ?_
      · refine g_sub (lv' := [(0, .ref a0), (3, .int x3)]) [0, 2] rfl ?_
        exact hk192 a0 x3 M
      · refine g_iload B dX4_holds_16 3 rfl ?_
        refine g_aload_n B dX4_holds_18 0 rfl ?_
        refine g_getR (ci := 4) (T0 := TX4) (N := 10) B (by decide) rfl in_4 (k := 4) (by decide) rfl wd_201 (fun _ h => h) dX4_holds_19 (fun v_1 => ?_)
        refine g_alen B dX4_holds_22 (fun v_2 => ?_)
        refine g_icmp_ge B 192 dX4_holds_23 (by decide) ?_ ?_
        · refine g_aload_n B dX4_holds_26 0 rfl ?_
          refine g_getR (ci := 4) (T0 := TX4) (N := 10) B (by decide) rfl in_4 (k := 4) (by decide) rfl wd_201 (fun _ h => h) dX4_holds_27 (fun v_3 => ?_)
          refine g_iload B dX4_holds_30 3 rfl ?_
          refine g_iaload B dX4_holds_32 (fun v_4 => ?_)
          refine g_istore (lv' := [(5, .int v_4), (0, .ref a0), (2, .int x2), (3, .int x3), (4, .int x4)]) B dX4_holds_33 (by decide) [0, 1, 2, 3, 4] rfl ?_
          refine g_iload B dX4_holds_35 0 rfl ?_
          refine g_bipush (v := 23) B dX4_holds_37 (by decide) ?_
          refine g_icmp_ne B 76 dX4_holds_39 (by decide) ?_ ?_
          · refine g_iload_n B dX4_holds_42 3 rfl ?_
            refine g_if_le B 186 dX4_holds_43 (by decide) ?_ ?_
            · refine g_iload_n B dX4_holds_46 3 rfl ?_
              refine g_aload_n B dX4_holds_47 1 rfl ?_
              refine g_getR (ci := 4) (T0 := TX4) (N := 10) B (by decide) rfl in_4 (k := 7) (by decide) rfl wd_204 (fun _ h => h) dX4_holds_48 (fun v_22 => ?_)
              refine g_alen B dX4_holds_51 (fun v_23 => ?_)
              refine g_icmp_gt B 186 dX4_holds_52 (by decide) ?_ ?_
              · refine g_sub (lv' := [(0, .ref a0), (2, .int x2), (3, .int x3), (4, .int x4)]) [1, 2, 3, 4] rfl ?_
                exact g4_holds_J186 B hS9 hr (p4_holds_L5 k192 n) ih a0 x2 x3 x4 M
              · refine g_aload_n B dX4_holds_55 1 rfl ?_
                refine g_getR (ci := 4) (T0 := TX4) (N := 10) B (by decide) rfl in_4 (k := 7) (by decide) rfl wd_204 (fun _ h => h) dX4_holds_56 (fun v_24 => ?_)
                refine g_iload_n B dX4_holds_59 3 rfl ?_
                refine g_iconst (v := 1) B dX4_holds_60 (by decide) ?_
                refine g_isub B dX4_holds_61 ?_
                refine g_iconst (v := 1) B dX4_holds_62 (by decide) ?_
                refine g_aload_n B dX4_holds_63 1 rfl ?_
                refine g_getR (ci := 4) (T0 := TX4) (N := 10) B (by decide) rfl in_4 (k := 7) (by decide) rfl wd_204 (fun _ h => h) dX4_holds_64 (fun v_25 => ?_)
                refine g_iload_n B dX4_holds_67 3 rfl ?_
                refine g_iconst (v := 1) B dX4_holds_68 (by decide) ?_
                refine g_isub B dX4_holds_69 ?_
                refine g_iaload B dX4_holds_70 (fun v_26 => ?_)
                refine g_isub B dX4_holds_71 ?_
                refine g_iastore B dX4_holds_72 (fun M_27 => ?_)
                refine g_goto B 186 dX4_holds_73 (by decide) ?_
                refine g_sub (lv' := [(0, .ref a0), (2, .int x2), (3, .int x3), (4, .int x4)]) [1, 2, 3, 4] rfl ?_
                exact g4_holds_J186 B hS9 hr (p4_holds_L5 k192 n) ih a0 x2 x3 x4 M_27
            · refine g_sub (lv' := [(0, .ref a0), (2, .int x2), (3, .int x3), (4, .int x4)]) [1, 2, 3, 4] rfl ?_
              exact g4_holds_J186 B hS9 hr (p4_holds_L5 k192 n) ih a0 x2 x3 x4 M
          · refine g_iload B dX4_holds_76 0 rfl ?_
            refine g_callS_ip [.int v_4] B hS9 mf4_joins wd_523 wd_522 (c4_joins X l v_4 M) (by decide) (by decide) (by decide) rfl (by decide) dX4_holds_78 rfl (fun v_5 => ?_)
            refine g_if_eq B 131 dX4_holds_81 (by decide) ?_ ?_
            · refine g_iload_n B dX4_holds_131 3 rfl ?_
              refine g_if_lt B 186 dX4_holds_132 (by decide) ?_ ?_
              · refine g_sub (lv' := [(0, .ref a0), (2, .int x2), (3, .int x3), (4, .int x4)]) [1, 2, 3, 4] rfl ?_
                exact g4_holds_J186 B hS9 hr (p4_holds_L5 k192 n) ih a0 x2 x3 x4 M
              · refine g_iload_n B dX4_holds_135 3 rfl ?_
                refine g_aload_n B dX4_holds_136 1 rfl ?_
                refine g_getR (ci := 4) (T0 := TX4) (N := 10) B (by decide) rfl in_4 (k := 7) (by decide) rfl wd_204 (fun _ h => h) dX4_holds_137 (fun v_6 => ?_)
                refine g_alen B dX4_holds_140 (fun v_7 => ?_)
                refine g_icmp_ge B 186 dX4_holds_141 (by decide) ?_ ?_
                · refine g_aload_n B dX4_holds_144 1 rfl ?_
                  refine g_getR (ci := 4) (T0 := TX4) (N := 10) B (by decide) rfl in_4 (k := 7) (by decide) rfl wd_204 (fun _ h => h) dX4_holds_145 (fun v_8 => ?_)
                  refine g_iload_n B dX4_holds_148 3 rfl ?_
                  refine g_iload B dX4_holds_149 0 rfl ?_
                  refine g_iconst (v := 2) B dX4_holds_151 (by decide) ?_
                  refine g_icmp_le B 175 dX4_holds_152 (by decide) ?_ ?_
                  · refine g_iload B dX4_holds_155 0 rfl ?_
                    refine g_aload_n B dX4_holds_157 1 rfl ?_
                    refine g_getR (ci := 4) (T0 := TX4) (N := 10) B (by decide) rfl in_4 (k := 6) (by decide) rfl wd_203 (fun _ h => h) dX4_holds_158 (fun v_9 => ?_)
                    refine g_alen B dX4_holds_161 (fun v_10 => ?_)
                    refine g_icmp_ge B 175 dX4_holds_162 (by decide) ?_ ?_
                    · refine g_aload_n B dX4_holds_165 1 rfl ?_
                      refine g_getR (ci := 4) (T0 := TX4) (N := 10) B (by decide) rfl in_4 (k := 6) (by decide) rfl wd_203 (fun _ h => h) dX4_holds_166 (fun v_11 => ?_)
                      refine g_iload B dX4_holds_169 0 rfl ?_
                      refine g_iaload B dX4_holds_171 (fun v_12 => ?_)
                      refine g_goto B 182 dX4_holds_172 (by decide) ?_
                      refine g_sub (lv' := [(0, .ref a0), (2, .int x2), (3, .int x3), (4, .int x4)]) [1, 2, 3, 4] rfl ?_
                      exact g4_holds_J182 B hS9 hr (p4_holds_L5 k192 n) ih a0 x2 x3 x4 v_8 x3 v_12 M
                    · refine g_sub (lv' := [(0, .ref a0), (2, .int x2), (3, .int x3), (4, .int x4)]) [1, 2, 3, 4] rfl ?_
                      exact g4_holds_J175 B hS9 hr (p4_holds_L5 k192 n) ih a0 x2 x3 x4 v_8 x3 M
                  · refine g_sub (lv' := [(0, .ref a0), (2, .int x2), (3, .int x3), (4, .int x4)]) [1, 2, 3, 4] rfl ?_
                    exact g4_holds_J175 B hS9 hr (p4_holds_L5 k192 n) ih a0 x2 x3 x4 v_8 x3 M
                · refine g_sub (lv' := [(0, .ref a0), (2, .int x2), (3, .int x3), (4, .int x4)]) [1, 2, 3, 4] rfl ?_
                  exact g4_holds_J186 B hS9 hr (p4_holds_L5 k192 n) ih a0 x2 x3 x4 M
            · refine g_iload_n B dX4_holds_84 3 rfl ?_
              refine g_iconst (v := 1) B dX4_holds_85 (by decide) ?_
              refine g_icmp_le B 186 dX4_holds_86 (by decide) ?_ ?_
              · refine g_iload_n B dX4_holds_89 3 rfl ?_
                refine g_aload_n B dX4_holds_90 1 rfl ?_
                refine g_getR (ci := 4) (T0 := TX4) (N := 10) B (by decide) rfl in_4 (k := 7) (by decide) rfl wd_204 (fun _ h => h) dX4_holds_91 (fun v_13 => ?_)
                refine g_alen B dX4_holds_94 (fun v_14 => ?_)
                refine g_icmp_gt B 186 dX4_holds_95 (by decide) ?_ ?_
                · refine g_sub (lv' := [(0, .ref a0), (2, .int x2), (3, .int x3), (4, .int x4)]) [1, 2, 3, 4] rfl ?_
                  exact g4_holds_J186 B hS9 hr (p4_holds_L5 k192 n) ih a0 x2 x3 x4 M
                · refine g_iinc (v := (x3 + (-1))) (lv' := [(3, .int (x3 + (-1))), (5, .int v_4), (0, .ref a0), (2, .int x2), (4, .int x4)]) B dX4_holds_98 3 rfl rfl (by decide) [0, 1, 2, 3, 4] rfl ?_
                  refine g_aload_n B dX4_holds_101 2 rfl ?_
                  refine g_getR (ci := 4) (T0 := TX4) (N := 10) B (by decide) rfl in_4 (k := 7) (by decide) rfl wd_204 (fun _ h => h) dX4_holds_102 (fun v_15 => ?_)
                  refine g_iload_n B dX4_holds_105 0 rfl ?_
                  refine g_iconst (v := 1) B dX4_holds_106 (by decide) ?_
                  refine g_isub B dX4_holds_107 ?_
                  refine g_iload B dX4_holds_108 1 rfl ?_
                  refine g_aload_n B dX4_holds_110 2 rfl ?_
                  refine g_getR (ci := 4) (T0 := TX4) (N := 10) B (by decide) rfl in_4 (k := 7) (by decide) rfl wd_204 (fun _ h => h) dX4_holds_111 (fun v_16 => ?_)
                  refine g_iload_n B dX4_holds_114 0 rfl ?_
                  refine g_iconst (v := 1) B dX4_holds_115 (by decide) ?_
                  refine g_isub B dX4_holds_116 ?_
                  refine g_iaload B dX4_holds_117 (fun v_17 => ?_)
                  refine g_aload_n B dX4_holds_118 2 rfl ?_
                  refine g_getR (ci := 4) (T0 := TX4) (N := 10) B (by decide) rfl in_4 (k := 7) (by decide) rfl wd_204 (fun _ h => h) dX4_holds_119 (fun v_18 => ?_)
                  refine g_iload_n B dX4_holds_122 0 rfl ?_
                  refine g_iaload B dX4_holds_123 (fun v_19 => ?_)
                  refine g_callS_ip [.int v_4, .int v_17, .int v_19] B hS9 mf4_joined wd_526 wd_525 (c4_joined X l v_4 v_17 v_19 M) (by decide) (by decide) (by decide) rfl (Nat.le_of_ble_eq_true rfl) dX4_holds_124 rfl (fun v_20 => ?_)
                  refine g_iastore B dX4_holds_127 (fun M_21 => ?_)
                  refine g_goto B 186 dX4_holds_128 (by decide) ?_
                  refine g_sub (lv' := [(0, .ref a0), (2, .int x2), (3, .int (x3 + (-1))), (4, .int x4)]) [2, 3, 0, 4] rfl ?_
                  exact g4_holds_J186 B hS9 hr (p4_holds_L5 k192 n) ih a0 x2 (x3 + (-1)) x4 M_21
              · refine g_sub (lv' := [(0, .ref a0), (2, .int x2), (3, .int x3), (4, .int x4)]) [1, 2, 3, 4] rfl ?_
                exact g4_holds_J186 B hS9 hr (p4_holds_L5 k192 n) ih a0 x2 x3 x4 M
        · refine g_sub (lv' := [(0, .ref a0), (3, .int x3)]) [0, 2] rfl ?_
          exact hk192 a0 x3 M
    · refine g_sub (lv' := [(0, .ref a0), (3, .int x3)]) [0, 2] rfl ?_
      exact hk192 a0 x3 M
set_option maxRecDepth 20000 in
set_option maxHeartbeats 2000000 in
theorem g4_holds_J210 {X : gX} {p : Program} {l : Launch} {e : Env} {s : State} {m : MethodId} {args : Array Value} {below : List Frame} {meth : Method} {c : Code} (B : gB X p (rm4_holds) s m args meth c RX4 cX4_holds 6 (rm4_holds)) (hS9 : gS X s) (hr : meth.sig.returnType = some .boolean) (u0 : Int32) (M : mMem) : GG X p l e (rm4_holds) s m args below meth c (gP X below args s 0 0 (fun r9 : (Int32 × mMem) => (some (.int r9.1), r9.2))) 6 0 0 210 [] [.int u0] M (p4_holds_J210 u0 M) := by
  unfold p4_holds_J210
  exact g_zreturn (f := fun z => (z, M)) B hr (by decide) (by decide) rfl dX4_holds_210
set_option maxRecDepth 20000 in
set_option maxHeartbeats 2000000 in
theorem g4_holds_J205 {X : gX} {p : Program} {l : Launch} {e : Env} {s : State} {m : MethodId} {args : Array Value} {below : List Frame} {meth : Method} {c : Code} (B : gB X p (rm4_holds) s m args meth c RX4 cX4_holds 6 (rm4_holds)) (hS9 : gS X s) (hr : meth.sig.returnType = some .boolean) (M : mMem) : GG X p l e (rm4_holds) s m args below meth c (gP X below args s 0 0 (fun r9 : (Int32 × mMem) => (some (.int r9.1), r9.2))) 6 0 0 205 [] [] M (p4_holds_J205 M) := by
  unfold p4_holds_J205
  refine g_iconst (v := 1) B dX4_holds_205 (by decide) ?_
  refine g_goto B 210 dX4_holds_206 (by decide) ?_
  refine g_sub (lv' := []) [] rfl ?_
  exact g4_holds_J210 B hS9 hr 1 M
set_option maxRecDepth 20000 in
set_option maxHeartbeats 2000000 in
theorem g4_holds_J192 {X : gX} {p : Program} {l : Launch} {e : Env} {s : State} {m : MethodId} {args : Array Value} {below : List Frame} {meth : Method} {c : Code} (B : gB X p (rm4_holds) s m args meth c RX4 cX4_holds 6 (rm4_holds)) (hS9 : gS X s) (hr : meth.sig.returnType = some .boolean) (a0 : Nat) (x3 : Int32) (M : mMem) : GG X p l e (rm4_holds) s m args below meth c (gP X below args s 0 0 (fun r9 : (Int32 × mMem) => (some (.int r9.1), r9.2))) 6 0 0 192 [(0, .ref a0), (3, .int x3)] [] M (p4_holds_J192 a0 x3 M) := by
  unfold p4_holds_J192
  refine g_iload_n B dX4_holds_192 1 rfl ?_
  refine g_if_le B 205 dX4_holds_193 (by decide) ?_ ?_
  · refine g_aload_n B dX4_holds_196 0 rfl ?_
    refine g_getR (ci := 4) (T0 := TX4) (N := 10) B (by decide) rfl in_4 (k := 7) (by decide) rfl wd_204 (fun _ h => h) dX4_holds_197 (fun v_1 => ?_)
    refine g_iconst (v := 0) B dX4_holds_200 (by decide) ?_
    refine g_iaload B dX4_holds_201 (fun v_2 => ?_)
    refine g_if_eq B 209 dX4_holds_202 (by decide) ?_ ?_
    · refine g_iconst (v := 0) B dX4_holds_209 (by decide) ?_
      refine g_sub (lv' := []) [] rfl ?_
      exact g4_holds_J210 B hS9 hr 0 M
    · refine g_sub (lv' := []) [] rfl ?_
      exact g4_holds_J205 B hS9 hr M
  · refine g_sub (lv' := []) [] rfl ?_
    exact g4_holds_J205 B hS9 hr M
set_option maxRecDepth 20000 in
set_option maxHeartbeats 2000000 in
theorem g4_holds {X : gX} {p : Program} {l : Launch} {e : Env} {s : State} {m : MethodId} {args : Array Value} {below : List Frame} {meth : Method} {c : Code} (B : gB X p (rm4_holds) s m args meth c RX4 cX4_holds 6 (rm4_holds)) (hS9 : gS X s) (hr : meth.sig.returnType = some .boolean) (a0 : Nat) (x1 : Int32) (x2 : Int32) (M : mMem) : GG X p l e (rm4_holds) s m args below meth c (gP X below args s 0 0 (fun r9 : (Int32 × mMem) => (some (.int r9.1), r9.2))) 6 0 0 0 [(0, .ref a0), (1, .int x1), (2, .int x2)] [] M (p4_holds a0 x1 x2 M) := by
  unfold p4_holds
  refine g_gd ?_
  refine g_iconst (v := 0) B dX4_holds_0 (by decide) ?_
  refine g_istore_n (lv' := [(3, .int 0), (0, .ref a0), (1, .int x1), (2, .int x2)]) B dX4_holds_1 (by decide) [0, 1, 2, 3] rfl ?_
  refine g_iload_n B dX4_holds_2 2 rfl ?_
  refine g_istore (lv' := [(4, .int x1), (3, .int 0), (0, .ref a0), (1, .int x1), (2, .int x2)]) B dX4_holds_3 (by decide) [0, 1, 2, 3, 4] rfl ?_
  refine g_sub (lv' := [(0, .ref a0), (2, .int x2), (3, .int 0), (4, .int x1)]) [2, 4, 1, 0] rfl ?_
  exact (g4_holds_L5 B hS9 hr p4_holds_J192 (fun e0 e1 e2 => g4_holds_J192 B hS9 hr e0 e1 e2)) gF a0 x2 0 x1 M
theorem c4_holds (X : gX) (l : Launch) (a0 : Nat) (x1 : Int32) (x2 : Int32) (M : mMem) : Con X l yX4_holds cX4_holds 6 (some .boolean) rm4_holds (fun r9 : (Int32 × mMem) => (some (.int r9.1), r9.2)) [.ref a0, .int x1, .int x2] M (p4_holds a0 x1 x2 M) := g_con (own := RX4) (by decide +kernel) rfl (Nat.le_of_ble_eq_true rfl) (fun p e s m args below meth c B hS9 hr hn => g4_holds B hS9 hr a0 x1 x2 M)
theorem mf2_leftByRound : gMF yX2_leftByRound cX2_leftByRound 2 (some .int) 1 := ⟨wd_531, wd_2, ⟨by decide, by decide⟩, by decide +kernel⟩
set_option maxRecDepth 20000 in
set_option maxHeartbeats 2000000 in
theorem g2_leftByRound_J17 {X : gX} {p : Program} {l : Launch} {e : Env} {s : State} {m : MethodId} {args : Array Value} {below : List Frame} {meth : Method} {c : Code} (B : gB X p (rm2_leftByRound) s m args meth c RX2 cX2_leftByRound 2 (rm2_leftByRound)) (hS9 : gS X s) (hr : meth.sig.returnType = some .int) {M : mMem} (u0 : Int32) : GG X p l e (rm2_leftByRound) s m args below meth c (gP X below args s 0 0 (fun r9 : Int32 => (some (.int r9), M))) 2 0 0 17 [] [.int u0] M (p2_leftByRound_J17 M u0) := by
  unfold p2_leftByRound_J17
  exact g_ireturn B hr rfl (by decide) (by decide) rfl dX2_leftByRound_17
set_option maxRecDepth 20000 in
set_option maxHeartbeats 2000000 in
theorem g2_leftByRound {X : gX} {p : Program} {l : Launch} {e : Env} {s : State} {m : MethodId} {args : Array Value} {below : List Frame} {meth : Method} {c : Code} (B : gB X p (rm2_leftByRound) s m args meth c RX2 cX2_leftByRound 2 (rm2_leftByRound)) (hS9 : gS X s) (hr : meth.sig.returnType = some .int) {M : mMem} (a0 : Nat) (x1 : Int32) : GG X p l e (rm2_leftByRound) s m args below meth c (gP X below args s 0 0 (fun r9 : Int32 => (some (.int r9), M))) 2 0 0 0 [(0, .ref a0), (1, .int x1)] [] M (p2_leftByRound a0 x1 M) := by
  unfold p2_leftByRound
  refine g_gd ?_
  refine g_aload_n B dX2_leftByRound_0 0 rfl ?_
  refine g_getI (ci := 2) (T0 := TX2) (N := 11) B (by decide) rfl in_2 (k := 5) (by decide) rfl wd_146 (fun _ h => h) dX2_leftByRound_1 (fun v_1 => ?_)
  refine g_if_le B 16 dX2_leftByRound_4 (by decide) ?_ ?_
  · refine g_iload_n B dX2_leftByRound_7 1 rfl ?_
    refine g_aload_n B dX2_leftByRound_8 0 rfl ?_
    refine g_getI (ci := 2) (T0 := TX2) (N := 11) B (by decide) rfl in_2 (k := 5) (by decide) rfl wd_146 (fun _ h => h) dX2_leftByRound_9 (fun v_2 => ?_)
    refine g_irem B dX2_leftByRound_12 (fun v_3 => ?_)
    refine g_goto B 17 dX2_leftByRound_13 (by decide) ?_
    refine g_sub (lv' := []) [] rfl ?_
    exact g2_leftByRound_J17 B hS9 hr v_3
  · refine g_iconst (v := 0) B dX2_leftByRound_16 (by decide) ?_
    refine g_sub (lv' := []) [] rfl ?_
    exact g2_leftByRound_J17 B hS9 hr 0
theorem c2_leftByRound (X : gX) (l : Launch) (a0 : Nat) (x1 : Int32) (M : mMem) : Con X l yX2_leftByRound cX2_leftByRound 2 (some .int) rm2_leftByRound (fun r9 : Int32 => (some (.int r9), M)) [.ref a0, .int x1] M (p2_leftByRound a0 x1 M) := g_con (own := RX2) (by decide +kernel) rfl (Nat.le_of_ble_eq_true rfl) (fun p e s m args below meth c B hS9 hr hn => g2_leftByRound B hS9 hr a0 x1)
theorem mf4_weight : gMF yX4_weight cX4_weight 8 (some .int) 4 := ⟨wd_509, wd_5, ⟨by decide, by decide⟩, by decide +kernel⟩
set_option maxRecDepth 20000 in
set_option maxHeartbeats 2000000 in
theorem g4_weight_J133 {X : gX} {p : Program} {l : Launch} {e : Env} {s : State} {m : MethodId} {args : Array Value} {below : List Frame} {meth : Method} {c : Code} (B : gB X p (rm4_weight) s m args meth c RX4 cX4_weight 8 (rm4_weight)) (hS9 : gS X s) (hr : meth.sig.returnType = some .int) (a1 : Nat) (x6 : Int32) (M : mMem) : GG X p l e (rm4_weight) s m args below meth c (gP X below args s 0 0 (fun r9 : (Int32 × mMem) => (some (.int r9.1), r9.2))) 8 0 0 133 [(1, .ref a1), (6, .int x6)] [] M (p4_weight_J133 a1 x6 M) := by
  unfold p4_weight_J133
  refine g_aload_n B dX4_weight_133 0 rfl ?_
  refine g_iload B dX4_weight_134 1 rfl ?_
  refine g_callV_ip [.int x6] (ci := 2) (T0 := TX2) (N := 11) B hS9 mf2_leftByRound wd_529 (gw B wd_530) wd_528 (by decide) rfl (fun h => (gd_ne h).1) (c2_leftByRound X l a1 x6 M) (by decide) (by decide) (by decide) rfl (by decide) dX4_weight_136 rfl (fun v_1 => ?_)
  exact g_ireturn B hr rfl (by decide) (by decide) rfl dX4_weight_139
set_option maxRecDepth 20000 in
set_option maxHeartbeats 2000000 in
theorem g4_weight_J127 {X : gX} {p : Program} {l : Launch} {e : Env} {s : State} {m : MethodId} {args : Array Value} {below : List Frame} {meth : Method} {c : Code} (B : gB X p (rm4_weight) s m args meth c RX4 cX4_weight 8 (rm4_weight)) (hS9 : gS X s) (hr : meth.sig.returnType = some .int) (rec37 : Nat → Nat → Int32 → Int32 → Int32 → mMem → Option (Int32 × mMem)) (hrec37 : ∀ (a0 : Nat) (a1 : Nat) (x5 : Int32) (x6 : Int32) (x7 : Int32) (M : mMem), GG X p l e (rm4_weight) s m args below meth c (gP X below args s 0 0 (fun r9 : (Int32 × mMem) => (some (.int r9.1), r9.2))) 8 0 0 37 [(0, .ref a0), (1, .ref a1), (5, .int x5), (6, .int x6), (7, .int x7)] [] M (rec37 a0 a1 x5 x6 x7 M)) (a0 : Nat) (a1 : Nat) (x5 : Int32) (x6 : Int32) (x7 : Int32) (M : mMem) : GG X p l e (rm4_weight) s m args below meth c (gP X below args s 0 0 (fun r9 : (Int32 × mMem) => (some (.int r9.1), r9.2))) 8 0 0 127 [(0, .ref a0), (1, .ref a1), (5, .int x5), (6, .int x6), (7, .int x7)] [] M (p4_weight_J127 rec37 a0 a1 x5 x6 x7 M) := by
  unfold p4_weight_J127
  refine g_iinc (v := (x7 + 1)) (lv' := [(7, .int (x7 + 1)), (0, .ref a0), (1, .ref a1), (5, .int x5), (6, .int x6)]) B dX4_weight_127 4 rfl rfl (by decide) [0, 1, 2, 3, 4] rfl ?_
  refine g_goto B 37 dX4_weight_130 (by decide) ?_
  refine g_sub (lv' := [(0, .ref a0), (1, .ref a1), (5, .int x5), (6, .int x6), (7, .int (x7 + 1))]) [1, 2, 3, 4, 0] rfl ?_
  exact hrec37 a0 a1 x5 x6 (x7 + 1) M
set_option maxRecDepth 20000 in
set_option maxHeartbeats 2000000 in
theorem g4_weight_J77 {X : gX} {p : Program} {l : Launch} {e : Env} {s : State} {m : MethodId} {args : Array Value} {below : List Frame} {meth : Method} {c : Code} (B : gB X p (rm4_weight) s m args meth c RX4 cX4_weight 8 (rm4_weight)) (hS9 : gS X s) (hr : meth.sig.returnType = some .int) (rec37 : Nat → Nat → Int32 → Int32 → Int32 → mMem → Option (Int32 × mMem)) (hrec37 : ∀ (a0 : Nat) (a1 : Nat) (x5 : Int32) (x6 : Int32) (x7 : Int32) (M : mMem), GG X p l e (rm4_weight) s m args below meth c (gP X below args s 0 0 (fun r9 : (Int32 × mMem) => (some (.int r9.1), r9.2))) 8 0 0 37 [(0, .ref a0), (1, .ref a1), (5, .int x5), (6, .int x6), (7, .int x7)] [] M (rec37 a0 a1 x5 x6 x7 M)) (a0 : Nat) (a1 : Nat) (x5 : Int32) (x6 : Int32) (x7 : Int32) (M : mMem) : GG X p l e (rm4_weight) s m args below meth c (gP X below args s 0 0 (fun r9 : (Int32 × mMem) => (some (.int r9.1), r9.2))) 8 0 0 77 [(0, .ref a0), (1, .ref a1), (5, .int x5), (6, .int x6), (7, .int x7)] [] M (p4_weight_J77 rec37 a0 a1 x5 x6 x7 M) := by
  unfold p4_weight_J77
  refine g_aload_n B dX4_weight_77 0 rfl ?_
  refine g_aload_n B dX4_weight_78 0 rfl ?_
  refine g_getR (ci := 4) (T0 := TX4) (N := 10) B (by decide) rfl in_4 (k := 2) (by decide) rfl wd_199 (fun _ h => h) dX4_weight_79 (fun v_1 => ?_)
  refine g_iload B dX4_weight_82 4 rfl ?_
  refine g_iaload B dX4_weight_84 (fun v_2 => ?_)
  refine g_aload_n B dX4_weight_85 0 rfl ?_
  refine g_getR (ci := 4) (T0 := TX4) (N := 10) B (by decide) rfl in_4 (k := 3) (by decide) rfl wd_200 (fun _ h => h) dX4_weight_86 (fun v_3 => ?_)
  refine g_iload B dX4_weight_89 4 rfl ?_
  refine g_iaload B dX4_weight_91 (fun v_4 => ?_)
  refine g_callV_iw [.int v_2, .int v_4] (ci := 4) (T0 := TX4) (N := 10) B hS9 mf4_holds wd_520 (gw B wp_3) wd_518 (by decide) rfl (fun h => (gd_ne h).1) (c4_holds X l a0 v_2 v_4 M) (by decide) (by decide) (by decide) rfl (by decide) dX4_weight_92 rfl (fun q_5 => ?_)
  refine g_if_ne B 101 dX4_weight_95 (by decide) ?_ ?_
  · refine g_goto B 127 dX4_weight_98 (by decide) ?_
    refine g_sub (lv' := [(0, .ref a0), (1, .ref a1), (5, .int x5), (6, .int x6), (7, .int x7)]) [0, 1, 2, 3, 4] rfl ?_
    exact g4_weight_J127 B hS9 hr rec37 hrec37 a0 a1 x5 x6 x7 q_5.2
  · refine g_aload_n B dX4_weight_101 0 rfl ?_
    refine g_getR (ci := 4) (T0 := TX4) (N := 10) B (by decide) rfl in_4 (k := 0) (by decide) rfl wd_197 (fun _ h => h) dX4_weight_102 (fun v_6 => ?_)
    refine g_iload B dX4_weight_105 4 rfl ?_
    refine g_iaload B dX4_weight_107 (fun v_7 => ?_)
    refine g_bipush (v := 19) B dX4_weight_108 (by decide) ?_
    refine g_icmp_ne B 115 dX4_weight_110 (by decide) ?_ ?_
    · refine g_iconst (v := 0) B dX4_weight_113 (by decide) ?_
      exact g_ireturn B hr rfl (by decide) (by decide) rfl dX4_weight_114
    · refine g_iload B dX4_weight_115 3 rfl ?_
      refine g_aload_n B dX4_weight_117 0 rfl ?_
      refine g_getR (ci := 4) (T0 := TX4) (N := 10) B (by decide) rfl in_4 (k := 1) (by decide) rfl wd_198 (fun _ h => h) dX4_weight_118 (fun v_8 => ?_)
      refine g_iload B dX4_weight_121 4 rfl ?_
      refine g_iaload B dX4_weight_123 (fun v_9 => ?_)
      refine g_iadd B dX4_weight_124 ?_
      refine g_istore (lv' := [(6, .int (x6 + v_9)), (0, .ref a0), (1, .ref a1), (5, .int x5), (7, .int x7)]) B dX4_weight_125 (by decide) [0, 1, 2, 3, 4] rfl ?_
      refine g_sub (lv' := [(0, .ref a0), (1, .ref a1), (5, .int x5), (6, .int (x6 + v_9)), (7, .int x7)]) [1, 2, 3, 0, 4] rfl ?_
      exact g4_weight_J127 B hS9 hr rec37 hrec37 a0 a1 x5 (x6 + v_9) x7 q_5.2
set_option maxRecDepth 20000 in
set_option maxHeartbeats 2000000 in
theorem g4_weight_L37 {X : gX} {p : Program} {l : Launch} {e : Env} {s : State} {m : MethodId} {args : Array Value} {below : List Frame} {meth : Method} {c : Code} (B : gB X p (rm4_weight) s m args meth c RX4 cX4_weight 8 (rm4_weight)) (hS9 : gS X s) (hr : meth.sig.returnType = some .int) : ∀ (n : Nat) (a0 : Nat) (a1 : Nat) (x5 : Int32) (x6 : Int32) (x7 : Int32) (M : mMem), GG X p l e (rm4_weight) s m args below meth c (gP X below args s 0 0 (fun r9 : (Int32 × mMem) => (some (.int r9.1), r9.2))) 8 0 0 37 [(0, .ref a0), (1, .ref a1), (5, .int x5), (6, .int x6), (7, .int x7)] [] M (p4_weight_L37 n a0 a1 x5 x6 x7 M) := by
  intro n
  induction n with
  | zero => intro a0 a1 x5 x6 x7 M; exact g_none
  | succ n ih =>
    intro a0 a1 x5 x6 x7 M
    rw [p4_weight_L37]
    refine g_iload B dX4_weight_37 4 rfl ?_
    refine g_aload_n B dX4_weight_39 0 rfl ?_
    refine g_getI (ci := 4) (T0 := TX4) (N := 10) B (by decide) rfl in_4 (k := 9) (by decide) rfl wd_207 (fun _ h => h) dX4_weight_40 (fun v_1 => ?_)
    refine g_icmp_ge B 133 dX4_weight_43 (by decide) ?_ ?_
    · refine g_iload B dX4_weight_46 4 rfl ?_
      refine g_bipush (v := 12) B dX4_weight_48 (by decide) ?_
      refine g_icmp_ge B 133 dX4_weight_50 (by decide) ?_ ?_
      · refine g_aload_n B dX4_weight_53 0 rfl ?_
        refine g_getR (ci := 4) (T0 := TX4) (N := 10) B (by decide) rfl in_4 (k := 0) (by decide) rfl wd_197 (fun _ h => h) dX4_weight_54 (fun v_2 => ?_)
        refine g_iload B dX4_weight_57 4 rfl ?_
        refine g_iaload B dX4_weight_59 (fun v_3 => ?_)
        refine g_bipush (v := 19) B dX4_weight_60 (by decide) ?_
        refine g_icmp_eq B 77 dX4_weight_62 (by decide) ?_ ?_
        · refine g_sub (lv' := [(0, .ref a0), (1, .ref a1), (5, .int x5), (6, .int x6), (7, .int x7)]) [0, 1, 2, 3, 4] rfl ?_
          exact g4_weight_J77 B hS9 hr (p4_weight_L37 n) ih a0 a1 x5 x6 x7 M
        · refine g_aload_n B dX4_weight_65 0 rfl ?_
          refine g_getR (ci := 4) (T0 := TX4) (N := 10) B (by decide) rfl in_4 (k := 0) (by decide) rfl wd_197 (fun _ h => h) dX4_weight_66 (fun v_4 => ?_)
          refine g_iload B dX4_weight_69 4 rfl ?_
          refine g_iaload B dX4_weight_71 (fun v_5 => ?_)
          refine g_iload B dX4_weight_72 2 rfl ?_
          refine g_icmp_ne B 127 dX4_weight_74 (by decide) ?_ ?_
          · refine g_sub (lv' := [(0, .ref a0), (1, .ref a1), (5, .int x5), (6, .int x6), (7, .int x7)]) [0, 1, 2, 3, 4] rfl ?_
            exact g4_weight_J77 B hS9 hr (p4_weight_L37 n) ih a0 a1 x5 x6 x7 M
          · refine g_sub (lv' := [(0, .ref a0), (1, .ref a1), (5, .int x5), (6, .int x6), (7, .int x7)]) [0, 1, 2, 3, 4] rfl ?_
            exact g4_weight_J127 B hS9 hr (p4_weight_L37 n) ih a0 a1 x5 x6 x7 M
      · refine g_sub (lv' := [(1, .ref a1), (6, .int x6)]) [1, 3] rfl ?_
        exact g4_weight_J133 B hS9 hr a1 x6 M
    · refine g_sub (lv' := [(1, .ref a1), (6, .int x6)]) [1, 3] rfl ?_
      exact g4_weight_J133 B hS9 hr a1 x6 M
set_option maxRecDepth 20000 in
set_option maxHeartbeats 2000000 in
theorem g4_weight_J34 {X : gX} {p : Program} {l : Launch} {e : Env} {s : State} {m : MethodId} {args : Array Value} {below : List Frame} {meth : Method} {c : Code} (B : gB X p (rm4_weight) s m args meth c RX4 cX4_weight 8 (rm4_weight)) (hS9 : gS X s) (hr : meth.sig.returnType = some .int) (a0 : Nat) (a1 : Nat) (x5 : Int32) (x6 : Int32) (M : mMem) : GG X p l e (rm4_weight) s m args below meth c (gP X below args s 0 0 (fun r9 : (Int32 × mMem) => (some (.int r9.1), r9.2))) 8 0 0 34 [(0, .ref a0), (1, .ref a1), (5, .int x5), (6, .int x6)] [] M (p4_weight_J34 a0 a1 x5 x6 M) := by
  unfold p4_weight_J34
  refine g_iconst (v := 0) B dX4_weight_34 (by decide) ?_
  refine g_istore (lv' := [(7, .int 0), (0, .ref a0), (1, .ref a1), (5, .int x5), (6, .int x6)]) B dX4_weight_35 (by decide) [0, 1, 2, 3, 4] rfl ?_
  refine g_sub (lv' := [(0, .ref a0), (1, .ref a1), (5, .int x5), (6, .int x6), (7, .int 0)]) [1, 2, 3, 4, 0] rfl ?_
  exact (g4_weight_L37 B hS9 hr) gF a0 a1 x5 x6 0 M
set_option maxRecDepth 20000 in
set_option maxHeartbeats 2000000 in
theorem g4_weight_J12 {X : gX} {p : Program} {l : Launch} {e : Env} {s : State} {m : MethodId} {args : Array Value} {below : List Frame} {meth : Method} {c : Code} (B : gB X p (rm4_weight) s m args meth c RX4 cX4_weight 8 (rm4_weight)) (hS9 : gS X s) (hr : meth.sig.returnType = some .int) (a0 : Nat) (a1 : Nat) (x2 : Int32) (x3 : Int32) (u0 : Int32) (M : mMem) : GG X p l e (rm4_weight) s m args below meth c (gP X below args s 0 0 (fun r9 : (Int32 × mMem) => (some (.int r9.1), r9.2))) 8 0 0 12 [(0, .ref a0), (1, .ref a1), (2, .int x2), (3, .int x3)] [.int u0] M (p4_weight_J12 a0 a1 x2 x3 u0 M) := by
  unfold p4_weight_J12
  refine g_istore (lv' := [(5, .int u0), (0, .ref a0), (1, .ref a1), (2, .int x2), (3, .int x3)]) B dX4_weight_12 (by decide) [0, 1, 2, 3, 4] rfl ?_
  refine g_aload_n B dX4_weight_14 2 rfl ?_
  refine g_getI (ci := 2) (T0 := TX2) (N := 11) B (by decide) rfl in_2 (k := 7) (by decide) rfl wd_156 (fun _ h => h) dX4_weight_15 (fun v_1 => ?_)
  refine g_istore (lv' := [(6, .int v_1), (5, .int u0), (0, .ref a0), (1, .ref a1), (2, .int x2), (3, .int x3)]) B dX4_weight_18 (by decide) [0, 1, 2, 3, 4, 5] rfl ?_
  refine g_aload_n B dX4_weight_20 2 rfl ?_
  refine g_getI (ci := 4) (T0 := TX4) (N := 10) B (by decide) rfl in_4 (k := 9) (by decide) rfl wd_207 (fun _ h => h) dX4_weight_21 (fun v_2 => ?_)
  refine g_if_le B 34 dX4_weight_24 (by decide) ?_ ?_
  · refine g_aload_n B dX4_weight_27 2 rfl ?_
    refine g_aload_n B dX4_weight_28 3 rfl ?_
    refine g_iload_n B dX4_weight_29 4 rfl ?_
    refine g_iload_n B dX4_weight_30 5 rfl ?_
    refine g_callV_vw [.ref a1, .int x2, .int x3] (ci := 4) (T0 := TX4) (N := 10) B hS9 mf4_gatherFacts wd_512 (gw B wp_2) wd_510 (by decide) rfl (fun h => (gd_ne h).1) (c4_gatherFacts X l a0 a1 x2 x3 M) (by decide) (by decide) (by decide) rfl (by decide) dX4_weight_31 rfl (fun q_3 => ?_)
    refine g_sub (lv' := [(0, .ref a0), (1, .ref a1), (5, .int u0), (6, .int v_1)]) [2, 3, 1, 0] rfl ?_
    exact g4_weight_J34 B hS9 hr a0 a1 u0 v_1 q_3
  · refine g_sub (lv' := [(0, .ref a0), (1, .ref a1), (5, .int u0), (6, .int v_1)]) [2, 3, 1, 0] rfl ?_
    exact g4_weight_J34 B hS9 hr a0 a1 u0 v_1 M
set_option maxRecDepth 20000 in
set_option maxHeartbeats 2000000 in
theorem g4_weight {X : gX} {p : Program} {l : Launch} {e : Env} {s : State} {m : MethodId} {args : Array Value} {below : List Frame} {meth : Method} {c : Code} (B : gB X p (rm4_weight) s m args meth c RX4 cX4_weight 8 (rm4_weight)) (hS9 : gS X s) (hr : meth.sig.returnType = some .int) (a0 : Nat) (a1 : Nat) (x2 : Int32) (x3 : Int32) (x4 : Int32) (M : mMem) : GG X p l e (rm4_weight) s m args below meth c (gP X below args s 0 0 (fun r9 : (Int32 × mMem) => (some (.int r9.1), r9.2))) 8 0 0 0 [(0, .ref a0), (1, .ref a1), (2, .int x2), (3, .int x3), (4, .int x4)] [] M (p4_weight a0 a1 x2 x3 x4 M) := by
  unfold p4_weight
  refine g_gd ?_
  refine g_iload B dX4_weight_0 4 rfl ?_
  refine g_if_eq B 10 dX4_weight_2 (by decide) ?_ ?_
  · refine g_bipush (v := 17) B dX4_weight_10 (by decide) ?_
    refine g_sub (lv' := [(0, .ref a0), (1, .ref a1), (2, .int x2), (3, .int x3)]) [0, 1, 2, 3] rfl ?_
    exact g4_weight_J12 B hS9 hr a0 a1 x2 x3 17 M
  · refine g_bipush (v := 18) B dX4_weight_5 (by decide) ?_
    refine g_goto B 12 dX4_weight_7 (by decide) ?_
    refine g_sub (lv' := [(0, .ref a0), (1, .ref a1), (2, .int x2), (3, .int x3)]) [0, 1, 2, 3] rfl ?_
    exact g4_weight_J12 B hS9 hr a0 a1 x2 x3 18 M
theorem c4_weight (X : gX) (l : Launch) (a0 : Nat) (a1 : Nat) (x2 : Int32) (x3 : Int32) (x4 : Int32) (M : mMem) : Con X l yX4_weight cX4_weight 8 (some .int) rm4_weight (fun r9 : (Int32 × mMem) => (some (.int r9.1), r9.2)) [.ref a0, .ref a1, .int x2, .int x3, .int x4] M (p4_weight a0 a1 x2 x3 x4 M) := g_con (own := RX4) (by decide +kernel) rfl (Nat.le_of_ble_eq_true rfl) (fun p e s m args below meth c B hS9 hr hn => g4_weight B hS9 hr a0 a1 x2 x3 x4 M)
theorem mf2_moved : gMF yX2_moved cX2_moved 5 (some .int) 3 := ⟨wd_543, wd_2, ⟨by decide, by decide⟩, by decide +kernel⟩
set_option maxRecDepth 20000 in
set_option maxHeartbeats 2000000 in
theorem g2_moved_J49 {X : gX} {p : Program} {l : Launch} {e : Env} {s : State} {m : MethodId} {args : Array Value} {below : List Frame} {meth : Method} {c : Code} (B : gB X p (rm2_moved) s m args meth c RX2 cX2_moved 5 (rm2_moved)) (hS9 : gS X s) (hr : meth.sig.returnType = some .int) {M : mMem} (u0 : Int32) : GG X p l e (rm2_moved) s m args below meth c (gP X below args s 0 0 (fun r9 : Int32 => (some (.int r9), M))) 5 0 0 49 [] [.int u0] M (p2_moved_J49 M u0) := by
  unfold p2_moved_J49
  exact g_ireturn B hr rfl (by decide) (by decide) rfl dX2_moved_49
set_option maxRecDepth 20000 in
set_option maxHeartbeats 2000000 in
theorem g2_moved_J13 {X : gX} {p : Program} {l : Launch} {e : Env} {s : State} {m : MethodId} {args : Array Value} {below : List Frame} {meth : Method} {c : Code} (B : gB X p (rm2_moved) s m args meth c RX2 cX2_moved 5 (rm2_moved)) (hS9 : gS X s) (hr : meth.sig.returnType = some .int) {M : mMem} (a0 : Nat) (u0 : Int32) : GG X p l e (rm2_moved) s m args below meth c (gP X below args s 0 0 (fun r9 : Int32 => (some (.int r9), M))) 5 0 0 13 [(0, .ref a0)] [.int u0] M (p2_moved_J13 M a0 u0) := by
  unfold p2_moved_J13
  refine g_istore (lv' := [(4, .int u0), (0, .ref a0)]) B dX2_moved_13 (by decide) [0, 1] rfl ?_
  refine g_iload B dX2_moved_15 0 rfl ?_
  refine g_if_ge B 28 dX2_moved_17 (by decide) ?_ ?_
  · refine g_iload B dX2_moved_20 0 rfl ?_
    refine g_aload_n B dX2_moved_22 1 rfl ?_
    refine g_getI (ci := 2) (T0 := TX2) (N := 11) B (by decide) rfl in_2 (k := 5) (by decide) rfl wd_146 (fun _ h => h) dX2_moved_23 (fun v_3 => ?_)
    refine g_iadd B dX2_moved_26 ?_
    exact g_ireturn B hr rfl (by decide) (by decide) rfl dX2_moved_27
  · refine g_iload B dX2_moved_28 0 rfl ?_
    refine g_aload_n B dX2_moved_30 1 rfl ?_
    refine g_getI (ci := 2) (T0 := TX2) (N := 11) B (by decide) rfl in_2 (k := 5) (by decide) rfl wd_146 (fun _ h => h) dX2_moved_31 (fun v_1 => ?_)
    refine g_icmp_lt B 47 dX2_moved_34 (by decide) ?_ ?_
    · refine g_iload B dX2_moved_47 0 rfl ?_
      refine g_sub (lv' := []) [] rfl ?_
      exact g2_moved_J49 B hS9 hr u0
    · refine g_iload B dX2_moved_37 0 rfl ?_
      refine g_aload_n B dX2_moved_39 1 rfl ?_
      refine g_getI (ci := 2) (T0 := TX2) (N := 11) B (by decide) rfl in_2 (k := 5) (by decide) rfl wd_146 (fun _ h => h) dX2_moved_40 (fun v_2 => ?_)
      refine g_isub B dX2_moved_43 ?_
      refine g_goto B 49 dX2_moved_44 (by decide) ?_
      refine g_sub (lv' := []) [] rfl ?_
      exact g2_moved_J49 B hS9 hr (u0 - v_2)
set_option maxRecDepth 20000 in
set_option maxHeartbeats 2000000 in
theorem g2_moved {X : gX} {p : Program} {l : Launch} {e : Env} {s : State} {m : MethodId} {args : Array Value} {below : List Frame} {meth : Method} {c : Code} (B : gB X p (rm2_moved) s m args meth c RX2 cX2_moved 5 (rm2_moved)) (hS9 : gS X s) (hr : meth.sig.returnType = some .int) {M : mMem} (a0 : Nat) (x1 : Int32) (x2 : Int32) (x3 : Int32) : GG X p l e (rm2_moved) s m args below meth c (gP X below args s 0 0 (fun r9 : Int32 => (some (.int r9), M))) 5 0 0 0 [(0, .ref a0), (1, .int x1), (2, .int x2), (3, .int x3)] [] M (p2_moved a0 x1 x2 x3 M) := by
  unfold p2_moved
  refine g_gd ?_
  refine g_iload_n B dX2_moved_0 3 rfl ?_
  refine g_if_eq B 10 dX2_moved_1 (by decide) ?_ ?_
  · refine g_iload_n B dX2_moved_10 1 rfl ?_
    refine g_iload_n B dX2_moved_11 2 rfl ?_
    refine g_isub B dX2_moved_12 ?_
    refine g_sub (lv' := [(0, .ref a0)]) [0] rfl ?_
    exact g2_moved_J13 B hS9 hr a0 (x1 - x2)
  · refine g_iload_n B dX2_moved_4 1 rfl ?_
    refine g_iload_n B dX2_moved_5 2 rfl ?_
    refine g_iadd B dX2_moved_6 ?_
    refine g_goto B 13 dX2_moved_7 (by decide) ?_
    refine g_sub (lv' := [(0, .ref a0)]) [0] rfl ?_
    exact g2_moved_J13 B hS9 hr a0 (x1 + x2)
theorem c2_moved (X : gX) (l : Launch) (a0 : Nat) (x1 : Int32) (x2 : Int32) (x3 : Int32) (M : mMem) : Con X l yX2_moved cX2_moved 5 (some .int) rm2_moved (fun r9 : Int32 => (some (.int r9), M)) [.ref a0, .int x1, .int x2, .int x3] M (p2_moved a0 x1 x2 x3 M) := g_con (own := RX2) (by decide +kernel) rfl (Nat.le_of_ble_eq_true rfl) (fun p e s m args below meth c B hS9 hr hn => g2_moved B hS9 hr a0 x1 x2 x3)
theorem mf0_ageBehind : gMF yX0_ageBehind cX0_ageBehind 5 (some .int) 3 := ⟨wd_1324, wd_10, ⟨by decide, by decide⟩, by decide +kernel⟩
set_option maxRecDepth 20000 in
set_option maxHeartbeats 2000000 in
theorem g0_ageBehind_J12 {X : gX} {p : Program} {l : Launch} {e : Env} {s : State} {m : MethodId} {args : Array Value} {below : List Frame} {meth : Method} {c : Code} (B : gB X p (rm0_ageBehind) s m args meth c RX0 cX0_ageBehind 5 (rm0_ageBehind)) (hS9 : gS X s) (hr : meth.sig.returnType = some .int) (a0 : Nat) (x1 : Int32) (x2 : Int32) (x3 : Int32) (u0 : Int32) (M : mMem) : GG X p l e (rm0_ageBehind) s m args below meth c (gP X below args s 0 0 (fun r9 : (Int32 × mMem) => (some (.int r9.1), r9.2))) 5 0 0 12 [(0, .ref a0), (1, .int x1), (2, .int x2), (3, .int x3)] [.int u0] M (p0_ageBehind_J12 a0 x1 x2 x3 u0 M) := by
  unfold p0_ageBehind_J12
  refine g_istore (lv' := [(4, .int u0), (0, .ref a0), (1, .int x1), (2, .int x2), (3, .int x3)]) B dX0_ageBehind_12 (by decide) [0, 1, 2, 3, 4] rfl ?_
  refine g_aload_n B dX0_ageBehind_14 1 rfl ?_
  refine g_getR (ci := 0) (T0 := TX0) (N := 8) B (by decide) rfl in_0 (k := 2) (by decide) rfl wd_322 (fun _ h => h) dX0_ageBehind_15 (fun v_1 => ?_)
  refine g_iload_n B dX0_ageBehind_18 2 rfl ?_
  refine g_callV_ap [.int x1] (ci := 2) (T0 := TX2) (N := 11) B hS9 mf2_at wd_466 (gw B wd_467) wd_1307 (by decide) rfl (fun h => (gd_ne h).1) (c2_at X l v_1 x1 M) (by decide) (by decide) (by decide) rfl (by decide) dX0_ageBehind_19 rfl (fun v_2 => ?_)
  refine g_iload_n B dX0_ageBehind_22 3 rfl ?_
  refine g_putI (ci := 8) (T0 := TX8) (N := 9) B (by decide) rfl in_8 tyX8 tyX8_ok nmX8 (k := 0) (by decide) wd_52 (fun _ h => h) rfl rfl (ty := .int) (by decide +kernel) rfl rfl dX0_ageBehind_23 (fun M_3 => ?_)
  refine g_aload_n B dX0_ageBehind_26 1 rfl ?_
  refine g_getR (ci := 0) (T0 := TX0) (N := 8) B (by decide) rfl in_0 (k := 2) (by decide) rfl wd_322 (fun _ h => h) dX0_ageBehind_27 (fun v_4 => ?_)
  refine g_iload_n B dX0_ageBehind_30 3 rfl ?_
  refine g_aload_n B dX0_ageBehind_31 1 rfl ?_
  refine g_getR (ci := 0) (T0 := TX0) (N := 8) B (by decide) rfl in_0 (k := 1) (by decide) rfl wd_321 (fun _ h => h) dX0_ageBehind_32 (fun v_5 => ?_)
  refine g_aload_n B dX0_ageBehind_35 1 rfl ?_
  refine g_getR (ci := 0) (T0 := TX0) (N := 8) B (by decide) rfl in_0 (k := 2) (by decide) rfl wd_322 (fun _ h => h) dX0_ageBehind_36 (fun v_6 => ?_)
  refine g_iload_n B dX0_ageBehind_39 4 rfl ?_
  refine g_iconst (v := 2) B dX0_ageBehind_40 (by decide) ?_
  refine g_idiv B dX0_ageBehind_41 (fun v_7 => ?_)
  refine g_iload_n B dX0_ageBehind_42 2 rfl ?_
  refine g_iload B dX0_ageBehind_43 0 rfl ?_
  refine g_callV_iw [.ref v_6, .int v_7, .int x1, .int u0] (ci := 4) (T0 := TX4) (N := 10) B hS9 mf4_weight wd_507 (gw B wd_508) wd_1325 (by decide) rfl (fun h => (gd_ne h).1) (c4_weight X l v_5 v_6 v_7 x1 u0 M_3) (by decide) (by decide) (by decide) rfl (Nat.le_of_ble_eq_true rfl) dX0_ageBehind_45 rfl (fun q_8 => ?_)
  refine g_iload B dX0_ageBehind_48 0 rfl ?_
  refine g_callV_ip [.int x2, .int q_8.1, .int u0] (ci := 2) (T0 := TX2) (N := 11) B hS9 mf2_moved wd_541 (gw B wd_542) wd_1326 (by decide) rfl (fun h => (gd_ne h).1) (c2_moved X l v_4 x2 q_8.1 u0 q_8.2) (by decide) (by decide) (by decide) rfl (by decide) dX0_ageBehind_50 rfl (fun v_9 => ?_)
  exact g_ireturn B hr rfl (by decide) (by decide) rfl dX0_ageBehind_53
set_option maxRecDepth 20000 in
set_option maxHeartbeats 2000000 in
theorem g0_ageBehind {X : gX} {p : Program} {l : Launch} {e : Env} {s : State} {m : MethodId} {args : Array Value} {below : List Frame} {meth : Method} {c : Code} (B : gB X p (rm0_ageBehind) s m args meth c RX0 cX0_ageBehind 5 (rm0_ageBehind)) (hS9 : gS X s) (hr : meth.sig.returnType = some .int) (a0 : Nat) (x1 : Int32) (x2 : Int32) (x3 : Int32) (M : mMem) : GG X p l e (rm0_ageBehind) s m args below meth c (gP X below args s 0 0 (fun r9 : (Int32 × mMem) => (some (.int r9.1), r9.2))) 5 0 0 0 [(0, .ref a0), (1, .int x1), (2, .int x2), (3, .int x3)] [] M (p0_ageBehind a0 x1 x2 x3 M) := by
  unfold p0_ageBehind
  refine g_gd ?_
  refine g_iload_n B dX0_ageBehind_0 3 rfl ?_
  refine g_iconst (v := 2) B dX0_ageBehind_1 (by decide) ?_
  refine g_irem B dX0_ageBehind_2 (fun v_1 => ?_)
  refine g_iconst (v := 1) B dX0_ageBehind_3 (by decide) ?_
  refine g_icmp_ne B 11 dX0_ageBehind_4 (by decide) ?_ ?_
  · refine g_iconst (v := 1) B dX0_ageBehind_7 (by decide) ?_
    refine g_goto B 12 dX0_ageBehind_8 (by decide) ?_
    refine g_sub (lv' := [(0, .ref a0), (1, .int x1), (2, .int x2), (3, .int x3)]) [0, 1, 2, 3] rfl ?_
    exact g0_ageBehind_J12 B hS9 hr a0 x1 x2 x3 1 M
  · refine g_iconst (v := 0) B dX0_ageBehind_11 (by decide) ?_
    refine g_sub (lv' := [(0, .ref a0), (1, .int x1), (2, .int x2), (3, .int x3)]) [0, 1, 2, 3] rfl ?_
    exact g0_ageBehind_J12 B hS9 hr a0 x1 x2 x3 0 M
theorem c0_ageBehind (X : gX) (l : Launch) (a0 : Nat) (x1 : Int32) (x2 : Int32) (x3 : Int32) (M : mMem) : Con X l yX0_ageBehind cX0_ageBehind 5 (some .int) rm0_ageBehind (fun r9 : (Int32 × mMem) => (some (.int r9.1), r9.2)) [.ref a0, .int x1, .int x2, .int x3] M (p0_ageBehind a0 x1 x2 x3 M) := g_con (own := RX0) (by decide +kernel) rfl (Nat.le_of_ble_eq_true rfl) (fun p e s m args below meth c B hS9 hr hn => g0_ageBehind B hS9 hr a0 x1 x2 x3 M)
theorem mf0_isPlace : gMF yX0_isPlace cX0_isPlace 1 (some .boolean) 1 := ⟨wd_1314, wd_10, ⟨by decide, by decide⟩, by decide +kernel⟩
set_option maxRecDepth 20000 in
set_option maxHeartbeats 2000000 in
theorem g0_isPlace_J15 {X : gX} {p : Program} {l : Launch} {e : Env} {s : State} {m : MethodId} {args : Array Value} {below : List Frame} {meth : Method} {c : Code} (B : gB X p (rm0_isPlace) s m args meth c RX0 cX0_isPlace 1 (rm0_isPlace)) (hS9 : gS X s) (hr : meth.sig.returnType = some .boolean) {M : mMem} (u0 : Int32) : GG X p l e (rm0_isPlace) s m args below meth c (gP X below args s 0 0 (fun r9 : Int32 => (some (.int r9), M))) 1 0 0 15 [] [.int u0] M (p0_isPlace_J15 M u0) := by
  unfold p0_isPlace_J15
  exact g_zreturn (f := fun z => z) B hr (by decide) (by decide) rfl dX0_isPlace_15
set_option maxRecDepth 20000 in
set_option maxHeartbeats 2000000 in
theorem g0_isPlace_J14 {X : gX} {p : Program} {l : Launch} {e : Env} {s : State} {m : MethodId} {args : Array Value} {below : List Frame} {meth : Method} {c : Code} (B : gB X p (rm0_isPlace) s m args meth c RX0 cX0_isPlace 1 (rm0_isPlace)) (hS9 : gS X s) (hr : meth.sig.returnType = some .boolean) {M : mMem} : GG X p l e (rm0_isPlace) s m args below meth c (gP X below args s 0 0 (fun r9 : Int32 => (some (.int r9), M))) 1 0 0 14 [] [] M (p0_isPlace_J14 M) := by
  unfold p0_isPlace_J14
  refine g_iconst (v := 0) B dX0_isPlace_14 (by decide) ?_
  refine g_sub (lv' := []) [] rfl ?_
  exact g0_isPlace_J15 B hS9 hr 0
set_option maxRecDepth 20000 in
set_option maxHeartbeats 2000000 in
theorem g0_isPlace {X : gX} {p : Program} {l : Launch} {e : Env} {s : State} {m : MethodId} {args : Array Value} {below : List Frame} {meth : Method} {c : Code} (B : gB X p (rm0_isPlace) s m args meth c RX0 cX0_isPlace 1 (rm0_isPlace)) (hS9 : gS X s) (hr : meth.sig.returnType = some .boolean) {M : mMem} (x0 : Int32) : GG X p l e (rm0_isPlace) s m args below meth c (gP X below args s 0 0 (fun r9 : Int32 => (some (.int r9), M))) 1 0 0 0 [(0, .int x0)] [] M (p0_isPlace x0 M) := by
  unfold p0_isPlace
  refine g_iload_n B dX0_isPlace_0 0 rfl ?_
  refine g_if_lt B 14 dX0_isPlace_1 (by decide) ?_ ?_
  · refine g_sub (lv' := []) [] rfl ?_
    exact g0_isPlace_J14 B hS9 hr
  · refine g_iload_n B dX0_isPlace_4 0 rfl ?_
    refine g_bipush (v := 99) B dX0_isPlace_5 (by decide) ?_
    refine g_icmp_ge B 14 dX0_isPlace_7 (by decide) ?_ ?_
    · refine g_iconst (v := 1) B dX0_isPlace_10 (by decide) ?_
      refine g_goto B 15 dX0_isPlace_11 (by decide) ?_
      refine g_sub (lv' := []) [] rfl ?_
      exact g0_isPlace_J15 B hS9 hr 1
    · refine g_sub (lv' := []) [] rfl ?_
      exact g0_isPlace_J14 B hS9 hr
theorem c0_isPlace (X : gX) (l : Launch) (x0 : Int32) (M : mMem) : Con X l yX0_isPlace cX0_isPlace 1 (some .boolean) rm0_isPlace (fun r9 : Int32 => (some (.int r9), M)) [.int x0] M (p0_isPlace x0 M) := g_con (own := RX0) (by decide +kernel) rfl (Nat.le_of_ble_eq_true rfl) (fun p e s m args below meth c B hS9 hr hn => g0_isPlace B hS9 hr x0)
theorem mf8_take : gMF yX8_take cX8_take 2 (none) 1 := ⟨wd_472, wd_3, ⟨by decide, by decide⟩, by decide +kernel⟩
set_option maxRecDepth 20000 in
set_option maxHeartbeats 2000000 in
theorem g8_take {X : gX} {p : Program} {l : Launch} {e : Env} {s : State} {m : MethodId} {args : Array Value} {below : List Frame} {meth : Method} {c : Code} (B : gB X p (rm8_take) s m args meth c RX8 cX8_take 2 (rm8_take)) (hS9 : gS X s) (hr : meth.sig.returnType = none) (a0 : Nat) (a1 : Nat) (M : mMem) : GG X p l e (rm8_take) s m args below meth c (gP X below args s 0 0 (fun M9 : mMem => (none, M9))) 2 0 0 0 [(0, .ref a0), (1, .ref a1)] [] M (p8_take a0 a1 M) := by
  unfold p8_take
  refine g_gd ?_
  refine g_aload_n B dX8_take_0 0 rfl ?_
  refine g_aload_n B dX8_take_1 1 rfl ?_
  refine g_getI (ci := 8) (T0 := TX8) (N := 9) B (by decide) rfl in_8 (k := 0) (by decide) rfl wd_51 (fun _ h => h) dX8_take_2 (fun v_1 => ?_)
  refine g_putI (ci := 8) (T0 := TX8) (N := 9) B (by decide) rfl in_8 tyX8 tyX8_ok nmX8 (k := 0) (by decide) wd_51 (fun _ h => h) rfl rfl (ty := .int) (by decide +kernel) rfl rfl dX8_take_5 (fun M_2 => ?_)
  refine g_aload_n B dX8_take_8 0 rfl ?_
  refine g_aload_n B dX8_take_9 1 rfl ?_
  refine g_getI (ci := 8) (T0 := TX8) (N := 9) B (by decide) rfl in_8 (k := 1) (by decide) rfl wd_59 (fun _ h => h) dX8_take_10 (fun v_3 => ?_)
  refine g_putI (ci := 8) (T0 := TX8) (N := 9) B (by decide) rfl in_8 tyX8 tyX8_ok nmX8 (k := 1) (by decide) wd_59 (fun _ h => h) rfl rfl (ty := .int) (by decide +kernel) rfl rfl dX8_take_13 (fun M_4 => ?_)
  refine g_aload_n B dX8_take_16 0 rfl ?_
  refine g_aload_n B dX8_take_17 1 rfl ?_
  refine g_getI (ci := 8) (T0 := TX8) (N := 9) B (by decide) rfl in_8 (k := 2) (by decide) rfl wd_64 (fun _ h => h) dX8_take_18 (fun v_5 => ?_)
  refine g_putI (ci := 8) (T0 := TX8) (N := 9) B (by decide) rfl in_8 tyX8 tyX8_ok nmX8 (k := 2) (by decide) wd_64 (fun _ h => h) rfl rfl (ty := .int) (by decide +kernel) rfl rfl dX8_take_21 (fun M_6 => ?_)
  refine g_aload_n B dX8_take_24 0 rfl ?_
  refine g_aload_n B dX8_take_25 1 rfl ?_
  refine g_getI (ci := 8) (T0 := TX8) (N := 9) B (by decide) rfl in_8 (k := 3) (by decide) rfl wd_68 (fun _ h => h) dX8_take_26 (fun v_7 => ?_)
  refine g_putI (ci := 8) (T0 := TX8) (N := 9) B (by decide) rfl in_8 tyX8 tyX8_ok nmX8 (k := 3) (by decide) wd_68 (fun _ h => h) rfl rfl (ty := .int) (by decide +kernel) rfl rfl dX8_take_29 (fun M_8 => ?_)
  refine g_aload_n B dX8_take_32 0 rfl ?_
  refine g_aload_n B dX8_take_33 1 rfl ?_
  refine g_getI (ci := 8) (T0 := TX8) (N := 9) B (by decide) rfl in_8 (k := 4) (by decide) rfl wd_73 (fun _ h => h) dX8_take_34 (fun v_9 => ?_)
  refine g_putI (ci := 8) (T0 := TX8) (N := 9) B (by decide) rfl in_8 tyX8 tyX8_ok nmX8 (k := 4) (by decide) wd_73 (fun _ h => h) rfl rfl (ty := .int) (by decide +kernel) rfl rfl dX8_take_37 (fun M_10 => ?_)
  refine g_aload_n B dX8_take_40 0 rfl ?_
  refine g_aload_n B dX8_take_41 1 rfl ?_
  refine g_getI (ci := 8) (T0 := TX8) (N := 9) B (by decide) rfl in_8 (k := 5) (by decide) rfl wd_78 (fun _ h => h) dX8_take_42 (fun v_11 => ?_)
  refine g_putI (ci := 8) (T0 := TX8) (N := 9) B (by decide) rfl in_8 tyX8 tyX8_ok nmX8 (k := 5) (by decide) wd_78 (fun _ h => h) rfl rfl (ty := .int) (by decide +kernel) rfl rfl dX8_take_45 (fun M_12 => ?_)
  refine g_aload_n B dX8_take_48 0 rfl ?_
  refine g_aload_n B dX8_take_49 1 rfl ?_
  refine g_getI (ci := 8) (T0 := TX8) (N := 9) B (by decide) rfl in_8 (k := 6) (by decide) rfl wd_83 (fun _ h => h) dX8_take_50 (fun v_13 => ?_)
  refine g_putI (ci := 8) (T0 := TX8) (N := 9) B (by decide) rfl in_8 tyX8 tyX8_ok nmX8 (k := 6) (by decide) wd_83 (fun _ h => h) rfl rfl (ty := .int) (by decide +kernel) rfl rfl dX8_take_53 (fun M_14 => ?_)
  refine g_aload_n B dX8_take_56 0 rfl ?_
  refine g_aload_n B dX8_take_57 1 rfl ?_
  refine g_getI (ci := 8) (T0 := TX8) (N := 9) B (by decide) rfl in_8 (k := 7) (by decide) rfl wd_88 (fun _ h => h) dX8_take_58 (fun v_15 => ?_)
  refine g_putI (ci := 8) (T0 := TX8) (N := 9) B (by decide) rfl in_8 tyX8 tyX8_ok nmX8 (k := 7) (by decide) wd_88 (fun _ h => h) rfl rfl (ty := .int) (by decide +kernel) rfl rfl dX8_take_61 (fun M_16 => ?_)
  refine g_aload_n B dX8_take_64 0 rfl ?_
  refine g_aload_n B dX8_take_65 1 rfl ?_
  refine g_getI (ci := 8) (T0 := TX8) (N := 9) B (by decide) rfl in_8 (k := 8) (by decide) rfl wd_92 (fun _ h => h) dX8_take_66 (fun v_17 => ?_)
  refine g_putI (ci := 8) (T0 := TX8) (N := 9) B (by decide) rfl in_8 tyX8 tyX8_ok nmX8 (k := 8) (by decide) wd_92 (fun _ h => h) rfl rfl (ty := .int) (by decide +kernel) rfl rfl dX8_take_69 (fun M_18 => ?_)
  exact g_vreturn B hr (by decide) (by decide) rfl dX8_take_72
theorem c8_take (X : gX) (l : Launch) (a0 : Nat) (a1 : Nat) (M : mMem) : Con X l yX8_take cX8_take 2 (none) rm8_take (fun M9 : mMem => (none, M9)) [.ref a0, .ref a1] M (p8_take a0 a1 M) := g_con (own := RX8) (by decide +kernel) rfl (Nat.le_of_ble_eq_true rfl) (fun p e s m args below meth c B hS9 hr hn => g8_take B hS9 hr a0 a1 M)
theorem mf6_take : gMF yX6_take cX6_take 2 (none) 1 := ⟨wd_479, wd_4, ⟨by decide, by decide⟩, by decide +kernel⟩
set_option maxRecDepth 20000 in
set_option maxHeartbeats 2000000 in
theorem g6_take {X : gX} {p : Program} {l : Launch} {e : Env} {s : State} {m : MethodId} {args : Array Value} {below : List Frame} {meth : Method} {c : Code} (B : gB X p (rm6_take) s m args meth c RX6 cX6_take 2 (rm6_take)) (hS9 : gS X s) (hr : meth.sig.returnType = none) (a0 : Nat) (a1 : Nat) (M : mMem) : GG X p l e (rm6_take) s m args below meth c (gP X below args s 0 0 (fun M9 : mMem => (none, M9))) 2 0 0 0 [(0, .ref a0), (1, .ref a1)] [] M (p6_take a0 a1 M) := by
  unfold p6_take
  refine g_gd ?_
  refine g_aload_n B dX6_take_0 1 rfl ?_
  refine g_getR (ci := 6) (T0 := TX6) (N := 3) B (by decide) rfl in_6 (k := 0) (by decide) rfl wd_123 (fun _ h => h) dX6_take_1 (fun v_1 => ?_)
  refine g_iconst (v := 0) B dX6_take_4 (by decide) ?_
  refine g_aload_n B dX6_take_5 0 rfl ?_
  refine g_getR (ci := 6) (T0 := TX6) (N := 3) B (by decide) rfl in_6 (k := 0) (by decide) rfl wd_123 (fun _ h => h) dX6_take_6 (fun v_2 => ?_)
  refine g_iconst (v := 0) B dX6_take_9 (by decide) ?_
  refine g_aload_n B dX6_take_10 0 rfl ?_
  refine g_getR (ci := 6) (T0 := TX6) (N := 3) B (by decide) rfl in_6 (k := 0) (by decide) rfl wd_123 (fun _ h => h) dX6_take_11 (fun v_3 => ?_)
  refine g_alen B dX6_take_14 (fun v_4 => ?_)
  refine g_copyI B wd_480 wd_475 wd_474 wd_14 (by decide) (Nat.le_of_ble_eq_true rfl) dX6_take_15 (fun M_5 => ?_)
  refine g_aload_n B dX6_take_18 0 rfl ?_
  refine g_aload_n B dX6_take_19 1 rfl ?_
  refine g_getI (ci := 6) (T0 := TX6) (N := 3) B (by decide) rfl in_6 (k := 1) (by decide) rfl wd_124 (fun _ h => h) dX6_take_20 (fun v_6 => ?_)
  refine g_putI (ci := 6) (T0 := TX6) (N := 3) B (by decide) rfl in_6 tyX6 tyX6_ok nmX6 (k := 1) (by decide) wd_124 (fun _ h => h) rfl rfl (ty := .int) (by decide +kernel) rfl rfl dX6_take_23 (fun M_7 => ?_)
  refine g_aload_n B dX6_take_26 0 rfl ?_
  refine g_aload_n B dX6_take_27 1 rfl ?_
  refine g_getI (ci := 6) (T0 := TX6) (N := 3) B (by decide) rfl in_6 (k := 2) (by decide) rfl wd_125 (fun _ h => h) dX6_take_28 (fun v_8 => ?_)
  refine g_putI (ci := 6) (T0 := TX6) (N := 3) B (by decide) rfl in_6 tyX6 tyX6_ok nmX6 (k := 2) (by decide) wd_125 (fun _ h => h) rfl rfl (ty := .int) (by decide +kernel) rfl rfl dX6_take_31 (fun M_9 => ?_)
  exact g_vreturn B hr (by decide) (by decide) rfl dX6_take_34
theorem c6_take (X : gX) (l : Launch) (a0 : Nat) (a1 : Nat) (M : mMem) : Con X l yX6_take cX6_take 2 (none) rm6_take (fun M9 : mMem => (none, M9)) [.ref a0, .ref a1] M (p6_take a0 a1 M) := g_con (own := RX6) (by decide +kernel) rfl (Nat.le_of_ble_eq_true rfl) (fun p e s m args below meth c B hS9 hr hn => g6_take B hS9 hr a0 a1 M)
theorem mf2_take : gMF yX2_take cX2_take 3 (none) 1 := ⟨wd_464, wd_2, ⟨by decide, by decide⟩, by decide +kernel⟩
set_option maxRecDepth 20000 in
set_option maxHeartbeats 2000000 in
theorem g2_take_L2 {X : gX} {p : Program} {l : Launch} {e : Env} {s : State} {m : MethodId} {args : Array Value} {below : List Frame} {meth : Method} {c : Code} (B : gB X p (rm2_take) s m args meth c RX2 cX2_take 3 (rm2_take)) (hS9 : gS X s) (hr : meth.sig.returnType = none) : ∀ (n : Nat) (a0 : Nat) (a1 : Nat) (x2 : Int32) (M : mMem), GG X p l e (rm2_take) s m args below meth c (gP X below args s 0 0 (fun M9 : mMem => (none, M9))) 3 0 0 2 [(0, .ref a0), (1, .ref a1), (2, .int x2)] [] M (p2_take_L2 n a0 a1 x2 M) := by
  intro n
  induction n with
  | zero => intro a0 a1 x2 M; exact g_none
  | succ n ih =>
    intro a0 a1 x2 M
    rw [p2_take_L2]
    refine g_iload_n B dX2_take_2 2 rfl ?_
    refine g_aload_n B dX2_take_3 0 rfl ?_
    refine g_getR (ci := 2) (T0 := TX2) (N := 11) B (by decide) rfl in_2 (k := 0) (by decide) rfl wd_134 (fun _ h => h) dX2_take_4 (fun v_1 => ?_)
    refine g_alen B dX2_take_7 (fun v_2 => ?_)
    refine g_icmp_ge B 31 dX2_take_8 (by decide) ?_ ?_
    · refine g_aload_n B dX2_take_11 0 rfl ?_
      refine g_getR (ci := 2) (T0 := TX2) (N := 11) B (by decide) rfl in_2 (k := 0) (by decide) rfl wd_134 (fun _ h => h) dX2_take_12 (fun v_25 => ?_)
      refine g_iload_n B dX2_take_15 2 rfl ?_
      refine g_aaload24 B dX2_take_16 (fun v_26 => ?_)
      refine g_aload_n B dX2_take_17 1 rfl ?_
      refine g_iload_n B dX2_take_18 2 rfl ?_
      refine g_callV_ap [.int x2] (ci := 2) (T0 := TX2) (N := 11) B hS9 mf2_at wd_466 (gw B wd_467) wd_465 (by decide) rfl (fun h => (gd_ne h).1) (c2_at X l a1 x2 M) (by decide) (by decide) (by decide) rfl (Nat.le_of_ble_eq_true rfl) dX2_take_19 rfl (fun v_27 => ?_)
      refine g_callV_vw [.ref v_27] (ci := 8) (T0 := TX8) (N := 9) B hS9 mf8_take wd_470 (gw B wd_471) wd_469 (by decide) rfl (fun h => (gd_ne h).1) (c8_take X l v_26 v_27 M) (by decide) (by decide) (by decide) rfl (by decide) dX2_take_22 rfl (fun q_28 => ?_)
      refine g_iinc (v := (x2 + 1)) (lv' := [(2, .int (x2 + 1)), (0, .ref a0), (1, .ref a1)]) B dX2_take_25 2 rfl rfl (by decide) [0, 1, 2] rfl ?_
      refine g_goto B 2 dX2_take_28 (by decide) ?_
      refine g_sub (lv' := [(0, .ref a0), (1, .ref a1), (2, .int (x2 + 1))]) [1, 2, 0] rfl ?_
      exact ih a0 a1 (x2 + 1) q_28
    · refine g_aload_n B dX2_take_31 1 rfl ?_
      refine g_getR (ci := 2) (T0 := TX2) (N := 11) B (by decide) rfl in_2 (k := 2) (by decide) rfl wd_136 (fun _ h => h) dX2_take_32 (fun v_3 => ?_)
      refine g_iconst (v := 0) B dX2_take_35 (by decide) ?_
      refine g_aload_n B dX2_take_36 0 rfl ?_
      refine g_getR (ci := 2) (T0 := TX2) (N := 11) B (by decide) rfl in_2 (k := 2) (by decide) rfl wd_136 (fun _ h => h) dX2_take_37 (fun v_4 => ?_)
      refine g_iconst (v := 0) B dX2_take_40 (by decide) ?_
      refine g_aload_n B dX2_take_41 0 rfl ?_
      refine g_getR (ci := 2) (T0 := TX2) (N := 11) B (by decide) rfl in_2 (k := 2) (by decide) rfl wd_136 (fun _ h => h) dX2_take_42 (fun v_5 => ?_)
      refine g_alen B dX2_take_45 (fun v_6 => ?_)
      refine g_copyI B wd_473 wd_475 wd_474 wd_14 (by decide) (Nat.le_of_ble_eq_true rfl) dX2_take_46 (fun M_7 => ?_)
      refine g_aload_n B dX2_take_49 0 rfl ?_
      refine g_getR (ci := 2) (T0 := TX2) (N := 11) B (by decide) rfl in_2 (k := 3) (by decide) rfl wd_137 (fun _ h => h) dX2_take_50 (fun v_8 => ?_)
      refine g_aload_n B dX2_take_53 1 rfl ?_
      refine g_getR (ci := 2) (T0 := TX2) (N := 11) B (by decide) rfl in_2 (k := 3) (by decide) rfl wd_137 (fun _ h => h) dX2_take_54 (fun v_9 => ?_)
      refine g_callV_vw [.ref v_9] (ci := 6) (T0 := TX6) (N := 3) B hS9 mf6_take wd_477 (gw B wd_478) wd_476 (by decide) rfl (fun h => (gd_ne h).1) (c6_take X l v_8 v_9 M_7) (by decide) (by decide) (by decide) rfl (by decide) dX2_take_57 rfl (fun q_10 => ?_)
      refine g_aload_n B dX2_take_60 0 rfl ?_
      refine g_aload_n B dX2_take_61 1 rfl ?_
      refine g_getI (ci := 2) (T0 := TX2) (N := 11) B (by decide) rfl in_2 (k := 4) (by decide) rfl wd_139 (fun _ h => h) dX2_take_62 (fun v_11 => ?_)
      refine g_putI (ci := 2) (T0 := TX2) (N := 11) B (by decide) rfl in_2 tyX2 tyX2_ok nmX2 (k := 4) (by decide) wd_139 (fun _ h => h) rfl rfl (ty := .int) (by decide +kernel) rfl rfl dX2_take_65 (fun M_12 => ?_)
      refine g_aload_n B dX2_take_68 0 rfl ?_
      refine g_aload_n B dX2_take_69 1 rfl ?_
      refine g_getI (ci := 2) (T0 := TX2) (N := 11) B (by decide) rfl in_2 (k := 5) (by decide) rfl wd_146 (fun _ h => h) dX2_take_70 (fun v_13 => ?_)
      refine g_putI (ci := 2) (T0 := TX2) (N := 11) B (by decide) rfl in_2 tyX2 tyX2_ok nmX2 (k := 5) (by decide) wd_146 (fun _ h => h) rfl rfl (ty := .int) (by decide +kernel) rfl rfl dX2_take_73 (fun M_14 => ?_)
      refine g_aload_n B dX2_take_76 0 rfl ?_
      refine g_aload_n B dX2_take_77 1 rfl ?_
      refine g_getI (ci := 2) (T0 := TX2) (N := 11) B (by decide) rfl in_2 (k := 6) (by decide) rfl wd_150 (fun _ h => h) dX2_take_78 (fun v_15 => ?_)
      refine g_putI (ci := 2) (T0 := TX2) (N := 11) B (by decide) rfl in_2 tyX2 tyX2_ok nmX2 (k := 6) (by decide) wd_150 (fun _ h => h) rfl rfl (ty := .int) (by decide +kernel) rfl rfl dX2_take_81 (fun M_16 => ?_)
      refine g_aload_n B dX2_take_84 0 rfl ?_
      refine g_aload_n B dX2_take_85 1 rfl ?_
      refine g_getI (ci := 2) (T0 := TX2) (N := 11) B (by decide) rfl in_2 (k := 7) (by decide) rfl wd_154 (fun _ h => h) dX2_take_86 (fun v_17 => ?_)
      refine g_putI (ci := 2) (T0 := TX2) (N := 11) B (by decide) rfl in_2 tyX2 tyX2_ok nmX2 (k := 7) (by decide) wd_154 (fun _ h => h) rfl rfl (ty := .int) (by decide +kernel) rfl rfl dX2_take_89 (fun M_18 => ?_)
      refine g_aload_n B dX2_take_92 0 rfl ?_
      refine g_aload_n B dX2_take_93 1 rfl ?_
      refine g_getI (ci := 2) (T0 := TX2) (N := 11) B (by decide) rfl in_2 (k := 8) (by decide) rfl wd_159 (fun _ h => h) dX2_take_94 (fun v_19 => ?_)
      refine g_putI (ci := 2) (T0 := TX2) (N := 11) B (by decide) rfl in_2 tyX2 tyX2_ok nmX2 (k := 8) (by decide) wd_159 (fun _ h => h) rfl rfl (ty := .int) (by decide +kernel) rfl rfl dX2_take_97 (fun M_20 => ?_)
      refine g_aload_n B dX2_take_100 0 rfl ?_
      refine g_aload_n B dX2_take_101 1 rfl ?_
      refine g_getI (ci := 2) (T0 := TX2) (N := 11) B (by decide) rfl in_2 (k := 9) (by decide) rfl wd_163 (fun _ h => h) dX2_take_102 (fun v_21 => ?_)
      refine g_putI (ci := 2) (T0 := TX2) (N := 11) B (by decide) rfl in_2 tyX2 tyX2_ok nmX2 (k := 9) (by decide) wd_163 (fun _ h => h) rfl rfl (ty := .int) (by decide +kernel) rfl rfl dX2_take_105 (fun M_22 => ?_)
      refine g_aload_n B dX2_take_108 0 rfl ?_
      refine g_aload_n B dX2_take_109 1 rfl ?_
      refine g_getI (ci := 2) (T0 := TX2) (N := 11) B (by decide) rfl in_2 (k := 10) (by decide) rfl wd_166 (fun _ h => h) dX2_take_110 (fun v_23 => ?_)
      refine g_putI (ci := 2) (T0 := TX2) (N := 11) B (by decide) rfl in_2 tyX2 tyX2_ok nmX2 (k := 10) (by decide) wd_166 (fun _ h => h) rfl rfl (ty := .int) (by decide +kernel) rfl rfl dX2_take_113 (fun M_24 => ?_)
      exact g_vreturn B hr (by decide) (by decide) rfl dX2_take_116
set_option maxRecDepth 20000 in
set_option maxHeartbeats 2000000 in
theorem g2_take {X : gX} {p : Program} {l : Launch} {e : Env} {s : State} {m : MethodId} {args : Array Value} {below : List Frame} {meth : Method} {c : Code} (B : gB X p (rm2_take) s m args meth c RX2 cX2_take 3 (rm2_take)) (hS9 : gS X s) (hr : meth.sig.returnType = none) (a0 : Nat) (a1 : Nat) (M : mMem) : GG X p l e (rm2_take) s m args below meth c (gP X below args s 0 0 (fun M9 : mMem => (none, M9))) 3 0 0 0 [(0, .ref a0), (1, .ref a1)] [] M (p2_take a0 a1 M) := by
  unfold p2_take
  refine g_gd ?_
  refine g_iconst (v := 0) B dX2_take_0 (by decide) ?_
  refine g_istore_n (lv' := [(2, .int 0), (0, .ref a0), (1, .ref a1)]) B dX2_take_1 (by decide) [0, 1, 2] rfl ?_
  refine g_sub (lv' := [(0, .ref a0), (1, .ref a1), (2, .int 0)]) [1, 2, 0] rfl ?_
  exact (g2_take_L2 B hS9 hr) gF a0 a1 0 M
theorem c2_take (X : gX) (l : Launch) (a0 : Nat) (a1 : Nat) (M : mMem) : Con X l yX2_take cX2_take 3 (none) rm2_take (fun M9 : mMem => (none, M9)) [.ref a0, .ref a1] M (p2_take a0 a1 M) := g_con (own := RX2) (by decide +kernel) rfl (Nat.le_of_ble_eq_true rfl) (fun p e s m args below meth c B hS9 hr hn => g2_take B hS9 hr a0 a1 M)
theorem mfJ7_fill : gMF yJ7_fill_53178 cJ7_fill_53178 4 (none) 2 := ⟨wd_575, wd_29, ⟨by decide, by decide⟩, by decide +kernel⟩
set_option maxRecDepth 20000 in
set_option maxHeartbeats 2000000 in
theorem gJ7_fill_L5 {X : gX} {p : Program} {l : Launch} {e : Env} {s : State} {m : MethodId} {args : Array Value} {below : List Frame} {meth : Method} {c : Code} (B : gB X p (rmJ7_fill) s m args meth c RJ7 cJ7_fill_53178 4 (rmJ7_fill)) (hS9 : gS X s) (hr : meth.sig.returnType = none) : ∀ (n : Nat) (a0 : Nat) (x1 : Int32) (x2 : Int32) (x3 : Int32) (M : mMem), GG X p l e (rmJ7_fill) s m args below meth c (gP X below args s 0 0 (fun M9 : mMem => (none, M9))) 4 0 0 5 [(0, .ref a0), (1, .int x1), (2, .int x2), (3, .int x3)] [] M (pJ7_fill_L5 n a0 x1 x2 x3 M) := by
  intro n
  induction n with
  | zero => intro a0 x1 x2 x3 M; exact g_none
  | succ n ih =>
    intro a0 x1 x2 x3 M
    rw [pJ7_fill_L5]
    refine g_iload_n B dJ7_fill_53178_5 2 rfl ?_
    refine g_iload_n B dJ7_fill_53178_6 3 rfl ?_
    refine g_icmp_ge B 20 dJ7_fill_53178_7 (by decide) ?_ ?_
    · refine g_aload_n B dJ7_fill_53178_10 0 rfl ?_
      refine g_iload_n B dJ7_fill_53178_11 2 rfl ?_
      refine g_iload_n B dJ7_fill_53178_12 1 rfl ?_
      refine g_iastore B dJ7_fill_53178_13 (fun M_1 => ?_)
      refine g_iinc (v := (x2 + 1)) (lv' := [(2, .int (x2 + 1)), (0, .ref a0), (1, .int x1), (3, .int x3)]) B dJ7_fill_53178_14 2 rfl rfl (by decide) [0, 1, 2, 3] rfl ?_
      refine g_goto B 5 dJ7_fill_53178_17 (by decide) ?_
      refine g_sub (lv' := [(0, .ref a0), (1, .int x1), (2, .int (x2 + 1)), (3, .int x3)]) [1, 2, 0, 3] rfl ?_
      exact ih a0 x1 (x2 + 1) x3 M_1
    · exact g_vreturn B hr (by decide) (by decide) rfl dJ7_fill_53178_20
set_option maxRecDepth 20000 in
set_option maxHeartbeats 2000000 in
theorem gJ7_fill {X : gX} {p : Program} {l : Launch} {e : Env} {s : State} {m : MethodId} {args : Array Value} {below : List Frame} {meth : Method} {c : Code} (B : gB X p (rmJ7_fill) s m args meth c RJ7 cJ7_fill_53178 4 (rmJ7_fill)) (hS9 : gS X s) (hr : meth.sig.returnType = none) (a0 : Nat) (x1 : Int32) (M : mMem) : GG X p l e (rmJ7_fill) s m args below meth c (gP X below args s 0 0 (fun M9 : mMem => (none, M9))) 4 0 0 0 [(0, .ref a0), (1, .int x1)] [] M (pJ7_fill a0 x1 M) := by
  unfold pJ7_fill
  refine g_iconst (v := 0) B dJ7_fill_53178_0 (by decide) ?_
  refine g_istore_n (lv' := [(2, .int 0), (0, .ref a0), (1, .int x1)]) B dJ7_fill_53178_1 (by decide) [0, 1, 2] rfl ?_
  refine g_aload_n B dJ7_fill_53178_2 1 rfl ?_
  refine g_alen B dJ7_fill_53178_3 (fun v_1 => ?_)
  refine g_istore_n (lv' := [(3, .int v_1), (2, .int 0), (0, .ref a0), (1, .int x1)]) B dJ7_fill_53178_4 (by decide) [0, 1, 2, 3] rfl ?_
  refine g_sub (lv' := [(0, .ref a0), (1, .int x1), (2, .int 0), (3, .int v_1)]) [2, 3, 1, 0] rfl ?_
  exact (gJ7_fill_L5 B hS9 hr) gF a0 x1 0 v_1 M
theorem cJ7_fill (X : gX) (l : Launch) (a0 : Nat) (x1 : Int32) (M : mMem) : Con X l yJ7_fill_53178 cJ7_fill_53178 4 (none) rmJ7_fill (fun M9 : mMem => (none, M9)) [.ref a0, .int x1] M (pJ7_fill a0 x1 M) := g_con (own := RJ7) (by decide +kernel) rfl (Nat.le_of_ble_eq_true rfl) (fun p e s m args below meth c B hS9 hr hn => gJ7_fill B hS9 hr a0 x1 M)
theorem mf0_reach : gMF yX0_reach cX0_reach 4 (none) 3 := ⟨wd_1311, wd_10, ⟨by decide, by decide⟩, by decide +kernel⟩
set_option maxRecDepth 20000 in
set_option maxHeartbeats 2000000 in
theorem g0_reach_J100 {X : gX} {p : Program} {l : Launch} {e : Env} {s : State} {m : MethodId} {args : Array Value} {below : List Frame} {meth : Method} {c : Code} (B : gB X p (rm0_reach) s m args meth c RX0 cX0_reach 4 (rm0_reach)) (hS9 : gS X s) (hr : meth.sig.returnType = none) (M : mMem) : GG X p l e (rm0_reach) s m args below meth c (gP X below args s 0 0 (fun M9 : mMem => (none, M9))) 4 0 0 100 [] [] M (p0_reach_J100 M) := by
  unfold p0_reach_J100
  exact g_vreturn B hr (by decide) (by decide) rfl dX0_reach_100
set_option maxRecDepth 20000 in
set_option maxHeartbeats 2000000 in
theorem g0_reach_J74 {X : gX} {p : Program} {l : Launch} {e : Env} {s : State} {m : MethodId} {args : Array Value} {below : List Frame} {meth : Method} {c : Code} (B : gB X p (rm0_reach) s m args meth c RX0 cX0_reach 4 (rm0_reach)) (hS9 : gS X s) (hr : meth.sig.returnType = none) (a0 : Nat) (x1 : Int32) (x2 : Int32) (x3 : Int32) (M : mMem) : GG X p l e (rm0_reach) s m args below meth c (gP X below args s 0 0 (fun M9 : mMem => (none, M9))) 4 0 0 74 [(0, .ref a0), (1, .int x1), (2, .int x2), (3, .int x3)] [] M (p0_reach_J74 a0 x1 x2 x3 M) := by
  unfold p0_reach_J74
  refine g_aload_n B dX0_reach_74 0 rfl ?_
  refine g_getR (ci := 0) (T0 := TX0) (N := 8) B (by decide) rfl in_0 (k := 3) (by decide) rfl wd_323 (fun _ h => h) dX0_reach_75 (fun v_1 => ?_)
  refine g_iload_n B dX0_reach_78 1 rfl ?_
  refine g_iaload B dX0_reach_79 (fun v_2 => ?_)
  refine g_iload_n B dX0_reach_80 2 rfl ?_
  refine g_icmp_ne B 100 dX0_reach_81 (by decide) ?_ ?_
  · refine g_aload_n B dX0_reach_84 0 rfl ?_
    refine g_getR (ci := 0) (T0 := TX0) (N := 8) B (by decide) rfl in_0 (k := 4) (by decide) rfl wd_324 (fun _ h => h) dX0_reach_85 (fun v_3 => ?_)
    refine g_iload_n B dX0_reach_88 1 rfl ?_
    refine g_aload_n B dX0_reach_89 0 rfl ?_
    refine g_getR (ci := 0) (T0 := TX0) (N := 8) B (by decide) rfl in_0 (k := 4) (by decide) rfl wd_324 (fun _ h => h) dX0_reach_90 (fun v_4 => ?_)
    refine g_iload_n B dX0_reach_93 1 rfl ?_
    refine g_iaload B dX0_reach_94 (fun v_5 => ?_)
    refine g_iload_n B dX0_reach_95 3 rfl ?_
    refine g_min B wd_1315 wd_538 wd_15 wd_539 (by decide) (Nat.le_of_ble_eq_true rfl) (by decide) dX0_reach_96 ?_
    refine g_iastore B dX0_reach_99 (fun M_6 => ?_)
    refine g_sub (lv' := []) [] rfl ?_
    exact g0_reach_J100 B hS9 hr M_6
  · refine g_sub (lv' := []) [] rfl ?_
    exact g0_reach_J100 B hS9 hr M
set_option maxRecDepth 20000 in
set_option maxHeartbeats 2000000 in
theorem g0_reach {X : gX} {p : Program} {l : Launch} {e : Env} {s : State} {m : MethodId} {args : Array Value} {below : List Frame} {meth : Method} {c : Code} (B : gB X p (rm0_reach) s m args meth c RX0 cX0_reach 4 (rm0_reach)) (hS9 : gS X s) (hr : meth.sig.returnType = none) (a0 : Nat) (x1 : Int32) (x2 : Int32) (x3 : Int32) (M : mMem) : GG X p l e (rm0_reach) s m args below meth c (gP X below args s 0 0 (fun M9 : mMem => (none, M9))) 4 0 0 0 [(0, .ref a0), (1, .int x1), (2, .int x2), (3, .int x3)] [] M (p0_reach a0 x1 x2 x3 M) := by
  unfold p0_reach
  refine g_gd ?_
  refine g_iload_n B dX0_reach_0 1 rfl ?_
  refine g_callS_ip [.int x1] B hS9 mf0_isPlace wd_1313 wd_1312 (c0_isPlace X l x1 M) (by decide) (by decide) (by decide) rfl (by decide) dX0_reach_1 rfl (fun v_1 => ?_)
  refine g_if_ne B 8 dX0_reach_4 (by decide) ?_ ?_
  · exact g_vreturn B hr (by decide) (by decide) rfl dX0_reach_7
  · refine g_aload_n B dX0_reach_8 0 rfl ?_
    refine g_getR (ci := 0) (T0 := TX0) (N := 8) B (by decide) rfl in_0 (k := 3) (by decide) rfl wd_323 (fun _ h => h) dX0_reach_9 (fun v_2 => ?_)
    refine g_iload_n B dX0_reach_12 1 rfl ?_
    refine g_iaload B dX0_reach_13 (fun v_3 => ?_)
    refine g_iconst (v := (-1)) B dX0_reach_14 (by decide) ?_
    refine g_icmp_ne B 74 dX0_reach_15 (by decide) ?_ ?_
    · refine g_aload_n B dX0_reach_18 0 rfl ?_
      refine g_getI (ci := 0) (T0 := TX0) (N := 8) B (by decide) rfl in_0 (k := 7) (by decide) rfl wd_327 (fun _ h => h) dX0_reach_19 (fun v_4 => ?_)
      refine g_if_lt B 74 dX0_reach_22 (by decide) ?_ ?_
      · refine g_sub (lv' := [(0, .ref a0), (1, .int x1), (2, .int x2), (3, .int x3)]) [0, 1, 2, 3] rfl ?_
        exact g0_reach_J74 B hS9 hr a0 x1 x2 x3 M
      · refine g_aload_n B dX0_reach_25 0 rfl ?_
        refine g_getI (ci := 0) (T0 := TX0) (N := 8) B (by decide) rfl in_0 (k := 7) (by decide) rfl wd_327 (fun _ h => h) dX0_reach_26 (fun v_5 => ?_)
        refine g_aload_n B dX0_reach_29 0 rfl ?_
        refine g_getR (ci := 0) (T0 := TX0) (N := 8) B (by decide) rfl in_0 (k := 5) (by decide) rfl wd_325 (fun _ h => h) dX0_reach_30 (fun v_6 => ?_)
        refine g_alen B dX0_reach_33 (fun v_7 => ?_)
        refine g_icmp_ge B 74 dX0_reach_34 (by decide) ?_ ?_
        · refine g_aload_n B dX0_reach_37 0 rfl ?_
          refine g_getR (ci := 0) (T0 := TX0) (N := 8) B (by decide) rfl in_0 (k := 3) (by decide) rfl wd_323 (fun _ h => h) dX0_reach_38 (fun v_8 => ?_)
          refine g_iload_n B dX0_reach_41 1 rfl ?_
          refine g_iload_n B dX0_reach_42 2 rfl ?_
          refine g_iastore B dX0_reach_43 (fun M_9 => ?_)
          refine g_aload_n B dX0_reach_44 0 rfl ?_
          refine g_getR (ci := 0) (T0 := TX0) (N := 8) B (by decide) rfl in_0 (k := 4) (by decide) rfl wd_324 (fun _ h => h) dX0_reach_45 (fun v_10 => ?_)
          refine g_iload_n B dX0_reach_48 1 rfl ?_
          refine g_iload_n B dX0_reach_49 3 rfl ?_
          refine g_iastore B dX0_reach_50 (fun M_11 => ?_)
          refine g_aload_n B dX0_reach_51 0 rfl ?_
          refine g_getR (ci := 0) (T0 := TX0) (N := 8) B (by decide) rfl in_0 (k := 5) (by decide) rfl wd_325 (fun _ h => h) dX0_reach_52 (fun v_12 => ?_)
          refine g_aload_n B dX0_reach_55 0 rfl ?_
          refine g_getI (ci := 0) (T0 := TX0) (N := 8) B (by decide) rfl in_0 (k := 7) (by decide) rfl wd_327 (fun _ h => h) dX0_reach_56 (fun v_13 => ?_)
          refine g_iload_n B dX0_reach_59 1 rfl ?_
          refine g_iastore B dX0_reach_60 (fun M_14 => ?_)
          refine g_aload_n B dX0_reach_61 0 rfl ?_
          refine g_dup B dX0_reach_62 rfl ?_
          refine g_getI (ci := 0) (T0 := TX0) (N := 8) B (by decide) rfl in_0 (k := 7) (by decide) rfl wd_327 (fun _ h => h) dX0_reach_63 (fun v_15 => ?_)
          refine g_iconst (v := 1) B dX0_reach_66 (by decide) ?_
          refine g_iadd B dX0_reach_67 ?_
          refine g_putI (ci := 0) (T0 := TX0) (N := 8) B (by decide) rfl in_0 tyX0 tyX0_ok nmX0 (k := 7) (by decide) wd_327 (fun _ h => h) rfl rfl (ty := .int) (by decide +kernel) rfl rfl dX0_reach_68 (fun M_16 => ?_)
          refine g_goto B 100 dX0_reach_71 (by decide) ?_
          refine g_sub (lv' := []) [] rfl ?_
          exact g0_reach_J100 B hS9 hr M_16
        · refine g_sub (lv' := [(0, .ref a0), (1, .int x1), (2, .int x2), (3, .int x3)]) [0, 1, 2, 3] rfl ?_
          exact g0_reach_J74 B hS9 hr a0 x1 x2 x3 M
    · refine g_sub (lv' := [(0, .ref a0), (1, .int x1), (2, .int x2), (3, .int x3)]) [0, 1, 2, 3] rfl ?_
      exact g0_reach_J74 B hS9 hr a0 x1 x2 x3 M
theorem c0_reach (X : gX) (l : Launch) (a0 : Nat) (x1 : Int32) (x2 : Int32) (x3 : Int32) (M : mMem) : Con X l yX0_reach cX0_reach 4 (none) rm0_reach (fun M9 : mMem => (none, M9)) [.ref a0, .int x1, .int x2, .int x3] M (p0_reach a0 x1 x2 x3 M) := g_con (own := RX0) (by decide +kernel) rfl (Nat.le_of_ble_eq_true rfl) (fun p e s m args below meth c B hS9 hr hn => g0_reach B hS9 hr a0 x1 x2 x3 M)
theorem mf0_reachFrom : gMF yX0_reachFrom cX0_reachFrom 5 (none) 1 := ⟨wd_1304, wd_10, ⟨by decide, by decide⟩, by decide +kernel⟩
set_option maxRecDepth 20000 in
set_option maxHeartbeats 2000000 in
theorem g0_reachFrom_J141 {X : gX} {p : Program} {l : Launch} {e : Env} {s : State} {m : MethodId} {args : Array Value} {below : List Frame} {meth : Method} {c : Code} (B : gB X p (rm0_reachFrom) s m args meth c RX0 cX0_reachFrom 5 (rm0_reachFrom)) (hS9 : gS X s) (hr : meth.sig.returnType = none) (M : mMem) : GG X p l e (rm0_reachFrom) s m args below meth c (gP X below args s 0 0 (fun M9 : mMem => (none, M9))) 5 0 0 141 [] [] M (p0_reachFrom_J141 M) := by
  unfold p0_reachFrom_J141
  exact g_vreturn B hr (by decide) (by decide) rfl dX0_reachFrom_141
set_option maxRecDepth 20000 in
set_option maxHeartbeats 2000000 in
theorem g0_reachFrom_J129 {X : gX} {p : Program} {l : Launch} {e : Env} {s : State} {m : MethodId} {args : Array Value} {below : List Frame} {meth : Method} {c : Code} (B : gB X p (rm0_reachFrom) s m args meth c RX0 cX0_reachFrom 5 (rm0_reachFrom)) (hS9 : gS X s) (hr : meth.sig.returnType = none) (rec70 : Nat → Int32 → Int32 → Int32 → Int32 → mMem → Option mMem) (hrec70 : ∀ (a0 : Nat) (x1 : Int32) (x2 : Int32) (x3 : Int32) (x4 : Int32) (M : mMem), GG X p l e (rm0_reachFrom) s m args below meth c (gP X below args s 0 0 (fun M9 : mMem => (none, M9))) 5 0 0 70 [(0, .ref a0), (1, .int x1), (2, .int x2), (3, .int x3), (4, .int x4)] [] M (rec70 a0 x1 x2 x3 x4 M)) (a0 : Nat) (x1 : Int32) (x2 : Int32) (x3 : Int32) (x4 : Int32) (M : mMem) : GG X p l e (rm0_reachFrom) s m args below meth c (gP X below args s 0 0 (fun M9 : mMem => (none, M9))) 5 0 0 129 [(0, .ref a0), (1, .int x1), (2, .int x2), (3, .int x3), (4, .int x4)] [] M (p0_reachFrom_J129 rec70 a0 x1 x2 x3 x4 M) := by
  unfold p0_reachFrom_J129
  refine g_iinc (v := (x4 + 1)) (lv' := [(4, .int (x4 + 1)), (0, .ref a0), (1, .int x1), (2, .int x2), (3, .int x3)]) B dX0_reachFrom_129 4 rfl rfl (by decide) [0, 1, 2, 3, 4] rfl ?_
  refine g_goto B 70 dX0_reachFrom_132 (by decide) ?_
  refine g_sub (lv' := [(0, .ref a0), (1, .int x1), (2, .int x2), (3, .int x3), (4, .int (x4 + 1))]) [1, 2, 3, 4, 0] rfl ?_
  exact hrec70 a0 x1 x2 x3 (x4 + 1) M
set_option maxRecDepth 20000 in
set_option maxHeartbeats 2000000 in
theorem g0_reachFrom_J126 {X : gX} {p : Program} {l : Launch} {e : Env} {s : State} {m : MethodId} {args : Array Value} {below : List Frame} {meth : Method} {c : Code} (B : gB X p (rm0_reachFrom) s m args meth c RX0 cX0_reachFrom 5 (rm0_reachFrom)) (hS9 : gS X s) (hr : meth.sig.returnType = none) (rec70 : Nat → Int32 → Int32 → Int32 → Int32 → mMem → Option mMem) (hrec70 : ∀ (a0 : Nat) (x1 : Int32) (x2 : Int32) (x3 : Int32) (x4 : Int32) (M : mMem), GG X p l e (rm0_reachFrom) s m args below meth c (gP X below args s 0 0 (fun M9 : mMem => (none, M9))) 5 0 0 70 [(0, .ref a0), (1, .int x1), (2, .int x2), (3, .int x3), (4, .int x4)] [] M (rec70 a0 x1 x2 x3 x4 M)) (a0 : Nat) (x1 : Int32) (x2 : Int32) (x3 : Int32) (x4 : Int32) (b0 : Nat) (u1 : Int32) (u2 : Int32) (u3 : Int32) (M : mMem) : GG X p l e (rm0_reachFrom) s m args below meth c (gP X below args s 0 0 (fun M9 : mMem => (none, M9))) 5 0 0 126 [(0, .ref a0), (1, .int x1), (2, .int x2), (3, .int x3), (4, .int x4)] [.int u3, .int u2, .int u1, .ref b0] M (p0_reachFrom_J126 rec70 a0 x1 x2 x3 x4 b0 u1 u2 u3 M) := by
  unfold p0_reachFrom_J126
  refine g_callV_vw [.int u1, .int u2, .int u3] (ci := 0) (T0 := TX0) (N := 8) B hS9 mf0_reach wd_1310 (gw B wp_28) wd_1308 (by decide) rfl (fun h => (gd_ne h).1) (c0_reach X l b0 u1 u2 u3 M) (by decide) (by decide) (by decide) rfl (by decide) dX0_reachFrom_126 rfl (fun q_1 => ?_)
  refine g_sub (lv' := [(0, .ref a0), (1, .int x1), (2, .int x2), (3, .int x3), (4, .int x4)]) [0, 1, 2, 3, 4] rfl ?_
  exact g0_reachFrom_J129 B hS9 hr rec70 hrec70 a0 x1 x2 x3 x4 q_1
set_option maxRecDepth 20000 in
set_option maxHeartbeats 2000000 in
theorem g0_reachFrom_L70 {X : gX} {p : Program} {l : Launch} {e : Env} {s : State} {m : MethodId} {args : Array Value} {below : List Frame} {meth : Method} {c : Code} (B : gB X p (rm0_reachFrom) s m args meth c RX0 cX0_reachFrom 5 (rm0_reachFrom)) (hS9 : gS X s) (hr : meth.sig.returnType = none) (k135 : Nat → Int32 → Int32 → mMem → Option mMem) (hk135 : ∀ (a0 : Nat) (x1 : Int32) (x2 : Int32) (M : mMem), GG X p l e (rm0_reachFrom) s m args below meth c (gP X below args s 0 0 (fun M9 : mMem => (none, M9))) 5 0 0 135 [(0, .ref a0), (1, .int x1), (2, .int x2)] [] M (k135 a0 x1 x2 M)) : ∀ (n : Nat) (a0 : Nat) (x1 : Int32) (x2 : Int32) (x3 : Int32) (x4 : Int32) (M : mMem), GG X p l e (rm0_reachFrom) s m args below meth c (gP X below args s 0 0 (fun M9 : mMem => (none, M9))) 5 0 0 70 [(0, .ref a0), (1, .int x1), (2, .int x2), (3, .int x3), (4, .int x4)] [] M (p0_reachFrom_L70 k135 n a0 x1 x2 x3 x4 M) := by
  intro n
  induction n with
  | zero => intro a0 x1 x2 x3 x4 M; exact g_none
  | succ n ih =>
    intro a0 x1 x2 x3 x4 M
    rw [p0_reachFrom_L70]
    refine g_iload B dX0_reachFrom_70 4 rfl ?_
    refine g_bipush (v := 16) B dX0_reachFrom_72 (by decide) ?_
    refine g_icmp_ge B 135 dX0_reachFrom_74 (by decide) ?_ ?_
    · refine g_iload_n B dX0_reachFrom_77 3 rfl ?_
      refine g_callS_ip [.int x3] B hS9 mf0_isPlace wd_1313 wd_1312 (c0_isPlace X l x3 M) (by decide) (by decide) (by decide) rfl (by decide) dX0_reachFrom_78 rfl (fun v_1 => ?_)
      refine g_if_eq B 135 dX0_reachFrom_81 (by decide) ?_ ?_
      · refine g_sub (lv' := [(0, .ref a0), (1, .int x1), (2, .int x2)]) [0, 1, 2] rfl ?_
        exact hk135 a0 x1 x2 M
      · refine g_aload_n B dX0_reachFrom_84 0 rfl ?_
        refine g_iload B dX0_reachFrom_85 4 rfl ?_
        refine g_iload_n B dX0_reachFrom_87 1 rfl ?_
        refine g_callV_ip [.int x4, .int x1] (ci := 0) (T0 := TX0) (N := 8) B hS9 mf0_canBeSaid wd_1318 (gw B wp_29) wd_1316 (by decide) rfl (fun h => (gd_ne h).1) (c0_canBeSaid X l a0 x4 x1 M) (by decide) (by decide) (by decide) rfl (by decide) dX0_reachFrom_88 rfl (fun v_2 => ?_)
        refine g_if_eq B 129 dX0_reachFrom_91 (by decide) ?_ ?_
        · refine g_sub (lv' := [(0, .ref a0), (1, .int x1), (2, .int x2), (3, .int x3), (4, .int x4)]) [0, 1, 2, 3, 4] rfl ?_
          exact g0_reachFrom_J129 B hS9 hr (p0_reachFrom_L70 k135 n) ih a0 x1 x2 x3 x4 M
        · refine g_aload_n B dX0_reachFrom_94 0 rfl ?_
          refine g_aload_n B dX0_reachFrom_95 0 rfl ?_
          refine g_iload_n B dX0_reachFrom_96 1 rfl ?_
          refine g_iload_n B dX0_reachFrom_97 3 rfl ?_
          refine g_iload B dX0_reachFrom_98 4 rfl ?_
          refine g_callV_iw [.int x1, .int x3, .int x4] (ci := 0) (T0 := TX0) (N := 8) B hS9 mf0_ageBehind wd_1323 (gw B wp_30) wd_1321 (by decide) rfl (fun h => (gd_ne h).1) (c0_ageBehind X l a0 x1 x3 x4 M) (by decide) (by decide) (by decide) rfl (Nat.le_of_ble_eq_true rfl) dX0_reachFrom_100 rfl (fun q_3 => ?_)
          refine g_aload_n B dX0_reachFrom_103 0 rfl ?_
          refine g_getR (ci := 0) (T0 := TX0) (N := 8) B (by decide) rfl in_0 (k := 3) (by decide) rfl wd_323 (fun _ h => h) dX0_reachFrom_104 (fun v_4 => ?_)
          refine g_iload_n B dX0_reachFrom_107 3 rfl ?_
          refine g_iaload B dX0_reachFrom_108 (fun v_5 => ?_)
          refine g_iconst (v := 1) B dX0_reachFrom_109 (by decide) ?_
          refine g_iadd B dX0_reachFrom_110 ?_
          refine g_iload_n B dX0_reachFrom_111 2 rfl ?_
          refine g_if_ne B 120 dX0_reachFrom_112 (by decide) ?_ ?_
          · refine g_iload B dX0_reachFrom_115 4 rfl ?_
            refine g_goto B 126 dX0_reachFrom_117 (by decide) ?_
            refine g_sub (lv' := [(0, .ref a0), (1, .int x1), (2, .int x2), (3, .int x3), (4, .int x4)]) [0, 1, 2, 3, 4] rfl ?_
            exact g0_reachFrom_J126 B hS9 hr (p0_reachFrom_L70 k135 n) ih a0 x1 x2 x3 x4 a0 q_3.1 (v_5 + 1) x4 q_3.2
          · refine g_aload_n B dX0_reachFrom_120 0 rfl ?_
            refine g_getR (ci := 0) (T0 := TX0) (N := 8) B (by decide) rfl in_0 (k := 4) (by decide) rfl wd_324 (fun _ h => h) dX0_reachFrom_121 (fun v_6 => ?_)
            refine g_iload_n B dX0_reachFrom_124 3 rfl ?_
            refine g_iaload B dX0_reachFrom_125 (fun v_7 => ?_)
            refine g_sub (lv' := [(0, .ref a0), (1, .int x1), (2, .int x2), (3, .int x3), (4, .int x4)]) [0, 1, 2, 3, 4] rfl ?_
            exact g0_reachFrom_J126 B hS9 hr (p0_reachFrom_L70 k135 n) ih a0 x1 x2 x3 x4 a0 q_3.1 (v_5 + 1) v_7 q_3.2
    · refine g_sub (lv' := [(0, .ref a0), (1, .int x1), (2, .int x2)]) [0, 1, 2] rfl ?_
      exact hk135 a0 x1 x2 M
set_option maxRecDepth 20000 in
set_option maxHeartbeats 2000000 in
theorem g0_reachFrom_J135 {X : gX} {p : Program} {l : Launch} {e : Env} {s : State} {m : MethodId} {args : Array Value} {below : List Frame} {meth : Method} {c : Code} (B : gB X p (rm0_reachFrom) s m args meth c RX0 cX0_reachFrom 5 (rm0_reachFrom)) (hS9 : gS X s) (hr : meth.sig.returnType = none) (rec43 : Nat → Int32 → Int32 → mMem → Option mMem) (hrec43 : ∀ (a0 : Nat) (x1 : Int32) (x2 : Int32) (M : mMem), GG X p l e (rm0_reachFrom) s m args below meth c (gP X below args s 0 0 (fun M9 : mMem => (none, M9))) 5 0 0 43 [(0, .ref a0), (1, .int x1), (2, .int x2)] [] M (rec43 a0 x1 x2 M)) (a0 : Nat) (x1 : Int32) (x2 : Int32) (M : mMem) : GG X p l e (rm0_reachFrom) s m args below meth c (gP X below args s 0 0 (fun M9 : mMem => (none, M9))) 5 0 0 135 [(0, .ref a0), (1, .int x1), (2, .int x2)] [] M (p0_reachFrom_J135 rec43 a0 x1 x2 M) := by
  unfold p0_reachFrom_J135
  refine g_iinc (v := (x2 + 1)) (lv' := [(2, .int (x2 + 1)), (0, .ref a0), (1, .int x1)]) B dX0_reachFrom_135 2 rfl rfl (by decide) [0, 1, 2] rfl ?_
  refine g_goto B 43 dX0_reachFrom_138 (by decide) ?_
  refine g_sub (lv' := [(0, .ref a0), (1, .int x1), (2, .int (x2 + 1))]) [1, 2, 0] rfl ?_
  exact hrec43 a0 x1 (x2 + 1) M
set_option maxRecDepth 20000 in
set_option maxHeartbeats 2000000 in
theorem g0_reachFrom_L43 {X : gX} {p : Program} {l : Launch} {e : Env} {s : State} {m : MethodId} {args : Array Value} {below : List Frame} {meth : Method} {c : Code} (B : gB X p (rm0_reachFrom) s m args meth c RX0 cX0_reachFrom 5 (rm0_reachFrom)) (hS9 : gS X s) (hr : meth.sig.returnType = none) : ∀ (n : Nat) (a0 : Nat) (x1 : Int32) (x2 : Int32) (M : mMem), GG X p l e (rm0_reachFrom) s m args below meth c (gP X below args s 0 0 (fun M9 : mMem => (none, M9))) 5 0 0 43 [(0, .ref a0), (1, .int x1), (2, .int x2)] [] M (p0_reachFrom_L43 n a0 x1 x2 M) := by
  intro n
  induction n with
  | zero => intro a0 x1 x2 M; exact g_none
  | succ n ih =>
    intro a0 x1 x2 M
    rw [p0_reachFrom_L43]
    refine g_iload_n B dX0_reachFrom_43 2 rfl ?_
    refine g_aload_n B dX0_reachFrom_44 0 rfl ?_
    refine g_getI (ci := 0) (T0 := TX0) (N := 8) B (by decide) rfl in_0 (k := 7) (by decide) rfl wd_327 (fun _ h => h) dX0_reachFrom_45 (fun v_1 => ?_)
    refine g_icmp_ge B 141 dX0_reachFrom_48 (by decide) ?_ ?_
    · refine g_iload_n B dX0_reachFrom_51 2 rfl ?_
      refine g_aload_n B dX0_reachFrom_52 0 rfl ?_
      refine g_getR (ci := 0) (T0 := TX0) (N := 8) B (by decide) rfl in_0 (k := 5) (by decide) rfl wd_325 (fun _ h => h) dX0_reachFrom_53 (fun v_2 => ?_)
      refine g_alen B dX0_reachFrom_56 (fun v_3 => ?_)
      refine g_icmp_ge B 141 dX0_reachFrom_57 (by decide) ?_ ?_
      · refine g_aload_n B dX0_reachFrom_60 0 rfl ?_
        refine g_getR (ci := 0) (T0 := TX0) (N := 8) B (by decide) rfl in_0 (k := 5) (by decide) rfl wd_325 (fun _ h => h) dX0_reachFrom_61 (fun v_4 => ?_)
        refine g_iload_n B dX0_reachFrom_64 2 rfl ?_
        refine g_iaload B dX0_reachFrom_65 (fun v_5 => ?_)
        refine g_istore_n (lv' := [(3, .int v_5), (0, .ref a0), (1, .int x1), (2, .int x2)]) B dX0_reachFrom_66 (by decide) [0, 1, 2, 3] rfl ?_
        refine g_iconst (v := 0) B dX0_reachFrom_67 (by decide) ?_
        refine g_istore (lv' := [(4, .int 0), (3, .int v_5), (0, .ref a0), (1, .int x1), (2, .int x2)]) B dX0_reachFrom_68 (by decide) [0, 1, 2, 3, 4] rfl ?_
        refine g_sub (lv' := [(0, .ref a0), (1, .int x1), (2, .int x2), (3, .int v_5), (4, .int 0)]) [2, 3, 4, 1, 0] rfl ?_
        exact (g0_reachFrom_L70 B hS9 hr (p0_reachFrom_J135 (p0_reachFrom_L43 n)) (fun e0 e1 e2 e3 => g0_reachFrom_J135 B hS9 hr (p0_reachFrom_L43 n) ih e0 e1 e2 e3)) gF a0 x1 x2 v_5 0 M
      · refine g_sub (lv' := []) [] rfl ?_
        exact g0_reachFrom_J141 B hS9 hr M
    · refine g_sub (lv' := []) [] rfl ?_
      exact g0_reachFrom_J141 B hS9 hr M
set_option maxRecDepth 20000 in
set_option maxHeartbeats 2000000 in
theorem g0_reachFrom {X : gX} {p : Program} {l : Launch} {e : Env} {s : State} {m : MethodId} {args : Array Value} {below : List Frame} {meth : Method} {c : Code} (B : gB X p (rm0_reachFrom) s m args meth c RX0 cX0_reachFrom 5 (rm0_reachFrom)) (hS9 : gS X s) (hr : meth.sig.returnType = none) (a0 : Nat) (x1 : Int32) (M : mMem) : GG X p l e (rm0_reachFrom) s m args below meth c (gP X below args s 0 0 (fun M9 : mMem => (none, M9))) 5 0 0 0 [(0, .ref a0), (1, .int x1)] [] M (p0_reachFrom a0 x1 M) := by
  unfold p0_reachFrom
  refine g_gd ?_
  refine g_aload_n B dX0_reachFrom_0 0 rfl ?_
  refine g_getR (ci := 0) (T0 := TX0) (N := 8) B (by decide) rfl in_0 (k := 2) (by decide) rfl wd_322 (fun _ h => h) dX0_reachFrom_1 (fun v_1 => ?_)
  refine g_aload_n B dX0_reachFrom_4 0 rfl ?_
  refine g_getR (ci := 0) (T0 := TX0) (N := 8) B (by decide) rfl in_0 (k := 0) (by decide) rfl wd_320 (fun _ h => h) dX0_reachFrom_5 (fun v_2 => ?_)
  refine g_callV_vw [.ref v_2] (ci := 2) (T0 := TX2) (N := 11) B hS9 mf2_take wd_462 (gw B wd_463) wd_1305 (by decide) rfl (fun h => (gd_ne h).1) (c2_take X l v_1 v_2 M) (by decide) (by decide) (by decide) rfl (by decide) dX0_reachFrom_8 rfl (fun q_3 => ?_)
  refine g_aload_n B dX0_reachFrom_11 0 rfl ?_
  refine g_getR (ci := 0) (T0 := TX0) (N := 8) B (by decide) rfl in_0 (k := 3) (by decide) rfl wd_323 (fun _ h => h) dX0_reachFrom_12 (fun v_4 => ?_)
  refine g_iconst (v := (-1)) B dX0_reachFrom_15 (by decide) ?_
  refine g_callS_vw [.ref v_4, .int (-1)] B hS9 mfJ7_fill wd_574 wd_1306 (cJ7_fill X l v_4 (-1) q_3) (by decide) (by decide) (by decide) rfl (by decide) dX0_reachFrom_16 rfl (fun q_5 => ?_)
  refine g_aload_n B dX0_reachFrom_19 0 rfl ?_
  refine g_iconst (v := 0) B dX0_reachFrom_20 (by decide) ?_
  refine g_putI (ci := 0) (T0 := TX0) (N := 8) B (by decide) rfl in_0 tyX0 tyX0_ok nmX0 (k := 7) (by decide) wd_327 (fun _ h => h) rfl rfl (ty := .int) (by decide +kernel) rfl rfl dX0_reachFrom_21 (fun M_6 => ?_)
  refine g_aload_n B dX0_reachFrom_24 0 rfl ?_
  refine g_aload_n B dX0_reachFrom_25 0 rfl ?_
  refine g_getR (ci := 0) (T0 := TX0) (N := 8) B (by decide) rfl in_0 (k := 0) (by decide) rfl wd_320 (fun _ h => h) dX0_reachFrom_26 (fun v_7 => ?_)
  refine g_iload_n B dX0_reachFrom_29 1 rfl ?_
  refine g_callV_ap [.int x1] (ci := 2) (T0 := TX2) (N := 11) B hS9 mf2_at wd_466 (gw B wd_467) wd_1307 (by decide) rfl (fun h => (gd_ne h).1) (c2_at X l v_7 x1 M_6) (by decide) (by decide) (by decide) rfl (Nat.le_of_ble_eq_true rfl) dX0_reachFrom_30 rfl (fun v_8 => ?_)
  refine g_getI (ci := 8) (T0 := TX8) (N := 9) B (by decide) rfl in_8 (k := 0) (by decide) rfl wd_52 (fun _ h => h) dX0_reachFrom_33 (fun v_9 => ?_)
  refine g_iconst (v := 0) B dX0_reachFrom_36 (by decide) ?_
  refine g_iconst (v := (-1)) B dX0_reachFrom_37 (by decide) ?_
  refine g_callV_vw [.int v_9, .int 0, .int (-1)] (ci := 0) (T0 := TX0) (N := 8) B hS9 mf0_reach wd_1310 (gw B wp_28) wd_1308 (by decide) rfl (fun h => (gd_ne h).1) (c0_reach X l a0 v_9 0 (-1) M_6) (by decide) (by decide) (by decide) rfl (by decide) dX0_reachFrom_38 rfl (fun q_10 => ?_)
  refine g_iconst (v := 0) B dX0_reachFrom_41 (by decide) ?_
  refine g_istore_n (lv' := [(2, .int 0), (0, .ref a0), (1, .int x1)]) B dX0_reachFrom_42 (by decide) [0, 1, 2] rfl ?_
  refine g_sub (lv' := [(0, .ref a0), (1, .int x1), (2, .int 0)]) [1, 2, 0] rfl ?_
  exact (g0_reachFrom_L43 B hS9 hr) gF a0 x1 0 q_10
theorem c0_reachFrom (X : gX) (l : Launch) (a0 : Nat) (x1 : Int32) (M : mMem) : Con X l yX0_reachFrom cX0_reachFrom 5 (none) rm0_reachFrom (fun M9 : mMem => (none, M9)) [.ref a0, .int x1] M (p0_reachFrom a0 x1 M) := g_con (own := RX0) (by decide +kernel) rfl (Nat.le_of_ble_eq_true rfl) (fun p e s m args below meth c B hS9 hr hn => g0_reachFrom B hS9 hr a0 x1 M)
theorem mf0_stepsTo : gMF yX0_stepsTo cX0_stepsTo 3 (some .int) 2 := ⟨wd_1300, wd_10, ⟨by decide, by decide⟩, by decide +kernel⟩
set_option maxRecDepth 20000 in
set_option maxHeartbeats 2000000 in
theorem g0_stepsTo_J22 {X : gX} {p : Program} {l : Launch} {e : Env} {s : State} {m : MethodId} {args : Array Value} {below : List Frame} {meth : Method} {c : Code} (B : gB X p (rm0_stepsTo) s m args meth c RX0 cX0_stepsTo 3 (rm0_stepsTo)) (hS9 : gS X s) (hr : meth.sig.returnType = some .int) (u0 : Int32) (M : mMem) : GG X p l e (rm0_stepsTo) s m args below meth c (gP X below args s 0 0 (fun r9 : (Int32 × mMem) => (some (.int r9.1), r9.2))) 3 0 0 22 [] [.int u0] M (p0_stepsTo_J22 u0 M) := by
  unfold p0_stepsTo_J22
  exact g_ireturn B hr rfl (by decide) (by decide) rfl dX0_stepsTo_22
set_option maxRecDepth 20000 in
set_option maxHeartbeats 2000000 in
theorem g0_stepsTo {X : gX} {p : Program} {l : Launch} {e : Env} {s : State} {m : MethodId} {args : Array Value} {below : List Frame} {meth : Method} {c : Code} (B : gB X p (rm0_stepsTo) s m args meth c RX0 cX0_stepsTo 3 (rm0_stepsTo)) (hS9 : gS X s) (hr : meth.sig.returnType = some .int) (a0 : Nat) (x1 : Int32) (x2 : Int32) (M : mMem) : GG X p l e (rm0_stepsTo) s m args below meth c (gP X below args s 0 0 (fun r9 : (Int32 × mMem) => (some (.int r9.1), r9.2))) 3 0 0 0 [(0, .ref a0), (1, .int x1), (2, .int x2)] [] M (p0_stepsTo a0 x1 x2 M) := by
  unfold p0_stepsTo
  refine g_gd ?_
  refine g_aload_n B dX0_stepsTo_0 0 rfl ?_
  refine g_iload_n B dX0_stepsTo_1 1 rfl ?_
  refine g_callV_vw [.int x1] (ci := 0) (T0 := TX0) (N := 8) B hS9 mf0_reachFrom wd_1303 (gw B wp_27) wd_1301 (by decide) rfl (fun h => (gd_ne h).1) (c0_reachFrom X l a0 x1 M) (by decide) (by decide) (by decide) rfl (by decide) dX0_stepsTo_2 rfl (fun q_1 => ?_)
  refine g_iload_n B dX0_stepsTo_5 2 rfl ?_
  refine g_callS_ip [.int x2] B hS9 mf0_isPlace wd_1313 wd_1312 (c0_isPlace X l x2 q_1) (by decide) (by decide) (by decide) rfl (by decide) dX0_stepsTo_6 rfl (fun v_2 => ?_)
  refine g_if_eq B 21 dX0_stepsTo_9 (by decide) ?_ ?_
  · refine g_iconst (v := (-1)) B dX0_stepsTo_21 (by decide) ?_
    refine g_sub (lv' := []) [] rfl ?_
    exact g0_stepsTo_J22 B hS9 hr (-1) q_1
  · refine g_aload_n B dX0_stepsTo_12 0 rfl ?_
    refine g_getR (ci := 0) (T0 := TX0) (N := 8) B (by decide) rfl in_0 (k := 3) (by decide) rfl wd_323 (fun _ h => h) dX0_stepsTo_13 (fun v_3 => ?_)
    refine g_iload_n B dX0_stepsTo_16 2 rfl ?_
    refine g_iaload B dX0_stepsTo_17 (fun v_4 => ?_)
    refine g_goto B 22 dX0_stepsTo_18 (by decide) ?_
    refine g_sub (lv' := []) [] rfl ?_
    exact g0_stepsTo_J22 B hS9 hr v_4 q_1
theorem c0_stepsTo (X : gX) (l : Launch) (a0 : Nat) (x1 : Int32) (x2 : Int32) (M : mMem) : Con X l yX0_stepsTo cX0_stepsTo 3 (some .int) rm0_stepsTo (fun r9 : (Int32 × mMem) => (some (.int r9.1), r9.2)) [.ref a0, .int x1, .int x2] M (p0_stepsTo a0 x1 x2 M) := g_con (own := RX0) (by decide +kernel) rfl (Nat.le_of_ble_eq_true rfl) (fun p e s m args below meth c B hS9 hr hn => g0_stepsTo B hS9 hr a0 x1 x2 M)
theorem mf0_firstTo : gMF yX0_firstTo cX0_firstTo 3 (some .int) 2 := ⟨wd_1337, wd_10, ⟨by decide, by decide⟩, by decide +kernel⟩
set_option maxRecDepth 20000 in
set_option maxHeartbeats 2000000 in
theorem g0_firstTo_J31 {X : gX} {p : Program} {l : Launch} {e : Env} {s : State} {m : MethodId} {args : Array Value} {below : List Frame} {meth : Method} {c : Code} (B : gB X p (rm0_firstTo) s m args meth c RX0 cX0_firstTo 3 (rm0_firstTo)) (hS9 : gS X s) (hr : meth.sig.returnType = some .int) (u0 : Int32) (M : mMem) : GG X p l e (rm0_firstTo) s m args below meth c (gP X below args s 0 0 (fun r9 : (Int32 × mMem) => (some (.int r9.1), r9.2))) 3 0 0 31 [] [.int u0] M (p0_firstTo_J31 u0 M) := by
  unfold p0_firstTo_J31
  exact g_ireturn B hr rfl (by decide) (by decide) rfl dX0_firstTo_31
set_option maxRecDepth 20000 in
set_option maxHeartbeats 2000000 in
theorem g0_firstTo_J30 {X : gX} {p : Program} {l : Launch} {e : Env} {s : State} {m : MethodId} {args : Array Value} {below : List Frame} {meth : Method} {c : Code} (B : gB X p (rm0_firstTo) s m args meth c RX0 cX0_firstTo 3 (rm0_firstTo)) (hS9 : gS X s) (hr : meth.sig.returnType = some .int) (M : mMem) : GG X p l e (rm0_firstTo) s m args below meth c (gP X below args s 0 0 (fun r9 : (Int32 × mMem) => (some (.int r9.1), r9.2))) 3 0 0 30 [] [] M (p0_firstTo_J30 M) := by
  unfold p0_firstTo_J30
  refine g_iconst (v := (-1)) B dX0_firstTo_30 (by decide) ?_
  refine g_sub (lv' := []) [] rfl ?_
  exact g0_firstTo_J31 B hS9 hr (-1) M
set_option maxRecDepth 20000 in
set_option maxHeartbeats 2000000 in
theorem g0_firstTo {X : gX} {p : Program} {l : Launch} {e : Env} {s : State} {m : MethodId} {args : Array Value} {below : List Frame} {meth : Method} {c : Code} (B : gB X p (rm0_firstTo) s m args meth c RX0 cX0_firstTo 3 (rm0_firstTo)) (hS9 : gS X s) (hr : meth.sig.returnType = some .int) (a0 : Nat) (x1 : Int32) (x2 : Int32) (M : mMem) : GG X p l e (rm0_firstTo) s m args below meth c (gP X below args s 0 0 (fun r9 : (Int32 × mMem) => (some (.int r9.1), r9.2))) 3 0 0 0 [(0, .ref a0), (1, .int x1), (2, .int x2)] [] M (p0_firstTo a0 x1 x2 M) := by
  unfold p0_firstTo
  refine g_gd ?_
  refine g_aload_n B dX0_firstTo_0 0 rfl ?_
  refine g_iload_n B dX0_firstTo_1 1 rfl ?_
  refine g_callV_vw [.int x1] (ci := 0) (T0 := TX0) (N := 8) B hS9 mf0_reachFrom wd_1303 (gw B wp_27) wd_1301 (by decide) rfl (fun h => (gd_ne h).1) (c0_reachFrom X l a0 x1 M) (by decide) (by decide) (by decide) rfl (by decide) dX0_firstTo_2 rfl (fun q_1 => ?_)
  refine g_iload_n B dX0_firstTo_5 2 rfl ?_
  refine g_callS_ip [.int x2] B hS9 mf0_isPlace wd_1313 wd_1312 (c0_isPlace X l x2 q_1) (by decide) (by decide) (by decide) rfl (by decide) dX0_firstTo_6 rfl (fun v_2 => ?_)
  refine g_if_eq B 30 dX0_firstTo_9 (by decide) ?_ ?_
  · refine g_sub (lv' := []) [] rfl ?_
    exact g0_firstTo_J30 B hS9 hr q_1
  · refine g_aload_n B dX0_firstTo_12 0 rfl ?_
    refine g_getR (ci := 0) (T0 := TX0) (N := 8) B (by decide) rfl in_0 (k := 3) (by decide) rfl wd_323 (fun _ h => h) dX0_firstTo_13 (fun v_3 => ?_)
    refine g_iload_n B dX0_firstTo_16 2 rfl ?_
    refine g_iaload B dX0_firstTo_17 (fun v_4 => ?_)
    refine g_if_le B 30 dX0_firstTo_18 (by decide) ?_ ?_
    · refine g_aload_n B dX0_firstTo_21 0 rfl ?_
      refine g_getR (ci := 0) (T0 := TX0) (N := 8) B (by decide) rfl in_0 (k := 4) (by decide) rfl wd_324 (fun _ h => h) dX0_firstTo_22 (fun v_5 => ?_)
      refine g_iload_n B dX0_firstTo_25 2 rfl ?_
      refine g_iaload B dX0_firstTo_26 (fun v_6 => ?_)
      refine g_goto B 31 dX0_firstTo_27 (by decide) ?_
      refine g_sub (lv' := []) [] rfl ?_
      exact g0_firstTo_J31 B hS9 hr v_6 q_1
    · refine g_sub (lv' := []) [] rfl ?_
      exact g0_firstTo_J30 B hS9 hr q_1
theorem c0_firstTo (X : gX) (l : Launch) (a0 : Nat) (x1 : Int32) (x2 : Int32) (M : mMem) : Con X l yX0_firstTo cX0_firstTo 3 (some .int) rm0_firstTo (fun r9 : (Int32 × mMem) => (some (.int r9.1), r9.2)) [.ref a0, .int x1, .int x2] M (p0_firstTo a0 x1 x2 M) := g_con (own := RX0) (by decide +kernel) rfl (Nat.le_of_ble_eq_true rfl) (fun p e s m args below meth c B hS9 hr hn => g0_firstTo B hS9 hr a0 x1 x2 M)
theorem mf0_within : gMF yX0_within cX0_within 5 (some .int) 2 := ⟨wd_1348, wd_10, ⟨by decide, by decide⟩, by decide +kernel⟩
set_option maxRecDepth 20000 in
set_option maxHeartbeats 2000000 in
theorem g0_within_J45 {X : gX} {p : Program} {l : Launch} {e : Env} {s : State} {m : MethodId} {args : Array Value} {below : List Frame} {meth : Method} {c : Code} (B : gB X p (rm0_within) s m args meth c RX0 cX0_within 5 (rm0_within)) (hS9 : gS X s) (hr : meth.sig.returnType = some .int) (rec10 : Nat → Int32 → Int32 → Int32 → mMem → Option (Int32 × mMem)) (hrec10 : ∀ (a0 : Nat) (x2 : Int32) (x3 : Int32) (x4 : Int32) (M : mMem), GG X p l e (rm0_within) s m args below meth c (gP X below args s 0 0 (fun r9 : (Int32 × mMem) => (some (.int r9.1), r9.2))) 5 0 0 10 [(0, .ref a0), (2, .int x2), (3, .int x3), (4, .int x4)] [] M (rec10 a0 x2 x3 x4 M)) (a0 : Nat) (x2 : Int32) (x3 : Int32) (x4 : Int32) (M : mMem) : GG X p l e (rm0_within) s m args below meth c (gP X below args s 0 0 (fun r9 : (Int32 × mMem) => (some (.int r9.1), r9.2))) 5 0 0 45 [(0, .ref a0), (2, .int x2), (3, .int x3), (4, .int x4)] [] M (p0_within_J45 rec10 a0 x2 x3 x4 M) := by
  unfold p0_within_J45
  refine g_iinc (v := (x4 + 1)) (lv' := [(4, .int (x4 + 1)), (0, .ref a0), (2, .int x2), (3, .int x3)]) B dX0_within_45 3 rfl rfl (by decide) [0, 1, 2, 3] rfl ?_
  refine g_goto B 10 dX0_within_48 (by decide) ?_
  refine g_sub (lv' := [(0, .ref a0), (2, .int x2), (3, .int x3), (4, .int (x4 + 1))]) [1, 2, 3, 0] rfl ?_
  exact hrec10 a0 x2 x3 (x4 + 1) M
set_option maxRecDepth 20000 in
set_option maxHeartbeats 2000000 in
theorem g0_within_L10 {X : gX} {p : Program} {l : Launch} {e : Env} {s : State} {m : MethodId} {args : Array Value} {below : List Frame} {meth : Method} {c : Code} (B : gB X p (rm0_within) s m args meth c RX0 cX0_within 5 (rm0_within)) (hS9 : gS X s) (hr : meth.sig.returnType = some .int) : ∀ (n : Nat) (a0 : Nat) (x2 : Int32) (x3 : Int32) (x4 : Int32) (M : mMem), GG X p l e (rm0_within) s m args below meth c (gP X below args s 0 0 (fun r9 : (Int32 × mMem) => (some (.int r9.1), r9.2))) 5 0 0 10 [(0, .ref a0), (2, .int x2), (3, .int x3), (4, .int x4)] [] M (p0_within_L10 n a0 x2 x3 x4 M) := by
  intro n
  induction n with
  | zero => intro a0 x2 x3 x4 M; exact g_none
  | succ n ih =>
    intro a0 x2 x3 x4 M
    rw [p0_within_L10]
    refine g_iload B dX0_within_10 3 rfl ?_
    refine g_aload_n B dX0_within_12 0 rfl ?_
    refine g_getR (ci := 0) (T0 := TX0) (N := 8) B (by decide) rfl in_0 (k := 3) (by decide) rfl wd_323 (fun _ h => h) dX0_within_13 (fun v_1 => ?_)
    refine g_alen B dX0_within_16 (fun v_2 => ?_)
    refine g_icmp_ge B 51 dX0_within_17 (by decide) ?_ ?_
    · refine g_aload_n B dX0_within_20 0 rfl ?_
      refine g_getR (ci := 0) (T0 := TX0) (N := 8) B (by decide) rfl in_0 (k := 3) (by decide) rfl wd_323 (fun _ h => h) dX0_within_21 (fun v_3 => ?_)
      refine g_iload B dX0_within_24 3 rfl ?_
      refine g_iaload B dX0_within_26 (fun v_4 => ?_)
      refine g_iconst (v := (-1)) B dX0_within_27 (by decide) ?_
      refine g_icmp_eq B 45 dX0_within_28 (by decide) ?_ ?_
      · refine g_sub (lv' := [(0, .ref a0), (2, .int x2), (3, .int x3), (4, .int x4)]) [0, 1, 2, 3] rfl ?_
        exact g0_within_J45 B hS9 hr (p0_within_L10 n) ih a0 x2 x3 x4 M
      · refine g_aload_n B dX0_within_31 0 rfl ?_
        refine g_getR (ci := 0) (T0 := TX0) (N := 8) B (by decide) rfl in_0 (k := 3) (by decide) rfl wd_323 (fun _ h => h) dX0_within_32 (fun v_5 => ?_)
        refine g_iload B dX0_within_35 3 rfl ?_
        refine g_iaload B dX0_within_37 (fun v_6 => ?_)
        refine g_iload_n B dX0_within_38 1 rfl ?_
        refine g_icmp_gt B 45 dX0_within_39 (by decide) ?_ ?_
        · refine g_sub (lv' := [(0, .ref a0), (2, .int x2), (3, .int x3), (4, .int x4)]) [0, 1, 2, 3] rfl ?_
          exact g0_within_J45 B hS9 hr (p0_within_L10 n) ih a0 x2 x3 x4 M
        · refine g_iinc (v := (x3 + 1)) (lv' := [(3, .int (x3 + 1)), (0, .ref a0), (2, .int x2), (4, .int x4)]) B dX0_within_42 2 rfl rfl (by decide) [0, 1, 2, 3] rfl ?_
          refine g_sub (lv' := [(0, .ref a0), (2, .int x2), (3, .int (x3 + 1)), (4, .int x4)]) [1, 2, 0, 3] rfl ?_
          exact g0_within_J45 B hS9 hr (p0_within_L10 n) ih a0 x2 (x3 + 1) x4 M
    · refine g_iload_n B dX0_within_51 2 rfl ?_
      exact g_ireturn B hr rfl (by decide) (by decide) rfl dX0_within_52
set_option maxRecDepth 20000 in
set_option maxHeartbeats 2000000 in
theorem g0_within {X : gX} {p : Program} {l : Launch} {e : Env} {s : State} {m : MethodId} {args : Array Value} {below : List Frame} {meth : Method} {c : Code} (B : gB X p (rm0_within) s m args meth c RX0 cX0_within 5 (rm0_within)) (hS9 : gS X s) (hr : meth.sig.returnType = some .int) (a0 : Nat) (x1 : Int32) (x2 : Int32) (M : mMem) : GG X p l e (rm0_within) s m args below meth c (gP X below args s 0 0 (fun r9 : (Int32 × mMem) => (some (.int r9.1), r9.2))) 5 0 0 0 [(0, .ref a0), (1, .int x1), (2, .int x2)] [] M (p0_within a0 x1 x2 M) := by
  unfold p0_within
  refine g_gd ?_
  refine g_aload_n B dX0_within_0 0 rfl ?_
  refine g_iload_n B dX0_within_1 1 rfl ?_
  refine g_callV_vw [.int x1] (ci := 0) (T0 := TX0) (N := 8) B hS9 mf0_reachFrom wd_1303 (gw B wp_27) wd_1301 (by decide) rfl (fun h => (gd_ne h).1) (c0_reachFrom X l a0 x1 M) (by decide) (by decide) (by decide) rfl (by decide) dX0_within_2 rfl (fun q_1 => ?_)
  refine g_iconst (v := 0) B dX0_within_5 (by decide) ?_
  refine g_istore_n (lv' := [(3, .int 0), (0, .ref a0), (1, .int x1), (2, .int x2)]) B dX0_within_6 (by decide) [0, 1, 2, 3] rfl ?_
  refine g_iconst (v := 0) B dX0_within_7 (by decide) ?_
  refine g_istore (lv' := [(4, .int 0), (3, .int 0), (0, .ref a0), (1, .int x1), (2, .int x2)]) B dX0_within_8 (by decide) [0, 1, 2, 3, 4] rfl ?_
  refine g_sub (lv' := [(0, .ref a0), (2, .int x2), (3, .int 0), (4, .int 0)]) [2, 4, 1, 0] rfl ?_
  exact (g0_within_L10 B hS9 hr) gF a0 x2 0 0 q_1
theorem c0_within (X : gX) (l : Launch) (a0 : Nat) (x1 : Int32) (x2 : Int32) (M : mMem) : Con X l yX0_within cX0_within 5 (some .int) rm0_within (fun r9 : (Int32 × mMem) => (some (.int r9.1), r9.2)) [.ref a0, .int x1, .int x2] M (p0_within a0 x1 x2 M) := g_con (own := RX0) (by decide +kernel) rfl (Nat.le_of_ble_eq_true rfl) (fun p e s m args below meth c B hS9 hr hn => g0_within B hS9 hr a0 x1 x2 M)
theorem mf0_heaviest : gMF yX0_heaviest cX0_heaviest 7 (some .int) 2 := ⟨wd_1359, wd_10, ⟨by decide, by decide⟩, by decide +kernel⟩
set_option maxRecDepth 20000 in
set_option maxHeartbeats 2000000 in
theorem g0_heaviest_J64 {X : gX} {p : Program} {l : Launch} {e : Env} {s : State} {m : MethodId} {args : Array Value} {below : List Frame} {meth : Method} {c : Code} (B : gB X p (rm0_heaviest) s m args meth c RX0 cX0_heaviest 7 (rm0_heaviest)) (hS9 : gS X s) (hr : meth.sig.returnType = some .int) (rec8 : Nat → Int32 → Int32 → Int32 → Int32 → Int32 → mMem → Option (Int32 × mMem)) (hrec8 : ∀ (a0 : Nat) (x1 : Int32) (x2 : Int32) (x3 : Int32) (x4 : Int32) (x5 : Int32) (M : mMem), GG X p l e (rm0_heaviest) s m args below meth c (gP X below args s 0 0 (fun r9 : (Int32 × mMem) => (some (.int r9.1), r9.2))) 7 0 0 8 [(0, .ref a0), (1, .int x1), (2, .int x2), (3, .int x3), (4, .int x4), (5, .int x5)] [] M (rec8 a0 x1 x2 x3 x4 x5 M)) (a0 : Nat) (x1 : Int32) (x2 : Int32) (x3 : Int32) (x4 : Int32) (x5 : Int32) (M : mMem) : GG X p l e (rm0_heaviest) s m args below meth c (gP X below args s 0 0 (fun r9 : (Int32 × mMem) => (some (.int r9.1), r9.2))) 7 0 0 64 [(0, .ref a0), (1, .int x1), (2, .int x2), (3, .int x3), (4, .int x4), (5, .int x5)] [] M (p0_heaviest_J64 rec8 a0 x1 x2 x3 x4 x5 M) := by
  unfold p0_heaviest_J64
  refine g_iinc (v := (x5 + 1)) (lv' := [(5, .int (x5 + 1)), (0, .ref a0), (1, .int x1), (2, .int x2), (3, .int x3), (4, .int x4)]) B dX0_heaviest_64 5 rfl rfl (by decide) [0, 1, 2, 3, 4, 5] rfl ?_
  refine g_goto B 8 dX0_heaviest_67 (by decide) ?_
  refine g_sub (lv' := [(0, .ref a0), (1, .int x1), (2, .int x2), (3, .int x3), (4, .int x4), (5, .int (x5 + 1))]) [1, 2, 3, 4, 5, 0] rfl ?_
  exact hrec8 a0 x1 x2 x3 x4 (x5 + 1) M
set_option maxRecDepth 20000 in
set_option maxHeartbeats 2000000 in
theorem g0_heaviest_L8 {X : gX} {p : Program} {l : Launch} {e : Env} {s : State} {m : MethodId} {args : Array Value} {below : List Frame} {meth : Method} {c : Code} (B : gB X p (rm0_heaviest) s m args meth c RX0 cX0_heaviest 7 (rm0_heaviest)) (hS9 : gS X s) (hr : meth.sig.returnType = some .int) : ∀ (n : Nat) (a0 : Nat) (x1 : Int32) (x2 : Int32) (x3 : Int32) (x4 : Int32) (x5 : Int32) (M : mMem), GG X p l e (rm0_heaviest) s m args below meth c (gP X below args s 0 0 (fun r9 : (Int32 × mMem) => (some (.int r9.1), r9.2))) 7 0 0 8 [(0, .ref a0), (1, .int x1), (2, .int x2), (3, .int x3), (4, .int x4), (5, .int x5)] [] M (p0_heaviest_L8 n a0 x1 x2 x3 x4 x5 M) := by
  intro n
  induction n with
  | zero => intro a0 x1 x2 x3 x4 x5 M; exact g_none
  | succ n ih =>
    intro a0 x1 x2 x3 x4 x5 M
    rw [p0_heaviest_L8]
    refine g_iload B dX0_heaviest_8 5 rfl ?_
    refine g_aload_n B dX0_heaviest_10 0 rfl ?_
    refine g_getR (ci := 0) (T0 := TX0) (N := 8) B (by decide) rfl in_0 (k := 0) (by decide) rfl wd_320 (fun _ h => h) dX0_heaviest_11 (fun v_1 => ?_)
    refine g_getI (ci := 2) (T0 := TX2) (N := 11) B (by decide) rfl in_2 (k := 4) (by decide) rfl wd_144 (fun _ h => h) dX0_heaviest_14 (fun v_2 => ?_)
    refine g_icmp_ge B 70 dX0_heaviest_17 (by decide) ?_ ?_
    · refine g_aload_n B dX0_heaviest_20 0 rfl ?_
      refine g_getR (ci := 0) (T0 := TX0) (N := 8) B (by decide) rfl in_0 (k := 0) (by decide) rfl wd_320 (fun _ h => h) dX0_heaviest_21 (fun v_3 => ?_)
      refine g_iload B dX0_heaviest_24 5 rfl ?_
      refine g_iload_n B dX0_heaviest_26 1 rfl ?_
      refine g_callV_ip [.int x5, .int x1] (ci := 2) (T0 := TX2) (N := 11) B hS9 mf2_governs wd_499 (gw B wd_500) wd_1320 (by decide) rfl (fun h => (gd_ne h).1) (c2_governs X l v_3 x5 x1 M) (by decide) (by decide) (by decide) rfl (by decide) dX0_heaviest_27 rfl (fun v_4 => ?_)
      refine g_if_eq B 64 dX0_heaviest_30 (by decide) ?_ ?_
      · refine g_sub (lv' := [(0, .ref a0), (1, .int x1), (2, .int x2), (3, .int x3), (4, .int x4), (5, .int x5)]) [0, 1, 2, 3, 4, 5] rfl ?_
        exact g0_heaviest_J64 B hS9 hr (p0_heaviest_L8 n) ih a0 x1 x2 x3 x4 x5 M
      · refine g_aload_n B dX0_heaviest_33 0 rfl ?_
        refine g_getR (ci := 0) (T0 := TX0) (N := 8) B (by decide) rfl in_0 (k := 1) (by decide) rfl wd_321 (fun _ h => h) dX0_heaviest_34 (fun v_5 => ?_)
        refine g_aload_n B dX0_heaviest_37 0 rfl ?_
        refine g_getR (ci := 0) (T0 := TX0) (N := 8) B (by decide) rfl in_0 (k := 0) (by decide) rfl wd_320 (fun _ h => h) dX0_heaviest_38 (fun v_6 => ?_)
        refine g_iload B dX0_heaviest_41 5 rfl ?_
        refine g_iload_n B dX0_heaviest_43 1 rfl ?_
        refine g_iload_n B dX0_heaviest_44 2 rfl ?_
        refine g_callV_iw [.ref v_6, .int x5, .int x1, .int x2] (ci := 4) (T0 := TX4) (N := 10) B hS9 mf4_weight wd_507 (gw B wd_508) wd_1325 (by decide) rfl (fun h => (gd_ne h).1) (c4_weight X l v_5 v_6 x5 x1 x2 M) (by decide) (by decide) (by decide) rfl (by decide) dX0_heaviest_45 rfl (fun q_7 => ?_)
        refine g_istore (lv' := [(6, .int q_7.1), (0, .ref a0), (1, .int x1), (2, .int x2), (3, .int x3), (4, .int x4), (5, .int x5)]) B dX0_heaviest_48 (by decide) [0, 1, 2, 3, 4, 5, 6] rfl ?_
        refine g_iload B dX0_heaviest_50 0 rfl ?_
        refine g_iload B dX0_heaviest_52 5 rfl ?_
        refine g_icmp_le B 64 dX0_heaviest_54 (by decide) ?_ ?_
        · refine g_iload B dX0_heaviest_57 0 rfl ?_
          refine g_istore (lv' := [(4, .int q_7.1), (6, .int q_7.1), (0, .ref a0), (1, .int x1), (2, .int x2), (3, .int x3), (5, .int x5)]) B dX0_heaviest_59 (by decide) [0, 1, 2, 3, 4, 5, 6] rfl ?_
          refine g_iload B dX0_heaviest_61 6 rfl ?_
          refine g_istore_n (lv' := [(3, .int x5), (4, .int q_7.1), (6, .int q_7.1), (0, .ref a0), (1, .int x1), (2, .int x2), (5, .int x5)]) B dX0_heaviest_63 (by decide) [0, 1, 2, 3, 4, 5, 6] rfl ?_
          refine g_sub (lv' := [(0, .ref a0), (1, .int x1), (2, .int x2), (3, .int x5), (4, .int q_7.1), (5, .int x5)]) [3, 4, 5, 0, 1, 6] rfl ?_
          exact g0_heaviest_J64 B hS9 hr (p0_heaviest_L8 n) ih a0 x1 x2 x5 q_7.1 x5 q_7.2
        · refine g_sub (lv' := [(0, .ref a0), (1, .int x1), (2, .int x2), (3, .int x3), (4, .int x4), (5, .int x5)]) [1, 2, 3, 4, 5, 6] rfl ?_
          exact g0_heaviest_J64 B hS9 hr (p0_heaviest_L8 n) ih a0 x1 x2 x3 x4 x5 q_7.2
    · refine g_iload_n B dX0_heaviest_70 3 rfl ?_
      exact g_ireturn B hr rfl (by decide) (by decide) rfl dX0_heaviest_71
set_option maxRecDepth 20000 in
set_option maxHeartbeats 2000000 in
theorem g0_heaviest {X : gX} {p : Program} {l : Launch} {e : Env} {s : State} {m : MethodId} {args : Array Value} {below : List Frame} {meth : Method} {c : Code} (B : gB X p (rm0_heaviest) s m args meth c RX0 cX0_heaviest 7 (rm0_heaviest)) (hS9 : gS X s) (hr : meth.sig.returnType = some .int) (a0 : Nat) (x1 : Int32) (x2 : Int32) (M : mMem) : GG X p l e (rm0_heaviest) s m args below meth c (gP X below args s 0 0 (fun r9 : (Int32 × mMem) => (some (.int r9.1), r9.2))) 7 0 0 0 [(0, .ref a0), (1, .int x1), (2, .int x2)] [] M (p0_heaviest a0 x1 x2 M) := by
  unfold p0_heaviest
  refine g_gd ?_
  refine g_iconst (v := (-1)) B dX0_heaviest_0 (by decide) ?_
  refine g_istore_n (lv' := [(3, .int (-1)), (0, .ref a0), (1, .int x1), (2, .int x2)]) B dX0_heaviest_1 (by decide) [0, 1, 2, 3] rfl ?_
  refine g_iconst (v := (-1)) B dX0_heaviest_2 (by decide) ?_
  refine g_istore (lv' := [(4, .int (-1)), (3, .int (-1)), (0, .ref a0), (1, .int x1), (2, .int x2)]) B dX0_heaviest_3 (by decide) [0, 1, 2, 3, 4] rfl ?_
  refine g_iconst (v := 0) B dX0_heaviest_5 (by decide) ?_
  refine g_istore (lv' := [(5, .int 0), (4, .int (-1)), (3, .int (-1)), (0, .ref a0), (1, .int x1), (2, .int x2)]) B dX0_heaviest_6 (by decide) [0, 1, 2, 3, 4, 5] rfl ?_
  refine g_sub (lv' := [(0, .ref a0), (1, .int x1), (2, .int x2), (3, .int (-1)), (4, .int (-1)), (5, .int 0)]) [3, 4, 5, 2, 1, 0] rfl ?_
  exact (g0_heaviest_L8 B hS9 hr) gF a0 x1 x2 (-1) (-1) 0 M
theorem c0_heaviest (X : gX) (l : Launch) (a0 : Nat) (x1 : Int32) (x2 : Int32) (M : mMem) : Con X l yX0_heaviest cX0_heaviest 7 (some .int) rm0_heaviest (fun r9 : (Int32 × mMem) => (some (.int r9.1), r9.2)) [.ref a0, .int x1, .int x2] M (p0_heaviest a0 x1 x2 M) := g_con (own := RX0) (by decide +kernel) rfl (Nat.le_of_ble_eq_true rfl) (fun p e s m args below meth c B hS9 hr hn => g0_heaviest B hS9 hr a0 x1 x2 M)
