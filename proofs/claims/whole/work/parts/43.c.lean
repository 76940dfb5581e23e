theorem mf11_mustBe : gMF yX11_mustBe cX11_mustBe 2 (none) 1 := ⟨wd_1086, wd_1, ⟨by decide, by decide⟩, by decide +kernel⟩
set_option maxRecDepth 20000 in
set_option maxHeartbeats 2000000 in
theorem g11_mustBe {X : gX} {p : Program} {l : Launch} {e : Env} {s : State} {m : MethodId} {args : Array Value} {below : List Frame} {meth : Method} {c : Code} (B : gB X p (rm11_mustBe) s m args meth c RX11 cX11_mustBe 2 (rm11_mustBe)) (hS9 : gS X s) (hr : meth.sig.returnType = none) (hfl : l.stackTraces = false) (hxt : ∀ x ∈ c.exceptionTable.toList, False) {M : mMem} (a0 : Nat) (x1 : Int32) : GG X p l e (rm11_mustBe) s m args below meth c (gxP X below args s 1 6 (fun _ : Unit => (none, M))) 2 0 0 0 [(0, .ref a0), (1, .int x1)] [] M (p11_mustBe a0 x1 M) := by
  unfold p11_mustBe
  refine g_gd ?_
  refine g_aload_n B dX11_mustBe_0 0 rfl ?_
  refine g_getR (ci := 10) (T0 := TX11) (N := 18) B (by decide) rfl in_10 (k := 3) (by decide) rfl wd_385 (fun _ h => h) dX11_mustBe_1 (fun v_1 => ?_)
  refine g_iload_n B dX11_mustBe_4 1 rfl ?_
  refine g_callV_ip [.int x1] (ci := 2) (T0 := TX2) (N := 11) B hS9 mf2_has wd_503 (gw B wd_504) wd_1087 (by decide) rfl (fun h => (gd_ne h).1) (c2_has X l v_1 x1 M) (by decide) (by decide) (by decide) rfl (by decide) dX11_mustBe_5 rfl (fun v_2 => ?_)
  refine g_if_ne B 21 dX11_mustBe_8 (by decide) ?_ ?_
  · exact g_throwS (k := 2) (text := "there is no such PERSON") (i := 29) B hS9 hfl hxt (by decide) (by decide +kernel) wd_1088 wd_25 (List.mem_of_getElem? (i := 56) rfl) ta_RX11_152 tb_RX11_152 tc_RX11_152 dX11_mustBe_11 dX11_mustBe_14 dX11_mustBe_15 dX11_mustBe_17 dX11_mustBe_20 (by decide) (Nat.le_of_ble_eq_true rfl) (by decide) (by decide)
  · refine g_xr ?_
    exact g_vreturn B hr (by decide) (by decide) rfl dX11_mustBe_21
theorem c11_mustBe (X : gX) (l : Launch) (hfl : l.stackTraces = false) (a0 : Nat) (x1 : Int32) (M : mMem) : xCon X l yX11_mustBe cX11_mustBe 2 (none) rm11_mustBe (fun _ : Unit => (none, M)) [.ref a0, .int x1] M (p11_mustBe a0 x1 M) := g_xcon (own := RX11) (by decide +kernel) rfl (Nat.le_of_ble_eq_true rfl) (fun p e s m args below meth c B hS9 hr hxt => g11_mustBe B hS9 hr hfl hxt a0 x1)
theorem mf11_mustLie : gMF yX11_mustLie cX11_mustLie 3 (none) 3 := ⟨wd_1254, wd_1, ⟨by decide, by decide⟩, by decide +kernel⟩
set_option maxRecDepth 20000 in
set_option maxHeartbeats 2000000 in
theorem g11_mustLie_J10 {X : gX} {p : Program} {l : Launch} {e : Env} {s : State} {m : MethodId} {args : Array Value} {below : List Frame} {meth : Method} {c : Code} (B : gB X p (rm11_mustLie) s m args meth c RX11 cX11_mustLie 3 (rm11_mustLie)) (hS9 : gS X s) (hr : meth.sig.returnType = none) (hfl : l.stackTraces = false) (hxt : ∀ x ∈ c.exceptionTable.toList, False) {M : mMem} : GG X p l e (rm11_mustLie) s m args below meth c (gxP X below args s 1 6 (fun _ : Unit => (none, M))) 3 0 0 10 [] [] M (p11_mustLie_J10 M) := by
  unfold p11_mustLie_J10
  exact g_throwS (k := 0) (text := "the number is none") (i := 33) B hS9 hfl hxt (by decide) (by decide +kernel) wd_974 wd_23 (List.mem_of_getElem? (i := 60) rfl) ta_RX11_124 tb_RX11_124 tc_RX11_124 dX11_mustLie_10 dX11_mustLie_13 dX11_mustLie_14 dX11_mustLie_16 dX11_mustLie_19 (by decide) (Nat.le_of_ble_eq_true rfl) (by decide) (by decide)
set_option maxRecDepth 20000 in
set_option maxHeartbeats 2000000 in
theorem g11_mustLie {X : gX} {p : Program} {l : Launch} {e : Env} {s : State} {m : MethodId} {args : Array Value} {below : List Frame} {meth : Method} {c : Code} (B : gB X p (rm11_mustLie) s m args meth c RX11 cX11_mustLie 3 (rm11_mustLie)) (hS9 : gS X s) (hr : meth.sig.returnType = none) (hfl : l.stackTraces = false) (hxt : ∀ x ∈ c.exceptionTable.toList, False) {M : mMem} (x0 : Int32) (x1 : Int32) (x2 : Int32) : GG X p l e (rm11_mustLie) s m args below meth c (gxP X below args s 1 6 (fun _ : Unit => (none, M))) 3 0 0 0 [(0, .int x0), (1, .int x1), (2, .int x2)] [] M (p11_mustLie x0 x1 x2 M) := by
  unfold p11_mustLie
  refine g_iload_n B dX11_mustLie_0 0 rfl ?_
  refine g_iload_n B dX11_mustLie_1 1 rfl ?_
  refine g_icmp_lt B 10 dX11_mustLie_2 (by decide) ?_ ?_
  · refine g_sub (lv' := []) [] rfl ?_
    exact g11_mustLie_J10 B hS9 hr hfl hxt
  · refine g_iload_n B dX11_mustLie_5 0 rfl ?_
    refine g_iload_n B dX11_mustLie_6 2 rfl ?_
    refine g_icmp_le B 20 dX11_mustLie_7 (by decide) ?_ ?_
    · refine g_sub (lv' := []) [] rfl ?_
      exact g11_mustLie_J10 B hS9 hr hfl hxt
    · refine g_xr ?_
      exact g_vreturn B hr (by decide) (by decide) rfl dX11_mustLie_20
theorem c11_mustLie (X : gX) (l : Launch) (hfl : l.stackTraces = false) (x0 : Int32) (x1 : Int32) (x2 : Int32) (M : mMem) : xCon X l yX11_mustLie cX11_mustLie 3 (none) rm11_mustLie (fun _ : Unit => (none, M)) [.int x0, .int x1, .int x2] M (p11_mustLie x0 x1 x2 M) := g_xcon (own := RX11) (by decide +kernel) rfl (Nat.le_of_ble_eq_true rfl) (fun p e s m args below meth c B hS9 hr hxt => g11_mustLie B hS9 hr hfl hxt x0 x1 x2)
theorem mf11_ahead : gMF yX11_ahead cX11_ahead 4 (some .int) 3 := ⟨wd_1579, wd_1, ⟨by decide, by decide⟩, by decide +kernel⟩
set_option maxRecDepth 20000 in
set_option maxHeartbeats 2000000 in
theorem g11_ahead {X : gX} {p : Program} {l : Launch} {e : Env} {s : State} {m : MethodId} {args : Array Value} {below : List Frame} {meth : Method} {c : Code} (B : gB X p (rm11_ahead) s m args meth c RX11 cX11_ahead 4 (rm11_ahead)) (hS9 : gS X s) (hr : meth.sig.returnType = some .int) (hfl : l.stackTraces = false) (hxt : ∀ x ∈ c.exceptionTable.toList, False) (a0 : Nat) (x1 : Int32) (x2 : Int32) (x3 : Int32) (M : mMem) : GG X p l e (rm11_ahead) s m args below meth c (gxP X below args s 2 12 (fun r9 : (Int32 × mMem) => (some (.int r9.1), r9.2))) 4 0 0 0 [(0, .ref a0), (1, .int x1), (2, .int x2), (3, .int x3)] [] M (p11_ahead a0 x1 x2 x3 M) := by
  unfold p11_ahead
  refine g_gd ?_
  refine g_aload_n B dX11_ahead_0 0 rfl ?_
  refine g_iload_n B dX11_ahead_1 1 rfl ?_
  refine g_xcallV [.int x1] (ci := 10) (T0 := TX11) (N := 18) B hS9 hxt mf11_mustBe wd_1085 (gw B wp_23) wd_1083 (by decide) rfl (fun h => (gd_ne h).1) (c11_mustBe X l hfl a0 x1 M) (by decide) (by decide) (by decide) (by decide) rfl (by decide) dX11_ahead_2 rfl (fun v_1 => ?_)
  refine g_iload_n B dX11_ahead_5 2 rfl ?_
  refine g_iconst (v := 0) B dX11_ahead_6 (by decide) ?_
  refine g_bipush (v := 100) B dX11_ahead_7 (by decide) ?_
  refine g_xcallS [.int x2, .int 0, .int 100] B hS9 hxt mf11_mustLie wd_1253 wd_1252 (c11_mustLie X l hfl x2 0 100 M) (by decide) (by decide) (by decide) (by decide) rfl (by decide) dX11_ahead_9 rfl (fun v_2 => ?_)
  refine g_aload_n B dX11_ahead_12 0 rfl ?_
  refine g_getR (ci := 10) (T0 := TX11) (N := 18) B (by decide) rfl in_10 (k := 14) (by decide) rfl wd_396 (fun _ h => h) dX11_ahead_13 (fun v_3 => ?_)
  refine g_iload_n B dX11_ahead_16 1 rfl ?_
  refine g_iload_n B dX11_ahead_17 2 rfl ?_
  refine g_iload_n B dX11_ahead_18 3 rfl ?_
  refine g_callV_iw [.int x1, .int x2, .int x3] (ci := 1) (T0 := TX1) (N := 3) B hS9 mf1_ageAhead wd_1581 (gw B wd_1582) wd_1580 (by decide) rfl (fun h => (gd_ne h).1) (c1_ageAhead X l v_3 x1 x2 x3 M) (by decide) (by decide) (by decide) rfl (by decide) dX11_ahead_19 rfl (fun q_4 => ?_)
  refine g_xr ?_
  exact g_ireturn B hr rfl (by decide) (by decide) rfl dX11_ahead_22
theorem c11_ahead (X : gX) (l : Launch) (hfl : l.stackTraces = false) (a0 : Nat) (x1 : Int32) (x2 : Int32) (x3 : Int32) (M : mMem) : xCon X l yX11_ahead cX11_ahead 4 (some .int) rm11_ahead (fun r9 : (Int32 × mMem) => (some (.int r9.1), r9.2)) [.ref a0, .int x1, .int x2, .int x3] M (p11_ahead a0 x1 x2 x3 M) := g_xcon (own := RX11) (by decide +kernel) rfl (Nat.le_of_ble_eq_true rfl) (fun p e s m args below meth c B hS9 hr hxt => g11_ahead B hS9 hr hfl hxt a0 x1 x2 x3 M)
theorem mf11_mustBeSightings : gMF yX11_mustBeSightings cX11_mustBeSightings 4 (none) 1 := ⟨wd_1388, wd_1, ⟨by decide, by decide⟩, by decide +kernel⟩
set_option maxRecDepth 20000 in
set_option maxHeartbeats 2000000 in
theorem g11_mustBeSightings_J59 {X : gX} {p : Program} {l : Launch} {e : Env} {s : State} {m : MethodId} {args : Array Value} {below : List Frame} {meth : Method} {c : Code} (B : gB X p (rm11_mustBeSightings) s m args meth c RX11 cX11_mustBeSightings 4 (rm11_mustBeSightings)) (hS9 : gS X s) (hr : meth.sig.returnType = none) (hfl : l.stackTraces = false) (hxt : ∀ x ∈ c.exceptionTable.toList, False) {M : mMem} (rec20 : Nat → Int32 → Int32 → Int32 → Option ((Nat × mMem) ⊕ Unit)) (hrec20 : ∀ (a0 : Nat) (x1 : Int32) (x2 : Int32) (x3 : Int32), GG X p l e (rm11_mustBeSightings) s m args below meth c (gxP X below args s 1 6 (fun _ : Unit => (none, M))) 4 0 0 20 [(0, .ref a0), (1, .int x1), (2, .int x2), (3, .int x3)] [] M (rec20 a0 x1 x2 x3)) (a0 : Nat) (x1 : Int32) (x3 : Int32) (u0 : Int32) : GG X p l e (rm11_mustBeSightings) s m args below meth c (gxP X below args s 1 6 (fun _ : Unit => (none, M))) 4 0 0 59 [(0, .ref a0), (1, .int x1), (3, .int x3)] [.int u0] M (p11_mustBeSightings_J59 M rec20 a0 x1 x3 u0) := by
  unfold p11_mustBeSightings_J59
  refine g_istore_n (lv' := [(2, .int u0), (0, .ref a0), (1, .int x1), (3, .int x3)]) B dX11_mustBeSightings_59 (by decide) [0, 1, 2, 3] rfl ?_
  refine g_iinc (v := (x3 + 1)) (lv' := [(3, .int (x3 + 1)), (2, .int u0), (0, .ref a0), (1, .int x1)]) B dX11_mustBeSightings_60 3 rfl rfl (by decide) [0, 1, 2, 3] rfl ?_
  refine g_goto B 20 dX11_mustBeSightings_63 (by decide) ?_
  refine g_sub (lv' := [(0, .ref a0), (1, .int x1), (2, .int u0), (3, .int (x3 + 1))]) [2, 3, 1, 0] rfl ?_
  exact hrec20 a0 x1 u0 (x3 + 1)
set_option maxRecDepth 20000 in
set_option maxHeartbeats 2000000 in
theorem g11_mustBeSightings_J58 {X : gX} {p : Program} {l : Launch} {e : Env} {s : State} {m : MethodId} {args : Array Value} {below : List Frame} {meth : Method} {c : Code} (B : gB X p (rm11_mustBeSightings) s m args meth c RX11 cX11_mustBeSightings 4 (rm11_mustBeSightings)) (hS9 : gS X s) (hr : meth.sig.returnType = none) (hfl : l.stackTraces = false) (hxt : ∀ x ∈ c.exceptionTable.toList, False) {M : mMem} (rec20 : Nat → Int32 → Int32 → Int32 → Option ((Nat × mMem) ⊕ Unit)) (hrec20 : ∀ (a0 : Nat) (x1 : Int32) (x2 : Int32) (x3 : Int32), GG X p l e (rm11_mustBeSightings) s m args below meth c (gxP X below args s 1 6 (fun _ : Unit => (none, M))) 4 0 0 20 [(0, .ref a0), (1, .int x1), (2, .int x2), (3, .int x3)] [] M (rec20 a0 x1 x2 x3)) (a0 : Nat) (x1 : Int32) (x3 : Int32) : GG X p l e (rm11_mustBeSightings) s m args below meth c (gxP X below args s 1 6 (fun _ : Unit => (none, M))) 4 0 0 58 [(0, .ref a0), (1, .int x1), (3, .int x3)] [] M (p11_mustBeSightings_J58 M rec20 a0 x1 x3) := by
  unfold p11_mustBeSightings_J58
  refine g_iconst (v := 0) B dX11_mustBeSightings_58 (by decide) ?_
  refine g_sub (lv' := [(0, .ref a0), (1, .int x1), (3, .int x3)]) [0, 1, 2] rfl ?_
  exact g11_mustBeSightings_J59 B hS9 hr hfl hxt rec20 hrec20 a0 x1 x3 0
set_option maxRecDepth 20000 in
set_option maxHeartbeats 2000000 in
theorem g11_mustBeSightings_L20 {X : gX} {p : Program} {l : Launch} {e : Env} {s : State} {m : MethodId} {args : Array Value} {below : List Frame} {meth : Method} {c : Code} (B : gB X p (rm11_mustBeSightings) s m args meth c RX11 cX11_mustBeSightings 4 (rm11_mustBeSightings)) (hS9 : gS X s) (hr : meth.sig.returnType = none) (hfl : l.stackTraces = false) (hxt : ∀ x ∈ c.exceptionTable.toList, False) {M : mMem} (k66 : Int32 → Option ((Nat × mMem) ⊕ Unit)) (hk66 : ∀ (x2 : Int32), GG X p l e (rm11_mustBeSightings) s m args below meth c (gxP X below args s 1 6 (fun _ : Unit => (none, M))) 4 0 0 66 [(2, .int x2)] [] M (k66 x2)) : ∀ (n : Nat) (a0 : Nat) (x1 : Int32) (x2 : Int32) (x3 : Int32), GG X p l e (rm11_mustBeSightings) s m args below meth c (gxP X below args s 1 6 (fun _ : Unit => (none, M))) 4 0 0 20 [(0, .ref a0), (1, .int x1), (2, .int x2), (3, .int x3)] [] M (p11_mustBeSightings_L20 M k66 n a0 x1 x2 x3) := by
  intro n
  induction n with
  | zero => intro a0 x1 x2 x3; exact g_none
  | succ n ih =>
    intro a0 x1 x2 x3
    rw [p11_mustBeSightings_L20]
    refine g_iload_n B dX11_mustBeSightings_20 3 rfl ?_
    refine g_iload_n B dX11_mustBeSightings_21 1 rfl ?_
    refine g_icmp_ge B 66 dX11_mustBeSightings_22 (by decide) ?_ ?_
    · refine g_iload_n B dX11_mustBeSightings_25 3 rfl ?_
      refine g_aload_n B dX11_mustBeSightings_26 0 rfl ?_
      refine g_getR (ci := 10) (T0 := TX11) (N := 18) B (by decide) rfl in_10 (k := 0) (by decide) rfl wd_382 (fun _ h => h) dX11_mustBeSightings_27 (fun v_1 => ?_)
      refine g_alen B dX11_mustBeSightings_30 (fun v_2 => ?_)
      refine g_icmp_ge B 66 dX11_mustBeSightings_31 (by decide) ?_ ?_
      · refine g_iload_n B dX11_mustBeSightings_34 2 rfl ?_
        refine g_if_eq B 58 dX11_mustBeSightings_35 (by decide) ?_ ?_
        · refine g_sub (lv' := [(0, .ref a0), (1, .int x1), (3, .int x3)]) [0, 1, 3] rfl ?_
          exact g11_mustBeSightings_J58 B hS9 hr hfl hxt (p11_mustBeSightings_L20 M k66 n) ih a0 x1 x3
        · refine g_aload_n B dX11_mustBeSightings_38 0 rfl ?_
          refine g_getR (ci := 10) (T0 := TX11) (N := 18) B (by decide) rfl in_10 (k := 0) (by decide) rfl wd_382 (fun _ h => h) dX11_mustBeSightings_39 (fun v_3 => ?_)
          refine g_iload_n B dX11_mustBeSightings_42 3 rfl ?_
          refine g_iaload B dX11_mustBeSightings_43 (fun v_4 => ?_)
          refine g_aload_n B dX11_mustBeSightings_44 0 rfl ?_
          refine g_getR (ci := 10) (T0 := TX11) (N := 18) B (by decide) rfl in_10 (k := 3) (by decide) rfl wd_385 (fun _ h => h) dX11_mustBeSightings_45 (fun v_5 => ?_)
          refine g_getI (ci := 2) (T0 := TX2) (N := 11) B (by decide) rfl in_2 (k := 5) (by decide) rfl wd_149 (fun _ h => h) dX11_mustBeSightings_48 (fun v_6 => ?_)
          refine g_icmp_ge B 58 dX11_mustBeSightings_51 (by decide) ?_ ?_
          · refine g_iconst (v := 1) B dX11_mustBeSightings_54 (by decide) ?_
            refine g_goto B 59 dX11_mustBeSightings_55 (by decide) ?_
            refine g_sub (lv' := [(0, .ref a0), (1, .int x1), (3, .int x3)]) [0, 1, 3] rfl ?_
            exact g11_mustBeSightings_J59 B hS9 hr hfl hxt (p11_mustBeSightings_L20 M k66 n) ih a0 x1 x3 1
          · refine g_sub (lv' := [(0, .ref a0), (1, .int x1), (3, .int x3)]) [0, 1, 3] rfl ?_
            exact g11_mustBeSightings_J58 B hS9 hr hfl hxt (p11_mustBeSightings_L20 M k66 n) ih a0 x1 x3
      · refine g_sub (lv' := [(2, .int x2)]) [2] rfl ?_
        exact hk66 x2
    · refine g_sub (lv' := [(2, .int x2)]) [2] rfl ?_
      exact hk66 x2
set_option maxRecDepth 20000 in
set_option maxHeartbeats 2000000 in
theorem g11_mustBeSightings_J66 {X : gX} {p : Program} {l : Launch} {e : Env} {s : State} {m : MethodId} {args : Array Value} {below : List Frame} {meth : Method} {c : Code} (B : gB X p (rm11_mustBeSightings) s m args meth c RX11 cX11_mustBeSightings 4 (rm11_mustBeSightings)) (hS9 : gS X s) (hr : meth.sig.returnType = none) (hfl : l.stackTraces = false) (hxt : ∀ x ∈ c.exceptionTable.toList, False) {M : mMem} (x2 : Int32) : GG X p l e (rm11_mustBeSightings) s m args below meth c (gxP X below args s 1 6 (fun _ : Unit => (none, M))) 4 0 0 66 [(2, .int x2)] [] M (p11_mustBeSightings_J66 M x2) := by
  unfold p11_mustBeSightings_J66
  refine g_iload_n B dX11_mustBeSightings_66 0 rfl ?_
  refine g_if_ne B 81 dX11_mustBeSightings_67 (by decide) ?_ ?_
  · exact g_throwSW (k := 0) (text := "the TAPE is not that") (i := 34) B hS9 hfl hxt (by decide) (by decide +kernel) wd_974 wd_23 (List.mem_of_getElem? (i := 61) rfl) ta_RX11_124 tb_RX11_124 tc_RX11_124 dX11_mustBeSightings_70 dX11_mustBeSightings_73 dX11_mustBeSightings_74 dX11_mustBeSightings_77 dX11_mustBeSightings_80 (by decide) (Nat.le_of_ble_eq_true rfl) (by decide) (by decide)
  · refine g_xr ?_
    exact g_vreturn B hr (by decide) (by decide) rfl dX11_mustBeSightings_81
set_option maxRecDepth 20000 in
set_option maxHeartbeats 2000000 in
theorem g11_mustBeSightings_J17 {X : gX} {p : Program} {l : Launch} {e : Env} {s : State} {m : MethodId} {args : Array Value} {below : List Frame} {meth : Method} {c : Code} (B : gB X p (rm11_mustBeSightings) s m args meth c RX11 cX11_mustBeSightings 4 (rm11_mustBeSightings)) (hS9 : gS X s) (hr : meth.sig.returnType = none) (hfl : l.stackTraces = false) (hxt : ∀ x ∈ c.exceptionTable.toList, False) {M : mMem} (a0 : Nat) (x1 : Int32) (u0 : Int32) : GG X p l e (rm11_mustBeSightings) s m args below meth c (gxP X below args s 1 6 (fun _ : Unit => (none, M))) 4 0 0 17 [(0, .ref a0), (1, .int x1)] [.int u0] M (p11_mustBeSightings_J17 M a0 x1 u0) := by
  unfold p11_mustBeSightings_J17
  refine g_istore_n (lv' := [(2, .int u0), (0, .ref a0), (1, .int x1)]) B dX11_mustBeSightings_17 (by decide) [0, 1, 2] rfl ?_
  refine g_iconst (v := 0) B dX11_mustBeSightings_18 (by decide) ?_
  refine g_istore_n (lv' := [(3, .int 0), (2, .int u0), (0, .ref a0), (1, .int x1)]) B dX11_mustBeSightings_19 (by decide) [0, 1, 2, 3] rfl ?_
  refine g_sub (lv' := [(0, .ref a0), (1, .int x1), (2, .int u0), (3, .int 0)]) [2, 3, 1, 0] rfl ?_
  exact (g11_mustBeSightings_L20 B hS9 hr hfl hxt (p11_mustBeSightings_J66 M) (fun e0 => g11_mustBeSightings_J66 B hS9 hr hfl hxt e0)) gF a0 x1 u0 0
set_option maxRecDepth 20000 in
set_option maxHeartbeats 2000000 in
theorem g11_mustBeSightings_J16 {X : gX} {p : Program} {l : Launch} {e : Env} {s : State} {m : MethodId} {args : Array Value} {below : List Frame} {meth : Method} {c : Code} (B : gB X p (rm11_mustBeSightings) s m args meth c RX11 cX11_mustBeSightings 4 (rm11_mustBeSightings)) (hS9 : gS X s) (hr : meth.sig.returnType = none) (hfl : l.stackTraces = false) (hxt : ∀ x ∈ c.exceptionTable.toList, False) {M : mMem} (a0 : Nat) (x1 : Int32) : GG X p l e (rm11_mustBeSightings) s m args below meth c (gxP X below args s 1 6 (fun _ : Unit => (none, M))) 4 0 0 16 [(0, .ref a0), (1, .int x1)] [] M (p11_mustBeSightings_J16 M a0 x1) := by
  unfold p11_mustBeSightings_J16
  refine g_iconst (v := 0) B dX11_mustBeSightings_16 (by decide) ?_
  refine g_sub (lv' := [(0, .ref a0), (1, .int x1)]) [0, 1] rfl ?_
  exact g11_mustBeSightings_J17 B hS9 hr hfl hxt a0 x1 0
set_option maxRecDepth 20000 in
set_option maxHeartbeats 2000000 in
theorem g11_mustBeSightings {X : gX} {p : Program} {l : Launch} {e : Env} {s : State} {m : MethodId} {args : Array Value} {below : List Frame} {meth : Method} {c : Code} (B : gB X p (rm11_mustBeSightings) s m args meth c RX11 cX11_mustBeSightings 4 (rm11_mustBeSightings)) (hS9 : gS X s) (hr : meth.sig.returnType = none) (hfl : l.stackTraces = false) (hxt : ∀ x ∈ c.exceptionTable.toList, False) {M : mMem} (a0 : Nat) (x1 : Int32) : GG X p l e (rm11_mustBeSightings) s m args below meth c (gxP X below args s 1 6 (fun _ : Unit => (none, M))) 4 0 0 0 [(0, .ref a0), (1, .int x1)] [] M (p11_mustBeSightings a0 x1 M) := by
  unfold p11_mustBeSightings
  refine g_gd ?_
  refine g_iload_n B dX11_mustBeSightings_0 1 rfl ?_
  refine g_bipush (v := 40) B dX11_mustBeSightings_1 (by decide) ?_
  refine g_icmp_gt B 16 dX11_mustBeSightings_3 (by decide) ?_ ?_
  · refine g_sub (lv' := [(0, .ref a0), (1, .int x1)]) [0, 1] rfl ?_
    exact g11_mustBeSightings_J16 B hS9 hr hfl hxt a0 x1
  · refine g_iload_n B dX11_mustBeSightings_6 1 rfl ?_
    refine g_iconst (v := 2) B dX11_mustBeSightings_7 (by decide) ?_
    refine g_irem B dX11_mustBeSightings_8 (fun v_1 => ?_)
    refine g_if_ne B 16 dX11_mustBeSightings_9 (by decide) ?_ ?_
    · refine g_iconst (v := 1) B dX11_mustBeSightings_12 (by decide) ?_
      refine g_goto B 17 dX11_mustBeSightings_13 (by decide) ?_
      refine g_sub (lv' := [(0, .ref a0), (1, .int x1)]) [0, 1] rfl ?_
      exact g11_mustBeSightings_J17 B hS9 hr hfl hxt a0 x1 1
    · refine g_sub (lv' := [(0, .ref a0), (1, .int x1)]) [0, 1] rfl ?_
      exact g11_mustBeSightings_J16 B hS9 hr hfl hxt a0 x1
theorem c11_mustBeSightings (X : gX) (l : Launch) (hfl : l.stackTraces = false) (a0 : Nat) (x1 : Int32) (M : mMem) : xCon X l yX11_mustBeSightings cX11_mustBeSightings 4 (none) rm11_mustBeSightings (fun _ : Unit => (none, M)) [.ref a0, .int x1] M (p11_mustBeSightings a0 x1 M) := g_xcon (own := RX11) (by decide +kernel) rfl (Nat.le_of_ble_eq_true rfl) (fun p e s m args below meth c B hS9 hr hxt => g11_mustBeSightings B hS9 hr hfl hxt a0 x1)
theorem mf11_ask : gMF yX11_ask cX11_ask 3 (some .int) 1 := ⟨wd_1404, wd_1, ⟨by decide, by decide⟩, by decide +kernel⟩
set_option maxRecDepth 20000 in
set_option maxHeartbeats 2000000 in
theorem g11_ask {X : gX} {p : Program} {l : Launch} {e : Env} {s : State} {m : MethodId} {args : Array Value} {below : List Frame} {meth : Method} {c : Code} (B : gB X p (rm11_ask) s m args meth c RX11 cX11_ask 3 (rm11_ask)) (hS9 : gS X s) (hr : meth.sig.returnType = some .int) (hfl : l.stackTraces = false) (hxt : ∀ x ∈ c.exceptionTable.toList, False) (a0 : Nat) (x1 : Int32) (M : mMem) : GG X p l e (rm11_ask) s m args below meth c (gxP X below args s 2 12 (fun r9 : (Int32 × mMem) => (some (.int r9.1), r9.2))) 3 0 0 0 [(0, .ref a0), (1, .int x1)] [] M (p11_ask a0 x1 M) := by
  unfold p11_ask
  refine g_gd ?_
  refine g_aload_n B dX11_ask_0 0 rfl ?_
  refine g_callV_iw [] (ci := 10) (T0 := TX11) (N := 18) B hS9 mf11_usedTape wd_734 (gw B wp_10) wd_732 (by decide) rfl (fun h => (gd_ne h).1) (c11_usedTape X l a0 M) (by decide) (by decide) (by decide) rfl (by decide) dX11_ask_1 rfl (fun q_1 => ?_)
  refine g_istore_n (lv' := [(2, .int q_1.1), (0, .ref a0), (1, .int x1)]) B dX11_ask_4 (by decide) [0, 1, 2] rfl ?_
  refine g_aload_n B dX11_ask_5 1 rfl ?_
  refine g_iload_n B dX11_ask_6 2 rfl ?_
  refine g_xcallV [.int x1] (ci := 10) (T0 := TX11) (N := 18) B hS9 hxt mf11_mustBe wd_1085 (gw B wp_23) wd_1083 (by decide) rfl (fun h => (gd_ne h).1) (c11_mustBe X l hfl a0 x1 q_1.2) (by decide) (by decide) (by decide) (by decide) rfl (by decide) dX11_ask_7 rfl (fun v_2 => ?_)
  refine g_aload_n B dX11_ask_10 1 rfl ?_
  refine g_iload_n B dX11_ask_11 0 rfl ?_
  refine g_xcallV [.int q_1.1] (ci := 10) (T0 := TX11) (N := 18) B hS9 hxt mf11_mustBeSightings wd_1387 (gw B wp_31) wd_1385 (by decide) rfl (fun h => (gd_ne h).1) (c11_mustBeSightings X l hfl a0 q_1.1 q_1.2) (by decide) (by decide) (by decide) (by decide) rfl (by decide) dX11_ask_12 rfl (fun v_3 => ?_)
  refine g_aload_n B dX11_ask_15 1 rfl ?_
  refine g_getR (ci := 10) (T0 := TX11) (N := 18) B (by decide) rfl in_10 (k := 15) (by decide) rfl wd_397 (fun _ h => h) dX11_ask_16 (fun v_4 => ?_)
  refine g_iload_n B dX11_ask_19 2 rfl ?_
  refine g_aload_n B dX11_ask_20 1 rfl ?_
  refine g_getR (ci := 10) (T0 := TX11) (N := 18) B (by decide) rfl in_10 (k := 0) (by decide) rfl wd_382 (fun _ h => h) dX11_ask_21 (fun v_5 => ?_)
  refine g_iload_n B dX11_ask_24 0 rfl ?_
  refine g_callV_iw [.int x1, .ref v_5, .int q_1.1] (ci := 0) (T0 := TX0) (N := 8) B hS9 mf0_bestToAsk wd_1406 (gw B wd_1407) wd_1405 (by decide) rfl (fun h => (gd_ne h).1) (c0_bestToAsk X l v_4 x1 v_5 q_1.1 q_1.2) (by decide) (by decide) (by decide) rfl (by decide) dX11_ask_25 rfl (fun q_6 => ?_)
  refine g_xr ?_
  exact g_ireturn B hr rfl (by decide) (by decide) rfl dX11_ask_28
theorem c11_ask (X : gX) (l : Launch) (hfl : l.stackTraces = false) (a0 : Nat) (x1 : Int32) (M : mMem) : xCon X l yX11_ask cX11_ask 3 (some .int) rm11_ask (fun r9 : (Int32 × mMem) => (some (.int r9.1), r9.2)) [.ref a0, .int x1] M (p11_ask a0 x1 M) := g_xcon (own := RX11) (by decide +kernel) rfl (Nat.le_of_ble_eq_true rfl) (fun p e s m args below meth c B hS9 hr hxt => g11_ask B hS9 hr hfl hxt a0 x1 M)
theorem mf11_mustHold : gMF yX11_mustHold cX11_mustHold 1 (none) 1 := ⟨wd_1172, wd_1, ⟨by decide, by decide⟩, by decide +kernel⟩
set_option maxRecDepth 20000 in
set_option maxHeartbeats 2000000 in
theorem g11_mustHold {X : gX} {p : Program} {l : Launch} {e : Env} {s : State} {m : MethodId} {args : Array Value} {below : List Frame} {meth : Method} {c : Code} (B : gB X p (rm11_mustHold) s m args meth c RX11 cX11_mustHold 1 (rm11_mustHold)) (hS9 : gS X s) (hr : meth.sig.returnType = none) (hfl : l.stackTraces = false) (hxt : ∀ x ∈ c.exceptionTable.toList, False) {M : mMem} (x0 : Int32) : GG X p l e (rm11_mustHold) s m args below meth c (gxP X below args s 1 6 (fun _ : Unit => (none, M))) 1 0 0 0 [(0, .int x0)] [] M (p11_mustHold x0 M) := by
  unfold p11_mustHold
  refine g_iload_n B dX11_mustHold_0 0 rfl ?_
  refine g_if_ne B 14 dX11_mustHold_1 (by decide) ?_ ?_
  · exact g_throwS (k := 1) (text := "it cannot be") (i := 32) B hS9 hfl hxt (by decide) (by decide +kernel) wd_1173 wd_27 (List.mem_of_getElem? (i := 59) rfl) ta_RX11_164 tb_RX11_164 tc_RX11_164 dX11_mustHold_4 dX11_mustHold_7 dX11_mustHold_8 dX11_mustHold_10 dX11_mustHold_13 (by decide) (Nat.le_of_ble_eq_true rfl) (by decide) (by decide)
  · refine g_xr ?_
    exact g_vreturn B hr (by decide) (by decide) rfl dX11_mustHold_14
theorem c11_mustHold (X : gX) (l : Launch) (hfl : l.stackTraces = false) (x0 : Int32) (M : mMem) : xCon X l yX11_mustHold cX11_mustHold 1 (none) rm11_mustHold (fun _ : Unit => (none, M)) [.int x0] M (p11_mustHold x0 M) := g_xcon (own := RX11) (by decide +kernel) rfl (Nat.le_of_ble_eq_true rfl) (fun p e s m args below meth c B hS9 hr hxt => g11_mustHold B hS9 hr hfl hxt x0)
theorem mf11_bear : gMF yX11_bear cX11_bear 4 (some .int) 2 := ⟨wd_1200, wd_1, ⟨by decide, by decide⟩, by decide +kernel⟩
set_option maxRecDepth 20000 in
set_option maxHeartbeats 2000000 in
theorem g11_bear_J57 {X : gX} {p : Program} {l : Launch} {e : Env} {s : State} {m : MethodId} {args : Array Value} {below : List Frame} {meth : Method} {c : Code} (B : gB X p (rm11_bear) s m args meth c RX11 cX11_bear 4 (rm11_bear)) (hS9 : gS X s) (hr : meth.sig.returnType = some .int) (hfl : l.stackTraces = false) (hxt : ∀ x ∈ c.exceptionTable.toList, False) (a0 : Nat) (x1 : Int32) (b0 : Nat) (u1 : Int32) (M : mMem) : GG X p l e (rm11_bear) s m args below meth c (gxP X below args s 2 12 (fun r9 : (Int32 × mMem) => (some (.int r9.1), r9.2))) 4 2 12 57 [(0, .ref a0), (1, .int x1)] [.int u1, .ref b0] M (p11_bear_J57 a0 x1 b0 u1 M) := by
  unfold p11_bear_J57
  refine g_aload_n B dX11_bear_57 0 rfl ?_
  refine g_getR (ci := 10) (T0 := TX11) (N := 18) B (by decide) rfl in_10 (k := 3) (by decide) rfl wd_385 (fun _ h => h) dX11_bear_58 (fun v_1 => ?_)
  refine g_getI (ci := 2) (T0 := TX2) (N := 11) B (by decide) rfl in_2 (k := 5) (by decide) rfl wd_149 (fun _ h => h) dX11_bear_61 (fun v_2 => ?_)
  refine g_iconst (v := 2) B dX11_bear_64 (by decide) ?_
  refine g_idiv B dX11_bear_65 (fun v_3 => ?_)
  refine g_iload_n B dX11_bear_66 1 rfl ?_
  refine g_callV_iw [.int u1, .int v_3, .int x1] (ci := 2) (T0 := TX2) (N := 11) B hS9 mf2_add wd_892 (gw B wd_893) wd_1201 (by decide) rfl (fun h => (gd_ne h).1) (c2_add X l b0 u1 v_3 x1 M) (by decide) (by decide) (by decide) rfl (by decide) dX11_bear_67 rfl (fun q_4 => ?_)
  refine g_istore_n (lv' := [(3, .int q_4.1), (0, .ref a0), (1, .int x1)]) B dX11_bear_70 (by decide) [0, 1, 2] rfl ?_
  refine g_aload_n B dX11_bear_71 1 rfl ?_
  refine g_getR (ci := 10) (T0 := TX11) (N := 18) B (by decide) rfl in_10 (k := 3) (by decide) rfl wd_385 (fun _ h => h) dX11_bear_72 (fun v_5 => ?_)
  refine g_iload_n B dX11_bear_75 2 rfl ?_
  refine g_iload_n B dX11_bear_76 0 rfl ?_
  refine g_iconst (v := 1) B dX11_bear_77 (by decide) ?_
  refine g_callV_vw [.int x1, .int q_4.1, .int 1] (ci := 2) (T0 := TX2) (N := 11) B hS9 mf2_setGoverns wd_905 (gw B wd_906) wd_1202 (by decide) rfl (fun h => (gd_ne h).1) (c2_setGoverns X l v_5 x1 q_4.1 1 q_4.2) (by decide) (by decide) (by decide) rfl (by decide) dX11_bear_78 rfl (fun q_6 => ?_)
  refine g_iload_n B dX11_bear_81 0 rfl ?_
  refine g_xr ?_
  exact g_ireturn B hr rfl (by decide) (by decide) rfl dX11_bear_82
set_option maxRecDepth 20000 in
set_option maxHeartbeats 2000000 in
theorem g11_bear_J37 {X : gX} {p : Program} {l : Launch} {e : Env} {s : State} {m : MethodId} {args : Array Value} {below : List Frame} {meth : Method} {c : Code} (B : gB X p (rm11_bear) s m args meth c RX11 cX11_bear 4 (rm11_bear)) (hS9 : gS X s) (hr : meth.sig.returnType = some .int) (hfl : l.stackTraces = false) (hxt : ∀ x ∈ c.exceptionTable.toList, False) (a0 : Nat) (x1 : Int32) (x2 : Int32) (u0 : Int32) (M : mMem) : GG X p l e (rm11_bear) s m args below meth c (gxP X below args s 2 12 (fun r9 : (Int32 × mMem) => (some (.int r9.1), r9.2))) 4 1 6 37 [(0, .ref a0), (1, .int x1), (2, .int x2)] [.int u0] M (p11_bear_J37 a0 x1 x2 u0 M) := by
  unfold p11_bear_J37
  refine g_xcallS [.int u0] B hS9 hxt mf11_mustHold wd_1171 wd_1170 (c11_mustHold X l hfl u0 M) (by decide) (by decide) (by decide) (by decide) rfl (by decide) dX11_bear_37 rfl (fun v_1 => ?_)
  refine g_aload_n B dX11_bear_40 0 rfl ?_
  refine g_callV_vw [] (ci := 10) (T0 := TX11) (N := 18) B hS9 mf11_remember wd_1191 (gw B wp_25) wd_1189 (by decide) rfl (fun h => (gd_ne h).1) (c11_remember X l a0 M) (by decide) (by decide) (by decide) rfl (by decide) dX11_bear_41 rfl (fun q_2 => ?_)
  refine g_aload_n B dX11_bear_44 0 rfl ?_
  refine g_getR (ci := 10) (T0 := TX11) (N := 18) B (by decide) rfl in_10 (k := 3) (by decide) rfl wd_385 (fun _ h => h) dX11_bear_45 (fun v_3 => ?_)
  refine g_iload_n B dX11_bear_48 2 rfl ?_
  refine g_if_eq B 56 dX11_bear_49 (by decide) ?_ ?_
  · refine g_iconst (v := 0) B dX11_bear_56 (by decide) ?_
    refine g_sub (lv' := [(0, .ref a0), (1, .int x1)]) [0, 1] rfl ?_
    exact g11_bear_J57 B hS9 hr hfl hxt a0 x1 v_3 0 q_2
  · refine g_iconst (v := 1) B dX11_bear_52 (by decide) ?_
    refine g_goto B 57 dX11_bear_53 (by decide) ?_
    refine g_sub (lv' := [(0, .ref a0), (1, .int x1)]) [0, 1] rfl ?_
    exact g11_bear_J57 B hS9 hr hfl hxt a0 x1 v_3 1 q_2
set_option maxRecDepth 20000 in
set_option maxHeartbeats 2000000 in
theorem g11_bear_J36 {X : gX} {p : Program} {l : Launch} {e : Env} {s : State} {m : MethodId} {args : Array Value} {below : List Frame} {meth : Method} {c : Code} (B : gB X p (rm11_bear) s m args meth c RX11 cX11_bear 4 (rm11_bear)) (hS9 : gS X s) (hr : meth.sig.returnType = some .int) (hfl : l.stackTraces = false) (hxt : ∀ x ∈ c.exceptionTable.toList, False) (a0 : Nat) (x1 : Int32) (x2 : Int32) (M : mMem) : GG X p l e (rm11_bear) s m args below meth c (gxP X below args s 2 12 (fun r9 : (Int32 × mMem) => (some (.int r9.1), r9.2))) 4 1 6 36 [(0, .ref a0), (1, .int x1), (2, .int x2)] [] M (p11_bear_J36 a0 x1 x2 M) := by
  unfold p11_bear_J36
  refine g_iconst (v := 0) B dX11_bear_36 (by decide) ?_
  refine g_sub (lv' := [(0, .ref a0), (1, .int x1), (2, .int x2)]) [0, 1, 2] rfl ?_
  exact g11_bear_J37 B hS9 hr hfl hxt a0 x1 x2 0 M
set_option maxRecDepth 20000 in
set_option maxHeartbeats 2000000 in
theorem g11_bear {X : gX} {p : Program} {l : Launch} {e : Env} {s : State} {m : MethodId} {args : Array Value} {below : List Frame} {meth : Method} {c : Code} (B : gB X p (rm11_bear) s m args meth c RX11 cX11_bear 4 (rm11_bear)) (hS9 : gS X s) (hr : meth.sig.returnType = some .int) (hfl : l.stackTraces = false) (hxt : ∀ x ∈ c.exceptionTable.toList, False) (a0 : Nat) (x1 : Int32) (x2 : Int32) (M : mMem) : GG X p l e (rm11_bear) s m args below meth c (gxP X below args s 2 12 (fun r9 : (Int32 × mMem) => (some (.int r9.1), r9.2))) 4 0 0 0 [(0, .ref a0), (1, .int x1), (2, .int x2)] [] M (p11_bear a0 x1 x2 M) := by
  unfold p11_bear
  refine g_gd ?_
  refine g_aload_n B dX11_bear_0 0 rfl ?_
  refine g_iload_n B dX11_bear_1 1 rfl ?_
  refine g_xcallV [.int x1] (ci := 10) (T0 := TX11) (N := 18) B hS9 hxt mf11_mustBe wd_1085 (gw B wp_23) wd_1083 (by decide) rfl (fun h => (gd_ne h).1) (c11_mustBe X l hfl a0 x1 M) (by decide) (by decide) (by decide) (by decide) rfl (by decide) dX11_bear_2 rfl (fun v_1 => ?_)
  refine g_aload_n B dX11_bear_5 0 rfl ?_
  refine g_getR (ci := 10) (T0 := TX11) (N := 18) B (by decide) rfl in_10 (k := 3) (by decide) rfl wd_385 (fun _ h => h) dX11_bear_6 (fun v_2 => ?_)
  refine g_iload_n B dX11_bear_9 1 rfl ?_
  refine g_callV_ap [.int x1] (ci := 2) (T0 := TX2) (N := 11) B hS9 mf2_at wd_466 (gw B wd_467) wd_629 (by decide) rfl (fun h => (gd_ne h).1) (c2_at X l v_2 x1 M) (by decide) (by decide) (by decide) rfl (by decide) dX11_bear_10 rfl (fun v_3 => ?_)
  refine g_getI (ci := 8) (T0 := TX8) (N := 9) B (by decide) rfl in_8 (k := 2) (by decide) rfl wd_67 (fun _ h => h) dX11_bear_13 (fun v_4 => ?_)
  refine g_iconst (v := 1) B dX11_bear_16 (by decide) ?_
  refine g_icmp_ne B 36 dX11_bear_17 (by decide) ?_ ?_
  · refine g_aload_n B dX11_bear_20 0 rfl ?_
    refine g_getR (ci := 10) (T0 := TX11) (N := 18) B (by decide) rfl in_10 (k := 3) (by decide) rfl wd_385 (fun _ h => h) dX11_bear_21 (fun v_5 => ?_)
    refine g_getI (ci := 2) (T0 := TX2) (N := 11) B (by decide) rfl in_2 (k := 4) (by decide) rfl wd_145 (fun _ h => h) dX11_bear_24 (fun v_6 => ?_)
    refine g_bipush (v := 8) B dX11_bear_27 (by decide) ?_
    refine g_icmp_ge B 36 dX11_bear_29 (by decide) ?_ ?_
    · refine g_iconst (v := 1) B dX11_bear_32 (by decide) ?_
      refine g_goto B 37 dX11_bear_33 (by decide) ?_
      refine g_sub (lv' := [(0, .ref a0), (1, .int x1), (2, .int x2)]) [0, 1, 2] rfl ?_
      exact g11_bear_J37 B hS9 hr hfl hxt a0 x1 x2 1 M
    · refine g_sub (lv' := [(0, .ref a0), (1, .int x1), (2, .int x2)]) [0, 1, 2] rfl ?_
      exact g11_bear_J36 B hS9 hr hfl hxt a0 x1 x2 M
  · refine g_sub (lv' := [(0, .ref a0), (1, .int x1), (2, .int x2)]) [0, 1, 2] rfl ?_
    exact g11_bear_J36 B hS9 hr hfl hxt a0 x1 x2 M
theorem c11_bear (X : gX) (l : Launch) (hfl : l.stackTraces = false) (a0 : Nat) (x1 : Int32) (x2 : Int32) (M : mMem) : xCon X l yX11_bear cX11_bear 4 (some .int) rm11_bear (fun r9 : (Int32 × mMem) => (some (.int r9.1), r9.2)) [.ref a0, .int x1, .int x2] M (p11_bear a0 x1 x2 M) := g_xcon (own := RX11) (by decide +kernel) rfl (Nat.le_of_ble_eq_true rfl) (fun p e s m args below meth c B hS9 hr hxt => g11_bear B hS9 hr hfl hxt a0 x1 x2 M)
theorem mf11_branch : gMF yX11_branch cX11_branch 2 (some .int) 1 := ⟨wd_1515, wd_1, ⟨by decide, by decide⟩, by decide +kernel⟩
set_option maxRecDepth 20000 in
set_option maxHeartbeats 2000000 in
theorem g11_branch {X : gX} {p : Program} {l : Launch} {e : Env} {s : State} {m : MethodId} {args : Array Value} {below : List Frame} {meth : Method} {c : Code} (B : gB X p (rm11_branch) s m args meth c RX11 cX11_branch 2 (rm11_branch)) (hS9 : gS X s) (hr : meth.sig.returnType = some .int) (hfl : l.stackTraces = false) (hxt : ∀ x ∈ c.exceptionTable.toList, False) {M : mMem} (a0 : Nat) (x1 : Int32) : GG X p l e (rm11_branch) s m args below meth c (gxP X below args s 1 6 (fun r9 : Int32 => (some (.int r9), M))) 2 0 0 0 [(0, .ref a0), (1, .int x1)] [] M (p11_branch a0 x1 M) := by
  unfold p11_branch
  refine g_gd ?_
  refine g_aload_n B dX11_branch_0 0 rfl ?_
  refine g_iload_n B dX11_branch_1 1 rfl ?_
  refine g_xcallV [.int x1] (ci := 10) (T0 := TX11) (N := 18) B hS9 hxt mf11_mustBe wd_1085 (gw B wp_23) wd_1083 (by decide) rfl (fun h => (gd_ne h).1) (c11_mustBe X l hfl a0 x1 M) (by decide) (by decide) (by decide) (by decide) rfl (by decide) dX11_branch_2 rfl (fun v_1 => ?_)
  refine g_aload_n B dX11_branch_5 0 rfl ?_
  refine g_getR (ci := 10) (T0 := TX11) (N := 18) B (by decide) rfl in_10 (k := 17) (by decide) rfl wd_399 (fun _ h => h) dX11_branch_6 (fun v_2 => ?_)
  refine g_iload_n B dX11_branch_9 1 rfl ?_
  refine g_callV_ip [.int x1] (ci := 9) (T0 := TX10) (N := 1) B hS9 mf10_branchOf wd_640 (gw B wd_641) wd_1516 (by decide) rfl (fun h => (gd_ne h).1) (c10_branchOf X l v_2 x1 M) (by decide) (by decide) (by decide) rfl (by decide) dX11_branch_10 rfl (fun v_3 => ?_)
  refine g_xr ?_
  exact g_ireturn B hr rfl (by decide) (by decide) rfl dX11_branch_13
theorem c11_branch (X : gX) (l : Launch) (hfl : l.stackTraces = false) (a0 : Nat) (x1 : Int32) (M : mMem) : xCon X l yX11_branch cX11_branch 2 (some .int) rm11_branch (fun r9 : Int32 => (some (.int r9), M)) [.ref a0, .int x1] M (p11_branch a0 x1 M) := g_xcon (own := RX11) (by decide +kernel) rfl (Nat.le_of_ble_eq_true rfl) (fun p e s m args below meth c B hS9 hr hxt => g11_branch B hS9 hr hfl hxt a0 x1)
theorem mf11_can : gMF yX11_can cX11_can 3 (some .int) 2 := ⟨wd_1344, wd_1, ⟨by decide, by decide⟩, by decide +kernel⟩
set_option maxRecDepth 20000 in
set_option maxHeartbeats 2000000 in
theorem g11_can {X : gX} {p : Program} {l : Launch} {e : Env} {s : State} {m : MethodId} {args : Array Value} {below : List Frame} {meth : Method} {c : Code} (B : gB X p (rm11_can) s m args meth c RX11 cX11_can 3 (rm11_can)) (hS9 : gS X s) (hr : meth.sig.returnType = some .int) (hfl : l.stackTraces = false) (hxt : ∀ x ∈ c.exceptionTable.toList, False) (a0 : Nat) (x1 : Int32) (x2 : Int32) (M : mMem) : GG X p l e (rm11_can) s m args below meth c (gxP X below args s 2 12 (fun r9 : (Int32 × mMem) => (some (.int r9.1), r9.2))) 3 0 0 0 [(0, .ref a0), (1, .int x1), (2, .int x2)] [] M (p11_can a0 x1 x2 M) := by
  unfold p11_can
  refine g_gd ?_
  refine g_aload_n B dX11_can_0 0 rfl ?_
  refine g_iload_n B dX11_can_1 1 rfl ?_
  refine g_xcallV [.int x1] (ci := 10) (T0 := TX11) (N := 18) B hS9 hxt mf11_mustBe wd_1085 (gw B wp_23) wd_1083 (by decide) rfl (fun h => (gd_ne h).1) (c11_mustBe X l hfl a0 x1 M) (by decide) (by decide) (by decide) (by decide) rfl (by decide) dX11_can_2 rfl (fun v_1 => ?_)
  refine g_iload_n B dX11_can_5 2 rfl ?_
  refine g_iconst (v := 0) B dX11_can_6 (by decide) ?_
  refine g_bipush (v := 20) B dX11_can_7 (by decide) ?_
  refine g_xcallS [.int x2, .int 0, .int 20] B hS9 hxt mf11_mustLie wd_1253 wd_1252 (c11_mustLie X l hfl x2 0 20 M) (by decide) (by decide) (by decide) (by decide) rfl (by decide) dX11_can_9 rfl (fun v_2 => ?_)
  refine g_aload_n B dX11_can_12 0 rfl ?_
  refine g_getR (ci := 10) (T0 := TX11) (N := 18) B (by decide) rfl in_10 (k := 15) (by decide) rfl wd_397 (fun _ h => h) dX11_can_13 (fun v_3 => ?_)
  refine g_iload_n B dX11_can_16 1 rfl ?_
  refine g_iload_n B dX11_can_17 2 rfl ?_
  refine g_callV_iw [.int x1, .int x2] (ci := 0) (T0 := TX0) (N := 8) B hS9 mf0_within wd_1346 (gw B wd_1347) wd_1345 (by decide) rfl (fun h => (gd_ne h).1) (c0_within X l v_3 x1 x2 M) (by decide) (by decide) (by decide) rfl (by decide) dX11_can_18 rfl (fun q_4 => ?_)
  refine g_xr ?_
  exact g_ireturn B hr rfl (by decide) (by decide) rfl dX11_can_21
theorem c11_can (X : gX) (l : Launch) (hfl : l.stackTraces = false) (a0 : Nat) (x1 : Int32) (x2 : Int32) (M : mMem) : xCon X l yX11_can cX11_can 3 (some .int) rm11_can (fun r9 : (Int32 × mMem) => (some (.int r9.1), r9.2)) [.ref a0, .int x1, .int x2] M (p11_can a0 x1 x2 M) := g_xcon (own := RX11) (by decide +kernel) rfl (Nat.le_of_ble_eq_true rfl) (fun p e s m args below meth c B hS9 hr hxt => g11_can B hS9 hr hfl hxt a0 x1 x2 M)
theorem mf11_cousins : gMF yX11_cousins cX11_cousins 2 (some .int) 1 := ⟨wd_1538, wd_1, ⟨by decide, by decide⟩, by decide +kernel⟩
set_option maxRecDepth 20000 in
set_option maxHeartbeats 2000000 in
theorem g11_cousins {X : gX} {p : Program} {l : Launch} {e : Env} {s : State} {m : MethodId} {args : Array Value} {below : List Frame} {meth : Method} {c : Code} (B : gB X p (rm11_cousins) s m args meth c RX11 cX11_cousins 2 (rm11_cousins)) (hS9 : gS X s) (hr : meth.sig.returnType = some .int) (hfl : l.stackTraces = false) (hxt : ∀ x ∈ c.exceptionTable.toList, False) {M : mMem} (a0 : Nat) (x1 : Int32) : GG X p l e (rm11_cousins) s m args below meth c (gxP X below args s 1 6 (fun r9 : Int32 => (some (.int r9), M))) 2 0 0 0 [(0, .ref a0), (1, .int x1)] [] M (p11_cousins a0 x1 M) := by
  unfold p11_cousins
  refine g_gd ?_
  refine g_aload_n B dX11_cousins_0 0 rfl ?_
  refine g_iload_n B dX11_cousins_1 1 rfl ?_
  refine g_xcallV [.int x1] (ci := 10) (T0 := TX11) (N := 18) B hS9 hxt mf11_mustBe wd_1085 (gw B wp_23) wd_1083 (by decide) rfl (fun h => (gd_ne h).1) (c11_mustBe X l hfl a0 x1 M) (by decide) (by decide) (by decide) (by decide) rfl (by decide) dX11_cousins_2 rfl (fun v_1 => ?_)
  refine g_aload_n B dX11_cousins_5 0 rfl ?_
  refine g_getR (ci := 10) (T0 := TX11) (N := 18) B (by decide) rfl in_10 (k := 17) (by decide) rfl wd_399 (fun _ h => h) dX11_cousins_6 (fun v_2 => ?_)
  refine g_iload_n B dX11_cousins_9 1 rfl ?_
  refine g_callV_ip [.int x1] (ci := 9) (T0 := TX10) (N := 1) B hS9 mf10_cousinsOf wd_1540 (gw B wd_1541) wd_1539 (by decide) rfl (fun h => (gd_ne h).1) (c10_cousinsOf X l v_2 x1 M) (by decide) (by decide) (by decide) rfl (by decide) dX11_cousins_10 rfl (fun v_3 => ?_)
  refine g_xr ?_
  exact g_ireturn B hr rfl (by decide) (by decide) rfl dX11_cousins_13
theorem c11_cousins (X : gX) (l : Launch) (hfl : l.stackTraces = false) (a0 : Nat) (x1 : Int32) (M : mMem) : xCon X l yX11_cousins cX11_cousins 2 (some .int) rm11_cousins (fun r9 : Int32 => (some (.int r9), M)) [.ref a0, .int x1] M (p11_cousins a0 x1 M) := g_xcon (own := RX11) (by decide +kernel) rfl (Nat.le_of_ble_eq_true rfl) (fun p e s m args below meth c B hS9 hr hxt => g11_cousins B hS9 hr hfl hxt a0 x1)
theorem mf11_days : gMF yX11_days cX11_days 2 (some .int) 1 := ⟨wd_1262, wd_1, ⟨by decide, by decide⟩, by decide +kernel⟩
set_option maxRecDepth 20000 in
set_option maxHeartbeats 2000000 in
theorem g11_days {X : gX} {p : Program} {l : Launch} {e : Env} {s : State} {m : MethodId} {args : Array Value} {below : List Frame} {meth : Method} {c : Code} (B : gB X p (rm11_days) s m args meth c RX11 cX11_days 2 (rm11_days)) (hS9 : gS X s) (hr : meth.sig.returnType = some .int) (hfl : l.stackTraces = false) (hxt : ∀ x ∈ c.exceptionTable.toList, False) (a0 : Nat) (x1 : Int32) (M : mMem) : GG X p l e (rm11_days) s m args below meth c (gxP X below args s 1 6 (fun r9 : (Int32 × mMem) => (some (.int r9.1), r9.2))) 2 0 0 0 [(0, .ref a0), (1, .int x1)] [] M (p11_days a0 x1 M) := by
  unfold p11_days
  refine g_gd ?_
  refine g_iload_n B dX11_days_0 1 rfl ?_
  refine g_iconst (v := 1) B dX11_days_1 (by decide) ?_
  refine g_bipush (v := 100) B dX11_days_2 (by decide) ?_
  refine g_xcallS [.int x1, .int 1, .int 100] B hS9 hxt mf11_mustLie wd_1253 wd_1252 (c11_mustLie X l hfl x1 1 100 M) (by decide) (by decide) (by decide) (by decide) rfl (by decide) dX11_days_4 rfl (fun v_1 => ?_)
  refine g_aload_n B dX11_days_7 0 rfl ?_
  refine g_callV_vw [] (ci := 10) (T0 := TX11) (N := 18) B hS9 mf11_remember wd_1191 (gw B wp_25) wd_1189 (by decide) rfl (fun h => (gd_ne h).1) (c11_remember X l a0 M) (by decide) (by decide) (by decide) rfl (by decide) dX11_days_8 rfl (fun q_2 => ?_)
  refine g_aload_n B dX11_days_11 0 rfl ?_
  refine g_getR (ci := 10) (T0 := TX11) (N := 18) B (by decide) rfl in_10 (k := 14) (by decide) rfl wd_396 (fun _ h => h) dX11_days_12 (fun v_3 => ?_)
  refine g_aload_n B dX11_days_15 0 rfl ?_
  refine g_getR (ci := 10) (T0 := TX11) (N := 18) B (by decide) rfl in_10 (k := 3) (by decide) rfl wd_385 (fun _ h => h) dX11_days_16 (fun v_4 => ?_)
  refine g_iload_n B dX11_days_19 1 rfl ?_
  refine g_callV_iw [.ref v_4, .int x1] (ci := 1) (T0 := TX1) (N := 3) B hS9 mf1_pass wd_1264 (gw B wd_1265) wd_1263 (by decide) rfl (fun h => (gd_ne h).1) (c1_pass X l v_3 v_4 x1 q_2) (by decide) (by decide) (by decide) rfl (by decide) dX11_days_20 rfl (fun q_5 => ?_)
  refine g_xr ?_
  exact g_ireturn B hr rfl (by decide) (by decide) rfl dX11_days_23
theorem c11_days (X : gX) (l : Launch) (hfl : l.stackTraces = false) (a0 : Nat) (x1 : Int32) (M : mMem) : xCon X l yX11_days cX11_days 2 (some .int) rm11_days (fun r9 : (Int32 × mMem) => (some (.int r9.1), r9.2)) [.ref a0, .int x1] M (p11_days a0 x1 M) := g_xcon (own := RX11) (by decide +kernel) rfl (Nat.le_of_ble_eq_true rfl) (fun p e s m args below meth c B hS9 hr hxt => g11_days B hS9 hr hfl hxt a0 x1 M)
theorem mf11_family : gMF yX11_family cX11_family 1 (some .int) 0 := ⟨wd_731, wd_1, ⟨by decide, by decide⟩, by decide +kernel⟩
set_option maxRecDepth 20000 in
set_option maxHeartbeats 2000000 in
theorem g11_family {X : gX} {p : Program} {l : Launch} {e : Env} {s : State} {m : MethodId} {args : Array Value} {below : List Frame} {meth : Method} {c : Code} (B : gB X p (rm11_family) s m args meth c RX11 cX11_family 1 (rm11_family)) (hS9 : gS X s) (hr : meth.sig.returnType = some .int) (hfl : l.stackTraces = false) (hxt : ∀ x ∈ c.exceptionTable.toList, False) (a0 : Nat) (M : mMem) : GG X p l e (rm11_family) s m args below meth c (gxP X below args s 2 12 (fun r9 : (Int32 × mMem) => (some (.int r9.1), r9.2))) 1 0 0 0 [(0, .ref a0)] [] M (p11_family a0 M) := by
  unfold p11_family
  refine g_gd ?_
  refine g_aload_n B dX11_family_0 0 rfl ?_
  refine g_getR (ci := 10) (T0 := TX11) (N := 18) B (by decide) rfl in_10 (k := 4) (by decide) rfl wd_386 (fun _ h => h) dX11_family_1 (fun v_1 => ?_)
  refine g_aload_n B dX11_family_4 0 rfl ?_
  refine g_getR (ci := 10) (T0 := TX11) (N := 18) B (by decide) rfl in_10 (k := 3) (by decide) rfl wd_385 (fun _ h => h) dX11_family_5 (fun v_2 => ?_)
  refine g_callV_vw [.ref v_2] (ci := 2) (T0 := TX2) (N := 11) B hS9 mf2_take wd_462 (gw B wd_463) wd_693 (by decide) rfl (fun h => (gd_ne h).1) (c2_take X l v_1 v_2 M) (by decide) (by decide) (by decide) rfl (by decide) dX11_family_8 rfl (fun q_3 => ?_)
  refine g_aload_n B dX11_family_11 0 rfl ?_
  refine g_aload_n B dX11_family_12 0 rfl ?_
  refine g_getR (ci := 10) (T0 := TX11) (N := 18) B (by decide) rfl in_10 (k := 7) (by decide) rfl wd_389 (fun _ h => h) dX11_family_13 (fun v_4 => ?_)
  refine g_aload_n B dX11_family_16 0 rfl ?_
  refine g_getR (ci := 10) (T0 := TX11) (N := 18) B (by decide) rfl in_10 (k := 0) (by decide) rfl wd_382 (fun _ h => h) dX11_family_17 (fun v_5 => ?_)
  refine g_aload_n B dX11_family_20 0 rfl ?_
  refine g_callV_iw [] (ci := 10) (T0 := TX11) (N := 18) B hS9 mf11_usedTape wd_734 (gw B wp_10) wd_732 (by decide) rfl (fun h => (gd_ne h).1) (c11_usedTape X l a0 q_3) (by decide) (by decide) (by decide) rfl (Nat.le_of_ble_eq_true rfl) dX11_family_21 rfl (fun q_6 => ?_)
  refine g_callU_iw (x := ⟨"CribLine$FamilyReader", "readText", "([II)I"⟩) (owner := "CribLine$Reader") [.ref v_5, .int q_6.1] (ci := 3) (T0 := TX3) (N := 9) B hS9 mf3_readText wd_740 (gw B wd_739) wd_736 wd_737 (va_Decl.of (gw B wd_740) (gw B wd_741)) (by decide +kernel) (by decide) rfl (fun h => (gd_ne h).1) (c3_readText X l v_4 v_5 q_6.1 q_6.2) (by decide) (by decide) (by decide) rfl (Nat.le_of_ble_eq_true rfl) dX11_family_24 rfl (fun q_7 => ?_)
  refine g_putI (ci := 10) (T0 := TX11) (N := 18) B (by decide) rfl in_10 tyX11 tyX11_ok nmX11 (k := 2) (by decide) wd_384 (fun _ h => h) rfl rfl (ty := .int) (by decide +kernel) rfl rfl dX11_family_27 (fun M_8 => ?_)
  refine g_aload_n B dX11_family_30 0 rfl ?_
  refine g_getI (ci := 10) (T0 := TX11) (N := 18) B (by decide) rfl in_10 (k := 2) (by decide) rfl wd_384 (fun _ h => h) dX11_family_31 (fun v_9 => ?_)
  refine g_iconst (v := (-1)) B dX11_family_34 (by decide) ?_
  refine g_icmp_eq B 48 dX11_family_35 (by decide) ?_ ?_
  · refine g_aload_n B dX11_family_48 0 rfl ?_
    refine g_getR (ci := 10) (T0 := TX11) (N := 18) B (by decide) rfl in_10 (k := 3) (by decide) rfl wd_385 (fun _ h => h) dX11_family_49 (fun v_10 => ?_)
    refine g_getI (ci := 2) (T0 := TX2) (N := 11) B (by decide) rfl in_2 (k := 10) (by decide) rfl wd_167 (fun _ h => h) dX11_family_52 (fun v_11 => ?_)
    refine g_bipush (v := 12) B dX11_family_55 (by decide) ?_
    refine g_icmp_lt B 70 dX11_family_57 (by decide) ?_ ?_
    · refine g_aload_n B dX11_family_70 0 rfl ?_
      refine g_getR (ci := 10) (T0 := TX11) (N := 18) B (by decide) rfl in_10 (k := 4) (by decide) rfl wd_386 (fun _ h => h) dX11_family_71 (fun v_12 => ?_)
      refine g_dup B dX11_family_74 rfl ?_
      refine g_getI (ci := 2) (T0 := TX2) (N := 11) B (by decide) rfl in_2 (k := 10) (by decide) rfl wd_167 (fun _ h => h) dX11_family_75 (fun v_13 => ?_)
      refine g_iconst (v := 1) B dX11_family_78 (by decide) ?_
      refine g_iadd B dX11_family_79 ?_
      refine g_putI (ci := 2) (T0 := TX2) (N := 11) B (by decide) rfl in_2 tyX2 tyX2_ok nmX2 (k := 10) (by decide) wd_167 (fun _ h => h) rfl rfl (ty := .int) (by decide +kernel) rfl rfl dX11_family_80 (fun M_14 => ?_)
      refine g_aload_n B dX11_family_83 0 rfl ?_
      refine g_getR (ci := 10) (T0 := TX11) (N := 18) B (by decide) rfl in_10 (k := 3) (by decide) rfl wd_385 (fun _ h => h) dX11_family_84 (fun v_15 => ?_)
      refine g_aload_n B dX11_family_87 0 rfl ?_
      refine g_getR (ci := 10) (T0 := TX11) (N := 18) B (by decide) rfl in_10 (k := 4) (by decide) rfl wd_386 (fun _ h => h) dX11_family_88 (fun v_16 => ?_)
      refine g_callV_vw [.ref v_16] (ci := 2) (T0 := TX2) (N := 11) B hS9 mf2_take wd_462 (gw B wd_463) wd_693 (by decide) rfl (fun h => (gd_ne h).1) (c2_take X l v_15 v_16 M_14) (by decide) (by decide) (by decide) rfl (by decide) dX11_family_91 rfl (fun q_17 => ?_)
      refine g_aload_n B dX11_family_94 0 rfl ?_
      refine g_iconst (v := 0) B dX11_family_95 (by decide) ?_
      refine g_putI (ci := 10) (T0 := TX11) (N := 18) B (by decide) rfl in_10 tyX11 tyX11_ok nmX11 (k := 10) (by decide) wd_392 (fun _ h => h) rfl rfl (ty := .int) (by decide +kernel) rfl rfl dX11_family_96 (fun M_18 => ?_)
      refine g_aload_n B dX11_family_99 0 rfl ?_
      refine g_getR (ci := 10) (T0 := TX11) (N := 18) B (by decide) rfl in_10 (k := 3) (by decide) rfl wd_385 (fun _ h => h) dX11_family_100 (fun v_19 => ?_)
      refine g_getI (ci := 2) (T0 := TX2) (N := 11) B (by decide) rfl in_2 (k := 10) (by decide) rfl wd_167 (fun _ h => h) dX11_family_103 (fun v_20 => ?_)
      refine g_xr ?_
      exact g_ireturn B hr rfl (by decide) (by decide) rfl dX11_family_106
    · exact g_throwS (k := 3) (text := "there are 12 texts") (i := 28) B hS9 hfl hxt (by decide) (by decide +kernel) wd_1044 wd_24 (List.mem_of_getElem? (i := 55) rfl) ta_RX11_134 tb_RX11_134 tc_RX11_134 dX11_family_60 dX11_family_63 dX11_family_64 dX11_family_66 dX11_family_69 (by decide) (Nat.le_of_ble_eq_true rfl) (by decide) (by decide)
  · exact g_throwS (k := 0) (text := "the text is wrong") (i := 27) B hS9 hfl hxt (by decide) (by decide +kernel) wd_974 wd_23 (List.mem_of_getElem? (i := 54) rfl) ta_RX11_124 tb_RX11_124 tc_RX11_124 dX11_family_38 dX11_family_41 dX11_family_42 dX11_family_44 dX11_family_47 (by decide) (Nat.le_of_ble_eq_true rfl) (by decide) (by decide)
theorem c11_family (X : gX) (l : Launch) (hfl : l.stackTraces = false) (a0 : Nat) (M : mMem) : xCon X l yX11_family cX11_family 1 (some .int) rm11_family (fun r9 : (Int32 × mMem) => (some (.int r9.1), r9.2)) [.ref a0] M (p11_family a0 M) := g_xcon (own := RX11) (by decide +kernel) rfl (Nat.le_of_ble_eq_true rfl) (fun p e s m args below meth c B hS9 hr hxt => g11_family B hS9 hr hfl hxt a0 M)
theorem mf11_fewest : gMF yX11_fewest cX11_fewest 3 (some .int) 2 := ⟨wd_1296, wd_1, ⟨by decide, by decide⟩, by decide +kernel⟩
set_option maxRecDepth 20000 in
set_option maxHeartbeats 2000000 in
theorem g11_fewest {X : gX} {p : Program} {l : Launch} {e : Env} {s : State} {m : MethodId} {args : Array Value} {below : List Frame} {meth : Method} {c : Code} (B : gB X p (rm11_fewest) s m args meth c RX11 cX11_fewest 3 (rm11_fewest)) (hS9 : gS X s) (hr : meth.sig.returnType = some .int) (hfl : l.stackTraces = false) (hxt : ∀ x ∈ c.exceptionTable.toList, False) (a0 : Nat) (x1 : Int32) (x2 : Int32) (M : mMem) : GG X p l e (rm11_fewest) s m args below meth c (gxP X below args s 2 12 (fun r9 : (Int32 × mMem) => (some (.int r9.1), r9.2))) 3 0 0 0 [(0, .ref a0), (1, .int x1), (2, .int x2)] [] M (p11_fewest a0 x1 x2 M) := by
  unfold p11_fewest
  refine g_gd ?_
  refine g_aload_n B dX11_fewest_0 0 rfl ?_
  refine g_iload_n B dX11_fewest_1 1 rfl ?_
  refine g_xcallV [.int x1] (ci := 10) (T0 := TX11) (N := 18) B hS9 hxt mf11_mustBe wd_1085 (gw B wp_23) wd_1083 (by decide) rfl (fun h => (gd_ne h).1) (c11_mustBe X l hfl a0 x1 M) (by decide) (by decide) (by decide) (by decide) rfl (by decide) dX11_fewest_2 rfl (fun v_1 => ?_)
  refine g_iload_n B dX11_fewest_5 2 rfl ?_
  refine g_iconst (v := 0) B dX11_fewest_6 (by decide) ?_
  refine g_aload_n B dX11_fewest_7 0 rfl ?_
  refine g_getR (ci := 10) (T0 := TX11) (N := 18) B (by decide) rfl in_10 (k := 3) (by decide) rfl wd_385 (fun _ h => h) dX11_fewest_8 (fun v_2 => ?_)
  refine g_getI (ci := 2) (T0 := TX2) (N := 11) B (by decide) rfl in_2 (k := 5) (by decide) rfl wd_149 (fun _ h => h) dX11_fewest_11 (fun v_3 => ?_)
  refine g_iconst (v := 1) B dX11_fewest_14 (by decide) ?_
  refine g_isub B dX11_fewest_15 ?_
  refine g_xcallS [.int x2, .int 0, .int (v_3 - 1)] B hS9 hxt mf11_mustLie wd_1253 wd_1252 (c11_mustLie X l hfl x2 0 (v_3 - 1) M) (by decide) (by decide) (by decide) (by decide) rfl (by decide) dX11_fewest_16 rfl (fun v_4 => ?_)
  refine g_aload_n B dX11_fewest_19 0 rfl ?_
  refine g_getR (ci := 10) (T0 := TX11) (N := 18) B (by decide) rfl in_10 (k := 15) (by decide) rfl wd_397 (fun _ h => h) dX11_fewest_20 (fun v_5 => ?_)
  refine g_iload_n B dX11_fewest_23 1 rfl ?_
  refine g_iload_n B dX11_fewest_24 2 rfl ?_
  refine g_callV_iw [.int x1, .int x2] (ci := 0) (T0 := TX0) (N := 8) B hS9 mf0_stepsTo wd_1298 (gw B wd_1299) wd_1297 (by decide) rfl (fun h => (gd_ne h).1) (c0_stepsTo X l v_5 x1 x2 M) (by decide) (by decide) (by decide) rfl (by decide) dX11_fewest_25 rfl (fun q_6 => ?_)
  refine g_xr ?_
  exact g_ireturn B hr rfl (by decide) (by decide) rfl dX11_fewest_28
theorem c11_fewest (X : gX) (l : Launch) (hfl : l.stackTraces = false) (a0 : Nat) (x1 : Int32) (x2 : Int32) (M : mMem) : xCon X l yX11_fewest cX11_fewest 3 (some .int) rm11_fewest (fun r9 : (Int32 × mMem) => (some (.int r9.1), r9.2)) [.ref a0, .int x1, .int x2] M (p11_fewest a0 x1 x2 M) := g_xcon (own := RX11) (by decide +kernel) rfl (Nat.le_of_ble_eq_true rfl) (fun p e s m args below meth c B hS9 hr hxt => g11_fewest B hS9 hr hfl hxt a0 x1 x2 M)
theorem mf11_first : gMF yX11_first cX11_first 3 (some .int) 2 := ⟨wd_1333, wd_1, ⟨by decide, by decide⟩, by decide +kernel⟩
set_option maxRecDepth 20000 in
set_option maxHeartbeats 2000000 in
theorem g11_first {X : gX} {p : Program} {l : Launch} {e : Env} {s : State} {m : MethodId} {args : Array Value} {below : List Frame} {meth : Method} {c : Code} (B : gB X p (rm11_first) s m args meth c RX11 cX11_first 3 (rm11_first)) (hS9 : gS X s) (hr : meth.sig.returnType = some .int) (hfl : l.stackTraces = false) (hxt : ∀ x ∈ c.exceptionTable.toList, False) (a0 : Nat) (x1 : Int32) (x2 : Int32) (M : mMem) : GG X p l e (rm11_first) s m args below meth c (gxP X below args s 2 12 (fun r9 : (Int32 × mMem) => (some (.int r9.1), r9.2))) 3 0 0 0 [(0, .ref a0), (1, .int x1), (2, .int x2)] [] M (p11_first a0 x1 x2 M) := by
  unfold p11_first
  refine g_gd ?_
  refine g_aload_n B dX11_first_0 0 rfl ?_
  refine g_iload_n B dX11_first_1 1 rfl ?_
  refine g_xcallV [.int x1] (ci := 10) (T0 := TX11) (N := 18) B hS9 hxt mf11_mustBe wd_1085 (gw B wp_23) wd_1083 (by decide) rfl (fun h => (gd_ne h).1) (c11_mustBe X l hfl a0 x1 M) (by decide) (by decide) (by decide) (by decide) rfl (by decide) dX11_first_2 rfl (fun v_1 => ?_)
  refine g_iload_n B dX11_first_5 2 rfl ?_
  refine g_iconst (v := 0) B dX11_first_6 (by decide) ?_
  refine g_aload_n B dX11_first_7 0 rfl ?_
  refine g_getR (ci := 10) (T0 := TX11) (N := 18) B (by decide) rfl in_10 (k := 3) (by decide) rfl wd_385 (fun _ h => h) dX11_first_8 (fun v_2 => ?_)
  refine g_getI (ci := 2) (T0 := TX2) (N := 11) B (by decide) rfl in_2 (k := 5) (by decide) rfl wd_149 (fun _ h => h) dX11_first_11 (fun v_3 => ?_)
  refine g_iconst (v := 1) B dX11_first_14 (by decide) ?_
  refine g_isub B dX11_first_15 ?_
  refine g_xcallS [.int x2, .int 0, .int (v_3 - 1)] B hS9 hxt mf11_mustLie wd_1253 wd_1252 (c11_mustLie X l hfl x2 0 (v_3 - 1) M) (by decide) (by decide) (by decide) (by decide) rfl (by decide) dX11_first_16 rfl (fun v_4 => ?_)
  refine g_aload_n B dX11_first_19 0 rfl ?_
  refine g_getR (ci := 10) (T0 := TX11) (N := 18) B (by decide) rfl in_10 (k := 15) (by decide) rfl wd_397 (fun _ h => h) dX11_first_20 (fun v_5 => ?_)
  refine g_iload_n B dX11_first_23 1 rfl ?_
  refine g_iload_n B dX11_first_24 2 rfl ?_
  refine g_callV_iw [.int x1, .int x2] (ci := 0) (T0 := TX0) (N := 8) B hS9 mf0_firstTo wd_1335 (gw B wd_1336) wd_1334 (by decide) rfl (fun h => (gd_ne h).1) (c0_firstTo X l v_5 x1 x2 M) (by decide) (by decide) (by decide) rfl (by decide) dX11_first_25 rfl (fun q_6 => ?_)
  refine g_xr ?_
  exact g_ireturn B hr rfl (by decide) (by decide) rfl dX11_first_28
theorem c11_first (X : gX) (l : Launch) (hfl : l.stackTraces = false) (a0 : Nat) (x1 : Int32) (x2 : Int32) (M : mMem) : xCon X l yX11_first cX11_first 3 (some .int) rm11_first (fun r9 : (Int32 × mMem) => (some (.int r9.1), r9.2)) [.ref a0, .int x1, .int x2] M (p11_first a0 x1 x2 M) := g_xcon (own := RX11) (by decide +kernel) rfl (Nat.le_of_ble_eq_true rfl) (fun p e s m args below meth c B hS9 hr hxt => g11_first B hS9 hr hfl hxt a0 x1 x2 M)
theorem mf11_mustBeTwo : gMF yX11_mustBeTwo cX11_mustBeTwo 3 (none) 2 := ⟨wd_1142, wd_1, ⟨by decide, by decide⟩, by decide +kernel⟩
set_option maxRecDepth 20000 in
set_option maxHeartbeats 2000000 in
theorem g11_mustBeTwo {X : gX} {p : Program} {l : Launch} {e : Env} {s : State} {m : MethodId} {args : Array Value} {below : List Frame} {meth : Method} {c : Code} (B : gB X p (rm11_mustBeTwo) s m args meth c RX11 cX11_mustBeTwo 3 (rm11_mustBeTwo)) (hS9 : gS X s) (hr : meth.sig.returnType = none) (hfl : l.stackTraces = false) (hxt : ∀ x ∈ c.exceptionTable.toList, False) {M : mMem} (a0 : Nat) (x1 : Int32) (x2 : Int32) : GG X p l e (rm11_mustBeTwo) s m args below meth c (gxP X below args s 3 18 (fun _ : Unit => (none, M))) 3 0 0 0 [(0, .ref a0), (1, .int x1), (2, .int x2)] [] M (p11_mustBeTwo a0 x1 x2 M) := by
  unfold p11_mustBeTwo
  refine g_gd ?_
  refine g_aload_n B dX11_mustBeTwo_0 0 rfl ?_
  refine g_iload_n B dX11_mustBeTwo_1 1 rfl ?_
  refine g_xcallV [.int x1] (ci := 10) (T0 := TX11) (N := 18) B hS9 hxt mf11_mustBe wd_1085 (gw B wp_23) wd_1083 (by decide) rfl (fun h => (gd_ne h).1) (c11_mustBe X l hfl a0 x1 M) (by decide) (by decide) (by decide) (by decide) rfl (by decide) dX11_mustBeTwo_2 rfl (fun v_1 => ?_)
  refine g_aload_n B dX11_mustBeTwo_5 0 rfl ?_
  refine g_iload_n B dX11_mustBeTwo_6 2 rfl ?_
  refine g_xcallV [.int x2] (ci := 10) (T0 := TX11) (N := 18) B hS9 hxt mf11_mustBe wd_1085 (gw B wp_23) wd_1083 (by decide) rfl (fun h => (gd_ne h).1) (c11_mustBe X l hfl a0 x2 M) (by decide) (by decide) (by decide) (by decide) rfl (by decide) dX11_mustBeTwo_7 rfl (fun v_2 => ?_)
  refine g_iload_n B dX11_mustBeTwo_10 1 rfl ?_
  refine g_iload_n B dX11_mustBeTwo_11 2 rfl ?_
  refine g_icmp_ne B 25 dX11_mustBeTwo_12 (by decide) ?_ ?_
  · exact g_throwS (k := 0) (text := "both are one") (i := 31) B hS9 hfl hxt (by decide) (by decide +kernel) wd_974 wd_23 (List.mem_of_getElem? (i := 58) rfl) ta_RX11_124 tb_RX11_124 tc_RX11_124 dX11_mustBeTwo_15 dX11_mustBeTwo_18 dX11_mustBeTwo_19 dX11_mustBeTwo_21 dX11_mustBeTwo_24 (by decide) (Nat.le_of_ble_eq_true rfl) (by decide) (by decide)
  · refine g_xr ?_
    exact g_vreturn B hr (by decide) (by decide) rfl dX11_mustBeTwo_25
theorem c11_mustBeTwo (X : gX) (l : Launch) (hfl : l.stackTraces = false) (a0 : Nat) (x1 : Int32) (x2 : Int32) (M : mMem) : xCon X l yX11_mustBeTwo cX11_mustBeTwo 3 (none) rm11_mustBeTwo (fun _ : Unit => (none, M)) [.ref a0, .int x1, .int x2] M (p11_mustBeTwo a0 x1 x2 M) := g_xcon (own := RX11) (by decide +kernel) rfl (Nat.le_of_ble_eq_true rfl) (fun p e s m args below meth c B hS9 hr hxt => g11_mustBeTwo B hS9 hr hfl hxt a0 x1 x2)
theorem mf11_gap : gMF yX11_gap cX11_gap 3 (some .int) 2 := ⟨wd_1159, wd_1, ⟨by decide, by decide⟩, by decide +kernel⟩
set_option maxRecDepth 20000 in
set_option maxHeartbeats 2000000 in
theorem g11_gap {X : gX} {p : Program} {l : Launch} {e : Env} {s : State} {m : MethodId} {args : Array Value} {below : List Frame} {meth : Method} {c : Code} (B : gB X p (rm11_gap) s m args meth c RX11 cX11_gap 3 (rm11_gap)) (hS9 : gS X s) (hr : meth.sig.returnType = some .int) (hfl : l.stackTraces = false) (hxt : ∀ x ∈ c.exceptionTable.toList, False) {M : mMem} (a0 : Nat) (x1 : Int32) (x2 : Int32) : GG X p l e (rm11_gap) s m args below meth c (gxP X below args s 3 18 (fun r9 : Int32 => (some (.int r9), M))) 3 0 0 0 [(0, .ref a0), (1, .int x1), (2, .int x2)] [] M (p11_gap a0 x1 x2 M) := by
  unfold p11_gap
  refine g_gd ?_
  refine g_aload_n B dX11_gap_0 0 rfl ?_
  refine g_iload_n B dX11_gap_1 1 rfl ?_
  refine g_iload_n B dX11_gap_2 2 rfl ?_
  refine g_xcallV [.int x1, .int x2] (ci := 10) (T0 := TX11) (N := 18) B hS9 hxt mf11_mustBeTwo wd_1141 (gw B wp_24) wd_1139 (by decide) rfl (fun h => (gd_ne h).1) (c11_mustBeTwo X l hfl a0 x1 x2 M) (by decide) (by decide) (by decide) (by decide) rfl (by decide) dX11_gap_3 rfl (fun v_1 => ?_)
  refine g_aload_n B dX11_gap_6 0 rfl ?_
  refine g_getR (ci := 10) (T0 := TX11) (N := 18) B (by decide) rfl in_10 (k := 3) (by decide) rfl wd_385 (fun _ h => h) dX11_gap_7 (fun v_2 => ?_)
  refine g_iload_n B dX11_gap_10 1 rfl ?_
  refine g_iload_n B dX11_gap_11 2 rfl ?_
  refine g_callV_ip [.int x1, .int x2] (ci := 2) (T0 := TX2) (N := 11) B hS9 mf2_gapOf wd_596 (gw B wd_597) wd_1160 (by decide) rfl (fun h => (gd_ne h).1) (c2_gapOf X l v_2 x1 x2 M) (by decide) (by decide) (by decide) rfl (by decide) dX11_gap_12 rfl (fun v_3 => ?_)
  refine g_xr ?_
  exact g_ireturn B hr rfl (by decide) (by decide) rfl dX11_gap_15
theorem c11_gap (X : gX) (l : Launch) (hfl : l.stackTraces = false) (a0 : Nat) (x1 : Int32) (x2 : Int32) (M : mMem) : xCon X l yX11_gap cX11_gap 3 (some .int) rm11_gap (fun r9 : Int32 => (some (.int r9), M)) [.ref a0, .int x1, .int x2] M (p11_gap a0 x1 x2 M) := g_xcon (own := RX11) (by decide +kernel) rfl (Nat.le_of_ble_eq_true rfl) (fun p e s m args below meth c B hS9 hr hxt => g11_gap B hS9 hr hfl hxt a0 x1 x2)
theorem mf11_govern : gMF yX11_govern cX11_govern 5 (some .boolean) 3 := ⟨wd_1244, wd_1, ⟨by decide, by decide⟩, by decide +kernel⟩
set_option maxRecDepth 20000 in
set_option maxHeartbeats 2000000 in
theorem g11_govern_J42 {X : gX} {p : Program} {l : Launch} {e : Env} {s : State} {m : MethodId} {args : Array Value} {below : List Frame} {meth : Method} {c : Code} (B : gB X p (rm11_govern) s m args meth c RX11 cX11_govern 5 (rm11_govern)) (hS9 : gS X s) (hr : meth.sig.returnType = some .boolean) (hfl : l.stackTraces = false) (hxt : ∀ x ∈ c.exceptionTable.toList, False) (u0 : Int32) (M : mMem) : GG X p l e (rm11_govern) s m args below meth c (gxP X below args s 3 18 (fun r9 : (Int32 × mMem) => (some (.int r9.1), r9.2))) 5 3 18 42 [] [.int u0] M (p11_govern_J42 u0 M) := by
  unfold p11_govern_J42
  refine g_xr ?_
  exact g_zreturn (f := fun z => (z, M)) B hr (by decide) (by decide) rfl dX11_govern_42
set_option maxRecDepth 20000 in
set_option maxHeartbeats 2000000 in
theorem g11_govern {X : gX} {p : Program} {l : Launch} {e : Env} {s : State} {m : MethodId} {args : Array Value} {below : List Frame} {meth : Method} {c : Code} (B : gB X p (rm11_govern) s m args meth c RX11 cX11_govern 5 (rm11_govern)) (hS9 : gS X s) (hr : meth.sig.returnType = some .boolean) (hfl : l.stackTraces = false) (hxt : ∀ x ∈ c.exceptionTable.toList, False) (a0 : Nat) (x1 : Int32) (x2 : Int32) (x3 : Int32) (M : mMem) : GG X p l e (rm11_govern) s m args below meth c (gxP X below args s 3 18 (fun r9 : (Int32 × mMem) => (some (.int r9.1), r9.2))) 5 0 0 0 [(0, .ref a0), (1, .int x1), (2, .int x2), (3, .int x3)] [] M (p11_govern a0 x1 x2 x3 M) := by
  unfold p11_govern
  refine g_gd ?_
  refine g_aload_n B dX11_govern_0 0 rfl ?_
  refine g_iload_n B dX11_govern_1 1 rfl ?_
  refine g_iload_n B dX11_govern_2 2 rfl ?_
  refine g_xcallV [.int x1, .int x2] (ci := 10) (T0 := TX11) (N := 18) B hS9 hxt mf11_mustBeTwo wd_1141 (gw B wp_24) wd_1139 (by decide) rfl (fun h => (gd_ne h).1) (c11_mustBeTwo X l hfl a0 x1 x2 M) (by decide) (by decide) (by decide) (by decide) rfl (by decide) dX11_govern_3 rfl (fun v_1 => ?_)
  refine g_aload_n B dX11_govern_6 0 rfl ?_
  refine g_callV_vw [] (ci := 10) (T0 := TX11) (N := 18) B hS9 mf11_remember wd_1191 (gw B wp_25) wd_1189 (by decide) rfl (fun h => (gd_ne h).1) (c11_remember X l a0 M) (by decide) (by decide) (by decide) rfl (by decide) dX11_govern_7 rfl (fun q_2 => ?_)
  refine g_aload_n B dX11_govern_10 0 rfl ?_
  refine g_getR (ci := 10) (T0 := TX11) (N := 18) B (by decide) rfl in_10 (k := 3) (by decide) rfl wd_385 (fun _ h => h) dX11_govern_11 (fun v_3 => ?_)
  refine g_iload_n B dX11_govern_14 1 rfl ?_
  refine g_iload_n B dX11_govern_15 2 rfl ?_
  refine g_callV_ip [.int x1, .int x2] (ci := 2) (T0 := TX2) (N := 11) B hS9 mf2_governs wd_499 (gw B wd_500) wd_1169 (by decide) rfl (fun h => (gd_ne h).1) (c2_governs X l v_3 x1 x2 q_2) (by decide) (by decide) (by decide) rfl (by decide) dX11_govern_16 rfl (fun v_4 => ?_)
  refine g_istore (lv' := [(4, .int v_4), (0, .ref a0), (1, .int x1), (2, .int x2), (3, .int x3)]) B dX11_govern_19 (by decide) [0, 1, 2, 3, 4] rfl ?_
  refine g_aload_n B dX11_govern_21 1 rfl ?_
  refine g_getR (ci := 10) (T0 := TX11) (N := 18) B (by decide) rfl in_10 (k := 3) (by decide) rfl wd_385 (fun _ h => h) dX11_govern_22 (fun v_5 => ?_)
  refine g_iload_n B dX11_govern_25 2 rfl ?_
  refine g_iload_n B dX11_govern_26 3 rfl ?_
  refine g_iload_n B dX11_govern_27 4 rfl ?_
  refine g_callV_vw [.int x1, .int x2, .int x3] (ci := 2) (T0 := TX2) (N := 11) B hS9 mf2_setGoverns wd_905 (gw B wd_906) wd_1202 (by decide) rfl (fun h => (gd_ne h).1) (c2_setGoverns X l v_5 x1 x2 x3 q_2) (by decide) (by decide) (by decide) rfl (by decide) dX11_govern_28 rfl (fun q_6 => ?_)
  refine g_iload B dX11_govern_31 0 rfl ?_
  refine g_iload_n B dX11_govern_33 4 rfl ?_
  refine g_icmp_eq B 41 dX11_govern_34 (by decide) ?_ ?_
  · refine g_iconst (v := 0) B dX11_govern_41 (by decide) ?_
    refine g_sub (lv' := []) [] rfl ?_
    exact g11_govern_J42 B hS9 hr hfl hxt 0 q_6
  · refine g_iconst (v := 1) B dX11_govern_37 (by decide) ?_
    refine g_goto B 42 dX11_govern_38 (by decide) ?_
    refine g_sub (lv' := []) [] rfl ?_
    exact g11_govern_J42 B hS9 hr hfl hxt 1 q_6
theorem c11_govern (X : gX) (l : Launch) (hfl : l.stackTraces = false) (a0 : Nat) (x1 : Int32) (x2 : Int32) (x3 : Int32) (M : mMem) : xCon X l yX11_govern cX11_govern 5 (some .boolean) rm11_govern (fun r9 : (Int32 × mMem) => (some (.int r9.1), r9.2)) [.ref a0, .int x1, .int x2, .int x3] M (p11_govern a0 x1 x2 x3 M) := g_xcon (own := RX11) (by decide +kernel) rfl (Nat.le_of_ble_eq_true rfl) (fun p e s m args below meth c B hS9 hr hxt => g11_govern B hS9 hr hfl hxt a0 x1 x2 x3 M)
theorem mf11_harsh : gMF yX11_harsh cX11_harsh 2 (some .int) 1 := ⟨wd_1355, wd_1, ⟨by decide, by decide⟩, by decide +kernel⟩
set_option maxRecDepth 20000 in
set_option maxHeartbeats 2000000 in
theorem g11_harsh {X : gX} {p : Program} {l : Launch} {e : Env} {s : State} {m : MethodId} {args : Array Value} {below : List Frame} {meth : Method} {c : Code} (B : gB X p (rm11_harsh) s m args meth c RX11 cX11_harsh 2 (rm11_harsh)) (hS9 : gS X s) (hr : meth.sig.returnType = some .int) (hfl : l.stackTraces = false) (hxt : ∀ x ∈ c.exceptionTable.toList, False) (a0 : Nat) (x1 : Int32) (M : mMem) : GG X p l e (rm11_harsh) s m args below meth c (gxP X below args s 1 6 (fun r9 : (Int32 × mMem) => (some (.int r9.1), r9.2))) 2 0 0 0 [(0, .ref a0), (1, .int x1)] [] M (p11_harsh a0 x1 M) := by
  unfold p11_harsh
  refine g_gd ?_
  refine g_aload_n B dX11_harsh_0 0 rfl ?_
  refine g_iload_n B dX11_harsh_1 1 rfl ?_
  refine g_xcallV [.int x1] (ci := 10) (T0 := TX11) (N := 18) B hS9 hxt mf11_mustBe wd_1085 (gw B wp_23) wd_1083 (by decide) rfl (fun h => (gd_ne h).1) (c11_mustBe X l hfl a0 x1 M) (by decide) (by decide) (by decide) (by decide) rfl (by decide) dX11_harsh_2 rfl (fun v_1 => ?_)
  refine g_aload_n B dX11_harsh_5 0 rfl ?_
  refine g_getR (ci := 10) (T0 := TX11) (N := 18) B (by decide) rfl in_10 (k := 15) (by decide) rfl wd_397 (fun _ h => h) dX11_harsh_6 (fun v_2 => ?_)
  refine g_iload_n B dX11_harsh_9 1 rfl ?_
  refine g_iconst (v := 0) B dX11_harsh_10 (by decide) ?_
  refine g_callV_iw [.int x1, .int 0] (ci := 0) (T0 := TX0) (N := 8) B hS9 mf0_heaviest wd_1357 (gw B wd_1358) wd_1356 (by decide) rfl (fun h => (gd_ne h).1) (c0_heaviest X l v_2 x1 0 M) (by decide) (by decide) (by decide) rfl (by decide) dX11_harsh_11 rfl (fun q_3 => ?_)
  refine g_xr ?_
  exact g_ireturn B hr rfl (by decide) (by decide) rfl dX11_harsh_14
theorem c11_harsh (X : gX) (l : Launch) (hfl : l.stackTraces = false) (a0 : Nat) (x1 : Int32) (M : mMem) : xCon X l yX11_harsh cX11_harsh 2 (some .int) rm11_harsh (fun r9 : (Int32 × mMem) => (some (.int r9.1), r9.2)) [.ref a0, .int x1] M (p11_harsh a0 x1 M) := g_xcon (own := RX11) (by decide +kernel) rfl (Nat.le_of_ble_eq_true rfl) (fun p e s m args below meth c B hS9 hr hxt => g11_harsh B hS9 hr hfl hxt a0 x1 M)
theorem mf11_kin : gMF yX11_kin cX11_kin 3 (some .int) 2 := ⟨wd_1523, wd_1, ⟨by decide, by decide⟩, by decide +kernel⟩
set_option maxRecDepth 20000 in
set_option maxHeartbeats 2000000 in
theorem g11_kin {X : gX} {p : Program} {l : Launch} {e : Env} {s : State} {m : MethodId} {args : Array Value} {below : List Frame} {meth : Method} {c : Code} (B : gB X p (rm11_kin) s m args meth c RX11 cX11_kin 3 (rm11_kin)) (hS9 : gS X s) (hr : meth.sig.returnType = some .int) (hfl : l.stackTraces = false) (hxt : ∀ x ∈ c.exceptionTable.toList, False) {M : mMem} (a0 : Nat) (x1 : Int32) (x2 : Int32) : GG X p l e (rm11_kin) s m args below meth c (gxP X below args s 3 18 (fun r9 : Int32 => (some (.int r9), M))) 3 0 0 0 [(0, .ref a0), (1, .int x1), (2, .int x2)] [] M (p11_kin a0 x1 x2 M) := by
  unfold p11_kin
  refine g_gd ?_
  refine g_aload_n B dX11_kin_0 0 rfl ?_
  refine g_iload_n B dX11_kin_1 1 rfl ?_
  refine g_iload_n B dX11_kin_2 2 rfl ?_
  refine g_xcallV [.int x1, .int x2] (ci := 10) (T0 := TX11) (N := 18) B hS9 hxt mf11_mustBeTwo wd_1141 (gw B wp_24) wd_1139 (by decide) rfl (fun h => (gd_ne h).1) (c11_mustBeTwo X l hfl a0 x1 x2 M) (by decide) (by decide) (by decide) (by decide) rfl (by decide) dX11_kin_3 rfl (fun v_1 => ?_)
  refine g_aload_n B dX11_kin_6 0 rfl ?_
  refine g_getR (ci := 10) (T0 := TX11) (N := 18) B (by decide) rfl in_10 (k := 17) (by decide) rfl wd_399 (fun _ h => h) dX11_kin_7 (fun v_2 => ?_)
  refine g_iload_n B dX11_kin_10 1 rfl ?_
  refine g_iload_n B dX11_kin_11 2 rfl ?_
  refine g_callV_ip [.int x1, .int x2] (ci := 9) (T0 := TX10) (N := 1) B hS9 mf10_stepsBetween wd_1525 (gw B wd_1526) wd_1524 (by decide) rfl (fun h => (gd_ne h).1) (c10_stepsBetween X l v_2 x1 x2 M) (by decide) (by decide) (by decide) rfl (by decide) dX11_kin_12 rfl (fun v_3 => ?_)
  refine g_xr ?_
  exact g_ireturn B hr rfl (by decide) (by decide) rfl dX11_kin_15
theorem c11_kin (X : gX) (l : Launch) (hfl : l.stackTraces = false) (a0 : Nat) (x1 : Int32) (x2 : Int32) (M : mMem) : xCon X l yX11_kin cX11_kin 3 (some .int) rm11_kin (fun r9 : Int32 => (some (.int r9), M)) [.ref a0, .int x1, .int x2] M (p11_kin a0 x1 x2 M) := g_xcon (own := RX11) (by decide +kernel) rfl (Nat.le_of_ble_eq_true rfl) (fun p e s m args below meth c B hS9 hr hxt => g11_kin B hS9 hr hfl hxt a0 x1 x2)
theorem mf11_kind : gMF yX11_kind cX11_kind 2 (some .int) 1 := ⟨wd_1366, wd_1, ⟨by decide, by decide⟩, by decide +kernel⟩
set_option maxRecDepth 20000 in
set_option maxHeartbeats 2000000 in
theorem g11_kind {X : gX} {p : Program} {l : Launch} {e : Env} {s : State} {m : MethodId} {args : Array Value} {below : List Frame} {meth : Method} {c : Code} (B : gB X p (rm11_kind) s m args meth c RX11 cX11_kind 2 (rm11_kind)) (hS9 : gS X s) (hr : meth.sig.returnType = some .int) (hfl : l.stackTraces = false) (hxt : ∀ x ∈ c.exceptionTable.toList, False) (a0 : Nat) (x1 : Int32) (M : mMem) : GG X p l e (rm11_kind) s m args below meth c (gxP X below args s 1 6 (fun r9 : (Int32 × mMem) => (some (.int r9.1), r9.2))) 2 0 0 0 [(0, .ref a0), (1, .int x1)] [] M (p11_kind a0 x1 M) := by
  unfold p11_kind
  refine g_gd ?_
  refine g_aload_n B dX11_kind_0 0 rfl ?_
  refine g_iload_n B dX11_kind_1 1 rfl ?_
  refine g_xcallV [.int x1] (ci := 10) (T0 := TX11) (N := 18) B hS9 hxt mf11_mustBe wd_1085 (gw B wp_23) wd_1083 (by decide) rfl (fun h => (gd_ne h).1) (c11_mustBe X l hfl a0 x1 M) (by decide) (by decide) (by decide) (by decide) rfl (by decide) dX11_kind_2 rfl (fun v_1 => ?_)
  refine g_aload_n B dX11_kind_5 0 rfl ?_
  refine g_getR (ci := 10) (T0 := TX11) (N := 18) B (by decide) rfl in_10 (k := 15) (by decide) rfl wd_397 (fun _ h => h) dX11_kind_6 (fun v_2 => ?_)
  refine g_iload_n B dX11_kind_9 1 rfl ?_
  refine g_iconst (v := 1) B dX11_kind_10 (by decide) ?_
  refine g_callV_iw [.int x1, .int 1] (ci := 0) (T0 := TX0) (N := 8) B hS9 mf0_heaviest wd_1357 (gw B wd_1358) wd_1356 (by decide) rfl (fun h => (gd_ne h).1) (c0_heaviest X l v_2 x1 1 M) (by decide) (by decide) (by decide) rfl (by decide) dX11_kind_11 rfl (fun q_3 => ?_)
  refine g_xr ?_
  exact g_ireturn B hr rfl (by decide) (by decide) rfl dX11_kind_14
theorem c11_kind (X : gX) (l : Launch) (hfl : l.stackTraces = false) (a0 : Nat) (x1 : Int32) (M : mMem) : xCon X l yX11_kind cX11_kind 2 (some .int) rm11_kind (fun r9 : (Int32 × mMem) => (some (.int r9.1), r9.2)) [.ref a0, .int x1] M (p11_kind a0 x1 M) := g_xcon (own := RX11) (by decide +kernel) rfl (Nat.le_of_ble_eq_true rfl) (fun p e s m args below meth c B hS9 hr hxt => g11_kind B hS9 hr hfl hxt a0 x1 M)
theorem mf11_law : gMF yX11_law cX11_law 1 (some .int) 0 := ⟨wd_1066, wd_1, ⟨by decide, by decide⟩, by decide +kernel⟩
set_option maxRecDepth 20000 in
set_option maxHeartbeats 2000000 in
theorem g11_law {X : gX} {p : Program} {l : Launch} {e : Env} {s : State} {m : MethodId} {args : Array Value} {below : List Frame} {meth : Method} {c : Code} (B : gB X p (rm11_law) s m args meth c RX11 cX11_law 1 (rm11_law)) (hS9 : gS X s) (hr : meth.sig.returnType = some .int) (hfl : l.stackTraces = false) (hxt : ∀ x ∈ c.exceptionTable.toList, False) (a0 : Nat) (M : mMem) : GG X p l e (rm11_law) s m args below meth c (gxP X below args s 1 6 (fun r9 : (Int32 × mMem) => (some (.int r9.1), r9.2))) 1 0 0 0 [(0, .ref a0)] [] M (p11_law a0 M) := by
  unfold p11_law
  refine g_gd ?_
  refine g_aload_n B dX11_law_0 0 rfl ?_
  refine g_getR (ci := 10) (T0 := TX11) (N := 18) B (by decide) rfl in_10 (k := 6) (by decide) rfl wd_388 (fun _ h => h) dX11_law_1 (fun v_1 => ?_)
  refine g_callV_vw [] (ci := 4) (T0 := TX4) (N := 10) B hS9 mf4_begin wd_1068 (gw B wd_1069) wd_1067 (by decide) rfl (fun h => (gd_ne h).1) (c4_begin X l v_1 M) (by decide) (by decide) (by decide) rfl (by decide) dX11_law_4 rfl (fun q_2 => ?_)
  refine g_aload_n B dX11_law_7 0 rfl ?_
  refine g_aload_n B dX11_law_8 0 rfl ?_
  refine g_getR (ci := 10) (T0 := TX11) (N := 18) B (by decide) rfl in_10 (k := 8) (by decide) rfl wd_390 (fun _ h => h) dX11_law_9 (fun v_3 => ?_)
  refine g_aload_n B dX11_law_12 0 rfl ?_
  refine g_getR (ci := 10) (T0 := TX11) (N := 18) B (by decide) rfl in_10 (k := 0) (by decide) rfl wd_382 (fun _ h => h) dX11_law_13 (fun v_4 => ?_)
  refine g_aload_n B dX11_law_16 0 rfl ?_
  refine g_callV_iw [] (ci := 10) (T0 := TX11) (N := 18) B hS9 mf11_usedTape wd_734 (gw B wp_10) wd_732 (by decide) rfl (fun h => (gd_ne h).1) (c11_usedTape X l a0 q_2) (by decide) (by decide) (by decide) rfl (Nat.le_of_ble_eq_true rfl) dX11_law_17 rfl (fun q_5 => ?_)
  refine g_callU_iw (x := ⟨"CribLine$LawReader", "readText", "([II)I"⟩) (owner := "CribLine$Reader") [.ref v_4, .int q_5.1] (ci := 5) (T0 := TX5) (N := 9) B hS9 mf5_readText wd_740 (gw B wd_1073) wd_1071 wd_1072 (va_Decl.of (gw B wd_740) (gw B wd_741)) (by decide +kernel) (by decide) rfl (fun h => (gd_ne h).1) (c5_readText X l v_3 v_4 q_5.1 q_5.2) (by decide) (by decide) (by decide) rfl (Nat.le_of_ble_eq_true rfl) dX11_law_20 rfl (fun q_6 => ?_)
  refine g_putI (ci := 10) (T0 := TX11) (N := 18) B (by decide) rfl in_10 tyX11 tyX11_ok nmX11 (k := 2) (by decide) wd_384 (fun _ h => h) rfl rfl (ty := .int) (by decide +kernel) rfl rfl dX11_law_23 (fun M_7 => ?_)
  refine g_aload_n B dX11_law_26 0 rfl ?_
  refine g_getI (ci := 10) (T0 := TX11) (N := 18) B (by decide) rfl in_10 (k := 2) (by decide) rfl wd_384 (fun _ h => h) dX11_law_27 (fun v_8 => ?_)
  refine g_iconst (v := (-1)) B dX11_law_30 (by decide) ?_
  refine g_icmp_eq B 44 dX11_law_31 (by decide) ?_ ?_
  · refine g_aload_n B dX11_law_44 0 rfl ?_
    refine g_getR (ci := 10) (T0 := TX11) (N := 18) B (by decide) rfl in_10 (k := 5) (by decide) rfl wd_387 (fun _ h => h) dX11_law_45 (fun v_9 => ?_)
    refine g_aload_n B dX11_law_48 0 rfl ?_
    refine g_getR (ci := 10) (T0 := TX11) (N := 18) B (by decide) rfl in_10 (k := 6) (by decide) rfl wd_388 (fun _ h => h) dX11_law_49 (fun v_10 => ?_)
    refine g_callV_vw [.ref v_10] (ci := 4) (T0 := TX4) (N := 10) B hS9 mf4_take wd_699 (gw B wd_700) wd_698 (by decide) rfl (fun h => (gd_ne h).1) (c4_take X l v_9 v_10 M_7) (by decide) (by decide) (by decide) rfl (by decide) dX11_law_52 rfl (fun q_11 => ?_)
    refine g_aload_n B dX11_law_55 0 rfl ?_
    refine g_iconst (v := 0) B dX11_law_56 (by decide) ?_
    refine g_putI (ci := 10) (T0 := TX11) (N := 18) B (by decide) rfl in_10 tyX11 tyX11_ok nmX11 (k := 10) (by decide) wd_392 (fun _ h => h) rfl rfl (ty := .int) (by decide +kernel) rfl rfl dX11_law_57 (fun M_12 => ?_)
    refine g_aload_n B dX11_law_60 0 rfl ?_
    refine g_getR (ci := 10) (T0 := TX11) (N := 18) B (by decide) rfl in_10 (k := 5) (by decide) rfl wd_387 (fun _ h => h) dX11_law_61 (fun v_13 => ?_)
    refine g_getI (ci := 4) (T0 := TX4) (N := 10) B (by decide) rfl in_4 (k := 9) (by decide) rfl wd_208 (fun _ h => h) dX11_law_64 (fun v_14 => ?_)
    refine g_xr ?_
    exact g_ireturn B hr rfl (by decide) (by decide) rfl dX11_law_67
  · exact g_throwS (k := 0) (text := "the text is wrong") (i := 27) B hS9 hfl hxt (by decide) (by decide +kernel) wd_974 wd_23 (List.mem_of_getElem? (i := 54) rfl) ta_RX11_124 tb_RX11_124 tc_RX11_124 dX11_law_34 dX11_law_37 dX11_law_38 dX11_law_40 dX11_law_43 (by decide) (Nat.le_of_ble_eq_true rfl) (by decide) (by decide)
theorem c11_law (X : gX) (l : Launch) (hfl : l.stackTraces = false) (a0 : Nat) (M : mMem) : xCon X l yX11_law cX11_law 1 (some .int) rm11_law (fun r9 : (Int32 × mMem) => (some (.int r9.1), r9.2)) [.ref a0] M (p11_law a0 M) := g_xcon (own := RX11) (by decide +kernel) rfl (Nat.le_of_ble_eq_true rfl) (fun p e s m args below meth c B hS9 hr hxt => g11_law B hS9 hr hfl hxt a0 M)
theorem mf11_led : gMF yX11_led cX11_led 3 (some .int) 2 := ⟨wd_1614, wd_1, ⟨by decide, by decide⟩, by decide +kernel⟩
set_option maxRecDepth 20000 in
set_option maxHeartbeats 2000000 in
theorem g11_led_J34 {X : gX} {p : Program} {l : Launch} {e : Env} {s : State} {m : MethodId} {args : Array Value} {below : List Frame} {meth : Method} {c : Code} (B : gB X p (rm11_led) s m args meth c RX11 cX11_led 3 (rm11_led)) (hS9 : gS X s) (hr : meth.sig.returnType = some .int) (hfl : l.stackTraces = false) (hxt : ∀ x ∈ c.exceptionTable.toList, False) {M : mMem} (u0 : Int32) : GG X p l e (rm11_led) s m args below meth c (gxP X below args s 1 6 (fun r9 : Int32 => (some (.int r9), M))) 3 1 6 34 [] [.int u0] M (p11_led_J34 M u0) := by
  unfold p11_led_J34
  refine g_xr ?_
  exact g_ireturn B hr rfl (by decide) (by decide) rfl dX11_led_34
set_option maxRecDepth 20000 in
set_option maxHeartbeats 2000000 in
theorem g11_led {X : gX} {p : Program} {l : Launch} {e : Env} {s : State} {m : MethodId} {args : Array Value} {below : List Frame} {meth : Method} {c : Code} (B : gB X p (rm11_led) s m args meth c RX11 cX11_led 3 (rm11_led)) (hS9 : gS X s) (hr : meth.sig.returnType = some .int) (hfl : l.stackTraces = false) (hxt : ∀ x ∈ c.exceptionTable.toList, False) {M : mMem} (a0 : Nat) (x1 : Int32) (x2 : Int32) : GG X p l e (rm11_led) s m args below meth c (gxP X below args s 1 6 (fun r9 : Int32 => (some (.int r9), M))) 3 0 0 0 [(0, .ref a0), (1, .int x1), (2, .int x2)] [] M (p11_led a0 x1 x2 M) := by
  unfold p11_led
  refine g_gd ?_
  refine g_aload_n B dX11_led_0 0 rfl ?_
  refine g_iload_n B dX11_led_1 1 rfl ?_
  refine g_xcallV [.int x1] (ci := 10) (T0 := TX11) (N := 18) B hS9 hxt mf11_mustBe wd_1085 (gw B wp_23) wd_1083 (by decide) rfl (fun h => (gd_ne h).1) (c11_mustBe X l hfl a0 x1 M) (by decide) (by decide) (by decide) (by decide) rfl (by decide) dX11_led_2 rfl (fun v_1 => ?_)
  refine g_iload_n B dX11_led_5 2 rfl ?_
  refine g_if_eq B 23 dX11_led_6 (by decide) ?_ ?_
  · refine g_aload_n B dX11_led_23 0 rfl ?_
    refine g_getR (ci := 10) (T0 := TX11) (N := 18) B (by decide) rfl in_10 (k := 3) (by decide) rfl wd_385 (fun _ h => h) dX11_led_24 (fun v_2 => ?_)
    refine g_getR (ci := 2) (T0 := TX2) (N := 11) B (by decide) rfl in_2 (k := 3) (by decide) rfl wd_138 (fun _ h => h) dX11_led_27 (fun v_3 => ?_)
    refine g_iload_n B dX11_led_30 1 rfl ?_
    refine g_callV_ip [.int x1] (ci := 6) (T0 := TX6) (N := 3) B hS9 mf6_rowsTo wd_1620 (gw B wd_1621) wd_1619 (by decide) rfl (fun h => (gd_ne h).1) (c6_rowsTo X l v_3 x1 M) (by decide) (by decide) (by decide) rfl (by decide) dX11_led_31 rfl (fun v_4 => ?_)
    refine g_sub (lv' := []) [] rfl ?_
    exact g11_led_J34 B hS9 hr hfl hxt v_4
  · refine g_aload_n B dX11_led_9 0 rfl ?_
    refine g_getR (ci := 10) (T0 := TX11) (N := 18) B (by decide) rfl in_10 (k := 3) (by decide) rfl wd_385 (fun _ h => h) dX11_led_10 (fun v_5 => ?_)
    refine g_getR (ci := 2) (T0 := TX2) (N := 11) B (by decide) rfl in_2 (k := 3) (by decide) rfl wd_138 (fun _ h => h) dX11_led_13 (fun v_6 => ?_)
    refine g_iload_n B dX11_led_16 1 rfl ?_
    refine g_callV_ip [.int x1] (ci := 6) (T0 := TX6) (N := 3) B hS9 mf6_latestDayTo wd_1616 (gw B wd_1617) wd_1615 (by decide) rfl (fun h => (gd_ne h).1) (c6_latestDayTo X l v_6 x1 M) (by decide) (by decide) (by decide) rfl (by decide) dX11_led_17 rfl (fun v_7 => ?_)
    refine g_goto B 34 dX11_led_20 (by decide) ?_
    refine g_sub (lv' := []) [] rfl ?_
    exact g11_led_J34 B hS9 hr hfl hxt v_7
theorem c11_led (X : gX) (l : Launch) (hfl : l.stackTraces = false) (a0 : Nat) (x1 : Int32) (x2 : Int32) (M : mMem) : xCon X l yX11_led cX11_led 3 (some .int) rm11_led (fun r9 : Int32 => (some (.int r9), M)) [.ref a0, .int x1, .int x2] M (p11_led a0 x1 x2 M) := g_xcon (own := RX11) (by decide +kernel) rfl (Nat.le_of_ble_eq_true rfl) (fun p e s m args below meth c B hS9 hr hxt => g11_led B hS9 hr hfl hxt a0 x1 x2)
theorem mf11_lend : gMF yX11_lend cX11_lend 5 (some .int) 2 := ⟨wd_1225, wd_1, ⟨by decide, by decide⟩, by decide +kernel⟩
set_option maxRecDepth 20000 in
set_option maxHeartbeats 2000000 in
theorem g11_lend_J61 {X : gX} {p : Program} {l : Launch} {e : Env} {s : State} {m : MethodId} {args : Array Value} {below : List Frame} {meth : Method} {c : Code} (B : gB X p (rm11_lend) s m args meth c RX11 cX11_lend 5 (rm11_lend)) (hS9 : gS X s) (hr : meth.sig.returnType = some .int) (hfl : l.stackTraces = false) (hxt : ∀ x ∈ c.exceptionTable.toList, False) (a0 : Nat) (x1 : Int32) (x2 : Int32) (a3 : Nat) (u0 : Int32) (M : mMem) : GG X p l e (rm11_lend) s m args below meth c (gxP X below args s 4 24 (fun r9 : (Int32 × mMem) => (some (.int r9.1), r9.2))) 5 3 18 61 [(0, .ref a0), (1, .int x1), (2, .int x2), (3, .ref a3)] [.int u0] M (p11_lend_J61 a0 x1 x2 a3 u0 M) := by
  unfold p11_lend_J61
  refine g_xcallS [.int u0] B hS9 hxt mf11_mustHold wd_1171 wd_1170 (c11_mustHold X l hfl u0 M) (by decide) (by decide) (by decide) (by decide) rfl (by decide) dX11_lend_61 rfl (fun v_1 => ?_)
  refine g_aload_n B dX11_lend_64 0 rfl ?_
  refine g_callV_vw [] (ci := 10) (T0 := TX11) (N := 18) B hS9 mf11_remember wd_1191 (gw B wp_25) wd_1189 (by decide) rfl (fun h => (gd_ne h).1) (c11_remember X l a0 M) (by decide) (by decide) (by decide) rfl (by decide) dX11_lend_65 rfl (fun q_2 => ?_)
  refine g_aload_n B dX11_lend_68 0 rfl ?_
  refine g_getR (ci := 10) (T0 := TX11) (N := 18) B (by decide) rfl in_10 (k := 3) (by decide) rfl wd_385 (fun _ h => h) dX11_lend_69 (fun v_3 => ?_)
  refine g_iload_n B dX11_lend_72 1 rfl ?_
  refine g_iload_n B dX11_lend_73 2 rfl ?_
  refine g_callV_vw [.int x1, .int x2] (ci := 2) (T0 := TX2) (N := 11) B hS9 mf2_lendOne wd_1227 (gw B wd_1228) wd_1226 (by decide) rfl (fun h => (gd_ne h).1) (c2_lendOne X l v_3 x1 x2 q_2) (by decide) (by decide) (by decide) rfl (by decide) dX11_lend_74 rfl (fun q_4 => ?_)
  refine g_aload_n B dX11_lend_77 3 rfl ?_
  refine g_getI (ci := 8) (T0 := TX8) (N := 9) B (by decide) rfl in_8 (k := 7) (by decide) rfl wd_90 (fun _ h => h) dX11_lend_78 (fun v_5 => ?_)
  refine g_xr ?_
  exact g_ireturn B hr rfl (by decide) (by decide) rfl dX11_lend_81
set_option maxRecDepth 20000 in
set_option maxHeartbeats 2000000 in
theorem g11_lend_J60 {X : gX} {p : Program} {l : Launch} {e : Env} {s : State} {m : MethodId} {args : Array Value} {below : List Frame} {meth : Method} {c : Code} (B : gB X p (rm11_lend) s m args meth c RX11 cX11_lend 5 (rm11_lend)) (hS9 : gS X s) (hr : meth.sig.returnType = some .int) (hfl : l.stackTraces = false) (hxt : ∀ x ∈ c.exceptionTable.toList, False) (a0 : Nat) (x1 : Int32) (x2 : Int32) (a3 : Nat) (M : mMem) : GG X p l e (rm11_lend) s m args below meth c (gxP X below args s 4 24 (fun r9 : (Int32 × mMem) => (some (.int r9.1), r9.2))) 5 3 18 60 [(0, .ref a0), (1, .int x1), (2, .int x2), (3, .ref a3)] [] M (p11_lend_J60 a0 x1 x2 a3 M) := by
  unfold p11_lend_J60
  refine g_iconst (v := 0) B dX11_lend_60 (by decide) ?_
  refine g_sub (lv' := [(0, .ref a0), (1, .int x1), (2, .int x2), (3, .ref a3)]) [0, 1, 2, 3] rfl ?_
  exact g11_lend_J61 B hS9 hr hfl hxt a0 x1 x2 a3 0 M
set_option maxRecDepth 20000 in
set_option maxHeartbeats 2000000 in
theorem g11_lend {X : gX} {p : Program} {l : Launch} {e : Env} {s : State} {m : MethodId} {args : Array Value} {below : List Frame} {meth : Method} {c : Code} (B : gB X p (rm11_lend) s m args meth c RX11 cX11_lend 5 (rm11_lend)) (hS9 : gS X s) (hr : meth.sig.returnType = some .int) (hfl : l.stackTraces = false) (hxt : ∀ x ∈ c.exceptionTable.toList, False) (a0 : Nat) (x1 : Int32) (x2 : Int32) (M : mMem) : GG X p l e (rm11_lend) s m args below meth c (gxP X below args s 4 24 (fun r9 : (Int32 × mMem) => (some (.int r9.1), r9.2))) 5 0 0 0 [(0, .ref a0), (1, .int x1), (2, .int x2)] [] M (p11_lend a0 x1 x2 M) := by
  unfold p11_lend
  refine g_gd ?_
  refine g_aload_n B dX11_lend_0 0 rfl ?_
  refine g_iload_n B dX11_lend_1 1 rfl ?_
  refine g_iload_n B dX11_lend_2 2 rfl ?_
  refine g_xcallV [.int x1, .int x2] (ci := 10) (T0 := TX11) (N := 18) B hS9 hxt mf11_mustBeTwo wd_1141 (gw B wp_24) wd_1139 (by decide) rfl (fun h => (gd_ne h).1) (c11_mustBeTwo X l hfl a0 x1 x2 M) (by decide) (by decide) (by decide) (by decide) rfl (by decide) dX11_lend_3 rfl (fun v_1 => ?_)
  refine g_aload_n B dX11_lend_6 0 rfl ?_
  refine g_getR (ci := 10) (T0 := TX11) (N := 18) B (by decide) rfl in_10 (k := 3) (by decide) rfl wd_385 (fun _ h => h) dX11_lend_7 (fun v_2 => ?_)
  refine g_iload_n B dX11_lend_10 1 rfl ?_
  refine g_callV_ap [.int x1] (ci := 2) (T0 := TX2) (N := 11) B hS9 mf2_at wd_466 (gw B wd_467) wd_629 (by decide) rfl (fun h => (gd_ne h).1) (c2_at X l v_2 x1 M) (by decide) (by decide) (by decide) rfl (by decide) dX11_lend_11 rfl (fun v_3 => ?_)
  refine g_astore_n (lv' := [(3, .ref v_3), (0, .ref a0), (1, .int x1), (2, .int x2)]) B dX11_lend_14 (by decide) [0, 1, 2, 3] rfl ?_
  refine g_aload_n B dX11_lend_15 1 rfl ?_
  refine g_getR (ci := 10) (T0 := TX11) (N := 18) B (by decide) rfl in_10 (k := 3) (by decide) rfl wd_385 (fun _ h => h) dX11_lend_16 (fun v_4 => ?_)
  refine g_iload_n B dX11_lend_19 3 rfl ?_
  refine g_callV_ap [.int x2] (ci := 2) (T0 := TX2) (N := 11) B hS9 mf2_at wd_466 (gw B wd_467) wd_629 (by decide) rfl (fun h => (gd_ne h).1) (c2_at X l v_4 x2 M) (by decide) (by decide) (by decide) rfl (by decide) dX11_lend_20 rfl (fun v_5 => ?_)
  refine g_astore (lv' := [(4, .ref v_5), (3, .ref v_3), (0, .ref a0), (1, .int x1), (2, .int x2)]) B dX11_lend_23 (by decide) [0, 1, 2, 3, 4] rfl ?_
  refine g_aload_n B dX11_lend_25 1 rfl ?_
  refine g_getI (ci := 8) (T0 := TX8) (N := 9) B (by decide) rfl in_8 (k := 7) (by decide) rfl wd_90 (fun _ h => h) dX11_lend_26 (fun v_6 => ?_)
  refine g_if_le B 60 dX11_lend_29 (by decide) ?_ ?_
  · refine g_aload B dX11_lend_32 0 rfl ?_
    refine g_getI (ci := 8) (T0 := TX8) (N := 9) B (by decide) rfl in_8 (k := 7) (by decide) rfl wd_90 (fun _ h => h) dX11_lend_34 (fun v_7 => ?_)
    refine g_bipush (v := 9) B dX11_lend_37 (by decide) ?_
    refine g_icmp_ge B 60 dX11_lend_39 (by decide) ?_ ?_
    · refine g_aload_n B dX11_lend_42 2 rfl ?_
      refine g_getR (ci := 10) (T0 := TX11) (N := 18) B (by decide) rfl in_10 (k := 3) (by decide) rfl wd_385 (fun _ h => h) dX11_lend_43 (fun v_8 => ?_)
      refine g_iload_n B dX11_lend_46 3 rfl ?_
      refine g_iload_n B dX11_lend_47 4 rfl ?_
      refine g_callV_ip [.int x1, .int x2] (ci := 2) (T0 := TX2) (N := 11) B hS9 mf2_lentBy wd_621 (gw B wd_622) wd_1144 (by decide) rfl (fun h => (gd_ne h).1) (c2_lentBy X l v_8 x1 x2 M) (by decide) (by decide) (by decide) rfl (by decide) dX11_lend_48 rfl (fun v_9 => ?_)
      refine g_bipush (v := 9) B dX11_lend_51 (by decide) ?_
      refine g_icmp_ge B 60 dX11_lend_53 (by decide) ?_ ?_
      · refine g_iconst (v := 1) B dX11_lend_56 (by decide) ?_
        refine g_goto B 61 dX11_lend_57 (by decide) ?_
        refine g_sub (lv' := [(0, .ref a0), (1, .int x1), (2, .int x2), (3, .ref v_3)]) [2, 3, 4, 1] rfl ?_
        exact g11_lend_J61 B hS9 hr hfl hxt a0 x1 x2 v_3 1 M
      · refine g_sub (lv' := [(0, .ref a0), (1, .int x1), (2, .int x2), (3, .ref v_3)]) [2, 3, 4, 1] rfl ?_
        exact g11_lend_J60 B hS9 hr hfl hxt a0 x1 x2 v_3 M
    · refine g_sub (lv' := [(0, .ref a0), (1, .int x1), (2, .int x2), (3, .ref v_3)]) [2, 3, 4, 1] rfl ?_
      exact g11_lend_J60 B hS9 hr hfl hxt a0 x1 x2 v_3 M
  · refine g_sub (lv' := [(0, .ref a0), (1, .int x1), (2, .int x2), (3, .ref v_3)]) [2, 3, 4, 1] rfl ?_
    exact g11_lend_J60 B hS9 hr hfl hxt a0 x1 x2 v_3 M
theorem c11_lend (X : gX) (l : Launch) (hfl : l.stackTraces = false) (a0 : Nat) (x1 : Int32) (x2 : Int32) (M : mMem) : xCon X l yX11_lend cX11_lend 5 (some .int) rm11_lend (fun r9 : (Int32 × mMem) => (some (.int r9.1), r9.2)) [.ref a0, .int x1, .int x2] M (p11_lend a0 x1 x2 M) := g_xcon (own := RX11) (by decide +kernel) rfl (Nat.le_of_ble_eq_true rfl) (fun p e s m args below meth c B hS9 hr hxt => g11_lend B hS9 hr hfl hxt a0 x1 x2 M)
theorem mf11_lent : gMF yX11_lent cX11_lent 3 (some .int) 2 := ⟨wd_1138, wd_1, ⟨by decide, by decide⟩, by decide +kernel⟩
set_option maxRecDepth 20000 in
set_option maxHeartbeats 2000000 in
theorem g11_lent {X : gX} {p : Program} {l : Launch} {e : Env} {s : State} {m : MethodId} {args : Array Value} {below : List Frame} {meth : Method} {c : Code} (B : gB X p (rm11_lent) s m args meth c RX11 cX11_lent 3 (rm11_lent)) (hS9 : gS X s) (hr : meth.sig.returnType = some .int) (hfl : l.stackTraces = false) (hxt : ∀ x ∈ c.exceptionTable.toList, False) {M : mMem} (a0 : Nat) (x1 : Int32) (x2 : Int32) : GG X p l e (rm11_lent) s m args below meth c (gxP X below args s 3 18 (fun r9 : Int32 => (some (.int r9), M))) 3 0 0 0 [(0, .ref a0), (1, .int x1), (2, .int x2)] [] M (p11_lent a0 x1 x2 M) := by
  unfold p11_lent
  refine g_gd ?_
  refine g_aload_n B dX11_lent_0 0 rfl ?_
  refine g_iload_n B dX11_lent_1 1 rfl ?_
  refine g_iload_n B dX11_lent_2 2 rfl ?_
  refine g_xcallV [.int x1, .int x2] (ci := 10) (T0 := TX11) (N := 18) B hS9 hxt mf11_mustBeTwo wd_1141 (gw B wp_24) wd_1139 (by decide) rfl (fun h => (gd_ne h).1) (c11_mustBeTwo X l hfl a0 x1 x2 M) (by decide) (by decide) (by decide) (by decide) rfl (by decide) dX11_lent_3 rfl (fun v_1 => ?_)
  refine g_aload_n B dX11_lent_6 0 rfl ?_
  refine g_getR (ci := 10) (T0 := TX11) (N := 18) B (by decide) rfl in_10 (k := 3) (by decide) rfl wd_385 (fun _ h => h) dX11_lent_7 (fun v_2 => ?_)
  refine g_iload_n B dX11_lent_10 1 rfl ?_
  refine g_iload_n B dX11_lent_11 2 rfl ?_
  refine g_callV_ip [.int x1, .int x2] (ci := 2) (T0 := TX2) (N := 11) B hS9 mf2_lentBy wd_621 (gw B wd_622) wd_1144 (by decide) rfl (fun h => (gd_ne h).1) (c2_lentBy X l v_2 x1 x2 M) (by decide) (by decide) (by decide) rfl (by decide) dX11_lent_12 rfl (fun v_3 => ?_)
  refine g_xr ?_
  exact g_ireturn B hr rfl (by decide) (by decide) rfl dX11_lent_15
theorem c11_lent (X : gX) (l : Launch) (hfl : l.stackTraces = false) (a0 : Nat) (x1 : Int32) (x2 : Int32) (M : mMem) : xCon X l yX11_lent cX11_lent 3 (some .int) rm11_lent (fun r9 : Int32 => (some (.int r9), M)) [.ref a0, .int x1, .int x2] M (p11_lent a0 x1 x2 M) := g_xcon (own := RX11) (by decide +kernel) rfl (Nat.le_of_ble_eq_true rfl) (fun p e s m args below meth c B hS9 hr hxt => g11_lent B hS9 hr hfl hxt a0 x1 x2)
theorem mf11_log : gMF yX11_log cX11_log 3 (some .int) 2 := ⟨wd_1629, wd_1, ⟨by decide, by decide⟩, by decide +kernel⟩
set_option maxRecDepth 20000 in
set_option maxHeartbeats 2000000 in
theorem g11_log_J9 {X : gX} {p : Program} {l : Launch} {e : Env} {s : State} {m : MethodId} {args : Array Value} {below : List Frame} {meth : Method} {c : Code} (B : gB X p (rm11_log) s m args meth c RX11 cX11_log 3 (rm11_log)) (hS9 : gS X s) (hr : meth.sig.returnType = some .int) (hfl : l.stackTraces = false) (hxt : ∀ x ∈ c.exceptionTable.toList, False) {M : mMem} : GG X p l e (rm11_log) s m args below meth c (gxP X below args s 1 6 (fun r9 : Int32 => (some (.int r9), M))) 3 0 0 9 [] [] M (p11_log_J9 M) := by
  unfold p11_log_J9
  exact g_throwSX (k := 4) (text := "there is no such what") (i := 30) (up := "java/lang/RuntimeException") (ix := 13) (rx := prog_34_method_4_code) B hS9 hfl hxt (by decide) (by decide +kernel) (by decide +kernel) wd_1116 wd_26 (List.mem_of_getElem? (i := 57) rfl) (by decide +kernel) (by decide +kernel) (by decide +kernel) (by decide +kernel) ta_RX11_215 tb_RX11_215 tc_RX11_215 dX11_log_9 dX11_log_12 dX11_log_13 dX11_log_15 dX11_log_18 (by decide) (Nat.le_of_ble_eq_true rfl) (by decide) (by decide)
set_option maxRecDepth 20000 in
set_option maxHeartbeats 2000000 in
theorem g11_log {X : gX} {p : Program} {l : Launch} {e : Env} {s : State} {m : MethodId} {args : Array Value} {below : List Frame} {meth : Method} {c : Code} (B : gB X p (rm11_log) s m args meth c RX11 cX11_log 3 (rm11_log)) (hS9 : gS X s) (hr : meth.sig.returnType = some .int) (hfl : l.stackTraces = false) (hxt : ∀ x ∈ c.exceptionTable.toList, False) {M : mMem} (a0 : Nat) (x1 : Int32) (x2 : Int32) : GG X p l e (rm11_log) s m args below meth c (gxP X below args s 1 6 (fun r9 : Int32 => (some (.int r9), M))) 3 0 0 0 [(0, .ref a0), (1, .int x1), (2, .int x2)] [] M (p11_log a0 x1 x2 M) := by
  unfold p11_log
  refine g_gd ?_
  refine g_iload_n B dX11_log_0 2 rfl ?_
  refine g_if_lt B 9 dX11_log_1 (by decide) ?_ ?_
  · refine g_sub (lv' := []) [] rfl ?_
    exact g11_log_J9 B hS9 hr hfl hxt
  · refine g_iload_n B dX11_log_4 2 rfl ?_
    refine g_iconst (v := 5) B dX11_log_5 (by decide) ?_
    refine g_icmp_lt B 19 dX11_log_6 (by decide) ?_ ?_
    · refine g_aload_n B dX11_log_19 0 rfl ?_
      refine g_getR (ci := 10) (T0 := TX11) (N := 18) B (by decide) rfl in_10 (k := 3) (by decide) rfl wd_385 (fun _ h => h) dX11_log_20 (fun v_1 => ?_)
      refine g_getR (ci := 2) (T0 := TX2) (N := 11) B (by decide) rfl in_2 (k := 3) (by decide) rfl wd_138 (fun _ h => h) dX11_log_23 (fun v_2 => ?_)
      refine g_iload_n B dX11_log_26 1 rfl ?_
      refine g_iload_n B dX11_log_27 2 rfl ?_
      refine g_callV_ip [.int x1, .int x2] (ci := 6) (T0 := TX6) (N := 3) B hS9 mf6_cell wd_1113 (gw B wd_1114) wd_1630 (by decide) rfl (fun h => (gd_ne h).1) (c6_cell X l v_2 x1 x2 M) (by decide) (by decide) (by decide) rfl (by decide) dX11_log_28 rfl (fun v_3 => ?_)
      refine g_xr ?_
      exact g_ireturn B hr rfl (by decide) (by decide) rfl dX11_log_31
    · refine g_sub (lv' := []) [] rfl ?_
      exact g11_log_J9 B hS9 hr hfl hxt
theorem c11_log (X : gX) (l : Launch) (hfl : l.stackTraces = false) (a0 : Nat) (x1 : Int32) (x2 : Int32) (M : mMem) : xCon X l yX11_log cX11_log 3 (some .int) rm11_log (fun r9 : Int32 => (some (.int r9), M)) [.ref a0, .int x1, .int x2] M (p11_log a0 x1 x2 M) := g_xcon (own := RX11) (by decide +kernel) rfl (Nat.le_of_ble_eq_true rfl) (fun p e s m args below meth c B hS9 hr hxt => g11_log B hS9 hr hfl hxt a0 x1 x2)
theorem mf11_mate : gMF yX11_mate cX11_mate 2 (some .int) 1 := ⟨wd_1422, wd_1, ⟨by decide, by decide⟩, by decide +kernel⟩
set_option maxRecDepth 20000 in
set_option maxHeartbeats 2000000 in
theorem g11_mate {X : gX} {p : Program} {l : Launch} {e : Env} {s : State} {m : MethodId} {args : Array Value} {below : List Frame} {meth : Method} {c : Code} (B : gB X p (rm11_mate) s m args meth c RX11 cX11_mate 2 (rm11_mate)) (hS9 : gS X s) (hr : meth.sig.returnType = some .int) (hfl : l.stackTraces = false) (hxt : ∀ x ∈ c.exceptionTable.toList, False) (a0 : Nat) (x1 : Int32) (M : mMem) : GG X p l e (rm11_mate) s m args below meth c (gxP X below args s 1 6 (fun r9 : (Int32 × mMem) => (some (.int r9.1), r9.2))) 2 0 0 0 [(0, .ref a0), (1, .int x1)] [] M (p11_mate a0 x1 M) := by
  unfold p11_mate
  refine g_gd ?_
  refine g_aload_n B dX11_mate_0 0 rfl ?_
  refine g_iload_n B dX11_mate_1 1 rfl ?_
  refine g_xcallV [.int x1] (ci := 10) (T0 := TX11) (N := 18) B hS9 hxt mf11_mustBe wd_1085 (gw B wp_23) wd_1083 (by decide) rfl (fun h => (gd_ne h).1) (c11_mustBe X l hfl a0 x1 M) (by decide) (by decide) (by decide) (by decide) rfl (by decide) dX11_mate_2 rfl (fun v_1 => ?_)
  refine g_aload_n B dX11_mate_5 0 rfl ?_
  refine g_getR (ci := 10) (T0 := TX11) (N := 18) B (by decide) rfl in_10 (k := 16) (by decide) rfl wd_398 (fun _ h => h) dX11_mate_6 (fun v_2 => ?_)
  refine g_callV_vw [] (ci := 7) (T0 := TX7) (N := 6) B hS9 mf7_bestMatching wd_570 (gw B wd_571) wd_569 (by decide) rfl (fun h => (gd_ne h).1) (c7_bestMatching X l v_2 M) (by decide) (by decide) (by decide) rfl (by decide) dX11_mate_9 rfl (fun q_3 => ?_)
  refine g_aload_n B dX11_mate_12 0 rfl ?_
  refine g_getR (ci := 10) (T0 := TX11) (N := 18) B (by decide) rfl in_10 (k := 16) (by decide) rfl wd_398 (fun _ h => h) dX11_mate_13 (fun v_4 => ?_)
  refine g_iload_n B dX11_mate_16 1 rfl ?_
  refine g_callV_ip [.int x1] (ci := 7) (T0 := TX7) (N := 6) B hS9 mf7_bestOf wd_1424 (gw B wd_1425) wd_1423 (by decide) rfl (fun h => (gd_ne h).1) (c7_bestOf X l v_4 x1 q_3) (by decide) (by decide) (by decide) rfl (by decide) dX11_mate_17 rfl (fun v_5 => ?_)
  refine g_xr ?_
  exact g_ireturn B hr rfl (by decide) (by decide) rfl dX11_mate_20
theorem c11_mate (X : gX) (l : Launch) (hfl : l.stackTraces = false) (a0 : Nat) (x1 : Int32) (M : mMem) : xCon X l yX11_mate cX11_mate 2 (some .int) rm11_mate (fun r9 : (Int32 × mMem) => (some (.int r9.1), r9.2)) [.ref a0, .int x1] M (p11_mate a0 x1 M) := g_xcon (own := RX11) (by decide +kernel) rfl (Nat.le_of_ble_eq_true rfl) (fun p e s m args below meth c B hS9 hr hxt => g11_mate B hS9 hr hfl hxt a0 x1 M)
theorem mf11_mild : gMF yX11_mild cX11_mild 2 (some .int) 1 := ⟨wd_1500, wd_1, ⟨by decide, by decide⟩, by decide +kernel⟩
set_option maxRecDepth 20000 in
set_option maxHeartbeats 2000000 in
theorem g11_mild {X : gX} {p : Program} {l : Launch} {e : Env} {s : State} {m : MethodId} {args : Array Value} {below : List Frame} {meth : Method} {c : Code} (B : gB X p (rm11_mild) s m args meth c RX11 cX11_mild 2 (rm11_mild)) (hS9 : gS X s) (hr : meth.sig.returnType = some .int) (hfl : l.stackTraces = false) (hxt : ∀ x ∈ c.exceptionTable.toList, False) (a0 : Nat) (x1 : Int32) (M : mMem) : GG X p l e (rm11_mild) s m args below meth c (gxP X below args s 1 6 (fun r9 : (Int32 × mMem) => (some (.int r9.1), r9.2))) 2 0 0 0 [(0, .ref a0), (1, .int x1)] [] M (p11_mild a0 x1 M) := by
  unfold p11_mild
  refine g_gd ?_
  refine g_iload_n B dX11_mild_0 1 rfl ?_
  refine g_iconst (v := 0) B dX11_mild_1 (by decide) ?_
  refine g_bipush (v := 60) B dX11_mild_2 (by decide) ?_
  refine g_xcallS [.int x1, .int 0, .int 60] B hS9 hxt mf11_mustLie wd_1253 wd_1252 (c11_mustLie X l hfl x1 0 60 M) (by decide) (by decide) (by decide) (by decide) rfl (by decide) dX11_mild_4 rfl (fun v_1 => ?_)
  refine g_aload_n B dX11_mild_7 0 rfl ?_
  refine g_getR (ci := 10) (T0 := TX11) (N := 18) B (by decide) rfl in_10 (k := 14) (by decide) rfl wd_396 (fun _ h => h) dX11_mild_8 (fun v_2 => ?_)
  refine g_iload_n B dX11_mild_11 1 rfl ?_
  refine g_callV_iw [.int x1] (ci := 1) (T0 := TX1) (N := 3) B hS9 mf1_mildest wd_1502 (gw B wd_1503) wd_1501 (by decide) rfl (fun h => (gd_ne h).1) (c1_mildest X l v_2 x1 M) (by decide) (by decide) (by decide) rfl (by decide) dX11_mild_12 rfl (fun q_3 => ?_)
  refine g_xr ?_
  exact g_ireturn B hr rfl (by decide) (by decide) rfl dX11_mild_15
theorem c11_mild (X : gX) (l : Launch) (hfl : l.stackTraces = false) (a0 : Nat) (x1 : Int32) (M : mMem) : xCon X l yX11_mild cX11_mild 2 (some .int) rm11_mild (fun r9 : (Int32 × mMem) => (some (.int r9.1), r9.2)) [.ref a0, .int x1] M (p11_mild a0 x1 M) := g_xcon (own := RX11) (by decide +kernel) rfl (Nat.le_of_ble_eq_true rfl) (fun p e s m args below meth c B hS9 hr hxt => g11_mild B hS9 hr hfl hxt a0 x1 M)
theorem mf11_odds : gMF yX11_odds cX11_odds 4 (some .int) 3 := ⟨wd_1560, wd_1, ⟨by decide, by decide⟩, by decide +kernel⟩
set_option maxRecDepth 20000 in
set_option maxHeartbeats 2000000 in
theorem g11_odds {X : gX} {p : Program} {l : Launch} {e : Env} {s : State} {m : MethodId} {args : Array Value} {below : List Frame} {meth : Method} {c : Code} (B : gB X p (rm11_odds) s m args meth c RX11 cX11_odds 4 (rm11_odds)) (hS9 : gS X s) (hr : meth.sig.returnType = some .int) (hfl : l.stackTraces = false) (hxt : ∀ x ∈ c.exceptionTable.toList, False) {M : mMem} (a0 : Nat) (x1 : Int32) (x2 : Int32) (x3 : Int32) : GG X p l e (rm11_odds) s m args below meth c (gxP X below args s 3 18 (fun r9 : Int32 => (some (.int r9), M))) 4 0 0 0 [(0, .ref a0), (1, .int x1), (2, .int x2), (3, .int x3)] [] M (p11_odds a0 x1 x2 x3 M) := by
  unfold p11_odds
  refine g_gd ?_
  refine g_aload_n B dX11_odds_0 0 rfl ?_
  refine g_iload_n B dX11_odds_1 1 rfl ?_
  refine g_xcallV [.int x1] (ci := 10) (T0 := TX11) (N := 18) B hS9 hxt mf11_mustBe wd_1085 (gw B wp_23) wd_1083 (by decide) rfl (fun h => (gd_ne h).1) (c11_mustBe X l hfl a0 x1 M) (by decide) (by decide) (by decide) (by decide) rfl (by decide) dX11_odds_2 rfl (fun v_1 => ?_)
  refine g_iload_n B dX11_odds_5 2 rfl ?_
  refine g_iconst (v := 0) B dX11_odds_6 (by decide) ?_
  refine g_iconst (v := 3) B dX11_odds_7 (by decide) ?_
  refine g_xcallS [.int x2, .int 0, .int 3] B hS9 hxt mf11_mustLie wd_1253 wd_1252 (c11_mustLie X l hfl x2 0 3 M) (by decide) (by decide) (by decide) (by decide) rfl (by decide) dX11_odds_8 rfl (fun v_2 => ?_)
  refine g_iload_n B dX11_odds_11 3 rfl ?_
  refine g_iconst (v := 0) B dX11_odds_12 (by decide) ?_
  refine g_iconst (v := 3) B dX11_odds_13 (by decide) ?_
  refine g_xcallS [.int x3, .int 0, .int 3] B hS9 hxt mf11_mustLie wd_1253 wd_1252 (c11_mustLie X l hfl x3 0 3 M) (by decide) (by decide) (by decide) (by decide) rfl (by decide) dX11_odds_14 rfl (fun v_3 => ?_)
  refine g_aload_n B dX11_odds_17 0 rfl ?_
  refine g_getR (ci := 10) (T0 := TX11) (N := 18) B (by decide) rfl in_10 (k := 17) (by decide) rfl wd_399 (fun _ h => h) dX11_odds_18 (fun v_4 => ?_)
  refine g_iload_n B dX11_odds_21 1 rfl ?_
  refine g_iload_n B dX11_odds_22 2 rfl ?_
  refine g_iload_n B dX11_odds_23 3 rfl ?_
  refine g_callV_ip [.int x1, .int x2, .int x3] (ci := 9) (T0 := TX10) (N := 1) B hS9 mf10_chanceOfNo wd_1562 (gw B wd_1563) wd_1561 (by decide) rfl (fun h => (gd_ne h).1) (c10_chanceOfNo X l v_4 x1 x2 x3 M) (by decide) (by decide) (by decide) rfl (by decide) dX11_odds_24 rfl (fun v_5 => ?_)
  refine g_xr ?_
  exact g_ireturn B hr rfl (by decide) (by decide) rfl dX11_odds_27
theorem c11_odds (X : gX) (l : Launch) (hfl : l.stackTraces = false) (a0 : Nat) (x1 : Int32) (x2 : Int32) (x3 : Int32) (M : mMem) : xCon X l yX11_odds cX11_odds 4 (some .int) rm11_odds (fun r9 : Int32 => (some (.int r9), M)) [.ref a0, .int x1, .int x2, .int x3] M (p11_odds a0 x1 x2 x3 M) := g_xcon (own := RX11) (by decide +kernel) rfl (Nat.le_of_ble_eq_true rfl) (fun p e s m args below meth c B hS9 hr hxt => g11_odds B hS9 hr hfl hxt a0 x1 x2 x3)
theorem mf11_over : gMF yX11_over cX11_over 2 (some .int) 1 := ⟨wd_1373, wd_1, ⟨by decide, by decide⟩, by decide +kernel⟩
set_option maxRecDepth 20000 in
set_option maxHeartbeats 2000000 in
theorem g11_over {X : gX} {p : Program} {l : Launch} {e : Env} {s : State} {m : MethodId} {args : Array Value} {below : List Frame} {meth : Method} {c : Code} (B : gB X p (rm11_over) s m args meth c RX11 cX11_over 2 (rm11_over)) (hS9 : gS X s) (hr : meth.sig.returnType = some .int) (hfl : l.stackTraces = false) (hxt : ∀ x ∈ c.exceptionTable.toList, False) (a0 : Nat) (x1 : Int32) (M : mMem) : GG X p l e (rm11_over) s m args below meth c (gxP X below args s 1 6 (fun r9 : (Int32 × mMem) => (some (.int r9.1), r9.2))) 2 0 0 0 [(0, .ref a0), (1, .int x1)] [] M (p11_over a0 x1 M) := by
  unfold p11_over
  refine g_gd ?_
  refine g_aload_n B dX11_over_0 0 rfl ?_
  refine g_iload_n B dX11_over_1 1 rfl ?_
  refine g_xcallV [.int x1] (ci := 10) (T0 := TX11) (N := 18) B hS9 hxt mf11_mustBe wd_1085 (gw B wp_23) wd_1083 (by decide) rfl (fun h => (gd_ne h).1) (c11_mustBe X l hfl a0 x1 M) (by decide) (by decide) (by decide) (by decide) rfl (by decide) dX11_over_2 rfl (fun v_1 => ?_)
  refine g_aload_n B dX11_over_5 0 rfl ?_
  refine g_getR (ci := 10) (T0 := TX11) (N := 18) B (by decide) rfl in_10 (k := 14) (by decide) rfl wd_396 (fun _ h => h) dX11_over_6 (fun v_2 => ?_)
  refine g_iload_n B dX11_over_9 1 rfl ?_
  refine g_callV_iw [.int x1] (ci := 1) (T0 := TX1) (N := 3) B hS9 mf1_firstTurn wd_1375 (gw B wd_1376) wd_1374 (by decide) rfl (fun h => (gd_ne h).1) (c1_firstTurn X l v_2 x1 M) (by decide) (by decide) (by decide) rfl (by decide) dX11_over_10 rfl (fun q_3 => ?_)
  refine g_xr ?_
  exact g_ireturn B hr rfl (by decide) (by decide) rfl dX11_over_13
theorem c11_over (X : gX) (l : Launch) (hfl : l.stackTraces = false) (a0 : Nat) (x1 : Int32) (M : mMem) : xCon X l yX11_over cX11_over 2 (some .int) rm11_over (fun r9 : (Int32 × mMem) => (some (.int r9.1), r9.2)) [.ref a0, .int x1] M (p11_over a0 x1 M) := g_xcon (own := RX11) (by decide +kernel) rfl (Nat.le_of_ble_eq_true rfl) (fun p e s m args below meth c B hS9 hr hxt => g11_over B hS9 hr hfl hxt a0 x1 M)
theorem mf11_owes : gMF yX11_owes cX11_owes 3 (some .int) 2 := ⟨wd_1460, wd_1, ⟨by decide, by decide⟩, by decide +kernel⟩
set_option maxRecDepth 20000 in
set_option maxHeartbeats 2000000 in
theorem g11_owes {X : gX} {p : Program} {l : Launch} {e : Env} {s : State} {m : MethodId} {args : Array Value} {below : List Frame} {meth : Method} {c : Code} (B : gB X p (rm11_owes) s m args meth c RX11 cX11_owes 3 (rm11_owes)) (hS9 : gS X s) (hr : meth.sig.returnType = some .int) (hfl : l.stackTraces = false) (hxt : ∀ x ∈ c.exceptionTable.toList, False) {M : mMem} (a0 : Nat) (x1 : Int32) (x2 : Int32) : GG X p l e (rm11_owes) s m args below meth c (gxP X below args s 3 18 (fun r9 : Int32 => (some (.int r9), M))) 3 0 0 0 [(0, .ref a0), (1, .int x1), (2, .int x2)] [] M (p11_owes a0 x1 x2 M) := by
  unfold p11_owes
  refine g_gd ?_
  refine g_aload_n B dX11_owes_0 0 rfl ?_
  refine g_iload_n B dX11_owes_1 1 rfl ?_
  refine g_iload_n B dX11_owes_2 2 rfl ?_
  refine g_xcallV [.int x1, .int x2] (ci := 10) (T0 := TX11) (N := 18) B hS9 hxt mf11_mustBeTwo wd_1141 (gw B wp_24) wd_1139 (by decide) rfl (fun h => (gd_ne h).1) (c11_mustBeTwo X l hfl a0 x1 x2 M) (by decide) (by decide) (by decide) (by decide) rfl (by decide) dX11_owes_3 rfl (fun v_1 => ?_)
  refine g_iconst (v := 0) B dX11_owes_6 (by decide) ?_
  refine g_aload_n B dX11_owes_7 0 rfl ?_
  refine g_getR (ci := 10) (T0 := TX11) (N := 18) B (by decide) rfl in_10 (k := 3) (by decide) rfl wd_385 (fun _ h => h) dX11_owes_8 (fun v_2 => ?_)
  refine g_iload_n B dX11_owes_11 2 rfl ?_
  refine g_iload_n B dX11_owes_12 1 rfl ?_
  refine g_callV_ip [.int x2, .int x1] (ci := 2) (T0 := TX2) (N := 11) B hS9 mf2_lentBy wd_621 (gw B wd_622) wd_1144 (by decide) rfl (fun h => (gd_ne h).1) (c2_lentBy X l v_2 x2 x1 M) (by decide) (by decide) (by decide) rfl (Nat.le_of_ble_eq_true rfl) dX11_owes_13 rfl (fun v_3 => ?_)
  refine g_aload_n B dX11_owes_16 0 rfl ?_
  refine g_getR (ci := 10) (T0 := TX11) (N := 18) B (by decide) rfl in_10 (k := 3) (by decide) rfl wd_385 (fun _ h => h) dX11_owes_17 (fun v_4 => ?_)
  refine g_iload_n B dX11_owes_20 1 rfl ?_
  refine g_iload_n B dX11_owes_21 2 rfl ?_
  refine g_callV_ip [.int x1, .int x2] (ci := 2) (T0 := TX2) (N := 11) B hS9 mf2_lentBy wd_621 (gw B wd_622) wd_1144 (by decide) rfl (fun h => (gd_ne h).1) (c2_lentBy X l v_4 x1 x2 M) (by decide) (by decide) (by decide) rfl (Nat.le_of_ble_eq_true rfl) dX11_owes_22 rfl (fun v_5 => ?_)
  refine g_isub B dX11_owes_25 ?_
  refine g_max B wd_684 wd_516 wd_15 wd_517 (by decide) (Nat.le_of_ble_eq_true rfl) (by decide) dX11_owes_26 ?_
  refine g_xr ?_
  exact g_ireturn B hr rfl (by decide) (by decide) rfl dX11_owes_29
theorem c11_owes (X : gX) (l : Launch) (hfl : l.stackTraces = false) (a0 : Nat) (x1 : Int32) (x2 : Int32) (M : mMem) : xCon X l yX11_owes cX11_owes 3 (some .int) rm11_owes (fun r9 : Int32 => (some (.int r9), M)) [.ref a0, .int x1, .int x2] M (p11_owes a0 x1 x2 M) := g_xcon (own := RX11) (by decide +kernel) rfl (Nat.le_of_ble_eq_true rfl) (fun p e s m args below meth c B hS9 hr hxt => g11_owes B hS9 hr hfl hxt a0 x1 x2)
theorem mf11_part : gMF yX11_part cX11_part 3 (some .int) 1 := ⟨wd_1218, wd_1, ⟨by decide, by decide⟩, by decide +kernel⟩
set_option maxRecDepth 20000 in
set_option maxHeartbeats 2000000 in
theorem g11_part_J27 {X : gX} {p : Program} {l : Launch} {e : Env} {s : State} {m : MethodId} {args : Array Value} {below : List Frame} {meth : Method} {c : Code} (B : gB X p (rm11_part) s m args meth c RX11 cX11_part 3 (rm11_part)) (hS9 : gS X s) (hr : meth.sig.returnType = some .int) (hfl : l.stackTraces = false) (hxt : ∀ x ∈ c.exceptionTable.toList, False) (a0 : Nat) (x1 : Int32) (x2 : Int32) (u0 : Int32) (M : mMem) : GG X p l e (rm11_part) s m args below meth c (gxP X below args s 2 12 (fun r9 : (Int32 × mMem) => (some (.int r9.1), r9.2))) 3 1 6 27 [(0, .ref a0), (1, .int x1), (2, .int x2)] [.int u0] M (p11_part_J27 a0 x1 x2 u0 M) := by
  unfold p11_part_J27
  refine g_xcallS [.int u0] B hS9 hxt mf11_mustHold wd_1171 wd_1170 (c11_mustHold X l hfl u0 M) (by decide) (by decide) (by decide) (by decide) rfl (by decide) dX11_part_27 rfl (fun v_1 => ?_)
  refine g_aload_n B dX11_part_30 0 rfl ?_
  refine g_callV_vw [] (ci := 10) (T0 := TX11) (N := 18) B hS9 mf11_remember wd_1191 (gw B wp_25) wd_1189 (by decide) rfl (fun h => (gd_ne h).1) (c11_remember X l a0 M) (by decide) (by decide) (by decide) rfl (by decide) dX11_part_31 rfl (fun q_2 => ?_)
  refine g_aload_n B dX11_part_34 0 rfl ?_
  refine g_getR (ci := 10) (T0 := TX11) (N := 18) B (by decide) rfl in_10 (k := 3) (by decide) rfl wd_385 (fun _ h => h) dX11_part_35 (fun v_3 => ?_)
  refine g_iload_n B dX11_part_38 1 rfl ?_
  refine g_callV_ap [.int x1] (ci := 2) (T0 := TX2) (N := 11) B hS9 mf2_at wd_466 (gw B wd_467) wd_629 (by decide) rfl (fun h => (gd_ne h).1) (c2_at X l v_3 x1 q_2) (by decide) (by decide) (by decide) rfl (by decide) dX11_part_39 rfl (fun v_4 => ?_)
  refine g_iconst (v := (-1)) B dX11_part_42 (by decide) ?_
  refine g_putI (ci := 8) (T0 := TX8) (N := 9) B (by decide) rfl in_8 tyX8 tyX8_ok nmX8 (k := 4) (by decide) wd_76 (fun _ h => h) rfl rfl (ty := .int) (by decide +kernel) rfl rfl dX11_part_43 (fun M_5 => ?_)
  refine g_aload_n B dX11_part_46 0 rfl ?_
  refine g_getR (ci := 10) (T0 := TX11) (N := 18) B (by decide) rfl in_10 (k := 3) (by decide) rfl wd_385 (fun _ h => h) dX11_part_47 (fun v_6 => ?_)
  refine g_iload_n B dX11_part_50 2 rfl ?_
  refine g_callV_ap [.int x2] (ci := 2) (T0 := TX2) (N := 11) B hS9 mf2_at wd_466 (gw B wd_467) wd_629 (by decide) rfl (fun h => (gd_ne h).1) (c2_at X l v_6 x2 M_5) (by decide) (by decide) (by decide) rfl (by decide) dX11_part_51 rfl (fun v_7 => ?_)
  refine g_iconst (v := (-1)) B dX11_part_54 (by decide) ?_
  refine g_putI (ci := 8) (T0 := TX8) (N := 9) B (by decide) rfl in_8 tyX8 tyX8_ok nmX8 (k := 4) (by decide) wd_76 (fun _ h => h) rfl rfl (ty := .int) (by decide +kernel) rfl rfl dX11_part_55 (fun M_8 => ?_)
  refine g_iload_n B dX11_part_58 2 rfl ?_
  refine g_xr ?_
  exact g_ireturn B hr rfl (by decide) (by decide) rfl dX11_part_59
set_option maxRecDepth 20000 in
set_option maxHeartbeats 2000000 in
theorem g11_part {X : gX} {p : Program} {l : Launch} {e : Env} {s : State} {m : MethodId} {args : Array Value} {below : List Frame} {meth : Method} {c : Code} (B : gB X p (rm11_part) s m args meth c RX11 cX11_part 3 (rm11_part)) (hS9 : gS X s) (hr : meth.sig.returnType = some .int) (hfl : l.stackTraces = false) (hxt : ∀ x ∈ c.exceptionTable.toList, False) (a0 : Nat) (x1 : Int32) (M : mMem) : GG X p l e (rm11_part) s m args below meth c (gxP X below args s 2 12 (fun r9 : (Int32 × mMem) => (some (.int r9.1), r9.2))) 3 0 0 0 [(0, .ref a0), (1, .int x1)] [] M (p11_part a0 x1 M) := by
  unfold p11_part
  refine g_gd ?_
  refine g_aload_n B dX11_part_0 0 rfl ?_
  refine g_iload_n B dX11_part_1 1 rfl ?_
  refine g_xcallV [.int x1] (ci := 10) (T0 := TX11) (N := 18) B hS9 hxt mf11_mustBe wd_1085 (gw B wp_23) wd_1083 (by decide) rfl (fun h => (gd_ne h).1) (c11_mustBe X l hfl a0 x1 M) (by decide) (by decide) (by decide) (by decide) rfl (by decide) dX11_part_2 rfl (fun v_1 => ?_)
  refine g_aload_n B dX11_part_5 0 rfl ?_
  refine g_getR (ci := 10) (T0 := TX11) (N := 18) B (by decide) rfl in_10 (k := 3) (by decide) rfl wd_385 (fun _ h => h) dX11_part_6 (fun v_2 => ?_)
  refine g_iload_n B dX11_part_9 1 rfl ?_
  refine g_callV_ap [.int x1] (ci := 2) (T0 := TX2) (N := 11) B hS9 mf2_at wd_466 (gw B wd_467) wd_629 (by decide) rfl (fun h => (gd_ne h).1) (c2_at X l v_2 x1 M) (by decide) (by decide) (by decide) rfl (by decide) dX11_part_10 rfl (fun v_3 => ?_)
  refine g_getI (ci := 8) (T0 := TX8) (N := 9) B (by decide) rfl in_8 (k := 4) (by decide) rfl wd_76 (fun _ h => h) dX11_part_13 (fun v_4 => ?_)
  refine g_istore_n (lv' := [(2, .int v_4), (0, .ref a0), (1, .int x1)]) B dX11_part_16 (by decide) [0, 1, 2] rfl ?_
  refine g_iload_n B dX11_part_17 0 rfl ?_
  refine g_iconst (v := (-1)) B dX11_part_18 (by decide) ?_
  refine g_icmp_eq B 26 dX11_part_19 (by decide) ?_ ?_
  · refine g_iconst (v := 0) B dX11_part_26 (by decide) ?_
    refine g_sub (lv' := [(0, .ref a0), (1, .int x1), (2, .int v_4)]) [1, 2, 0] rfl ?_
    exact g11_part_J27 B hS9 hr hfl hxt a0 x1 v_4 0 M
  · refine g_iconst (v := 1) B dX11_part_22 (by decide) ?_
    refine g_goto B 27 dX11_part_23 (by decide) ?_
    refine g_sub (lv' := [(0, .ref a0), (1, .int x1), (2, .int v_4)]) [1, 2, 0] rfl ?_
    exact g11_part_J27 B hS9 hr hfl hxt a0 x1 v_4 1 M
theorem c11_part (X : gX) (l : Launch) (hfl : l.stackTraces = false) (a0 : Nat) (x1 : Int32) (M : mMem) : xCon X l yX11_part cX11_part 3 (some .int) rm11_part (fun r9 : (Int32 × mMem) => (some (.int r9.1), r9.2)) [.ref a0, .int x1] M (p11_part a0 x1 M) := g_xcon (own := RX11) (by decide +kernel) rfl (Nat.le_of_ble_eq_true rfl) (fun p e s m args below meth c B hS9 hr hxt => g11_part B hS9 hr hfl hxt a0 x1 M)
theorem mf11_person : gMF yX11_person cX11_person 4 (some .int) 2 := ⟨wd_1082, wd_1, ⟨by decide, by decide⟩, by decide +kernel⟩
set_option maxRecDepth 20000 in
set_option maxHeartbeats 2000000 in
theorem g11_person {X : gX} {p : Program} {l : Launch} {e : Env} {s : State} {m : MethodId} {args : Array Value} {below : List Frame} {meth : Method} {c : Code} (B : gB X p (rm11_person) s m args meth c RX11 cX11_person 4 (rm11_person)) (hS9 : gS X s) (hr : meth.sig.returnType = some .int) (hfl : l.stackTraces = false) (hxt : ∀ x ∈ c.exceptionTable.toList, False) {M : mMem} (a0 : Nat) (x1 : Int32) (x2 : Int32) : GG X p l e (rm11_person) s m args below meth c (gxP X below args s 2 12 (fun r9 : Int32 => (some (.int r9), M))) 4 0 0 0 [(0, .ref a0), (1, .int x1), (2, .int x2)] [] M (p11_person a0 x1 x2 M) := by
  unfold p11_person
  refine g_gd ?_
  refine g_aload_n B dX11_person_0 0 rfl ?_
  refine g_iload_n B dX11_person_1 1 rfl ?_
  refine g_xcallV [.int x1] (ci := 10) (T0 := TX11) (N := 18) B hS9 hxt mf11_mustBe wd_1085 (gw B wp_23) wd_1083 (by decide) rfl (fun h => (gd_ne h).1) (c11_mustBe X l hfl a0 x1 M) (by decide) (by decide) (by decide) (by decide) rfl (by decide) dX11_person_2 rfl (fun v_1 => ?_)
  refine g_aload_n B dX11_person_5 0 rfl ?_
  refine g_getR (ci := 10) (T0 := TX11) (N := 18) B (by decide) rfl in_10 (k := 3) (by decide) rfl wd_385 (fun _ h => h) dX11_person_6 (fun v_2 => ?_)
  refine g_iload_n B dX11_person_9 1 rfl ?_
  refine g_callV_ap [.int x1] (ci := 2) (T0 := TX2) (N := 11) B hS9 mf2_at wd_466 (gw B wd_467) wd_629 (by decide) rfl (fun h => (gd_ne h).1) (c2_at X l v_2 x1 M) (by decide) (by decide) (by decide) rfl (by decide) dX11_person_10 rfl (fun v_3 => ?_)
  refine g_astore_n (lv' := [(3, .ref v_3), (0, .ref a0), (1, .int x1), (2, .int x2)]) B dX11_person_13 (by decide) [0, 1, 2, 3] rfl ?_
  refine g_iload_n B dX11_person_14 3 rfl ?_
  refine g_tableswitch B [0, 1, 2, 3, 4, 5, 6, 7, 8, 9, 10] [72, 77, 82, 87, 92, 97, 102, 107, 112, 117, 126] 138 dX11_person_15 (by decide) (by decide) ?_ ?_
  · exact g_throwSX (k := 4) (text := "there is no such what") (i := 30) (up := "java/lang/RuntimeException") (ix := 13) (rx := prog_34_method_4_code) B hS9 hfl hxt (by decide) (by decide +kernel) (by decide +kernel) wd_1116 wd_26 (List.mem_of_getElem? (i := 57) rfl) (by decide +kernel) (by decide +kernel) (by decide +kernel) (by decide +kernel) ta_RX11_215 tb_RX11_215 tc_RX11_215 dX11_person_138 dX11_person_141 dX11_person_142 dX11_person_144 dX11_person_147 (by decide) (Nat.le_of_ble_eq_true rfl) (by decide) (by decide)
  · refine ⟨rfl, ?_, ?_, ?_, ?_, ?_, ?_, ?_, ?_, ?_, ?_, ?_, trivial⟩
    · refine g_aload_n B dX11_person_72 0 rfl ?_
      refine g_getI (ci := 8) (T0 := TX8) (N := 9) B (by decide) rfl in_8 (k := 0) (by decide) rfl wd_58 (fun _ h => h) dX11_person_73 (fun v_4 => ?_)
      refine g_xr ?_
      exact g_ireturn B hr rfl (by decide) (by decide) rfl dX11_person_76
    · refine g_aload_n B dX11_person_77 0 rfl ?_
      refine g_getI (ci := 8) (T0 := TX8) (N := 9) B (by decide) rfl in_8 (k := 1) (by decide) rfl wd_63 (fun _ h => h) dX11_person_78 (fun v_5 => ?_)
      refine g_xr ?_
      exact g_ireturn B hr rfl (by decide) (by decide) rfl dX11_person_81
    · refine g_aload_n B dX11_person_82 0 rfl ?_
      refine g_getI (ci := 8) (T0 := TX8) (N := 9) B (by decide) rfl in_8 (k := 2) (by decide) rfl wd_67 (fun _ h => h) dX11_person_83 (fun v_6 => ?_)
      refine g_xr ?_
      exact g_ireturn B hr rfl (by decide) (by decide) rfl dX11_person_86
    · refine g_aload_n B dX11_person_87 0 rfl ?_
      refine g_getI (ci := 8) (T0 := TX8) (N := 9) B (by decide) rfl in_8 (k := 3) (by decide) rfl wd_72 (fun _ h => h) dX11_person_88 (fun v_7 => ?_)
      refine g_xr ?_
      exact g_ireturn B hr rfl (by decide) (by decide) rfl dX11_person_91
    · refine g_aload_n B dX11_person_92 0 rfl ?_
      refine g_getI (ci := 8) (T0 := TX8) (N := 9) B (by decide) rfl in_8 (k := 4) (by decide) rfl wd_76 (fun _ h => h) dX11_person_93 (fun v_8 => ?_)
      refine g_xr ?_
      exact g_ireturn B hr rfl (by decide) (by decide) rfl dX11_person_96
    · refine g_aload_n B dX11_person_97 0 rfl ?_
      refine g_getI (ci := 8) (T0 := TX8) (N := 9) B (by decide) rfl in_8 (k := 5) (by decide) rfl wd_81 (fun _ h => h) dX11_person_98 (fun v_9 => ?_)
      refine g_xr ?_
      exact g_ireturn B hr rfl (by decide) (by decide) rfl dX11_person_101
    · refine g_aload_n B dX11_person_102 0 rfl ?_
      refine g_getI (ci := 8) (T0 := TX8) (N := 9) B (by decide) rfl in_8 (k := 6) (by decide) rfl wd_86 (fun _ h => h) dX11_person_103 (fun v_10 => ?_)
      refine g_xr ?_
      exact g_ireturn B hr rfl (by decide) (by decide) rfl dX11_person_106
    · refine g_aload_n B dX11_person_107 0 rfl ?_
      refine g_getI (ci := 8) (T0 := TX8) (N := 9) B (by decide) rfl in_8 (k := 7) (by decide) rfl wd_90 (fun _ h => h) dX11_person_108 (fun v_11 => ?_)
      refine g_xr ?_
      exact g_ireturn B hr rfl (by decide) (by decide) rfl dX11_person_111
    · refine g_aload_n B dX11_person_112 0 rfl ?_
      refine g_getI (ci := 8) (T0 := TX8) (N := 9) B (by decide) rfl in_8 (k := 8) (by decide) rfl wd_95 (fun _ h => h) dX11_person_113 (fun v_12 => ?_)
      refine g_xr ?_
      exact g_ireturn B hr rfl (by decide) (by decide) rfl dX11_person_116
    · refine g_aload_n B dX11_person_117 1 rfl ?_
      refine g_getR (ci := 10) (T0 := TX11) (N := 18) B (by decide) rfl in_10 (k := 3) (by decide) rfl wd_385 (fun _ h => h) dX11_person_118 (fun v_13 => ?_)
      refine g_iload_n B dX11_person_121 2 rfl ?_
      refine g_callV_ip [.int x1] (ci := 2) (T0 := TX2) (N := 11) B hS9 mf2_governedBy wd_1105 (gw B wd_1106) wd_1104 (by decide) rfl (fun h => (gd_ne h).1) (c2_governedBy X l v_13 x1 M) (by decide) (by decide) (by decide) rfl (by decide) dX11_person_122 rfl (fun v_14 => ?_)
      refine g_xr ?_
      exact g_ireturn B hr rfl (by decide) (by decide) rfl dX11_person_125
    · refine g_aload_n B dX11_person_126 1 rfl ?_
      refine g_getR (ci := 10) (T0 := TX11) (N := 18) B (by decide) rfl in_10 (k := 3) (by decide) rfl wd_385 (fun _ h => h) dX11_person_127 (fun v_15 => ?_)
      refine g_getR (ci := 2) (T0 := TX2) (N := 11) B (by decide) rfl in_2 (k := 3) (by decide) rfl wd_138 (fun _ h => h) dX11_person_130 (fun v_16 => ?_)
      refine g_iload_n B dX11_person_133 2 rfl ?_
      refine g_callV_ip [.int x1] (ci := 6) (T0 := TX6) (N := 3) B hS9 mf6_shareOf wd_1109 (gw B wd_1110) wd_1108 (by decide) rfl (fun h => (gd_ne h).1) (c6_shareOf X l v_16 x1 M) (by decide) (by decide) (by decide) rfl (by decide) dX11_person_134 rfl (fun v_17 => ?_)
      refine g_xr ?_
      exact g_ireturn B hr rfl (by decide) (by decide) rfl dX11_person_137
theorem c11_person (X : gX) (l : Launch) (hfl : l.stackTraces = false) (a0 : Nat) (x1 : Int32) (x2 : Int32) (M : mMem) : xCon X l yX11_person cX11_person 4 (some .int) rm11_person (fun r9 : Int32 => (some (.int r9), M)) [.ref a0, .int x1, .int x2] M (p11_person a0 x1 x2 M) := g_xcon (own := RX11) (by decide +kernel) rfl (Nat.le_of_ble_eq_true rfl) (fun p e s m args below meth c B hS9 hr hxt => g11_person B hS9 hr hfl hxt a0 x1 x2)
theorem mf11_rests : gMF yX11_rests cX11_rests 5 (some .int) 2 := ⟨wd_1483, wd_1, ⟨by decide, by decide⟩, by decide +kernel⟩
set_option maxRecDepth 20000 in
set_option maxHeartbeats 2000000 in
theorem g11_rests {X : gX} {p : Program} {l : Launch} {e : Env} {s : State} {m : MethodId} {args : Array Value} {below : List Frame} {meth : Method} {c : Code} (B : gB X p (rm11_rests) s m args meth c RX11 cX11_rests 5 (rm11_rests)) (hS9 : gS X s) (hr : meth.sig.returnType = some .int) (hfl : l.stackTraces = false) (hxt : ∀ x ∈ c.exceptionTable.toList, False) (a0 : Nat) (x1 : Int32) (x2 : Int32) (M : mMem) : GG X p l e (rm11_rests) s m args below meth c (gxP X below args s 4 24 (fun r9 : (Int32 × mMem) => (some (.int r9.1), r9.2))) 5 0 0 0 [(0, .ref a0), (1, .int x1), (2, .int x2)] [] M (p11_rests a0 x1 x2 M) := by
  unfold p11_rests
  refine g_gd ?_
  refine g_aload_n B dX11_rests_0 0 rfl ?_
  refine g_iload_n B dX11_rests_1 1 rfl ?_
  refine g_iload_n B dX11_rests_2 2 rfl ?_
  refine g_xcallV [.int x1, .int x2] (ci := 10) (T0 := TX11) (N := 18) B hS9 hxt mf11_mustBeTwo wd_1141 (gw B wp_24) wd_1139 (by decide) rfl (fun h => (gd_ne h).1) (c11_mustBeTwo X l hfl a0 x1 x2 M) (by decide) (by decide) (by decide) (by decide) rfl (by decide) dX11_rests_3 rfl (fun v_1 => ?_)
  refine g_aload_n B dX11_rests_6 0 rfl ?_
  refine g_getR (ci := 10) (T0 := TX11) (N := 18) B (by decide) rfl in_10 (k := 3) (by decide) rfl wd_385 (fun _ h => h) dX11_rests_7 (fun v_2 => ?_)
  refine g_iload_n B dX11_rests_10 1 rfl ?_
  refine g_iload_n B dX11_rests_11 2 rfl ?_
  refine g_callV_ip [.int x1, .int x2] (ci := 2) (T0 := TX2) (N := 11) B hS9 mf2_governs wd_499 (gw B wd_500) wd_1169 (by decide) rfl (fun h => (gd_ne h).1) (c2_governs X l v_2 x1 x2 M) (by decide) (by decide) (by decide) rfl (by decide) dX11_rests_12 rfl (fun v_3 => ?_)
  refine g_xcallS [.int v_3] B hS9 hxt mf11_mustHold wd_1171 wd_1170 (c11_mustHold X l hfl v_3 M) (by decide) (by decide) (by decide) (by decide) rfl (by decide) dX11_rests_15 rfl (fun v_4 => ?_)
  refine g_aload_n B dX11_rests_18 0 rfl ?_
  refine g_getR (ci := 10) (T0 := TX11) (N := 18) B (by decide) rfl in_10 (k := 5) (by decide) rfl wd_387 (fun _ h => h) dX11_rests_19 (fun v_5 => ?_)
  refine g_aload_n B dX11_rests_22 0 rfl ?_
  refine g_getR (ci := 10) (T0 := TX11) (N := 18) B (by decide) rfl in_10 (k := 3) (by decide) rfl wd_385 (fun _ h => h) dX11_rests_23 (fun v_6 => ?_)
  refine g_iload_n B dX11_rests_26 1 rfl ?_
  refine g_iload_n B dX11_rests_27 2 rfl ?_
  refine g_iconst (v := 0) B dX11_rests_28 (by decide) ?_
  refine g_callV_iw [.ref v_6, .int x1, .int x2, .int 0] (ci := 4) (T0 := TX4) (N := 10) B hS9 mf4_weight wd_507 (gw B wd_508) wd_1152 (by decide) rfl (fun h => (gd_ne h).1) (c4_weight X l v_5 v_6 x1 x2 0 M) (by decide) (by decide) (by decide) rfl (by decide) dX11_rests_29 rfl (fun q_7 => ?_)
  refine g_istore_n (lv' := [(3, .int q_7.1), (0, .ref a0), (1, .int x1), (2, .int x2)]) B dX11_rests_32 (by decide) [0, 1, 2, 3] rfl ?_
  refine g_aload_n B dX11_rests_33 1 rfl ?_
  refine g_getR (ci := 10) (T0 := TX11) (N := 18) B (by decide) rfl in_10 (k := 5) (by decide) rfl wd_387 (fun _ h => h) dX11_rests_34 (fun v_8 => ?_)
  refine g_aload_n B dX11_rests_37 1 rfl ?_
  refine g_getR (ci := 10) (T0 := TX11) (N := 18) B (by decide) rfl in_10 (k := 3) (by decide) rfl wd_385 (fun _ h => h) dX11_rests_38 (fun v_9 => ?_)
  refine g_iload_n B dX11_rests_41 2 rfl ?_
  refine g_iload_n B dX11_rests_42 3 rfl ?_
  refine g_iconst (v := 1) B dX11_rests_43 (by decide) ?_
  refine g_callV_iw [.ref v_9, .int x1, .int x2, .int 1] (ci := 4) (T0 := TX4) (N := 10) B hS9 mf4_weight wd_507 (gw B wd_508) wd_1152 (by decide) rfl (fun h => (gd_ne h).1) (c4_weight X l v_8 v_9 x1 x2 1 q_7.2) (by decide) (by decide) (by decide) rfl (by decide) dX11_rests_44 rfl (fun q_10 => ?_)
  refine g_istore (lv' := [(4, .int q_10.1), (3, .int q_7.1), (0, .ref a0), (1, .int x1), (2, .int x2)]) B dX11_rests_47 (by decide) [0, 1, 2, 3, 4] rfl ?_
  refine g_aload_n B dX11_rests_49 2 rfl ?_
  refine g_getR (ci := 10) (T0 := TX11) (N := 18) B (by decide) rfl in_10 (k := 17) (by decide) rfl wd_399 (fun _ h => h) dX11_rests_50 (fun v_11 => ?_)
  refine g_aload_n B dX11_rests_53 2 rfl ?_
  refine g_getR (ci := 10) (T0 := TX11) (N := 18) B (by decide) rfl in_10 (k := 3) (by decide) rfl wd_385 (fun _ h => h) dX11_rests_54 (fun v_12 => ?_)
  refine g_iload_n B dX11_rests_57 3 rfl ?_
  refine g_callV_ap [.int x1] (ci := 2) (T0 := TX2) (N := 11) B hS9 mf2_at wd_466 (gw B wd_467) wd_629 (by decide) rfl (fun h => (gd_ne h).1) (c2_at X l v_12 x1 q_10.2) (by decide) (by decide) (by decide) rfl (Nat.le_of_ble_eq_true rfl) dX11_rests_58 rfl (fun v_13 => ?_)
  refine g_getI (ci := 8) (T0 := TX8) (N := 9) B (by decide) rfl in_8 (k := 6) (by decide) rfl wd_86 (fun _ h => h) dX11_rests_61 (fun v_14 => ?_)
  refine g_bipush (v := 10) B dX11_rests_64 (by decide) ?_
  refine g_idiv B dX11_rests_66 (fun v_15 => ?_)
  refine g_iload_n B dX11_rests_67 1 rfl ?_
  refine g_iload B dX11_rests_68 0 rfl ?_
  refine g_callV_ip [.int v_15, .int q_7.1, .int q_10.1] (ci := 9) (T0 := TX10) (N := 1) B hS9 mf10_restingChoices wd_1485 (gw B wd_1486) wd_1484 (by decide) rfl (fun h => (gd_ne h).1) (c10_restingChoices X l v_11 v_15 q_7.1 q_10.1 q_10.2) (by decide) (by decide) (by decide) rfl (by decide) dX11_rests_70 rfl (fun v_16 => ?_)
  refine g_xr ?_
  exact g_ireturn B hr rfl (by decide) (by decide) rfl dX11_rests_73
theorem c11_rests (X : gX) (l : Launch) (hfl : l.stackTraces = false) (a0 : Nat) (x1 : Int32) (x2 : Int32) (M : mMem) : xCon X l yX11_rests cX11_rests 5 (some .int) rm11_rests (fun r9 : (Int32 × mMem) => (some (.int r9.1), r9.2)) [.ref a0, .int x1, .int x2] M (p11_rests a0 x1 x2 M) := g_xcon (own := RX11) (by decide +kernel) rfl (Nat.le_of_ble_eq_true rfl) (fun p e s m args below meth c B hS9 hr hxt => g11_rests B hS9 hr hfl hxt a0 x1 x2 M)
theorem mf11_ring : gMF yX11_ring cX11_ring 2 (some .boolean) 1 := ⟨wd_1467, wd_1, ⟨by decide, by decide⟩, by decide +kernel⟩
set_option maxRecDepth 20000 in
set_option maxHeartbeats 2000000 in
theorem g11_ring_J27 {X : gX} {p : Program} {l : Launch} {e : Env} {s : State} {m : MethodId} {args : Array Value} {below : List Frame} {meth : Method} {c : Code} (B : gB X p (rm11_ring) s m args meth c RX11 cX11_ring 2 (rm11_ring)) (hS9 : gS X s) (hr : meth.sig.returnType = some .boolean) (hfl : l.stackTraces = false) (hxt : ∀ x ∈ c.exceptionTable.toList, False) {M : mMem} (u0 : Int32) : GG X p l e (rm11_ring) s m args below meth c (gxP X below args s 1 6 (fun r9 : Int32 => (some (.int r9), M))) 2 1 6 27 [] [.int u0] M (p11_ring_J27 M u0) := by
  unfold p11_ring_J27
  refine g_xr ?_
  exact g_zreturn (f := fun z => z) B hr (by decide) (by decide) rfl dX11_ring_27
set_option maxRecDepth 20000 in
set_option maxHeartbeats 2000000 in
theorem g11_ring {X : gX} {p : Program} {l : Launch} {e : Env} {s : State} {m : MethodId} {args : Array Value} {below : List Frame} {meth : Method} {c : Code} (B : gB X p (rm11_ring) s m args meth c RX11 cX11_ring 2 (rm11_ring)) (hS9 : gS X s) (hr : meth.sig.returnType = some .boolean) (hfl : l.stackTraces = false) (hxt : ∀ x ∈ c.exceptionTable.toList, False) {M : mMem} (a0 : Nat) (x1 : Int32) : GG X p l e (rm11_ring) s m args below meth c (gxP X below args s 1 6 (fun r9 : Int32 => (some (.int r9), M))) 2 0 0 0 [(0, .ref a0), (1, .int x1)] [] M (p11_ring a0 x1 M) := by
  unfold p11_ring
  refine g_gd ?_
  refine g_aload_n B dX11_ring_0 0 rfl ?_
  refine g_iload_n B dX11_ring_1 1 rfl ?_
  refine g_xcallV [.int x1] (ci := 10) (T0 := TX11) (N := 18) B hS9 hxt mf11_mustBe wd_1085 (gw B wp_23) wd_1083 (by decide) rfl (fun h => (gd_ne h).1) (c11_mustBe X l hfl a0 x1 M) (by decide) (by decide) (by decide) (by decide) rfl (by decide) dX11_ring_2 rfl (fun v_1 => ?_)
  refine g_aload_n B dX11_ring_5 0 rfl ?_
  refine g_getR (ci := 10) (T0 := TX11) (N := 18) B (by decide) rfl in_10 (k := 17) (by decide) rfl wd_399 (fun _ h => h) dX11_ring_6 (fun v_2 => ?_)
  refine g_iload_n B dX11_ring_9 1 rfl ?_
  refine g_iconst (v := 1) B dX11_ring_10 (by decide) ?_
  refine g_callV_ip [.int x1, .int 1] (ci := 9) (T0 := TX10) (N := 1) B hS9 mf10_reached wd_1469 (gw B wd_1470) wd_1468 (by decide) rfl (fun h => (gd_ne h).1) (c10_reached X l v_2 x1 1 M) (by decide) (by decide) (by decide) rfl (by decide) dX11_ring_11 rfl (fun v_3 => ?_)
  refine g_iload_n B dX11_ring_14 1 rfl ?_
  refine g_ishr B dX11_ring_15 ?_
  refine g_iconst (v := 1) B dX11_ring_16 (by decide) ?_
  refine g_iand B dX11_ring_17 ?_
  refine g_iconst (v := 1) B dX11_ring_18 (by decide) ?_
  refine g_icmp_ne B 26 dX11_ring_19 (by decide) ?_ ?_
  · refine g_iconst (v := 1) B dX11_ring_22 (by decide) ?_
    refine g_goto B 27 dX11_ring_23 (by decide) ?_
    refine g_sub (lv' := []) [] rfl ?_
    exact g11_ring_J27 B hS9 hr hfl hxt 1
  · refine g_iconst (v := 0) B dX11_ring_26 (by decide) ?_
    refine g_sub (lv' := []) [] rfl ?_
    exact g11_ring_J27 B hS9 hr hfl hxt 0
theorem c11_ring (X : gX) (l : Launch) (hfl : l.stackTraces = false) (a0 : Nat) (x1 : Int32) (M : mMem) : xCon X l yX11_ring cX11_ring 2 (some .boolean) rm11_ring (fun r9 : Int32 => (some (.int r9), M)) [.ref a0, .int x1] M (p11_ring a0 x1 M) := g_xcon (own := RX11) (by decide +kernel) rfl (Nat.le_of_ble_eq_true rfl) (fun p e s m args below meth c B hS9 hr hxt => g11_ring B hS9 hr hfl hxt a0 x1)
theorem mf11_said : gMF yX11_said cX11_said 3 (some .int) 1 := ⟨wd_1384, wd_1, ⟨by decide, by decide⟩, by decide +kernel⟩
set_option maxRecDepth 20000 in
set_option maxHeartbeats 2000000 in
theorem g11_said {X : gX} {p : Program} {l : Launch} {e : Env} {s : State} {m : MethodId} {args : Array Value} {below : List Frame} {meth : Method} {c : Code} (B : gB X p (rm11_said) s m args meth c RX11 cX11_said 3 (rm11_said)) (hS9 : gS X s) (hr : meth.sig.returnType = some .int) (hfl : l.stackTraces = false) (hxt : ∀ x ∈ c.exceptionTable.toList, False) (a0 : Nat) (x1 : Int32) (M : mMem) : GG X p l e (rm11_said) s m args below meth c (gxP X below args s 2 12 (fun r9 : (Int32 × mMem) => (some (.int r9.1), r9.2))) 3 0 0 0 [(0, .ref a0), (1, .int x1)] [] M (p11_said a0 x1 M) := by
  unfold p11_said
  refine g_gd ?_
  refine g_aload_n B dX11_said_0 0 rfl ?_
  refine g_callV_iw [] (ci := 10) (T0 := TX11) (N := 18) B hS9 mf11_usedTape wd_734 (gw B wp_10) wd_732 (by decide) rfl (fun h => (gd_ne h).1) (c11_usedTape X l a0 M) (by decide) (by decide) (by decide) rfl (by decide) dX11_said_1 rfl (fun q_1 => ?_)
  refine g_istore_n (lv' := [(2, .int q_1.1), (0, .ref a0), (1, .int x1)]) B dX11_said_4 (by decide) [0, 1, 2] rfl ?_
  refine g_aload_n B dX11_said_5 1 rfl ?_
  refine g_iload_n B dX11_said_6 2 rfl ?_
  refine g_xcallV [.int x1] (ci := 10) (T0 := TX11) (N := 18) B hS9 hxt mf11_mustBe wd_1085 (gw B wp_23) wd_1083 (by decide) rfl (fun h => (gd_ne h).1) (c11_mustBe X l hfl a0 x1 q_1.2) (by decide) (by decide) (by decide) (by decide) rfl (by decide) dX11_said_7 rfl (fun v_2 => ?_)
  refine g_aload_n B dX11_said_10 1 rfl ?_
  refine g_iload_n B dX11_said_11 0 rfl ?_
  refine g_xcallV [.int q_1.1] (ci := 10) (T0 := TX11) (N := 18) B hS9 hxt mf11_mustBeSightings wd_1387 (gw B wp_31) wd_1385 (by decide) rfl (fun h => (gd_ne h).1) (c11_mustBeSightings X l hfl a0 q_1.1 q_1.2) (by decide) (by decide) (by decide) (by decide) rfl (by decide) dX11_said_12 rfl (fun v_3 => ?_)
  refine g_aload_n B dX11_said_15 1 rfl ?_
  refine g_getR (ci := 10) (T0 := TX11) (N := 18) B (by decide) rfl in_10 (k := 15) (by decide) rfl wd_397 (fun _ h => h) dX11_said_16 (fun v_4 => ?_)
  refine g_iload_n B dX11_said_19 2 rfl ?_
  refine g_aload_n B dX11_said_20 1 rfl ?_
  refine g_getR (ci := 10) (T0 := TX11) (N := 18) B (by decide) rfl in_10 (k := 0) (by decide) rfl wd_382 (fun _ h => h) dX11_said_21 (fun v_5 => ?_)
  refine g_iload_n B dX11_said_24 0 rfl ?_
  refine g_callV_iw [.int x1, .ref v_5, .int q_1.1] (ci := 0) (T0 := TX0) (N := 8) B hS9 mf0_fitting wd_1391 (gw B wd_1392) wd_1390 (by decide) rfl (fun h => (gd_ne h).1) (c0_fitting X l v_4 x1 v_5 q_1.1 q_1.2) (by decide) (by decide) (by decide) rfl (by decide) dX11_said_25 rfl (fun q_6 => ?_)
  refine g_xr ?_
  exact g_ireturn B hr rfl (by decide) (by decide) rfl dX11_said_28
theorem c11_said (X : gX) (l : Launch) (hfl : l.stackTraces = false) (a0 : Nat) (x1 : Int32) (M : mMem) : xCon X l yX11_said cX11_said 3 (some .int) rm11_said (fun r9 : (Int32 × mMem) => (some (.int r9.1), r9.2)) [.ref a0, .int x1] M (p11_said a0 x1 M) := g_xcon (own := RX11) (by decide +kernel) rfl (Nat.le_of_ble_eq_true rfl) (fun p e s m args below meth c B hS9 hr hxt => g11_said B hS9 hr hfl hxt a0 x1 M)
theorem mf11_say : gMF yX11_say cX11_say 4 (some .int) 3 := ⟨wd_1168, wd_1, ⟨by decide, by decide⟩, by decide +kernel⟩
set_option maxRecDepth 20000 in
set_option maxHeartbeats 2000000 in
theorem g11_say {X : gX} {p : Program} {l : Launch} {e : Env} {s : State} {m : MethodId} {args : Array Value} {below : List Frame} {meth : Method} {c : Code} (B : gB X p (rm11_say) s m args meth c RX11 cX11_say 4 (rm11_say)) (hS9 : gS X s) (hr : meth.sig.returnType = some .int) (hfl : l.stackTraces = false) (hxt : ∀ x ∈ c.exceptionTable.toList, False) (a0 : Nat) (x1 : Int32) (x2 : Int32) (x3 : Int32) (M : mMem) : GG X p l e (rm11_say) s m args below meth c (gxP X below args s 3 18 (fun r9 : (Int32 × mMem) => (some (.int r9.1), r9.2))) 4 0 0 0 [(0, .ref a0), (1, .int x1), (2, .int x2), (3, .int x3)] [] M (p11_say a0 x1 x2 x3 M) := by
  unfold p11_say
  refine g_gd ?_
  refine g_aload_n B dX11_say_0 0 rfl ?_
  refine g_iload_n B dX11_say_1 1 rfl ?_
  refine g_xcallV [.int x1] (ci := 10) (T0 := TX11) (N := 18) B hS9 hxt mf11_mustBe wd_1085 (gw B wp_23) wd_1083 (by decide) rfl (fun h => (gd_ne h).1) (c11_mustBe X l hfl a0 x1 M) (by decide) (by decide) (by decide) (by decide) rfl (by decide) dX11_say_2 rfl (fun v_1 => ?_)
  refine g_aload_n B dX11_say_5 0 rfl ?_
  refine g_iload_n B dX11_say_6 2 rfl ?_
  refine g_xcallV [.int x2] (ci := 10) (T0 := TX11) (N := 18) B hS9 hxt mf11_mustBe wd_1085 (gw B wp_23) wd_1083 (by decide) rfl (fun h => (gd_ne h).1) (c11_mustBe X l hfl a0 x2 M) (by decide) (by decide) (by decide) (by decide) rfl (by decide) dX11_say_7 rfl (fun v_2 => ?_)
  refine g_aload_n B dX11_say_10 0 rfl ?_
  refine g_getR (ci := 10) (T0 := TX11) (N := 18) B (by decide) rfl in_10 (k := 3) (by decide) rfl wd_385 (fun _ h => h) dX11_say_11 (fun v_3 => ?_)
  refine g_iload_n B dX11_say_14 1 rfl ?_
  refine g_iload_n B dX11_say_15 2 rfl ?_
  refine g_callV_ip [.int x1, .int x2] (ci := 2) (T0 := TX2) (N := 11) B hS9 mf2_governs wd_499 (gw B wd_500) wd_1169 (by decide) rfl (fun h => (gd_ne h).1) (c2_governs X l v_3 x1 x2 M) (by decide) (by decide) (by decide) rfl (by decide) dX11_say_16 rfl (fun v_4 => ?_)
  refine g_xcallS [.int v_4] B hS9 hxt mf11_mustHold wd_1171 wd_1170 (c11_mustHold X l hfl v_4 M) (by decide) (by decide) (by decide) (by decide) rfl (by decide) dX11_say_19 rfl (fun v_5 => ?_)
  refine g_aload_n B dX11_say_22 0 rfl ?_
  refine g_callV_vw [] (ci := 10) (T0 := TX11) (N := 18) B hS9 mf11_remember wd_1191 (gw B wp_25) wd_1189 (by decide) rfl (fun h => (gd_ne h).1) (c11_remember X l a0 M) (by decide) (by decide) (by decide) rfl (by decide) dX11_say_23 rfl (fun q_6 => ?_)
  refine g_aload_n B dX11_say_26 0 rfl ?_
  refine g_getR (ci := 10) (T0 := TX11) (N := 18) B (by decide) rfl in_10 (k := 3) (by decide) rfl wd_385 (fun _ h => h) dX11_say_27 (fun v_7 => ?_)
  refine g_iload_n B dX11_say_30 1 rfl ?_
  refine g_iload_n B dX11_say_31 2 rfl ?_
  refine g_iload_n B dX11_say_32 3 rfl ?_
  refine g_aload_n B dX11_say_33 0 rfl ?_
  refine g_getR (ci := 10) (T0 := TX11) (N := 18) B (by decide) rfl in_10 (k := 5) (by decide) rfl wd_387 (fun _ h => h) dX11_say_34 (fun v_8 => ?_)
  refine g_aload_n B dX11_say_37 0 rfl ?_
  refine g_getR (ci := 10) (T0 := TX11) (N := 18) B (by decide) rfl in_10 (k := 3) (by decide) rfl wd_385 (fun _ h => h) dX11_say_38 (fun v_9 => ?_)
  refine g_iload_n B dX11_say_41 1 rfl ?_
  refine g_iload_n B dX11_say_42 2 rfl ?_
  refine g_iload_n B dX11_say_43 3 rfl ?_
  refine g_callV_iw [.ref v_9, .int x1, .int x2, .int x3] (ci := 4) (T0 := TX4) (N := 10) B hS9 mf4_weight wd_507 (gw B wd_508) wd_1152 (by decide) rfl (fun h => (gd_ne h).1) (c4_weight X l v_8 v_9 x1 x2 x3 q_6) (by decide) (by decide) (by decide) rfl (Nat.le_of_ble_eq_true rfl) dX11_say_44 rfl (fun q_10 => ?_)
  refine g_callV_iw [.int x1, .int x2, .int x3, .int q_10.1] (ci := 2) (T0 := TX2) (N := 11) B hS9 mf2_tell wd_533 (gw B wd_534) wd_1193 (by decide) rfl (fun h => (gd_ne h).1) (c2_tell X l v_7 x1 x2 x3 q_10.1 q_10.2) (by decide) (by decide) (by decide) rfl (by decide) dX11_say_47 rfl (fun q_11 => ?_)
  refine g_xr ?_
  exact g_ireturn B hr rfl (by decide) (by decide) rfl dX11_say_50
theorem c11_say (X : gX) (l : Launch) (hfl : l.stackTraces = false) (a0 : Nat) (x1 : Int32) (x2 : Int32) (x3 : Int32) (M : mMem) : xCon X l yX11_say cX11_say 4 (some .int) rm11_say (fun r9 : (Int32 × mMem) => (some (.int r9.1), r9.2)) [.ref a0, .int x1, .int x2, .int x3] M (p11_say a0 x1 x2 x3 M) := g_xcon (own := RX11) (by decide +kernel) rfl (Nat.le_of_ble_eq_true rfl) (fun p e s m args below meth c B hS9 hr hxt => g11_say B hS9 hr hfl hxt a0 x1 x2 x3 M)
theorem mf11_span : gMF yX11_span cX11_span 3 (some .int) 2 := ⟨wd_1603, wd_1, ⟨by decide, by decide⟩, by decide +kernel⟩
set_option maxRecDepth 20000 in
set_option maxHeartbeats 2000000 in
theorem g11_span {X : gX} {p : Program} {l : Launch} {e : Env} {s : State} {m : MethodId} {args : Array Value} {below : List Frame} {meth : Method} {c : Code} (B : gB X p (rm11_span) s m args meth c RX11 cX11_span 3 (rm11_span)) (hS9 : gS X s) (hr : meth.sig.returnType = some .int) (hfl : l.stackTraces = false) (hxt : ∀ x ∈ c.exceptionTable.toList, False) (a0 : Nat) (x1 : Int32) (x2 : Int32) (M : mMem) : GG X p l e (rm11_span) s m args below meth c (gxP X below args s 1 6 (fun r9 : (Int32 × mMem) => (some (.int r9.1), r9.2))) 3 0 0 0 [(0, .ref a0), (1, .int x1), (2, .int x2)] [] M (p11_span a0 x1 x2 M) := by
  unfold p11_span
  refine g_gd ?_
  refine g_iload_n B dX11_span_0 1 rfl ?_
  refine g_iconst (v := 0) B dX11_span_1 (by decide) ?_
  refine g_bipush (v := 100) B dX11_span_2 (by decide) ?_
  refine g_xcallS [.int x1, .int 0, .int 100] B hS9 hxt mf11_mustLie wd_1253 wd_1252 (c11_mustLie X l hfl x1 0 100 M) (by decide) (by decide) (by decide) (by decide) rfl (by decide) dX11_span_4 rfl (fun v_1 => ?_)
  refine g_aload_n B dX11_span_7 0 rfl ?_
  refine g_getR (ci := 10) (T0 := TX11) (N := 18) B (by decide) rfl in_10 (k := 14) (by decide) rfl wd_396 (fun _ h => h) dX11_span_8 (fun v_2 => ?_)
  refine g_iload_n B dX11_span_11 1 rfl ?_
  refine g_iload_n B dX11_span_12 2 rfl ?_
  refine g_callV_iw [.int x1, .int x2] (ci := 1) (T0 := TX1) (N := 3) B hS9 mf1_spanned wd_1605 (gw B wd_1606) wd_1604 (by decide) rfl (fun h => (gd_ne h).1) (c1_spanned X l v_2 x1 x2 M) (by decide) (by decide) (by decide) rfl (by decide) dX11_span_13 rfl (fun q_3 => ?_)
  refine g_xr ?_
  exact g_ireturn B hr rfl (by decide) (by decide) rfl dX11_span_16
theorem c11_span (X : gX) (l : Launch) (hfl : l.stackTraces = false) (a0 : Nat) (x1 : Int32) (x2 : Int32) (M : mMem) : xCon X l yX11_span cX11_span 3 (some .int) rm11_span (fun r9 : (Int32 × mMem) => (some (.int r9.1), r9.2)) [.ref a0, .int x1, .int x2] M (p11_span a0 x1 x2 M) := g_xcon (own := RX11) (by decide +kernel) rfl (Nat.le_of_ble_eq_true rfl) (fun p e s m args below meth c B hS9 hr hxt => g11_span B hS9 hr hfl hxt a0 x1 x2 M)
theorem mf11_stable : gMF yX11_stable cX11_stable 2 (some .int) 1 := ⟨wd_1433, wd_1, ⟨by decide, by decide⟩, by decide +kernel⟩
set_option maxRecDepth 20000 in
set_option maxHeartbeats 2000000 in
theorem g11_stable {X : gX} {p : Program} {l : Launch} {e : Env} {s : State} {m : MethodId} {args : Array Value} {below : List Frame} {meth : Method} {c : Code} (B : gB X p (rm11_stable) s m args meth c RX11 cX11_stable 2 (rm11_stable)) (hS9 : gS X s) (hr : meth.sig.returnType = some .int) (hfl : l.stackTraces = false) (hxt : ∀ x ∈ c.exceptionTable.toList, False) (a0 : Nat) (x1 : Int32) (M : mMem) : GG X p l e (rm11_stable) s m args below meth c (gxP X below args s 1 6 (fun r9 : (Int32 × mMem) => (some (.int r9.1), r9.2))) 2 0 0 0 [(0, .ref a0), (1, .int x1)] [] M (p11_stable a0 x1 M) := by
  unfold p11_stable
  refine g_gd ?_
  refine g_aload_n B dX11_stable_0 0 rfl ?_
  refine g_iload_n B dX11_stable_1 1 rfl ?_
  refine g_xcallV [.int x1] (ci := 10) (T0 := TX11) (N := 18) B hS9 hxt mf11_mustBe wd_1085 (gw B wp_23) wd_1083 (by decide) rfl (fun h => (gd_ne h).1) (c11_mustBe X l hfl a0 x1 M) (by decide) (by decide) (by decide) (by decide) rfl (by decide) dX11_stable_2 rfl (fun v_1 => ?_)
  refine g_aload_n B dX11_stable_5 0 rfl ?_
  refine g_getR (ci := 10) (T0 := TX11) (N := 18) B (by decide) rfl in_10 (k := 16) (by decide) rfl wd_398 (fun _ h => h) dX11_stable_6 (fun v_2 => ?_)
  refine g_iload_n B dX11_stable_9 1 rfl ?_
  refine g_callV_iw [.int x1] (ci := 7) (T0 := TX7) (N := 6) B hS9 mf7_stableOf wd_1435 (gw B wd_1436) wd_1434 (by decide) rfl (fun h => (gd_ne h).1) (c7_stableOf X l v_2 x1 M) (by decide) (by decide) (by decide) rfl (by decide) dX11_stable_10 rfl (fun q_3 => ?_)
  refine g_xr ?_
  exact g_ireturn B hr rfl (by decide) (by decide) rfl dX11_stable_13
theorem c11_stable (X : gX) (l : Launch) (hfl : l.stackTraces = false) (a0 : Nat) (x1 : Int32) (M : mMem) : xCon X l yX11_stable cX11_stable 2 (some .int) rm11_stable (fun r9 : (Int32 × mMem) => (some (.int r9.1), r9.2)) [.ref a0, .int x1] M (p11_stable a0 x1 M) := g_xcon (own := RX11) (by decide +kernel) rfl (Nat.le_of_ble_eq_true rfl) (fun p e s m args below meth c B hS9 hr hxt => g11_stable B hS9 hr hfl hxt a0 x1 M)
theorem mf11_stern : gMF yX11_stern cX11_stern 4 (some .int) 2 := ⟨wd_1251, wd_1, ⟨by decide, by decide⟩, by decide +kernel⟩
set_option maxRecDepth 20000 in
set_option maxHeartbeats 2000000 in
theorem g11_stern {X : gX} {p : Program} {l : Launch} {e : Env} {s : State} {m : MethodId} {args : Array Value} {below : List Frame} {meth : Method} {c : Code} (B : gB X p (rm11_stern) s m args meth c RX11 cX11_stern 4 (rm11_stern)) (hS9 : gS X s) (hr : meth.sig.returnType = some .int) (hfl : l.stackTraces = false) (hxt : ∀ x ∈ c.exceptionTable.toList, False) (a0 : Nat) (x1 : Int32) (x2 : Int32) (M : mMem) : GG X p l e (rm11_stern) s m args below meth c (gxP X below args s 2 12 (fun r9 : (Int32 × mMem) => (some (.int r9.1), r9.2))) 4 0 0 0 [(0, .ref a0), (1, .int x1), (2, .int x2)] [] M (p11_stern a0 x1 x2 M) := by
  unfold p11_stern
  refine g_gd ?_
  refine g_aload_n B dX11_stern_0 0 rfl ?_
  refine g_iload_n B dX11_stern_1 1 rfl ?_
  refine g_xcallV [.int x1] (ci := 10) (T0 := TX11) (N := 18) B hS9 hxt mf11_mustBe wd_1085 (gw B wp_23) wd_1083 (by decide) rfl (fun h => (gd_ne h).1) (c11_mustBe X l hfl a0 x1 M) (by decide) (by decide) (by decide) (by decide) rfl (by decide) dX11_stern_2 rfl (fun v_1 => ?_)
  refine g_iload_n B dX11_stern_5 2 rfl ?_
  refine g_iconst (v := 0) B dX11_stern_6 (by decide) ?_
  refine g_bipush (v := 100) B dX11_stern_7 (by decide) ?_
  refine g_xcallS [.int x2, .int 0, .int 100] B hS9 hxt mf11_mustLie wd_1253 wd_1252 (c11_mustLie X l hfl x2 0 100 M) (by decide) (by decide) (by decide) (by decide) rfl (by decide) dX11_stern_9 rfl (fun v_2 => ?_)
  refine g_aload_n B dX11_stern_12 0 rfl ?_
  refine g_callV_vw [] (ci := 10) (T0 := TX11) (N := 18) B hS9 mf11_remember wd_1191 (gw B wp_25) wd_1189 (by decide) rfl (fun h => (gd_ne h).1) (c11_remember X l a0 M) (by decide) (by decide) (by decide) rfl (by decide) dX11_stern_13 rfl (fun q_3 => ?_)
  refine g_aload_n B dX11_stern_16 0 rfl ?_
  refine g_getR (ci := 10) (T0 := TX11) (N := 18) B (by decide) rfl in_10 (k := 3) (by decide) rfl wd_385 (fun _ h => h) dX11_stern_17 (fun v_4 => ?_)
  refine g_iload_n B dX11_stern_20 1 rfl ?_
  refine g_callV_ap [.int x1] (ci := 2) (T0 := TX2) (N := 11) B hS9 mf2_at wd_466 (gw B wd_467) wd_629 (by decide) rfl (fun h => (gd_ne h).1) (c2_at X l v_4 x1 q_3) (by decide) (by decide) (by decide) rfl (by decide) dX11_stern_21 rfl (fun v_5 => ?_)
  refine g_getI (ci := 8) (T0 := TX8) (N := 9) B (by decide) rfl in_8 (k := 6) (by decide) rfl wd_86 (fun _ h => h) dX11_stern_24 (fun v_6 => ?_)
  refine g_istore_n (lv' := [(3, .int v_6), (0, .ref a0), (1, .int x1), (2, .int x2)]) B dX11_stern_27 (by decide) [0, 1, 2, 3] rfl ?_
  refine g_aload_n B dX11_stern_28 1 rfl ?_
  refine g_getR (ci := 10) (T0 := TX11) (N := 18) B (by decide) rfl in_10 (k := 3) (by decide) rfl wd_385 (fun _ h => h) dX11_stern_29 (fun v_7 => ?_)
  refine g_iload_n B dX11_stern_32 2 rfl ?_
  refine g_callV_ap [.int x1] (ci := 2) (T0 := TX2) (N := 11) B hS9 mf2_at wd_466 (gw B wd_467) wd_629 (by decide) rfl (fun h => (gd_ne h).1) (c2_at X l v_7 x1 q_3) (by decide) (by decide) (by decide) rfl (by decide) dX11_stern_33 rfl (fun v_8 => ?_)
  refine g_iload_n B dX11_stern_36 3 rfl ?_
  refine g_putI (ci := 8) (T0 := TX8) (N := 9) B (by decide) rfl in_8 tyX8 tyX8_ok nmX8 (k := 6) (by decide) wd_86 (fun _ h => h) rfl rfl (ty := .int) (by decide +kernel) rfl rfl dX11_stern_37 (fun M_9 => ?_)
  refine g_iload_n B dX11_stern_40 0 rfl ?_
  refine g_xr ?_
  exact g_ireturn B hr rfl (by decide) (by decide) rfl dX11_stern_41
theorem c11_stern (X : gX) (l : Launch) (hfl : l.stackTraces = false) (a0 : Nat) (x1 : Int32) (x2 : Int32) (M : mMem) : xCon X l yX11_stern cX11_stern 4 (some .int) rm11_stern (fun r9 : (Int32 × mMem) => (some (.int r9.1), r9.2)) [.ref a0, .int x1, .int x2] M (p11_stern a0 x1 x2 M) := g_xcon (own := RX11) (by decide +kernel) rfl (Nat.le_of_ble_eq_true rfl) (fun p e s m args below meth c B hS9 hr hxt => g11_stern B hS9 hr hfl hxt a0 x1 x2 M)
theorem mf11_trial : gMF yX11_trial cX11_trial 3 (some .int) 2 := ⟨wd_1590, wd_1, ⟨by decide, by decide⟩, by decide +kernel⟩
set_option maxRecDepth 20000 in
set_option maxHeartbeats 2000000 in
theorem g11_trial {X : gX} {p : Program} {l : Launch} {e : Env} {s : State} {m : MethodId} {args : Array Value} {below : List Frame} {meth : Method} {c : Code} (B : gB X p (rm11_trial) s m args meth c RX11 cX11_trial 3 (rm11_trial)) (hS9 : gS X s) (hr : meth.sig.returnType = some .int) (hfl : l.stackTraces = false) (hxt : ∀ x ∈ c.exceptionTable.toList, False) (a0 : Nat) (x1 : Int32) (x2 : Int32) (M : mMem) : GG X p l e (rm11_trial) s m args below meth c (gxP X below args s 1 6 (fun r9 : (Int32 × mMem) => (some (.int r9.1), r9.2))) 3 0 0 0 [(0, .ref a0), (1, .int x1), (2, .int x2)] [] M (p11_trial a0 x1 x2 M) := by
  unfold p11_trial
  refine g_gd ?_
  refine g_iload_n B dX11_trial_0 1 rfl ?_
  refine g_iconst (v := 0) B dX11_trial_1 (by decide) ?_
  refine g_bipush (v := 100) B dX11_trial_2 (by decide) ?_
  refine g_xcallS [.int x1, .int 0, .int 100] B hS9 hxt mf11_mustLie wd_1253 wd_1252 (c11_mustLie X l hfl x1 0 100 M) (by decide) (by decide) (by decide) (by decide) rfl (by decide) dX11_trial_4 rfl (fun v_1 => ?_)
  refine g_aload_n B dX11_trial_7 0 rfl ?_
  refine g_getR (ci := 10) (T0 := TX11) (N := 18) B (by decide) rfl in_10 (k := 14) (by decide) rfl wd_396 (fun _ h => h) dX11_trial_8 (fun v_2 => ?_)
  refine g_iload_n B dX11_trial_11 1 rfl ?_
  refine g_iload_n B dX11_trial_12 2 rfl ?_
  refine g_callV_iw [.int x1, .int x2] (ci := 1) (T0 := TX1) (N := 3) B hS9 mf1_tried wd_1592 (gw B wd_1593) wd_1591 (by decide) rfl (fun h => (gd_ne h).1) (c1_tried X l v_2 x1 x2 M) (by decide) (by decide) (by decide) rfl (by decide) dX11_trial_13 rfl (fun q_3 => ?_)
  refine g_xr ?_
  exact g_ireturn B hr rfl (by decide) (by decide) rfl dX11_trial_16
theorem c11_trial (X : gX) (l : Launch) (hfl : l.stackTraces = false) (a0 : Nat) (x1 : Int32) (x2 : Int32) (M : mMem) : xCon X l yX11_trial cX11_trial 3 (some .int) rm11_trial (fun r9 : (Int32 × mMem) => (some (.int r9.1), r9.2)) [.ref a0, .int x1, .int x2] M (p11_trial a0 x1 x2 M) := g_xcon (own := RX11) (by decide +kernel) rfl (Nat.le_of_ble_eq_true rfl) (fun p e s m args below meth c B hS9 hr hxt => g11_trial B hS9 hr hfl hxt a0 x1 x2 M)
theorem mf11_under : gMF yX11_under cX11_under 2 (some .int) 1 := ⟨wd_1553, wd_1, ⟨by decide, by decide⟩, by decide +kernel⟩
set_option maxRecDepth 20000 in
set_option maxHeartbeats 2000000 in
theorem g11_under {X : gX} {p : Program} {l : Launch} {e : Env} {s : State} {m : MethodId} {args : Array Value} {below : List Frame} {meth : Method} {c : Code} (B : gB X p (rm11_under) s m args meth c RX11 cX11_under 2 (rm11_under)) (hS9 : gS X s) (hr : meth.sig.returnType = some .int) (hfl : l.stackTraces = false) (hxt : ∀ x ∈ c.exceptionTable.toList, False) {M : mMem} (a0 : Nat) (x1 : Int32) : GG X p l e (rm11_under) s m args below meth c (gxP X below args s 1 6 (fun r9 : Int32 => (some (.int r9), M))) 2 0 0 0 [(0, .ref a0), (1, .int x1)] [] M (p11_under a0 x1 M) := by
  unfold p11_under
  refine g_gd ?_
  refine g_aload_n B dX11_under_0 0 rfl ?_
  refine g_iload_n B dX11_under_1 1 rfl ?_
  refine g_xcallV [.int x1] (ci := 10) (T0 := TX11) (N := 18) B hS9 hxt mf11_mustBe wd_1085 (gw B wp_23) wd_1083 (by decide) rfl (fun h => (gd_ne h).1) (c11_mustBe X l hfl a0 x1 M) (by decide) (by decide) (by decide) (by decide) rfl (by decide) dX11_under_2 rfl (fun v_1 => ?_)
  refine g_aload_n B dX11_under_5 0 rfl ?_
  refine g_getR (ci := 10) (T0 := TX11) (N := 18) B (by decide) rfl in_10 (k := 17) (by decide) rfl wd_399 (fun _ h => h) dX11_under_6 (fun v_2 => ?_)
  refine g_iload_n B dX11_under_9 1 rfl ?_
  refine g_iconst (v := 0) B dX11_under_10 (by decide) ?_
  refine g_callV_ip [.int x1, .int 0] (ci := 9) (T0 := TX10) (N := 1) B hS9 mf10_reached wd_1469 (gw B wd_1470) wd_1468 (by decide) rfl (fun h => (gd_ne h).1) (c10_reached X l v_2 x1 0 M) (by decide) (by decide) (by decide) rfl (by decide) dX11_under_11 rfl (fun v_3 => ?_)
  refine g_xr ?_
  exact g_ireturn B hr rfl (by decide) (by decide) rfl dX11_under_14
theorem c11_under (X : gX) (l : Launch) (hfl : l.stackTraces = false) (a0 : Nat) (x1 : Int32) (M : mMem) : xCon X l yX11_under cX11_under 2 (some .int) rm11_under (fun r9 : Int32 => (some (.int r9), M)) [.ref a0, .int x1] M (p11_under a0 x1 M) := g_xcon (own := RX11) (by decide +kernel) rfl (Nat.le_of_ble_eq_true rfl) (fun p e s m args below meth c B hS9 hr hxt => g11_under B hS9 hr hfl hxt a0 x1)
theorem mf11_use : gMF yX11_use cX11_use 2 (some .int) 1 := ⟨wd_1236, wd_1, ⟨by decide, by decide⟩, by decide +kernel⟩
set_option maxRecDepth 20000 in
set_option maxHeartbeats 2000000 in
theorem g11_use_J24 {X : gX} {p : Program} {l : Launch} {e : Env} {s : State} {m : MethodId} {args : Array Value} {below : List Frame} {meth : Method} {c : Code} (B : gB X p (rm11_use) s m args meth c RX11 cX11_use 2 (rm11_use)) (hS9 : gS X s) (hr : meth.sig.returnType = some .int) (hfl : l.stackTraces = false) (hxt : ∀ x ∈ c.exceptionTable.toList, False) (a0 : Nat) (x1 : Int32) (u0 : Int32) (M : mMem) : GG X p l e (rm11_use) s m args below meth c (gxP X below args s 2 12 (fun r9 : (Int32 × mMem) => (some (.int r9.1), r9.2))) 2 1 6 24 [(0, .ref a0), (1, .int x1)] [.int u0] M (p11_use_J24 a0 x1 u0 M) := by
  unfold p11_use_J24
  refine g_xcallS [.int u0] B hS9 hxt mf11_mustHold wd_1171 wd_1170 (c11_mustHold X l hfl u0 M) (by decide) (by decide) (by decide) (by decide) rfl (by decide) dX11_use_24 rfl (fun v_1 => ?_)
  refine g_aload_n B dX11_use_27 0 rfl ?_
  refine g_callV_vw [] (ci := 10) (T0 := TX11) (N := 18) B hS9 mf11_remember wd_1191 (gw B wp_25) wd_1189 (by decide) rfl (fun h => (gd_ne h).1) (c11_remember X l a0 M) (by decide) (by decide) (by decide) rfl (by decide) dX11_use_28 rfl (fun q_2 => ?_)
  refine g_aload_n B dX11_use_31 0 rfl ?_
  refine g_getR (ci := 10) (T0 := TX11) (N := 18) B (by decide) rfl in_10 (k := 3) (by decide) rfl wd_385 (fun _ h => h) dX11_use_32 (fun v_3 => ?_)
  refine g_iload_n B dX11_use_35 1 rfl ?_
  refine g_callV_ap [.int x1] (ci := 2) (T0 := TX2) (N := 11) B hS9 mf2_at wd_466 (gw B wd_467) wd_629 (by decide) rfl (fun h => (gd_ne h).1) (c2_at X l v_3 x1 q_2) (by decide) (by decide) (by decide) rfl (by decide) dX11_use_36 rfl (fun v_4 => ?_)
  refine g_dup B dX11_use_39 rfl ?_
  refine g_getI (ci := 8) (T0 := TX8) (N := 9) B (by decide) rfl in_8 (k := 7) (by decide) rfl wd_90 (fun _ h => h) dX11_use_40 (fun v_5 => ?_)
  refine g_iconst (v := 1) B dX11_use_43 (by decide) ?_
  refine g_isub B dX11_use_44 ?_
  refine g_putI (ci := 8) (T0 := TX8) (N := 9) B (by decide) rfl in_8 tyX8 tyX8_ok nmX8 (k := 7) (by decide) wd_90 (fun _ h => h) rfl rfl (ty := .int) (by decide +kernel) rfl rfl dX11_use_45 (fun M_6 => ?_)
  refine g_aload_n B dX11_use_48 0 rfl ?_
  refine g_getR (ci := 10) (T0 := TX11) (N := 18) B (by decide) rfl in_10 (k := 3) (by decide) rfl wd_385 (fun _ h => h) dX11_use_49 (fun v_7 => ?_)
  refine g_iload_n B dX11_use_52 1 rfl ?_
  refine g_iload_n B dX11_use_53 1 rfl ?_
  refine g_iconst (v := 1) B dX11_use_54 (by decide) ?_
  refine g_aload_n B dX11_use_55 0 rfl ?_
  refine g_getR (ci := 10) (T0 := TX11) (N := 18) B (by decide) rfl in_10 (k := 3) (by decide) rfl wd_385 (fun _ h => h) dX11_use_56 (fun v_8 => ?_)
  refine g_aload_n B dX11_use_59 0 rfl ?_
  refine g_getR (ci := 10) (T0 := TX11) (N := 18) B (by decide) rfl in_10 (k := 3) (by decide) rfl wd_385 (fun _ h => h) dX11_use_60 (fun v_9 => ?_)
  refine g_getI (ci := 2) (T0 := TX2) (N := 11) B (by decide) rfl in_2 (k := 7) (by decide) rfl wd_158 (fun _ h => h) dX11_use_63 (fun v_10 => ?_)
  refine g_callV_ip [.int v_10] (ci := 2) (T0 := TX2) (N := 11) B hS9 mf2_leftByRound wd_529 (gw B wd_530) wd_1237 (by decide) rfl (fun h => (gd_ne h).1) (c2_leftByRound X l v_8 v_10 M_6) (by decide) (by decide) (by decide) rfl (Nat.le_of_ble_eq_true rfl) dX11_use_66 rfl (fun v_11 => ?_)
  refine g_callV_iw [.int x1, .int x1, .int 1, .int v_11] (ci := 2) (T0 := TX2) (N := 11) B hS9 mf2_tell wd_533 (gw B wd_534) wd_1193 (by decide) rfl (fun h => (gd_ne h).1) (c2_tell X l v_7 x1 x1 1 v_11 M_6) (by decide) (by decide) (by decide) rfl (by decide) dX11_use_69 rfl (fun q_12 => ?_)
  refine g_xr ?_
  exact g_ireturn B hr rfl (by decide) (by decide) rfl dX11_use_72
set_option maxRecDepth 20000 in
set_option maxHeartbeats 2000000 in
theorem g11_use {X : gX} {p : Program} {l : Launch} {e : Env} {s : State} {m : MethodId} {args : Array Value} {below : List Frame} {meth : Method} {c : Code} (B : gB X p (rm11_use) s m args meth c RX11 cX11_use 2 (rm11_use)) (hS9 : gS X s) (hr : meth.sig.returnType = some .int) (hfl : l.stackTraces = false) (hxt : ∀ x ∈ c.exceptionTable.toList, False) (a0 : Nat) (x1 : Int32) (M : mMem) : GG X p l e (rm11_use) s m args below meth c (gxP X below args s 2 12 (fun r9 : (Int32 × mMem) => (some (.int r9.1), r9.2))) 2 0 0 0 [(0, .ref a0), (1, .int x1)] [] M (p11_use a0 x1 M) := by
  unfold p11_use
  refine g_gd ?_
  refine g_aload_n B dX11_use_0 0 rfl ?_
  refine g_iload_n B dX11_use_1 1 rfl ?_
  refine g_xcallV [.int x1] (ci := 10) (T0 := TX11) (N := 18) B hS9 hxt mf11_mustBe wd_1085 (gw B wp_23) wd_1083 (by decide) rfl (fun h => (gd_ne h).1) (c11_mustBe X l hfl a0 x1 M) (by decide) (by decide) (by decide) (by decide) rfl (by decide) dX11_use_2 rfl (fun v_1 => ?_)
  refine g_aload_n B dX11_use_5 0 rfl ?_
  refine g_getR (ci := 10) (T0 := TX11) (N := 18) B (by decide) rfl in_10 (k := 3) (by decide) rfl wd_385 (fun _ h => h) dX11_use_6 (fun v_2 => ?_)
  refine g_iload_n B dX11_use_9 1 rfl ?_
  refine g_callV_ap [.int x1] (ci := 2) (T0 := TX2) (N := 11) B hS9 mf2_at wd_466 (gw B wd_467) wd_629 (by decide) rfl (fun h => (gd_ne h).1) (c2_at X l v_2 x1 M) (by decide) (by decide) (by decide) rfl (by decide) dX11_use_10 rfl (fun v_3 => ?_)
  refine g_getI (ci := 8) (T0 := TX8) (N := 9) B (by decide) rfl in_8 (k := 7) (by decide) rfl wd_90 (fun _ h => h) dX11_use_13 (fun v_4 => ?_)
  refine g_if_le B 23 dX11_use_16 (by decide) ?_ ?_
  · refine g_iconst (v := 1) B dX11_use_19 (by decide) ?_
    refine g_goto B 24 dX11_use_20 (by decide) ?_
    refine g_sub (lv' := [(0, .ref a0), (1, .int x1)]) [0, 1] rfl ?_
    exact g11_use_J24 B hS9 hr hfl hxt a0 x1 1 M
  · refine g_iconst (v := 0) B dX11_use_23 (by decide) ?_
    refine g_sub (lv' := [(0, .ref a0), (1, .int x1)]) [0, 1] rfl ?_
    exact g11_use_J24 B hS9 hr hfl hxt a0 x1 0 M
theorem c11_use (X : gX) (l : Launch) (hfl : l.stackTraces = false) (a0 : Nat) (x1 : Int32) (M : mMem) : xCon X l yX11_use cX11_use 2 (some .int) rm11_use (fun r9 : (Int32 × mMem) => (some (.int r9.1), r9.2)) [.ref a0, .int x1] M (p11_use a0 x1 M) := g_xcon (own := RX11) (by decide +kernel) rfl (Nat.le_of_ble_eq_true rfl) (fun p e s m args below meth c B hS9 hr hxt => g11_use B hS9 hr hfl hxt a0 x1 M)
theorem mf11_wed : gMF yX11_wed cX11_wed 3 (some .int) 2 := ⟨wd_1209, wd_1, ⟨by decide, by decide⟩, by decide +kernel⟩
set_option maxRecDepth 20000 in
set_option maxHeartbeats 2000000 in
theorem g11_wed {X : gX} {p : Program} {l : Launch} {e : Env} {s : State} {m : MethodId} {args : Array Value} {below : List Frame} {meth : Method} {c : Code} (B : gB X p (rm11_wed) s m args meth c RX11 cX11_wed 3 (rm11_wed)) (hS9 : gS X s) (hr : meth.sig.returnType = some .int) (hfl : l.stackTraces = false) (hxt : ∀ x ∈ c.exceptionTable.toList, False) (a0 : Nat) (x1 : Int32) (x2 : Int32) (M : mMem) : GG X p l e (rm11_wed) s m args below meth c (gxP X below args s 4 24 (fun r9 : (Int32 × mMem) => (some (.int r9.1), r9.2))) 3 0 0 0 [(0, .ref a0), (1, .int x1), (2, .int x2)] [] M (p11_wed a0 x1 x2 M) := by
  unfold p11_wed
  refine g_gd ?_
  refine g_aload_n B dX11_wed_0 0 rfl ?_
  refine g_iload_n B dX11_wed_1 1 rfl ?_
  refine g_iload_n B dX11_wed_2 2 rfl ?_
  refine g_xcallV [.int x1, .int x2] (ci := 10) (T0 := TX11) (N := 18) B hS9 hxt mf11_mustBeTwo wd_1141 (gw B wp_24) wd_1139 (by decide) rfl (fun h => (gd_ne h).1) (c11_mustBeTwo X l hfl a0 x1 x2 M) (by decide) (by decide) (by decide) (by decide) rfl (by decide) dX11_wed_3 rfl (fun v_1 => ?_)
  refine g_aload_n B dX11_wed_6 0 rfl ?_
  refine g_getR (ci := 10) (T0 := TX11) (N := 18) B (by decide) rfl in_10 (k := 3) (by decide) rfl wd_385 (fun _ h => h) dX11_wed_7 (fun v_2 => ?_)
  refine g_iload_n B dX11_wed_10 1 rfl ?_
  refine g_iload_n B dX11_wed_11 2 rfl ?_
  refine g_callV_ip [.int x1, .int x2] (ci := 2) (T0 := TX2) (N := 11) B hS9 mf2_mayWed wd_588 (gw B wd_589) wd_1210 (by decide) rfl (fun h => (gd_ne h).1) (c2_mayWed X l v_2 x1 x2 M) (by decide) (by decide) (by decide) rfl (by decide) dX11_wed_12 rfl (fun v_3 => ?_)
  refine g_xcallS [.int v_3] B hS9 hxt mf11_mustHold wd_1171 wd_1170 (c11_mustHold X l hfl v_3 M) (by decide) (by decide) (by decide) (by decide) rfl (by decide) dX11_wed_15 rfl (fun v_4 => ?_)
  refine g_aload_n B dX11_wed_18 0 rfl ?_
  refine g_callV_vw [] (ci := 10) (T0 := TX11) (N := 18) B hS9 mf11_remember wd_1191 (gw B wp_25) wd_1189 (by decide) rfl (fun h => (gd_ne h).1) (c11_remember X l a0 M) (by decide) (by decide) (by decide) rfl (by decide) dX11_wed_19 rfl (fun q_5 => ?_)
  refine g_aload_n B dX11_wed_22 0 rfl ?_
  refine g_getR (ci := 10) (T0 := TX11) (N := 18) B (by decide) rfl in_10 (k := 3) (by decide) rfl wd_385 (fun _ h => h) dX11_wed_23 (fun v_6 => ?_)
  refine g_iload_n B dX11_wed_26 1 rfl ?_
  refine g_iload_n B dX11_wed_27 2 rfl ?_
  refine g_callV_vw [.int x1, .int x2] (ci := 2) (T0 := TX2) (N := 11) B hS9 mf2_join wd_914 (gw B wd_915) wd_1211 (by decide) rfl (fun h => (gd_ne h).1) (c2_join X l v_6 x1 x2 q_5) (by decide) (by decide) (by decide) rfl (by decide) dX11_wed_28 rfl (fun q_7 => ?_)
  refine g_aload_n B dX11_wed_31 0 rfl ?_
  refine g_getR (ci := 10) (T0 := TX11) (N := 18) B (by decide) rfl in_10 (k := 3) (by decide) rfl wd_385 (fun _ h => h) dX11_wed_32 (fun v_8 => ?_)
  refine g_iload_n B dX11_wed_35 1 rfl ?_
  refine g_iload_n B dX11_wed_36 2 rfl ?_
  refine g_callV_ip [.int x1, .int x2] (ci := 2) (T0 := TX2) (N := 11) B hS9 mf2_gapOf wd_596 (gw B wd_597) wd_1160 (by decide) rfl (fun h => (gd_ne h).1) (c2_gapOf X l v_8 x1 x2 q_7) (by decide) (by decide) (by decide) rfl (by decide) dX11_wed_37 rfl (fun v_9 => ?_)
  refine g_xr ?_
  exact g_ireturn B hr rfl (by decide) (by decide) rfl dX11_wed_40
theorem c11_wed (X : gX) (l : Launch) (hfl : l.stackTraces = false) (a0 : Nat) (x1 : Int32) (x2 : Int32) (M : mMem) : xCon X l yX11_wed cX11_wed 3 (some .int) rm11_wed (fun r9 : (Int32 × mMem) => (some (.int r9.1), r9.2)) [.ref a0, .int x1, .int x2] M (p11_wed a0 x1 x2 M) := g_xcon (own := RX11) (by decide +kernel) rfl (Nat.le_of_ble_eq_true rfl) (fun p e s m args below meth c B hS9 hr hxt => g11_wed B hS9 hr hfl hxt a0 x1 x2 M)
theorem mf11_weighs : gMF yX11_weighs cX11_weighs 4 (some .int) 3 := ⟨wd_1151, wd_1, ⟨by decide, by decide⟩, by decide +kernel⟩
set_option maxRecDepth 20000 in
set_option maxHeartbeats 2000000 in
theorem g11_weighs {X : gX} {p : Program} {l : Launch} {e : Env} {s : State} {m : MethodId} {args : Array Value} {below : List Frame} {meth : Method} {c : Code} (B : gB X p (rm11_weighs) s m args meth c RX11 cX11_weighs 4 (rm11_weighs)) (hS9 : gS X s) (hr : meth.sig.returnType = some .int) (hfl : l.stackTraces = false) (hxt : ∀ x ∈ c.exceptionTable.toList, False) (a0 : Nat) (x1 : Int32) (x2 : Int32) (x3 : Int32) (M : mMem) : GG X p l e (rm11_weighs) s m args below meth c (gxP X below args s 3 18 (fun r9 : (Int32 × mMem) => (some (.int r9.1), r9.2))) 4 0 0 0 [(0, .ref a0), (1, .int x1), (2, .int x2), (3, .int x3)] [] M (p11_weighs a0 x1 x2 x3 M) := by
  unfold p11_weighs
  refine g_gd ?_
  refine g_aload_n B dX11_weighs_0 0 rfl ?_
  refine g_iload_n B dX11_weighs_1 1 rfl ?_
  refine g_iload_n B dX11_weighs_2 2 rfl ?_
  refine g_xcallV [.int x1, .int x2] (ci := 10) (T0 := TX11) (N := 18) B hS9 hxt mf11_mustBeTwo wd_1141 (gw B wp_24) wd_1139 (by decide) rfl (fun h => (gd_ne h).1) (c11_mustBeTwo X l hfl a0 x1 x2 M) (by decide) (by decide) (by decide) (by decide) rfl (by decide) dX11_weighs_3 rfl (fun v_1 => ?_)
  refine g_aload_n B dX11_weighs_6 0 rfl ?_
  refine g_getR (ci := 10) (T0 := TX11) (N := 18) B (by decide) rfl in_10 (k := 5) (by decide) rfl wd_387 (fun _ h => h) dX11_weighs_7 (fun v_2 => ?_)
  refine g_aload_n B dX11_weighs_10 0 rfl ?_
  refine g_getR (ci := 10) (T0 := TX11) (N := 18) B (by decide) rfl in_10 (k := 3) (by decide) rfl wd_385 (fun _ h => h) dX11_weighs_11 (fun v_3 => ?_)
  refine g_iload_n B dX11_weighs_14 1 rfl ?_
  refine g_iload_n B dX11_weighs_15 2 rfl ?_
  refine g_iload_n B dX11_weighs_16 3 rfl ?_
  refine g_callV_iw [.ref v_3, .int x1, .int x2, .int x3] (ci := 4) (T0 := TX4) (N := 10) B hS9 mf4_weight wd_507 (gw B wd_508) wd_1152 (by decide) rfl (fun h => (gd_ne h).1) (c4_weight X l v_2 v_3 x1 x2 x3 M) (by decide) (by decide) (by decide) rfl (by decide) dX11_weighs_17 rfl (fun q_4 => ?_)
  refine g_xr ?_
  exact g_ireturn B hr rfl (by decide) (by decide) rfl dX11_weighs_20
theorem c11_weighs (X : gX) (l : Launch) (hfl : l.stackTraces = false) (a0 : Nat) (x1 : Int32) (x2 : Int32) (x3 : Int32) (M : mMem) : xCon X l yX11_weighs cX11_weighs 4 (some .int) rm11_weighs (fun r9 : (Int32 × mMem) => (some (.int r9.1), r9.2)) [.ref a0, .int x1, .int x2, .int x3] M (p11_weighs a0 x1 x2 x3 M) := g_xcon (own := RX11) (by decide +kernel) rfl (Nat.le_of_ble_eq_true rfl) (fun p e s m args below meth c B hS9 hr hxt => g11_weighs B hS9 hr hfl hxt a0 x1 x2 x3 M)
theorem mf11_would : gMF yX11_would cX11_would 4 (some .int) 3 := ⟨wd_1288, wd_1, ⟨by decide, by decide⟩, by decide +kernel⟩
set_option maxRecDepth 20000 in
set_option maxHeartbeats 2000000 in
theorem g11_would {X : gX} {p : Program} {l : Launch} {e : Env} {s : State} {m : MethodId} {args : Array Value} {below : List Frame} {meth : Method} {c : Code} (B : gB X p (rm11_would) s m args meth c RX11 cX11_would 4 (rm11_would)) (hS9 : gS X s) (hr : meth.sig.returnType = some .int) (hfl : l.stackTraces = false) (hxt : ∀ x ∈ c.exceptionTable.toList, False) (a0 : Nat) (x1 : Int32) (x2 : Int32) (x3 : Int32) (M : mMem) : GG X p l e (rm11_would) s m args below meth c (gxP X below args s 3 18 (fun r9 : (Int32 × mMem) => (some (.int r9.1), r9.2))) 4 0 0 0 [(0, .ref a0), (1, .int x1), (2, .int x2), (3, .int x3)] [] M (p11_would a0 x1 x2 x3 M) := by
  unfold p11_would
  refine g_gd ?_
  refine g_aload_n B dX11_would_0 0 rfl ?_
  refine g_iload_n B dX11_would_1 1 rfl ?_
  refine g_iload_n B dX11_would_2 2 rfl ?_
  refine g_xcallV [.int x1, .int x2] (ci := 10) (T0 := TX11) (N := 18) B hS9 hxt mf11_mustBeTwo wd_1141 (gw B wp_24) wd_1139 (by decide) rfl (fun h => (gd_ne h).1) (c11_mustBeTwo X l hfl a0 x1 x2 M) (by decide) (by decide) (by decide) (by decide) rfl (by decide) dX11_would_3 rfl (fun v_1 => ?_)
  refine g_aload_n B dX11_would_6 0 rfl ?_
  refine g_getR (ci := 10) (T0 := TX11) (N := 18) B (by decide) rfl in_10 (k := 3) (by decide) rfl wd_385 (fun _ h => h) dX11_would_7 (fun v_2 => ?_)
  refine g_aload_n B dX11_would_10 0 rfl ?_
  refine g_getR (ci := 10) (T0 := TX11) (N := 18) B (by decide) rfl in_10 (k := 3) (by decide) rfl wd_385 (fun _ h => h) dX11_would_11 (fun v_3 => ?_)
  refine g_iload_n B dX11_would_14 2 rfl ?_
  refine g_callV_ap [.int x2] (ci := 2) (T0 := TX2) (N := 11) B hS9 mf2_at wd_466 (gw B wd_467) wd_629 (by decide) rfl (fun h => (gd_ne h).1) (c2_at X l v_3 x2 M) (by decide) (by decide) (by decide) rfl (Nat.le_of_ble_eq_true rfl) dX11_would_15 rfl (fun v_4 => ?_)
  refine g_getI (ci := 8) (T0 := TX8) (N := 9) B (by decide) rfl in_8 (k := 0) (by decide) rfl wd_58 (fun _ h => h) dX11_would_18 (fun v_5 => ?_)
  refine g_aload_n B dX11_would_21 0 rfl ?_
  refine g_getR (ci := 10) (T0 := TX11) (N := 18) B (by decide) rfl in_10 (k := 5) (by decide) rfl wd_387 (fun _ h => h) dX11_would_22 (fun v_6 => ?_)
  refine g_aload_n B dX11_would_25 0 rfl ?_
  refine g_getR (ci := 10) (T0 := TX11) (N := 18) B (by decide) rfl in_10 (k := 3) (by decide) rfl wd_385 (fun _ h => h) dX11_would_26 (fun v_7 => ?_)
  refine g_iload_n B dX11_would_29 1 rfl ?_
  refine g_iload_n B dX11_would_30 2 rfl ?_
  refine g_iload_n B dX11_would_31 3 rfl ?_
  refine g_callV_iw [.ref v_7, .int x1, .int x2, .int x3] (ci := 4) (T0 := TX4) (N := 10) B hS9 mf4_weight wd_507 (gw B wd_508) wd_1152 (by decide) rfl (fun h => (gd_ne h).1) (c4_weight X l v_6 v_7 x1 x2 x3 M) (by decide) (by decide) (by decide) rfl (Nat.le_of_ble_eq_true rfl) dX11_would_32 rfl (fun q_8 => ?_)
  refine g_iload_n B dX11_would_35 3 rfl ?_
  refine g_callV_ip [.int v_5, .int q_8.1, .int x3] (ci := 2) (T0 := TX2) (N := 11) B hS9 mf2_moved wd_541 (gw B wd_542) wd_1289 (by decide) rfl (fun h => (gd_ne h).1) (c2_moved X l v_2 v_5 q_8.1 x3 q_8.2) (by decide) (by decide) (by decide) rfl (by decide) dX11_would_36 rfl (fun v_9 => ?_)
  refine g_xr ?_
  exact g_ireturn B hr rfl (by decide) (by decide) rfl dX11_would_39
theorem c11_would (X : gX) (l : Launch) (hfl : l.stackTraces = false) (a0 : Nat) (x1 : Int32) (x2 : Int32) (x3 : Int32) (M : mMem) : xCon X l yX11_would cX11_would 4 (some .int) rm11_would (fun r9 : (Int32 × mMem) => (some (.int r9.1), r9.2)) [.ref a0, .int x1, .int x2, .int x3] M (p11_would a0 x1 x2 x3 M) := g_xcon (own := RX11) (by decide +kernel) rfl (Nat.le_of_ble_eq_true rfl) (fun p e s m args below meth c B hS9 hr hxt => g11_would B hS9 hr hfl hxt a0 x1 x2 x3 M)
