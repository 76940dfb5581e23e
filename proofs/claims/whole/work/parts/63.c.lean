set_option maxRecDepth 40000 in
set_option maxHeartbeats 8000000 in
theorem gW_J3518 {X : gX} {p : Program} {l : Launch} {e : Env} {s : State} {m : MethodId} {below : List Frame} {meth : Method} {c : Code} {b L : Nat} {xs : Nat → Int32} (B : gB X p room_1 s m #[Value.ref b] meth c RL cL_law_ 7 room_1) (hS9 : gS X s) (hr : meth.sig.returnType = some .boolean) (hfl : l.stackTraces = false) (hXs : va_X b L xs s s.heap) (hbl : b < s.heap.size) (hbA : ¬ gA X b) (hlo : X.1 = s.heap.size) (j : Nat) (hj : j ≤ 512) (rec23 : Nat → Nat → Nat → Int32 → mMem → Option Int32) (hrec23 : ∀ (a1 : Nat) (a2 : Nat) (a3 : Nat) (x4 : Int32) (M : mMem), GG X p l e room_1 s m #[Value.ref b] below meth c (lwPhi below b s) 7 (337 + 4 * (j + 1)) (29787 + 24 * (j + 1)) 23 [(0, .ref b), (1, .ref a1), (2, .ref a2), (3, .ref a3), (4, .int x4)] [] M (rec23 a1 a2 a3 x4 M)) (a1 : Nat) (a2 : Nat) (a3 : Nat) (x4 : Int32) (M : mMem) : GG X p l e room_1 s m #[Value.ref b] below meth c (lwPhi below b s) 7 (337 + 4 * j + 4) (29787 + 24 * j + 24) 3518 [(0, .ref b), (1, .ref a1), (2, .ref a2), (3, .ref a3), (4, .int x4)] [] M (pW_J3518 xs L rec23 a1 a2 a3 x4 M) := by
  unfold pW_J3518
  refine g_iinc (v := (x4 + 6)) (lv' := [(4, .int (x4 + 6)), (0, .ref b), (1, .ref a1), (2, .ref a2), (3, .ref a3)]) B dL_law__3518 4 rfl rfl (by decide) [0, 1, 2, 3, 4] rfl ?_
  refine g_goto B 23 dL_law__3521 (by decide) ?_
  refine g_sub (lv' := [(0, .ref b), (1, .ref a1), (2, .ref a2), (3, .ref a3), (4, .int (x4 + 6))]) [1, 2, 3, 4, 0] rfl ?_
  exact hrec23 a1 a2 a3 (x4 + 6) M
set_option maxRecDepth 40000 in
set_option maxHeartbeats 8000000 in
theorem gW_J443 {X : gX} {p : Program} {l : Launch} {e : Env} {s : State} {m : MethodId} {below : List Frame} {meth : Method} {c : Code} {b L : Nat} {xs : Nat → Int32} (B : gB X p room_1 s m #[Value.ref b] meth c RL cL_law_ 7 room_1) (hS9 : gS X s) (hr : meth.sig.returnType = some .boolean) (hfl : l.stackTraces = false) (hXs : va_X b L xs s s.heap) (hbl : b < s.heap.size) (hbA : ¬ gA X b) (hlo : X.1 = s.heap.size) (j : Nat) (hj : j ≤ 512) (rec23 : Nat → Nat → Nat → Int32 → mMem → Option Int32) (hrec23 : ∀ (a1 : Nat) (a2 : Nat) (a3 : Nat) (x4 : Int32) (M : mMem), GG X p l e room_1 s m #[Value.ref b] below meth c (lwPhi below b s) 7 (337 + 4 * (j + 1)) (29787 + 24 * (j + 1)) 23 [(0, .ref b), (1, .ref a1), (2, .ref a2), (3, .ref a3), (4, .int x4)] [] M (rec23 a1 a2 a3 x4 M)) (a1 : Nat) (a2 : Nat) (a3 : Nat) (x4 : Int32) (M : mMem) : GG X p l e room_1 s m #[Value.ref b] below meth c (lwPhi below b s) 7 (337 + 4 * j + 2) (29787 + 24 * j + 12) 443 [(0, .ref b), (1, .ref a1), (2, .ref a2), (3, .ref a3), (4, .int x4)] [] M (pW_J443 xs L rec23 a1 a2 a3 x4 M) := by
  unfold pW_J443
  refine g_goto B 3518 dL_law__443 (by decide) ?_
  refine g_sub (lv' := [(0, .ref b), (1, .ref a1), (2, .ref a2), (3, .ref a3), (4, .int x4)]) [0, 1, 2, 3, 4] rfl ?_
  refine g_widen (cells' := (337 + 4 * j + 4)) (slots' := (29787 + 24 * j + 24)) (by first | omega | exact Nat.add_le_add_left (Nat.le_of_ble_eq_true rfl) _) (by first | omega | exact Nat.add_le_add_left (Nat.le_of_ble_eq_true rfl) _) ?_
  exact gW_J3518 B hS9 hr hfl hXs hbl hbA hlo j (by omega) rec23 hrec23 a1 a2 a3 x4 M
set_option maxRecDepth 40000 in
set_option maxHeartbeats 8000000 in
theorem gW_J487 {X : gX} {p : Program} {l : Launch} {e : Env} {s : State} {m : MethodId} {below : List Frame} {meth : Method} {c : Code} {b L : Nat} {xs : Nat → Int32} (B : gB X p room_1 s m #[Value.ref b] meth c RL cL_law_ 7 room_1) (hS9 : gS X s) (hr : meth.sig.returnType = some .boolean) (hfl : l.stackTraces = false) (hXs : va_X b L xs s s.heap) (hbl : b < s.heap.size) (hbA : ¬ gA X b) (hlo : X.1 = s.heap.size) (j : Nat) (hj : j ≤ 512) (rec23 : Nat → Nat → Nat → Int32 → mMem → Option Int32) (hrec23 : ∀ (a1 : Nat) (a2 : Nat) (a3 : Nat) (x4 : Int32) (M : mMem), GG X p l e room_1 s m #[Value.ref b] below meth c (lwPhi below b s) 7 (337 + 4 * (j + 1)) (29787 + 24 * (j + 1)) 23 [(0, .ref b), (1, .ref a1), (2, .ref a2), (3, .ref a3), (4, .int x4)] [] M (rec23 a1 a2 a3 x4 M)) (a1 : Nat) (a2 : Nat) (a3 : Nat) (x4 : Int32) (M : mMem) : GG X p l e room_1 s m #[Value.ref b] below meth c (lwPhi below b s) 7 (337 + 4 * j + 1) (29787 + 24 * j + 6) 487 [(0, .ref b), (1, .ref a1), (2, .ref a2), (3, .ref a3), (4, .int x4)] [] M (pW_J487 xs L rec23 a1 a2 a3 x4 M) := by
  unfold pW_J487
  refine g_goto B 3518 dL_law__487 (by decide) ?_
  refine g_sub (lv' := [(0, .ref b), (1, .ref a1), (2, .ref a2), (3, .ref a3), (4, .int x4)]) [0, 1, 2, 3, 4] rfl ?_
  refine g_widen (cells' := (337 + 4 * j + 4)) (slots' := (29787 + 24 * j + 24)) (by first | omega | exact Nat.add_le_add_left (Nat.le_of_ble_eq_true rfl) _) (by first | omega | exact Nat.add_le_add_left (Nat.le_of_ble_eq_true rfl) _) ?_
  exact gW_J3518 B hS9 hr hfl hXs hbl hbA hlo j (by omega) rec23 hrec23 a1 a2 a3 x4 M
set_option maxRecDepth 40000 in
set_option maxHeartbeats 8000000 in
theorem gW_J568 {X : gX} {p : Program} {l : Launch} {e : Env} {s : State} {m : MethodId} {below : List Frame} {meth : Method} {c : Code} {b L : Nat} {xs : Nat → Int32} (B : gB X p room_1 s m #[Value.ref b] meth c RL cL_law_ 7 room_1) (hS9 : gS X s) (hr : meth.sig.returnType = some .boolean) (hfl : l.stackTraces = false) (hXs : va_X b L xs s s.heap) (hbl : b < s.heap.size) (hbA : ¬ gA X b) (hlo : X.1 = s.heap.size) (j : Nat) (hj : j ≤ 512) (rec23 : Nat → Nat → Nat → Int32 → mMem → Option Int32) (hrec23 : ∀ (a1 : Nat) (a2 : Nat) (a3 : Nat) (x4 : Int32) (M : mMem), GG X p l e room_1 s m #[Value.ref b] below meth c (lwPhi below b s) 7 (337 + 4 * (j + 1)) (29787 + 24 * (j + 1)) 23 [(0, .ref b), (1, .ref a1), (2, .ref a2), (3, .ref a3), (4, .int x4)] [] M (rec23 a1 a2 a3 x4 M)) (a1 : Nat) (a2 : Nat) (a3 : Nat) (x4 : Int32) (M : mMem) : GG X p l e room_1 s m #[Value.ref b] below meth c (lwPhi below b s) 7 (337 + 4 * j + 2) (29787 + 24 * j + 12) 568 [(0, .ref b), (1, .ref a1), (2, .ref a2), (3, .ref a3), (4, .int x4)] [] M (pW_J568 xs L rec23 a1 a2 a3 x4 M) := by
  unfold pW_J568
  refine g_goto B 3518 dL_law__568 (by decide) ?_
  refine g_sub (lv' := [(0, .ref b), (1, .ref a1), (2, .ref a2), (3, .ref a3), (4, .int x4)]) [0, 1, 2, 3, 4] rfl ?_
  refine g_widen (cells' := (337 + 4 * j + 4)) (slots' := (29787 + 24 * j + 24)) (by first | omega | exact Nat.add_le_add_left (Nat.le_of_ble_eq_true rfl) _) (by first | omega | exact Nat.add_le_add_left (Nat.le_of_ble_eq_true rfl) _) ?_
  exact gW_J3518 B hS9 hr hfl hXs hbl hbA hlo j (by omega) rec23 hrec23 a1 a2 a3 x4 M
set_option maxRecDepth 40000 in
set_option maxHeartbeats 8000000 in
theorem gW_J636 {X : gX} {p : Program} {l : Launch} {e : Env} {s : State} {m : MethodId} {below : List Frame} {meth : Method} {c : Code} {b L : Nat} {xs : Nat → Int32} (B : gB X p room_1 s m #[Value.ref b] meth c RL cL_law_ 7 room_1) (hS9 : gS X s) (hr : meth.sig.returnType = some .boolean) (hfl : l.stackTraces = false) (hXs : va_X b L xs s s.heap) (hbl : b < s.heap.size) (hbA : ¬ gA X b) (hlo : X.1 = s.heap.size) (j : Nat) (hj : j ≤ 512) (rec23 : Nat → Nat → Nat → Int32 → mMem → Option Int32) (hrec23 : ∀ (a1 : Nat) (a2 : Nat) (a3 : Nat) (x4 : Int32) (M : mMem), GG X p l e room_1 s m #[Value.ref b] below meth c (lwPhi below b s) 7 (337 + 4 * (j + 1)) (29787 + 24 * (j + 1)) 23 [(0, .ref b), (1, .ref a1), (2, .ref a2), (3, .ref a3), (4, .int x4)] [] M (rec23 a1 a2 a3 x4 M)) (a1 : Nat) (a2 : Nat) (a3 : Nat) (x4 : Int32) (M : mMem) : GG X p l e room_1 s m #[Value.ref b] below meth c (lwPhi below b s) 7 (337 + 4 * j + 3) (29787 + 24 * j + 18) 636 [(0, .ref b), (1, .ref a1), (2, .ref a2), (3, .ref a3), (4, .int x4)] [] M (pW_J636 xs L rec23 a1 a2 a3 x4 M) := by
  unfold pW_J636
  refine g_goto B 3518 dL_law__636 (by decide) ?_
  refine g_sub (lv' := [(0, .ref b), (1, .ref a1), (2, .ref a2), (3, .ref a3), (4, .int x4)]) [0, 1, 2, 3, 4] rfl ?_
  refine g_widen (cells' := (337 + 4 * j + 4)) (slots' := (29787 + 24 * j + 24)) (by first | omega | exact Nat.add_le_add_left (Nat.le_of_ble_eq_true rfl) _) (by first | omega | exact Nat.add_le_add_left (Nat.le_of_ble_eq_true rfl) _) ?_
  exact gW_J3518 B hS9 hr hfl hXs hbl hbA hlo j (by omega) rec23 hrec23 a1 a2 a3 x4 M
set_option maxRecDepth 40000 in
set_option maxHeartbeats 8000000 in
theorem gW_J732 {X : gX} {p : Program} {l : Launch} {e : Env} {s : State} {m : MethodId} {below : List Frame} {meth : Method} {c : Code} {b L : Nat} {xs : Nat → Int32} (B : gB X p room_1 s m #[Value.ref b] meth c RL cL_law_ 7 room_1) (hS9 : gS X s) (hr : meth.sig.returnType = some .boolean) (hfl : l.stackTraces = false) (hXs : va_X b L xs s s.heap) (hbl : b < s.heap.size) (hbA : ¬ gA X b) (hlo : X.1 = s.heap.size) (j : Nat) (hj : j ≤ 512) (rec23 : Nat → Nat → Nat → Int32 → mMem → Option Int32) (hrec23 : ∀ (a1 : Nat) (a2 : Nat) (a3 : Nat) (x4 : Int32) (M : mMem), GG X p l e room_1 s m #[Value.ref b] below meth c (lwPhi below b s) 7 (337 + 4 * (j + 1)) (29787 + 24 * (j + 1)) 23 [(0, .ref b), (1, .ref a1), (2, .ref a2), (3, .ref a3), (4, .int x4)] [] M (rec23 a1 a2 a3 x4 M)) (a1 : Nat) (a2 : Nat) (a3 : Nat) (x4 : Int32) (M : mMem) : GG X p l e room_1 s m #[Value.ref b] below meth c (lwPhi below b s) 7 (337 + 4 * j + 3) (29787 + 24 * j + 18) 732 [(0, .ref b), (1, .ref a1), (2, .ref a2), (3, .ref a3), (4, .int x4)] [] M (pW_J732 xs L rec23 a1 a2 a3 x4 M) := by
  unfold pW_J732
  refine g_goto B 3518 dL_law__732 (by decide) ?_
  refine g_sub (lv' := [(0, .ref b), (1, .ref a1), (2, .ref a2), (3, .ref a3), (4, .int x4)]) [0, 1, 2, 3, 4] rfl ?_
  refine g_widen (cells' := (337 + 4 * j + 4)) (slots' := (29787 + 24 * j + 24)) (by first | omega | exact Nat.add_le_add_left (Nat.le_of_ble_eq_true rfl) _) (by first | omega | exact Nat.add_le_add_left (Nat.le_of_ble_eq_true rfl) _) ?_
  exact gW_J3518 B hS9 hr hfl hXs hbl hbA hlo j (by omega) rec23 hrec23 a1 a2 a3 x4 M
set_option maxRecDepth 40000 in
set_option maxHeartbeats 8000000 in
theorem gW_J699 {X : gX} {p : Program} {l : Launch} {e : Env} {s : State} {m : MethodId} {below : List Frame} {meth : Method} {c : Code} {b L : Nat} {xs : Nat → Int32} (B : gB X p room_1 s m #[Value.ref b] meth c RL cL_law_ 7 room_1) (hS9 : gS X s) (hr : meth.sig.returnType = some .boolean) (hfl : l.stackTraces = false) (hXs : va_X b L xs s s.heap) (hbl : b < s.heap.size) (hbA : ¬ gA X b) (hlo : X.1 = s.heap.size) (j : Nat) (hj : j ≤ 512) (rec23 : Nat → Nat → Nat → Int32 → mMem → Option Int32) (hrec23 : ∀ (a1 : Nat) (a2 : Nat) (a3 : Nat) (x4 : Int32) (M : mMem), GG X p l e room_1 s m #[Value.ref b] below meth c (lwPhi below b s) 7 (337 + 4 * (j + 1)) (29787 + 24 * (j + 1)) 23 [(0, .ref b), (1, .ref a1), (2, .ref a2), (3, .ref a3), (4, .int x4)] [] M (rec23 a1 a2 a3 x4 M)) (a1 : Nat) (a2 : Nat) (a3 : Nat) (x4 : Int32) (x5 : Int32) (b0 : Nat) (u1 : Int32) (u2 : Int32) (u3 : Int32) (M : mMem) : GG X p l e room_1 s m #[Value.ref b] below meth c (lwPhi below b s) 7 (337 + 4 * j + 3) (29787 + 24 * j + 18) 699 [(0, .ref b), (1, .ref a1), (2, .ref a2), (3, .ref a3), (4, .int x4), (5, .int x5)] [.int u3, .int u2, .int u1, .ref b0] M (pW_J699 xs L rec23 a1 a2 a3 x4 x5 b0 u1 u2 u3 M) := by
  unfold pW_J699
  refine g_callV_iw [.int u1, .int u2, .int u3] (ci := 11) (T0 := TX12) (N := 27) B hS9 mf12_weighs wd_1977 (gw B wd_1978) wd_1976 (by decide) rfl (fun h => (gd_ne h).1) (c12_weighs X l b0 u1 u2 u3 M) (by decide) (by decide) ⟨by show (337 + 4 * j + 3) + 0 ≤ 601024; omega, by show (29787 + 24 * j + 18) + 0 ≤ 7293034; omega⟩ rfl (by decide) dL_law__699 rfl (fun q_1 => ?_)
  refine g_istore (lv' := [(6, .int q_1.1), (0, .ref b), (1, .ref a1), (2, .ref a2), (3, .ref a3), (4, .int x4), (5, .int x5)]) B dL_law__702 (by decide) [0, 1, 2, 3, 4, 5, 6] rfl ?_
  refine g_aload_n B dL_law__704 3 rfl ?_
  refine g_callV_ip [] (ci := 11) (T0 := TX12) (N := 27) B hS9 mf12_thrown wd_1632 (gw B wd_1633) wd_1631 (by decide) rfl (fun h => (gd_ne h).1) (c12_thrown X l a2 q_1.2) (by decide) (by decide) ⟨by show (337 + 4 * j + 3) + 0 ≤ 601024; omega, by show (29787 + 24 * j + 18) + 0 ≤ 7293034; omega⟩ rfl (by decide) dL_law__705 rfl (fun v_2 => ?_)
  refine g_iload B dL_law__708 6 rfl ?_
  refine g_icmp_eq B 715 dL_law__710 (by decide) ?_ ?_
  · refine g_iload B dL_law__715 6 rfl ?_
    refine g_if_ne B 732 dL_law__717 (by decide) ?_ ?_
    · refine g_aload_n B dL_law__720 4 rfl ?_
      refine g_iconst (v := 0) B dL_law__721 (by decide) ?_
      refine g_laload B dL_law__722 (fun v_3 => ?_)
      refine g_iload B dL_law__723 0 rfl ?_
      refine g_i2l B dL_law__725 ?_
      refine g_lcmp B dL_law__726 ?_
      refine g_if_eq B 732 dL_law__727 (by decide) ?_ ?_
      · refine g_sub (lv' := [(0, .ref b), (1, .ref a1), (2, .ref a2), (3, .ref a3), (4, .int x4)]) [1, 2, 3, 4, 5] rfl ?_
        exact gW_J732 B hS9 hr hfl hXs hbl hbA hlo j (by omega) rec23 hrec23 a1 a2 a3 x4 q_1.2
      · refine g_iconst (v := 0) B dL_law__730 (by decide) ?_
        exact g_lawret0 (by decide)
    · refine g_sub (lv' := [(0, .ref b), (1, .ref a1), (2, .ref a2), (3, .ref a3), (4, .int x4)]) [1, 2, 3, 4, 5] rfl ?_
      exact gW_J732 B hS9 hr hfl hXs hbl hbA hlo j (by omega) rec23 hrec23 a1 a2 a3 x4 q_1.2
  · refine g_iconst (v := 0) B dL_law__713 (by decide) ?_
    exact g_lawret0 (by decide)
set_option maxRecDepth 40000 in
set_option maxHeartbeats 8000000 in
theorem gW_J666 {X : gX} {p : Program} {l : Launch} {e : Env} {s : State} {m : MethodId} {below : List Frame} {meth : Method} {c : Code} {b L : Nat} {xs : Nat → Int32} (B : gB X p room_1 s m #[Value.ref b] meth c RL cL_law_ 7 room_1) (hS9 : gS X s) (hr : meth.sig.returnType = some .boolean) (hfl : l.stackTraces = false) (hXs : va_X b L xs s s.heap) (hbl : b < s.heap.size) (hbA : ¬ gA X b) (hlo : X.1 = s.heap.size) (j : Nat) (hj : j ≤ 512) (rec23 : Nat → Nat → Nat → Int32 → mMem → Option Int32) (hrec23 : ∀ (a1 : Nat) (a2 : Nat) (a3 : Nat) (x4 : Int32) (M : mMem), GG X p l e room_1 s m #[Value.ref b] below meth c (lwPhi below b s) 7 (337 + 4 * (j + 1)) (29787 + 24 * (j + 1)) 23 [(0, .ref b), (1, .ref a1), (2, .ref a2), (3, .ref a3), (4, .int x4)] [] M (rec23 a1 a2 a3 x4 M)) (a1 : Nat) (a2 : Nat) (a3 : Nat) (x4 : Int32) (b0 : Nat) (u1 : Int32) (u2 : Int32) (u3 : Int32) (M : mMem) : GG X p l e room_1 s m #[Value.ref b] below meth c (lwPhi below b s) 7 (337 + 4 * j) (29787 + 24 * j) 666 [(0, .ref b), (1, .ref a1), (2, .ref a2), (3, .ref a3), (4, .int x4)] [.int u3, .int u2, .int u1, .ref b0] M (pW_J666 xs L rec23 a1 a2 a3 x4 b0 u1 u2 u3 M) := by
  unfold pW_J666
  refine g_aload_n B dL_law__666 3 rfl ?_
  refine g_callW [.ref b0, .int u1, .int u2, .int u3, .ref a3] B hS9 mfL_weighs wd_1146 wd_1145 (oL_weighs X l hfl b0 u1 u2 u3 a3 M) (by decide) (by decide) ⟨by show (337 + 4 * j) + 3 ≤ 601024; omega, by show (29787 + 24 * j) + 18 ≤ 7293034; omega⟩ rfl (Nat.le_of_ble_eq_true rfl) dL_law__667 rfl (fun q_1 => ?_)
  refine g_istore (lv' := [(5, .int q_1.1), (0, .ref b), (1, .ref a1), (2, .ref a2), (3, .ref a3), (4, .int x4)]) B dL_law__670 (by decide) [0, 1, 2, 3, 4, 5] rfl ?_
  refine g_aload_n B dL_law__672 3 rfl ?_
  refine g_aload_n B dL_law__673 1 rfl ?_
  refine g_iload B dL_law__674 5 rfl ?_
  refine g_iconst (v := 1) B dL_law__676 (by decide) ?_
  refine g_iadd B dL_law__677 ?_
  refine g_sld hXs hbl hbA B dL_law__678 (fun v_2 => ?_)
  refine g_aload_n B dL_law__679 1 rfl ?_
  refine g_iload B dL_law__680 5 rfl ?_
  refine g_iconst (v := 2) B dL_law__682 (by decide) ?_
  refine g_iadd B dL_law__683 ?_
  refine g_sld hXs hbl hbA B dL_law__684 (fun v_3 => ?_)
  refine g_aload_n B dL_law__685 1 rfl ?_
  refine g_iload B dL_law__686 5 rfl ?_
  refine g_iconst (v := 3) B dL_law__688 (by decide) ?_
  refine g_iadd B dL_law__689 ?_
  refine g_sld hXs hbl hbA B dL_law__690 (fun v_4 => ?_)
  refine g_if_eq B 698 dL_law__691 (by decide) ?_ ?_
  · refine g_iconst (v := 0) B dL_law__698 (by decide) ?_
    refine g_sub (lv' := [(0, .ref b), (1, .ref a1), (2, .ref a2), (3, .ref a3), (4, .int x4), (5, .int q_1.1)]) [1, 2, 3, 4, 5, 0] rfl ?_
    exact gW_J699 B hS9 hr hfl hXs hbl hbA hlo j (by omega) rec23 hrec23 a1 a2 a3 x4 q_1.1 a2 v_2 v_3 0 q_1.2
  · refine g_iconst (v := 1) B dL_law__694 (by decide) ?_
    refine g_goto B 699 dL_law__695 (by decide) ?_
    refine g_sub (lv' := [(0, .ref b), (1, .ref a1), (2, .ref a2), (3, .ref a3), (4, .int x4), (5, .int q_1.1)]) [1, 2, 3, 4, 5, 0] rfl ?_
    exact gW_J699 B hS9 hr hfl hXs hbl hbA hlo j (by omega) rec23 hrec23 a1 a2 a3 x4 q_1.1 a2 v_2 v_3 1 q_1.2
set_option maxRecDepth 40000 in
set_option maxHeartbeats 8000000 in
theorem gW_J800 {X : gX} {p : Program} {l : Launch} {e : Env} {s : State} {m : MethodId} {below : List Frame} {meth : Method} {c : Code} {b L : Nat} {xs : Nat → Int32} (B : gB X p room_1 s m #[Value.ref b] meth c RL cL_law_ 7 room_1) (hS9 : gS X s) (hr : meth.sig.returnType = some .boolean) (hfl : l.stackTraces = false) (hXs : va_X b L xs s s.heap) (hbl : b < s.heap.size) (hbA : ¬ gA X b) (hlo : X.1 = s.heap.size) (j : Nat) (hj : j ≤ 512) (rec23 : Nat → Nat → Nat → Int32 → mMem → Option Int32) (hrec23 : ∀ (a1 : Nat) (a2 : Nat) (a3 : Nat) (x4 : Int32) (M : mMem), GG X p l e room_1 s m #[Value.ref b] below meth c (lwPhi below b s) 7 (337 + 4 * (j + 1)) (29787 + 24 * (j + 1)) 23 [(0, .ref b), (1, .ref a1), (2, .ref a2), (3, .ref a3), (4, .int x4)] [] M (rec23 a1 a2 a3 x4 M)) (a1 : Nat) (a2 : Nat) (a3 : Nat) (x4 : Int32) (M : mMem) : GG X p l e room_1 s m #[Value.ref b] below meth c (lwPhi below b s) 7 (337 + 4 * j + 3) (29787 + 24 * j + 18) 800 [(0, .ref b), (1, .ref a1), (2, .ref a2), (3, .ref a3), (4, .int x4)] [] M (pW_J800 xs L rec23 a1 a2 a3 x4 M) := by
  unfold pW_J800
  refine g_goto B 3518 dL_law__800 (by decide) ?_
  refine g_sub (lv' := [(0, .ref b), (1, .ref a1), (2, .ref a2), (3, .ref a3), (4, .int x4)]) [0, 1, 2, 3, 4] rfl ?_
  refine g_widen (cells' := (337 + 4 * j + 4)) (slots' := (29787 + 24 * j + 24)) (by first | omega | exact Nat.add_le_add_left (Nat.le_of_ble_eq_true rfl) _) (by first | omega | exact Nat.add_le_add_left (Nat.le_of_ble_eq_true rfl) _) ?_
  exact gW_J3518 B hS9 hr hfl hXs hbl hbA hlo j (by omega) rec23 hrec23 a1 a2 a3 x4 M
set_option maxRecDepth 40000 in
set_option maxHeartbeats 8000000 in
theorem gW_J896 {X : gX} {p : Program} {l : Launch} {e : Env} {s : State} {m : MethodId} {below : List Frame} {meth : Method} {c : Code} {b L : Nat} {xs : Nat → Int32} (B : gB X p room_1 s m #[Value.ref b] meth c RL cL_law_ 7 room_1) (hS9 : gS X s) (hr : meth.sig.returnType = some .boolean) (hfl : l.stackTraces = false) (hXs : va_X b L xs s s.heap) (hbl : b < s.heap.size) (hbA : ¬ gA X b) (hlo : X.1 = s.heap.size) (j : Nat) (hj : j ≤ 512) (rec23 : Nat → Nat → Nat → Int32 → mMem → Option Int32) (hrec23 : ∀ (a1 : Nat) (a2 : Nat) (a3 : Nat) (x4 : Int32) (M : mMem), GG X p l e room_1 s m #[Value.ref b] below meth c (lwPhi below b s) 7 (337 + 4 * (j + 1)) (29787 + 24 * (j + 1)) 23 [(0, .ref b), (1, .ref a1), (2, .ref a2), (3, .ref a3), (4, .int x4)] [] M (rec23 a1 a2 a3 x4 M)) (a1 : Nat) (a2 : Nat) (a3 : Nat) (x4 : Int32) (M : mMem) : GG X p l e room_1 s m #[Value.ref b] below meth c (lwPhi below b s) 7 (337 + 4 * j + 3) (29787 + 24 * j + 18) 896 [(0, .ref b), (1, .ref a1), (2, .ref a2), (3, .ref a3), (4, .int x4)] [] M (pW_J896 xs L rec23 a1 a2 a3 x4 M) := by
  unfold pW_J896
  refine g_goto B 3518 dL_law__896 (by decide) ?_
  refine g_sub (lv' := [(0, .ref b), (1, .ref a1), (2, .ref a2), (3, .ref a3), (4, .int x4)]) [0, 1, 2, 3, 4] rfl ?_
  refine g_widen (cells' := (337 + 4 * j + 4)) (slots' := (29787 + 24 * j + 24)) (by first | omega | exact Nat.add_le_add_left (Nat.le_of_ble_eq_true rfl) _) (by first | omega | exact Nat.add_le_add_left (Nat.le_of_ble_eq_true rfl) _) ?_
  exact gW_J3518 B hS9 hr hfl hXs hbl hbA hlo j (by omega) rec23 hrec23 a1 a2 a3 x4 M
set_option maxRecDepth 40000 in
set_option maxHeartbeats 8000000 in
theorem gW_J863 {X : gX} {p : Program} {l : Launch} {e : Env} {s : State} {m : MethodId} {below : List Frame} {meth : Method} {c : Code} {b L : Nat} {xs : Nat → Int32} (B : gB X p room_1 s m #[Value.ref b] meth c RL cL_law_ 7 room_1) (hS9 : gS X s) (hr : meth.sig.returnType = some .boolean) (hfl : l.stackTraces = false) (hXs : va_X b L xs s s.heap) (hbl : b < s.heap.size) (hbA : ¬ gA X b) (hlo : X.1 = s.heap.size) (j : Nat) (hj : j ≤ 512) (rec23 : Nat → Nat → Nat → Int32 → mMem → Option Int32) (hrec23 : ∀ (a1 : Nat) (a2 : Nat) (a3 : Nat) (x4 : Int32) (M : mMem), GG X p l e room_1 s m #[Value.ref b] below meth c (lwPhi below b s) 7 (337 + 4 * (j + 1)) (29787 + 24 * (j + 1)) 23 [(0, .ref b), (1, .ref a1), (2, .ref a2), (3, .ref a3), (4, .int x4)] [] M (rec23 a1 a2 a3 x4 M)) (a1 : Nat) (a2 : Nat) (a3 : Nat) (x4 : Int32) (x5 : Int32) (b0 : Nat) (u1 : Int32) (u2 : Int32) (u3 : Int32) (M : mMem) : GG X p l e room_1 s m #[Value.ref b] below meth c (lwPhi below b s) 7 (337 + 4 * j + 3) (29787 + 24 * j + 18) 863 [(0, .ref b), (1, .ref a1), (2, .ref a2), (3, .ref a3), (4, .int x4), (5, .int x5)] [.int u3, .int u2, .int u1, .ref b0] M (pW_J863 xs L rec23 a1 a2 a3 x4 x5 b0 u1 u2 u3 M) := by
  unfold pW_J863
  refine g_callV_iw [.int u1, .int u2, .int u3] (ci := 11) (T0 := TX12) (N := 27) B hS9 mf12_say wd_2029 (gw B wd_2030) wd_2028 (by decide) rfl (fun h => (gd_ne h).1) (c12_say X l b0 u1 u2 u3 M) (by decide) (by decide) ⟨by show (337 + 4 * j + 3) + 0 ≤ 601024; omega, by show (29787 + 24 * j + 18) + 0 ≤ 7293034; omega⟩ rfl (by decide) dL_law__863 rfl (fun q_1 => ?_)
  refine g_istore (lv' := [(6, .int q_1.1), (0, .ref b), (1, .ref a1), (2, .ref a2), (3, .ref a3), (4, .int x4), (5, .int x5)]) B dL_law__866 (by decide) [0, 1, 2, 3, 4, 5, 6] rfl ?_
  refine g_aload_n B dL_law__868 3 rfl ?_
  refine g_callV_ip [] (ci := 11) (T0 := TX12) (N := 27) B hS9 mf12_thrown wd_1632 (gw B wd_1633) wd_1631 (by decide) rfl (fun h => (gd_ne h).1) (c12_thrown X l a2 q_1.2) (by decide) (by decide) ⟨by show (337 + 4 * j + 3) + 0 ≤ 601024; omega, by show (29787 + 24 * j + 18) + 0 ≤ 7293034; omega⟩ rfl (by decide) dL_law__869 rfl (fun v_2 => ?_)
  refine g_iload B dL_law__872 6 rfl ?_
  refine g_icmp_eq B 879 dL_law__874 (by decide) ?_ ?_
  · refine g_iload B dL_law__879 6 rfl ?_
    refine g_if_ne B 896 dL_law__881 (by decide) ?_ ?_
    · refine g_aload_n B dL_law__884 4 rfl ?_
      refine g_iconst (v := 0) B dL_law__885 (by decide) ?_
      refine g_laload B dL_law__886 (fun v_3 => ?_)
      refine g_iload B dL_law__887 0 rfl ?_
      refine g_i2l B dL_law__889 ?_
      refine g_lcmp B dL_law__890 ?_
      refine g_if_eq B 896 dL_law__891 (by decide) ?_ ?_
      · refine g_sub (lv' := [(0, .ref b), (1, .ref a1), (2, .ref a2), (3, .ref a3), (4, .int x4)]) [1, 2, 3, 4, 5] rfl ?_
        exact gW_J896 B hS9 hr hfl hXs hbl hbA hlo j (by omega) rec23 hrec23 a1 a2 a3 x4 q_1.2
      · refine g_iconst (v := 0) B dL_law__894 (by decide) ?_
        exact g_lawret0 (by decide)
    · refine g_sub (lv' := [(0, .ref b), (1, .ref a1), (2, .ref a2), (3, .ref a3), (4, .int x4)]) [1, 2, 3, 4, 5] rfl ?_
      exact gW_J896 B hS9 hr hfl hXs hbl hbA hlo j (by omega) rec23 hrec23 a1 a2 a3 x4 q_1.2
  · refine g_iconst (v := 0) B dL_law__877 (by decide) ?_
    exact g_lawret0 (by decide)
set_option maxRecDepth 40000 in
set_option maxHeartbeats 8000000 in
theorem gW_J830 {X : gX} {p : Program} {l : Launch} {e : Env} {s : State} {m : MethodId} {below : List Frame} {meth : Method} {c : Code} {b L : Nat} {xs : Nat → Int32} (B : gB X p room_1 s m #[Value.ref b] meth c RL cL_law_ 7 room_1) (hS9 : gS X s) (hr : meth.sig.returnType = some .boolean) (hfl : l.stackTraces = false) (hXs : va_X b L xs s s.heap) (hbl : b < s.heap.size) (hbA : ¬ gA X b) (hlo : X.1 = s.heap.size) (j : Nat) (hj : j ≤ 512) (rec23 : Nat → Nat → Nat → Int32 → mMem → Option Int32) (hrec23 : ∀ (a1 : Nat) (a2 : Nat) (a3 : Nat) (x4 : Int32) (M : mMem), GG X p l e room_1 s m #[Value.ref b] below meth c (lwPhi below b s) 7 (337 + 4 * (j + 1)) (29787 + 24 * (j + 1)) 23 [(0, .ref b), (1, .ref a1), (2, .ref a2), (3, .ref a3), (4, .int x4)] [] M (rec23 a1 a2 a3 x4 M)) (a1 : Nat) (a2 : Nat) (a3 : Nat) (x4 : Int32) (b0 : Nat) (u1 : Int32) (u2 : Int32) (u3 : Int32) (M : mMem) : GG X p l e room_1 s m #[Value.ref b] below meth c (lwPhi below b s) 7 (337 + 4 * j) (29787 + 24 * j) 830 [(0, .ref b), (1, .ref a1), (2, .ref a2), (3, .ref a3), (4, .int x4)] [.int u3, .int u2, .int u1, .ref b0] M (pW_J830 xs L rec23 a1 a2 a3 x4 b0 u1 u2 u3 M) := by
  unfold pW_J830
  refine g_aload_n B dL_law__830 3 rfl ?_
  refine g_callW [.ref b0, .int u1, .int u2, .int u3, .ref a3] B hS9 mfL_say wd_1162 wd_1161 (oL_say X l hfl b0 u1 u2 u3 a3 M) (by decide) (by decide) ⟨by show (337 + 4 * j) + 3 ≤ 601024; omega, by show (29787 + 24 * j) + 18 ≤ 7293034; omega⟩ rfl (Nat.le_of_ble_eq_true rfl) dL_law__831 rfl (fun q_1 => ?_)
  refine g_istore (lv' := [(5, .int q_1.1), (0, .ref b), (1, .ref a1), (2, .ref a2), (3, .ref a3), (4, .int x4)]) B dL_law__834 (by decide) [0, 1, 2, 3, 4, 5] rfl ?_
  refine g_aload_n B dL_law__836 3 rfl ?_
  refine g_aload_n B dL_law__837 1 rfl ?_
  refine g_iload B dL_law__838 5 rfl ?_
  refine g_iconst (v := 1) B dL_law__840 (by decide) ?_
  refine g_iadd B dL_law__841 ?_
  refine g_sld hXs hbl hbA B dL_law__842 (fun v_2 => ?_)
  refine g_aload_n B dL_law__843 1 rfl ?_
  refine g_iload B dL_law__844 5 rfl ?_
  refine g_iconst (v := 2) B dL_law__846 (by decide) ?_
  refine g_iadd B dL_law__847 ?_
  refine g_sld hXs hbl hbA B dL_law__848 (fun v_3 => ?_)
  refine g_aload_n B dL_law__849 1 rfl ?_
  refine g_iload B dL_law__850 5 rfl ?_
  refine g_iconst (v := 3) B dL_law__852 (by decide) ?_
  refine g_iadd B dL_law__853 ?_
  refine g_sld hXs hbl hbA B dL_law__854 (fun v_4 => ?_)
  refine g_if_eq B 862 dL_law__855 (by decide) ?_ ?_
  · refine g_iconst (v := 0) B dL_law__862 (by decide) ?_
    refine g_sub (lv' := [(0, .ref b), (1, .ref a1), (2, .ref a2), (3, .ref a3), (4, .int x4), (5, .int q_1.1)]) [1, 2, 3, 4, 5, 0] rfl ?_
    exact gW_J863 B hS9 hr hfl hXs hbl hbA hlo j (by omega) rec23 hrec23 a1 a2 a3 x4 q_1.1 a2 v_2 v_3 0 q_1.2
  · refine g_iconst (v := 1) B dL_law__858 (by decide) ?_
    refine g_goto B 863 dL_law__859 (by decide) ?_
    refine g_sub (lv' := [(0, .ref b), (1, .ref a1), (2, .ref a2), (3, .ref a3), (4, .int x4), (5, .int q_1.1)]) [1, 2, 3, 4, 5, 0] rfl ?_
    exact gW_J863 B hS9 hr hfl hXs hbl hbA hlo j (by omega) rec23 hrec23 a1 a2 a3 x4 q_1.1 a2 v_2 v_3 1 q_1.2
set_option maxRecDepth 40000 in
set_option maxHeartbeats 8000000 in
theorem gW_J980 {X : gX} {p : Program} {l : Launch} {e : Env} {s : State} {m : MethodId} {below : List Frame} {meth : Method} {c : Code} {b L : Nat} {xs : Nat → Int32} (B : gB X p room_1 s m #[Value.ref b] meth c RL cL_law_ 7 room_1) (hS9 : gS X s) (hr : meth.sig.returnType = some .boolean) (hfl : l.stackTraces = false) (hXs : va_X b L xs s s.heap) (hbl : b < s.heap.size) (hbA : ¬ gA X b) (hlo : X.1 = s.heap.size) (j : Nat) (hj : j ≤ 512) (rec23 : Nat → Nat → Nat → Int32 → mMem → Option Int32) (hrec23 : ∀ (a1 : Nat) (a2 : Nat) (a3 : Nat) (x4 : Int32) (M : mMem), GG X p l e room_1 s m #[Value.ref b] below meth c (lwPhi below b s) 7 (337 + 4 * (j + 1)) (29787 + 24 * (j + 1)) 23 [(0, .ref b), (1, .ref a1), (2, .ref a2), (3, .ref a3), (4, .int x4)] [] M (rec23 a1 a2 a3 x4 M)) (a1 : Nat) (a2 : Nat) (a3 : Nat) (x4 : Int32) (M : mMem) : GG X p l e room_1 s m #[Value.ref b] below meth c (lwPhi below b s) 7 (337 + 4 * j + 2) (29787 + 24 * j + 12) 980 [(0, .ref b), (1, .ref a1), (2, .ref a2), (3, .ref a3), (4, .int x4)] [] M (pW_J980 xs L rec23 a1 a2 a3 x4 M) := by
  unfold pW_J980
  refine g_goto B 3518 dL_law__980 (by decide) ?_
  refine g_sub (lv' := [(0, .ref b), (1, .ref a1), (2, .ref a2), (3, .ref a3), (4, .int x4)]) [0, 1, 2, 3, 4] rfl ?_
  refine g_widen (cells' := (337 + 4 * j + 4)) (slots' := (29787 + 24 * j + 24)) (by first | omega | exact Nat.add_le_add_left (Nat.le_of_ble_eq_true rfl) _) (by first | omega | exact Nat.add_le_add_left (Nat.le_of_ble_eq_true rfl) _) ?_
  exact gW_J3518 B hS9 hr hfl hXs hbl hbA hlo j (by omega) rec23 hrec23 a1 a2 a3 x4 M
set_option maxRecDepth 40000 in
set_option maxHeartbeats 8000000 in
theorem gW_J947 {X : gX} {p : Program} {l : Launch} {e : Env} {s : State} {m : MethodId} {below : List Frame} {meth : Method} {c : Code} {b L : Nat} {xs : Nat → Int32} (B : gB X p room_1 s m #[Value.ref b] meth c RL cL_law_ 7 room_1) (hS9 : gS X s) (hr : meth.sig.returnType = some .boolean) (hfl : l.stackTraces = false) (hXs : va_X b L xs s s.heap) (hbl : b < s.heap.size) (hbA : ¬ gA X b) (hlo : X.1 = s.heap.size) (j : Nat) (hj : j ≤ 512) (rec23 : Nat → Nat → Nat → Int32 → mMem → Option Int32) (hrec23 : ∀ (a1 : Nat) (a2 : Nat) (a3 : Nat) (x4 : Int32) (M : mMem), GG X p l e room_1 s m #[Value.ref b] below meth c (lwPhi below b s) 7 (337 + 4 * (j + 1)) (29787 + 24 * (j + 1)) 23 [(0, .ref b), (1, .ref a1), (2, .ref a2), (3, .ref a3), (4, .int x4)] [] M (rec23 a1 a2 a3 x4 M)) (a1 : Nat) (a2 : Nat) (a3 : Nat) (x4 : Int32) (x5 : Int32) (b0 : Nat) (u1 : Int32) (u2 : Int32) (M : mMem) : GG X p l e room_1 s m #[Value.ref b] below meth c (lwPhi below b s) 7 (337 + 4 * j + 2) (29787 + 24 * j + 12) 947 [(0, .ref b), (1, .ref a1), (2, .ref a2), (3, .ref a3), (4, .int x4), (5, .int x5)] [.int u2, .int u1, .ref b0] M (pW_J947 xs L rec23 a1 a2 a3 x4 x5 b0 u1 u2 M) := by
  unfold pW_J947
  refine g_callV_iw [.int u1, .int u2] (ci := 11) (T0 := TX12) (N := 27) B hS9 mf12_bear wd_2045 (gw B wd_2046) wd_2044 (by decide) rfl (fun h => (gd_ne h).1) (c12_bear X l b0 u1 u2 M) (by decide) (by decide) ⟨by show (337 + 4 * j + 2) + 0 ≤ 601024; omega, by show (29787 + 24 * j + 12) + 0 ≤ 7293034; omega⟩ rfl (by decide) dL_law__947 rfl (fun q_1 => ?_)
  refine g_istore (lv' := [(6, .int q_1.1), (0, .ref b), (1, .ref a1), (2, .ref a2), (3, .ref a3), (4, .int x4), (5, .int x5)]) B dL_law__950 (by decide) [0, 1, 2, 3, 4, 5, 6] rfl ?_
  refine g_aload_n B dL_law__952 3 rfl ?_
  refine g_callV_ip [] (ci := 11) (T0 := TX12) (N := 27) B hS9 mf12_thrown wd_1632 (gw B wd_1633) wd_1631 (by decide) rfl (fun h => (gd_ne h).1) (c12_thrown X l a2 q_1.2) (by decide) (by decide) ⟨by show (337 + 4 * j + 2) + 0 ≤ 601024; omega, by show (29787 + 24 * j + 12) + 0 ≤ 7293034; omega⟩ rfl (by decide) dL_law__953 rfl (fun v_2 => ?_)
  refine g_iload B dL_law__956 6 rfl ?_
  refine g_icmp_eq B 963 dL_law__958 (by decide) ?_ ?_
  · refine g_iload B dL_law__963 6 rfl ?_
    refine g_if_ne B 980 dL_law__965 (by decide) ?_ ?_
    · refine g_aload_n B dL_law__968 4 rfl ?_
      refine g_iconst (v := 0) B dL_law__969 (by decide) ?_
      refine g_laload B dL_law__970 (fun v_3 => ?_)
      refine g_iload B dL_law__971 0 rfl ?_
      refine g_i2l B dL_law__973 ?_
      refine g_lcmp B dL_law__974 ?_
      refine g_if_eq B 980 dL_law__975 (by decide) ?_ ?_
      · refine g_sub (lv' := [(0, .ref b), (1, .ref a1), (2, .ref a2), (3, .ref a3), (4, .int x4)]) [1, 2, 3, 4, 5] rfl ?_
        exact gW_J980 B hS9 hr hfl hXs hbl hbA hlo j (by omega) rec23 hrec23 a1 a2 a3 x4 q_1.2
      · refine g_iconst (v := 0) B dL_law__978 (by decide) ?_
        exact g_lawret0 (by decide)
    · refine g_sub (lv' := [(0, .ref b), (1, .ref a1), (2, .ref a2), (3, .ref a3), (4, .int x4)]) [1, 2, 3, 4, 5] rfl ?_
      exact gW_J980 B hS9 hr hfl hXs hbl hbA hlo j (by omega) rec23 hrec23 a1 a2 a3 x4 q_1.2
  · refine g_iconst (v := 0) B dL_law__961 (by decide) ?_
    exact g_lawret0 (by decide)
set_option maxRecDepth 40000 in
set_option maxHeartbeats 8000000 in
theorem gW_J920 {X : gX} {p : Program} {l : Launch} {e : Env} {s : State} {m : MethodId} {below : List Frame} {meth : Method} {c : Code} {b L : Nat} {xs : Nat → Int32} (B : gB X p room_1 s m #[Value.ref b] meth c RL cL_law_ 7 room_1) (hS9 : gS X s) (hr : meth.sig.returnType = some .boolean) (hfl : l.stackTraces = false) (hXs : va_X b L xs s s.heap) (hbl : b < s.heap.size) (hbA : ¬ gA X b) (hlo : X.1 = s.heap.size) (j : Nat) (hj : j ≤ 512) (rec23 : Nat → Nat → Nat → Int32 → mMem → Option Int32) (hrec23 : ∀ (a1 : Nat) (a2 : Nat) (a3 : Nat) (x4 : Int32) (M : mMem), GG X p l e room_1 s m #[Value.ref b] below meth c (lwPhi below b s) 7 (337 + 4 * (j + 1)) (29787 + 24 * (j + 1)) 23 [(0, .ref b), (1, .ref a1), (2, .ref a2), (3, .ref a3), (4, .int x4)] [] M (rec23 a1 a2 a3 x4 M)) (a1 : Nat) (a2 : Nat) (a3 : Nat) (x4 : Int32) (b0 : Nat) (u1 : Int32) (u2 : Int32) (M : mMem) : GG X p l e room_1 s m #[Value.ref b] below meth c (lwPhi below b s) 7 (337 + 4 * j) (29787 + 24 * j) 920 [(0, .ref b), (1, .ref a1), (2, .ref a2), (3, .ref a3), (4, .int x4)] [.int u2, .int u1, .ref b0] M (pW_J920 xs L rec23 a1 a2 a3 x4 b0 u1 u2 M) := by
  unfold pW_J920
  refine g_aload_n B dL_law__920 3 rfl ?_
  refine g_callW [.ref b0, .int u1, .int u2, .ref a3] B hS9 mfL_bear wd_1195 wd_1194 (oL_bear X l hfl b0 u1 u2 a3 M) (by decide) (by decide) ⟨by show (337 + 4 * j) + 2 ≤ 601024; omega, by show (29787 + 24 * j) + 12 ≤ 7293034; omega⟩ rfl (Nat.le_of_ble_eq_true rfl) dL_law__921 rfl (fun q_1 => ?_)
  refine g_istore (lv' := [(5, .int q_1.1), (0, .ref b), (1, .ref a1), (2, .ref a2), (3, .ref a3), (4, .int x4)]) B dL_law__924 (by decide) [0, 1, 2, 3, 4, 5] rfl ?_
  refine g_aload_n B dL_law__926 3 rfl ?_
  refine g_aload_n B dL_law__927 1 rfl ?_
  refine g_iload B dL_law__928 5 rfl ?_
  refine g_iconst (v := 1) B dL_law__930 (by decide) ?_
  refine g_iadd B dL_law__931 ?_
  refine g_sld hXs hbl hbA B dL_law__932 (fun v_2 => ?_)
  refine g_aload_n B dL_law__933 1 rfl ?_
  refine g_iload B dL_law__934 5 rfl ?_
  refine g_iconst (v := 2) B dL_law__936 (by decide) ?_
  refine g_iadd B dL_law__937 ?_
  refine g_sld hXs hbl hbA B dL_law__938 (fun v_3 => ?_)
  refine g_if_eq B 946 dL_law__939 (by decide) ?_ ?_
  · refine g_iconst (v := 0) B dL_law__946 (by decide) ?_
    refine g_sub (lv' := [(0, .ref b), (1, .ref a1), (2, .ref a2), (3, .ref a3), (4, .int x4), (5, .int q_1.1)]) [1, 2, 3, 4, 5, 0] rfl ?_
    exact gW_J947 B hS9 hr hfl hXs hbl hbA hlo j (by omega) rec23 hrec23 a1 a2 a3 x4 q_1.1 a2 v_2 0 q_1.2
  · refine g_iconst (v := 1) B dL_law__942 (by decide) ?_
    refine g_goto B 947 dL_law__943 (by decide) ?_
    refine g_sub (lv' := [(0, .ref b), (1, .ref a1), (2, .ref a2), (3, .ref a3), (4, .int x4), (5, .int q_1.1)]) [1, 2, 3, 4, 5, 0] rfl ?_
    exact gW_J947 B hS9 hr hfl hXs hbl hbA hlo j (by omega) rec23 hrec23 a1 a2 a3 x4 q_1.1 a2 v_2 1 q_1.2
set_option maxRecDepth 40000 in
set_option maxHeartbeats 8000000 in
theorem gW_J1048 {X : gX} {p : Program} {l : Launch} {e : Env} {s : State} {m : MethodId} {below : List Frame} {meth : Method} {c : Code} {b L : Nat} {xs : Nat → Int32} (B : gB X p room_1 s m #[Value.ref b] meth c RL cL_law_ 7 room_1) (hS9 : gS X s) (hr : meth.sig.returnType = some .boolean) (hfl : l.stackTraces = false) (hXs : va_X b L xs s s.heap) (hbl : b < s.heap.size) (hbA : ¬ gA X b) (hlo : X.1 = s.heap.size) (j : Nat) (hj : j ≤ 512) (rec23 : Nat → Nat → Nat → Int32 → mMem → Option Int32) (hrec23 : ∀ (a1 : Nat) (a2 : Nat) (a3 : Nat) (x4 : Int32) (M : mMem), GG X p l e room_1 s m #[Value.ref b] below meth c (lwPhi below b s) 7 (337 + 4 * (j + 1)) (29787 + 24 * (j + 1)) 23 [(0, .ref b), (1, .ref a1), (2, .ref a2), (3, .ref a3), (4, .int x4)] [] M (rec23 a1 a2 a3 x4 M)) (a1 : Nat) (a2 : Nat) (a3 : Nat) (x4 : Int32) (M : mMem) : GG X p l e room_1 s m #[Value.ref b] below meth c (lwPhi below b s) 7 (337 + 4 * j + 4) (29787 + 24 * j + 24) 1048 [(0, .ref b), (1, .ref a1), (2, .ref a2), (3, .ref a3), (4, .int x4)] [] M (pW_J1048 xs L rec23 a1 a2 a3 x4 M) := by
  unfold pW_J1048
  refine g_goto B 3518 dL_law__1048 (by decide) ?_
  refine g_sub (lv' := [(0, .ref b), (1, .ref a1), (2, .ref a2), (3, .ref a3), (4, .int x4)]) [0, 1, 2, 3, 4] rfl ?_
  exact gW_J3518 B hS9 hr hfl hXs hbl hbA hlo j (by omega) rec23 hrec23 a1 a2 a3 x4 M
set_option maxRecDepth 40000 in
set_option maxHeartbeats 8000000 in
theorem gW_J1104 {X : gX} {p : Program} {l : Launch} {e : Env} {s : State} {m : MethodId} {below : List Frame} {meth : Method} {c : Code} {b L : Nat} {xs : Nat → Int32} (B : gB X p room_1 s m #[Value.ref b] meth c RL cL_law_ 7 room_1) (hS9 : gS X s) (hr : meth.sig.returnType = some .boolean) (hfl : l.stackTraces = false) (hXs : va_X b L xs s s.heap) (hbl : b < s.heap.size) (hbA : ¬ gA X b) (hlo : X.1 = s.heap.size) (j : Nat) (hj : j ≤ 512) (rec23 : Nat → Nat → Nat → Int32 → mMem → Option Int32) (hrec23 : ∀ (a1 : Nat) (a2 : Nat) (a3 : Nat) (x4 : Int32) (M : mMem), GG X p l e room_1 s m #[Value.ref b] below meth c (lwPhi below b s) 7 (337 + 4 * (j + 1)) (29787 + 24 * (j + 1)) 23 [(0, .ref b), (1, .ref a1), (2, .ref a2), (3, .ref a3), (4, .int x4)] [] M (rec23 a1 a2 a3 x4 M)) (a1 : Nat) (a2 : Nat) (a3 : Nat) (x4 : Int32) (M : mMem) : GG X p l e room_1 s m #[Value.ref b] below meth c (lwPhi below b s) 7 (337 + 4 * j + 2) (29787 + 24 * j + 12) 1104 [(0, .ref b), (1, .ref a1), (2, .ref a2), (3, .ref a3), (4, .int x4)] [] M (pW_J1104 xs L rec23 a1 a2 a3 x4 M) := by
  unfold pW_J1104
  refine g_goto B 3518 dL_law__1104 (by decide) ?_
  refine g_sub (lv' := [(0, .ref b), (1, .ref a1), (2, .ref a2), (3, .ref a3), (4, .int x4)]) [0, 1, 2, 3, 4] rfl ?_
  refine g_widen (cells' := (337 + 4 * j + 4)) (slots' := (29787 + 24 * j + 24)) (by first | omega | exact Nat.add_le_add_left (Nat.le_of_ble_eq_true rfl) _) (by first | omega | exact Nat.add_le_add_left (Nat.le_of_ble_eq_true rfl) _) ?_
  exact gW_J3518 B hS9 hr hfl hXs hbl hbA hlo j (by omega) rec23 hrec23 a1 a2 a3 x4 M
set_option maxRecDepth 40000 in
set_option maxHeartbeats 8000000 in
theorem gW_J1172 {X : gX} {p : Program} {l : Launch} {e : Env} {s : State} {m : MethodId} {below : List Frame} {meth : Method} {c : Code} {b L : Nat} {xs : Nat → Int32} (B : gB X p room_1 s m #[Value.ref b] meth c RL cL_law_ 7 room_1) (hS9 : gS X s) (hr : meth.sig.returnType = some .boolean) (hfl : l.stackTraces = false) (hXs : va_X b L xs s s.heap) (hbl : b < s.heap.size) (hbA : ¬ gA X b) (hlo : X.1 = s.heap.size) (j : Nat) (hj : j ≤ 512) (rec23 : Nat → Nat → Nat → Int32 → mMem → Option Int32) (hrec23 : ∀ (a1 : Nat) (a2 : Nat) (a3 : Nat) (x4 : Int32) (M : mMem), GG X p l e room_1 s m #[Value.ref b] below meth c (lwPhi below b s) 7 (337 + 4 * (j + 1)) (29787 + 24 * (j + 1)) 23 [(0, .ref b), (1, .ref a1), (2, .ref a2), (3, .ref a3), (4, .int x4)] [] M (rec23 a1 a2 a3 x4 M)) (a1 : Nat) (a2 : Nat) (a3 : Nat) (x4 : Int32) (M : mMem) : GG X p l e room_1 s m #[Value.ref b] below meth c (lwPhi below b s) 7 (337 + 4 * j + 4) (29787 + 24 * j + 24) 1172 [(0, .ref b), (1, .ref a1), (2, .ref a2), (3, .ref a3), (4, .int x4)] [] M (pW_J1172 xs L rec23 a1 a2 a3 x4 M) := by
  unfold pW_J1172
  refine g_goto B 3518 dL_law__1172 (by decide) ?_
  refine g_sub (lv' := [(0, .ref b), (1, .ref a1), (2, .ref a2), (3, .ref a3), (4, .int x4)]) [0, 1, 2, 3, 4] rfl ?_
  exact gW_J3518 B hS9 hr hfl hXs hbl hbA hlo j (by omega) rec23 hrec23 a1 a2 a3 x4 M
set_option maxRecDepth 40000 in
set_option maxHeartbeats 8000000 in
theorem gW_J1228 {X : gX} {p : Program} {l : Launch} {e : Env} {s : State} {m : MethodId} {below : List Frame} {meth : Method} {c : Code} {b L : Nat} {xs : Nat → Int32} (B : gB X p room_1 s m #[Value.ref b] meth c RL cL_law_ 7 room_1) (hS9 : gS X s) (hr : meth.sig.returnType = some .boolean) (hfl : l.stackTraces = false) (hXs : va_X b L xs s s.heap) (hbl : b < s.heap.size) (hbA : ¬ gA X b) (hlo : X.1 = s.heap.size) (j : Nat) (hj : j ≤ 512) (rec23 : Nat → Nat → Nat → Int32 → mMem → Option Int32) (hrec23 : ∀ (a1 : Nat) (a2 : Nat) (a3 : Nat) (x4 : Int32) (M : mMem), GG X p l e room_1 s m #[Value.ref b] below meth c (lwPhi below b s) 7 (337 + 4 * (j + 1)) (29787 + 24 * (j + 1)) 23 [(0, .ref b), (1, .ref a1), (2, .ref a2), (3, .ref a3), (4, .int x4)] [] M (rec23 a1 a2 a3 x4 M)) (a1 : Nat) (a2 : Nat) (a3 : Nat) (x4 : Int32) (M : mMem) : GG X p l e room_1 s m #[Value.ref b] below meth c (lwPhi below b s) 7 (337 + 4 * j + 2) (29787 + 24 * j + 12) 1228 [(0, .ref b), (1, .ref a1), (2, .ref a2), (3, .ref a3), (4, .int x4)] [] M (pW_J1228 xs L rec23 a1 a2 a3 x4 M) := by
  unfold pW_J1228
  refine g_goto B 3518 dL_law__1228 (by decide) ?_
  refine g_sub (lv' := [(0, .ref b), (1, .ref a1), (2, .ref a2), (3, .ref a3), (4, .int x4)]) [0, 1, 2, 3, 4] rfl ?_
  refine g_widen (cells' := (337 + 4 * j + 4)) (slots' := (29787 + 24 * j + 24)) (by first | omega | exact Nat.add_le_add_left (Nat.le_of_ble_eq_true rfl) _) (by first | omega | exact Nat.add_le_add_left (Nat.le_of_ble_eq_true rfl) _) ?_
  exact gW_J3518 B hS9 hr hfl hXs hbl hbA hlo j (by omega) rec23 hrec23 a1 a2 a3 x4 M
set_option maxRecDepth 40000 in
set_option maxHeartbeats 8000000 in
theorem gW_J1331 {X : gX} {p : Program} {l : Launch} {e : Env} {s : State} {m : MethodId} {below : List Frame} {meth : Method} {c : Code} {b L : Nat} {xs : Nat → Int32} (B : gB X p room_1 s m #[Value.ref b] meth c RL cL_law_ 7 room_1) (hS9 : gS X s) (hr : meth.sig.returnType = some .boolean) (hfl : l.stackTraces = false) (hXs : va_X b L xs s s.heap) (hbl : b < s.heap.size) (hbA : ¬ gA X b) (hlo : X.1 = s.heap.size) (j : Nat) (hj : j ≤ 512) (rec23 : Nat → Nat → Nat → Int32 → mMem → Option Int32) (hrec23 : ∀ (a1 : Nat) (a2 : Nat) (a3 : Nat) (x4 : Int32) (M : mMem), GG X p l e room_1 s m #[Value.ref b] below meth c (lwPhi below b s) 7 (337 + 4 * (j + 1)) (29787 + 24 * (j + 1)) 23 [(0, .ref b), (1, .ref a1), (2, .ref a2), (3, .ref a3), (4, .int x4)] [] M (rec23 a1 a2 a3 x4 M)) (a1 : Nat) (a2 : Nat) (a3 : Nat) (x4 : Int32) (M : mMem) : GG X p l e room_1 s m #[Value.ref b] below meth c (lwPhi below b s) 7 (337 + 4 * j + 3) (29787 + 24 * j + 18) 1331 [(0, .ref b), (1, .ref a1), (2, .ref a2), (3, .ref a3), (4, .int x4)] [] M (pW_J1331 xs L rec23 a1 a2 a3 x4 M) := by
  unfold pW_J1331
  refine g_goto B 3518 dL_law__1331 (by decide) ?_
  refine g_sub (lv' := [(0, .ref b), (1, .ref a1), (2, .ref a2), (3, .ref a3), (4, .int x4)]) [0, 1, 2, 3, 4] rfl ?_
  refine g_widen (cells' := (337 + 4 * j + 4)) (slots' := (29787 + 24 * j + 24)) (by first | omega | exact Nat.add_le_add_left (Nat.le_of_ble_eq_true rfl) _) (by first | omega | exact Nat.add_le_add_left (Nat.le_of_ble_eq_true rfl) _) ?_
  exact gW_J3518 B hS9 hr hfl hXs hbl hbA hlo j (by omega) rec23 hrec23 a1 a2 a3 x4 M
set_option maxRecDepth 40000 in
set_option maxHeartbeats 8000000 in
theorem gW_J1325 {X : gX} {p : Program} {l : Launch} {e : Env} {s : State} {m : MethodId} {below : List Frame} {meth : Method} {c : Code} {b L : Nat} {xs : Nat → Int32} (B : gB X p room_1 s m #[Value.ref b] meth c RL cL_law_ 7 room_1) (hS9 : gS X s) (hr : meth.sig.returnType = some .boolean) (hfl : l.stackTraces = false) (hXs : va_X b L xs s s.heap) (hbl : b < s.heap.size) (hbA : ¬ gA X b) (hlo : X.1 = s.heap.size) (j : Nat) (hj : j ≤ 512) (rec23 : Nat → Nat → Nat → Int32 → mMem → Option Int32) (hrec23 : ∀ (a1 : Nat) (a2 : Nat) (a3 : Nat) (x4 : Int32) (M : mMem), GG X p l e room_1 s m #[Value.ref b] below meth c (lwPhi below b s) 7 (337 + 4 * (j + 1)) (29787 + 24 * (j + 1)) 23 [(0, .ref b), (1, .ref a1), (2, .ref a2), (3, .ref a3), (4, .int x4)] [] M (rec23 a1 a2 a3 x4 M)) (a1 : Nat) (a2 : Nat) (a3 : Nat) (x4 : Int32) (w0 : Int64) (w1 : Int64) (M : mMem) : GG X p l e room_1 s m #[Value.ref b] below meth c (lwPhi below b s) 7 (337 + 4 * j + 3) (29787 + 24 * j + 18) 1325 [(0, .ref b), (1, .ref a1), (2, .ref a2), (3, .ref a3), (4, .int x4)] [.long w1, .long w0] M (pW_J1325 xs L rec23 a1 a2 a3 x4 w0 w1 M) := by
  unfold pW_J1325
  refine g_lcmp B dL_law__1325 ?_
  refine g_if_eq B 1331 dL_law__1326 (by decide) ?_ ?_
  · refine g_sub (lv' := [(0, .ref b), (1, .ref a1), (2, .ref a2), (3, .ref a3), (4, .int x4)]) [0, 1, 2, 3, 4] rfl ?_
    exact gW_J1331 B hS9 hr hfl hXs hbl hbA hlo j (by omega) rec23 hrec23 a1 a2 a3 x4 M
  · refine g_iconst (v := 0) B dL_law__1329 (by decide) ?_
    exact g_lawret0 (by decide)
set_option maxRecDepth 40000 in
set_option maxHeartbeats 8000000 in
theorem gW_J1291 {X : gX} {p : Program} {l : Launch} {e : Env} {s : State} {m : MethodId} {below : List Frame} {meth : Method} {c : Code} {b L : Nat} {xs : Nat → Int32} (B : gB X p room_1 s m #[Value.ref b] meth c RL cL_law_ 7 room_1) (hS9 : gS X s) (hr : meth.sig.returnType = some .boolean) (hfl : l.stackTraces = false) (hXs : va_X b L xs s s.heap) (hbl : b < s.heap.size) (hbA : ¬ gA X b) (hlo : X.1 = s.heap.size) (j : Nat) (hj : j ≤ 512) (rec23 : Nat → Nat → Nat → Int32 → mMem → Option Int32) (hrec23 : ∀ (a1 : Nat) (a2 : Nat) (a3 : Nat) (x4 : Int32) (M : mMem), GG X p l e room_1 s m #[Value.ref b] below meth c (lwPhi below b s) 7 (337 + 4 * (j + 1)) (29787 + 24 * (j + 1)) 23 [(0, .ref b), (1, .ref a1), (2, .ref a2), (3, .ref a3), (4, .int x4)] [] M (rec23 a1 a2 a3 x4 M)) (a1 : Nat) (a2 : Nat) (a3 : Nat) (x4 : Int32) (x5 : Int32) (b0 : Nat) (u1 : Int32) (u2 : Int32) (u3 : Int32) (M : mMem) : GG X p l e room_1 s m #[Value.ref b] below meth c (lwPhi below b s) 7 (337 + 4 * j + 3) (29787 + 24 * j + 18) 1291 [(0, .ref b), (1, .ref a1), (2, .ref a2), (3, .ref a3), (4, .int x4), (5, .int x5)] [.int u3, .int u2, .int u1, .ref b0] M (pW_J1291 xs L rec23 a1 a2 a3 x4 x5 b0 u1 u2 u3 M) := by
  unfold pW_J1291
  refine g_callV_iw [.int u1, .int u2, .int u3] (ci := 11) (T0 := TX12) (N := 27) B hS9 mf12_govern wd_2069 (gw B wd_2070) wd_2068 (by decide) rfl (fun h => (gd_ne h).1) (c12_govern X l b0 u1 u2 u3 M) (by decide) (by decide) ⟨by show (337 + 4 * j + 3) + 0 ≤ 601024; omega, by show (29787 + 24 * j + 18) + 0 ≤ 7293034; omega⟩ rfl (by decide) dL_law__1291 rfl (fun q_1 => ?_)
  refine g_istore (lv' := [(6, .int q_1.1), (0, .ref b), (1, .ref a1), (2, .ref a2), (3, .ref a3), (4, .int x4), (5, .int x5)]) B dL_law__1294 (by decide) [0, 1, 2, 3, 4, 5, 6] rfl ?_
  refine g_aload_n B dL_law__1296 3 rfl ?_
  refine g_callV_ip [] (ci := 11) (T0 := TX12) (N := 27) B hS9 mf12_thrown wd_1632 (gw B wd_1633) wd_1631 (by decide) rfl (fun h => (gd_ne h).1) (c12_thrown X l a2 q_1.2) (by decide) (by decide) ⟨by show (337 + 4 * j + 3) + 0 ≤ 601024; omega, by show (29787 + 24 * j + 18) + 0 ≤ 7293034; omega⟩ rfl (by decide) dL_law__1297 rfl (fun v_2 => ?_)
  refine g_iload B dL_law__1300 6 rfl ?_
  refine g_icmp_eq B 1307 dL_law__1302 (by decide) ?_ ?_
  · refine g_iload B dL_law__1307 6 rfl ?_
    refine g_if_ne B 1331 dL_law__1309 (by decide) ?_ ?_
    · refine g_aload_n B dL_law__1312 4 rfl ?_
      refine g_iconst (v := 0) B dL_law__1313 (by decide) ?_
      refine g_laload B dL_law__1314 (fun v_3 => ?_)
      refine g_iload B dL_law__1315 0 rfl ?_
      refine g_if_eq B 1324 dL_law__1317 (by decide) ?_ ?_
      · refine g_lconst (v := 0) B dL_law__1324 (by decide) ?_
        refine g_sub (lv' := [(0, .ref b), (1, .ref a1), (2, .ref a2), (3, .ref a3), (4, .int x4)]) [1, 2, 3, 4, 5] rfl ?_
        exact gW_J1325 B hS9 hr hfl hXs hbl hbA hlo j (by omega) rec23 hrec23 a1 a2 a3 x4 v_3 0 q_1.2
      · refine g_lconst (v := 1) B dL_law__1320 (by decide) ?_
        refine g_goto B 1325 dL_law__1321 (by decide) ?_
        refine g_sub (lv' := [(0, .ref b), (1, .ref a1), (2, .ref a2), (3, .ref a3), (4, .int x4)]) [1, 2, 3, 4, 5] rfl ?_
        exact gW_J1325 B hS9 hr hfl hXs hbl hbA hlo j (by omega) rec23 hrec23 a1 a2 a3 x4 v_3 1 q_1.2
    · refine g_sub (lv' := [(0, .ref b), (1, .ref a1), (2, .ref a2), (3, .ref a3), (4, .int x4)]) [1, 2, 3, 4, 5] rfl ?_
      exact gW_J1331 B hS9 hr hfl hXs hbl hbA hlo j (by omega) rec23 hrec23 a1 a2 a3 x4 q_1.2
  · refine g_iconst (v := 0) B dL_law__1305 (by decide) ?_
    exact g_lawret0 (by decide)
set_option maxRecDepth 40000 in
set_option maxHeartbeats 8000000 in
theorem gW_J1258 {X : gX} {p : Program} {l : Launch} {e : Env} {s : State} {m : MethodId} {below : List Frame} {meth : Method} {c : Code} {b L : Nat} {xs : Nat → Int32} (B : gB X p room_1 s m #[Value.ref b] meth c RL cL_law_ 7 room_1) (hS9 : gS X s) (hr : meth.sig.returnType = some .boolean) (hfl : l.stackTraces = false) (hXs : va_X b L xs s s.heap) (hbl : b < s.heap.size) (hbA : ¬ gA X b) (hlo : X.1 = s.heap.size) (j : Nat) (hj : j ≤ 512) (rec23 : Nat → Nat → Nat → Int32 → mMem → Option Int32) (hrec23 : ∀ (a1 : Nat) (a2 : Nat) (a3 : Nat) (x4 : Int32) (M : mMem), GG X p l e room_1 s m #[Value.ref b] below meth c (lwPhi below b s) 7 (337 + 4 * (j + 1)) (29787 + 24 * (j + 1)) 23 [(0, .ref b), (1, .ref a1), (2, .ref a2), (3, .ref a3), (4, .int x4)] [] M (rec23 a1 a2 a3 x4 M)) (a1 : Nat) (a2 : Nat) (a3 : Nat) (x4 : Int32) (b0 : Nat) (u1 : Int32) (u2 : Int32) (u3 : Int32) (M : mMem) : GG X p l e room_1 s m #[Value.ref b] below meth c (lwPhi below b s) 7 (337 + 4 * j) (29787 + 24 * j) 1258 [(0, .ref b), (1, .ref a1), (2, .ref a2), (3, .ref a3), (4, .int x4)] [.int u3, .int u2, .int u1, .ref b0] M (pW_J1258 xs L rec23 a1 a2 a3 x4 b0 u1 u2 u3 M) := by
  unfold pW_J1258
  refine g_aload_n B dL_law__1258 3 rfl ?_
  refine g_callW [.ref b0, .int u1, .int u2, .int u3, .ref a3] B hS9 mfL_govern wd_1239 wd_1238 (oL_govern X l hfl b0 u1 u2 u3 a3 M) (by decide) (by decide) ⟨by show (337 + 4 * j) + 3 ≤ 601024; omega, by show (29787 + 24 * j) + 18 ≤ 7293034; omega⟩ rfl (Nat.le_of_ble_eq_true rfl) dL_law__1259 rfl (fun q_1 => ?_)
  refine g_istore (lv' := [(5, .int q_1.1), (0, .ref b), (1, .ref a1), (2, .ref a2), (3, .ref a3), (4, .int x4)]) B dL_law__1262 (by decide) [0, 1, 2, 3, 4, 5] rfl ?_
  refine g_aload_n B dL_law__1264 3 rfl ?_
  refine g_aload_n B dL_law__1265 1 rfl ?_
  refine g_iload B dL_law__1266 5 rfl ?_
  refine g_iconst (v := 1) B dL_law__1268 (by decide) ?_
  refine g_iadd B dL_law__1269 ?_
  refine g_sld hXs hbl hbA B dL_law__1270 (fun v_2 => ?_)
  refine g_aload_n B dL_law__1271 1 rfl ?_
  refine g_iload B dL_law__1272 5 rfl ?_
  refine g_iconst (v := 2) B dL_law__1274 (by decide) ?_
  refine g_iadd B dL_law__1275 ?_
  refine g_sld hXs hbl hbA B dL_law__1276 (fun v_3 => ?_)
  refine g_aload_n B dL_law__1277 1 rfl ?_
  refine g_iload B dL_law__1278 5 rfl ?_
  refine g_iconst (v := 3) B dL_law__1280 (by decide) ?_
  refine g_iadd B dL_law__1281 ?_
  refine g_sld hXs hbl hbA B dL_law__1282 (fun v_4 => ?_)
  refine g_if_eq B 1290 dL_law__1283 (by decide) ?_ ?_
  · refine g_iconst (v := 0) B dL_law__1290 (by decide) ?_
    refine g_sub (lv' := [(0, .ref b), (1, .ref a1), (2, .ref a2), (3, .ref a3), (4, .int x4), (5, .int q_1.1)]) [1, 2, 3, 4, 5, 0] rfl ?_
    exact gW_J1291 B hS9 hr hfl hXs hbl hbA hlo j (by omega) rec23 hrec23 a1 a2 a3 x4 q_1.1 a2 v_2 v_3 0 q_1.2
  · refine g_iconst (v := 1) B dL_law__1286 (by decide) ?_
    refine g_goto B 1291 dL_law__1287 (by decide) ?_
    refine g_sub (lv' := [(0, .ref b), (1, .ref a1), (2, .ref a2), (3, .ref a3), (4, .int x4), (5, .int q_1.1)]) [1, 2, 3, 4, 5, 0] rfl ?_
    exact gW_J1291 B hS9 hr hfl hXs hbl hbA hlo j (by omega) rec23 hrec23 a1 a2 a3 x4 q_1.1 a2 v_2 v_3 1 q_1.2
set_option maxRecDepth 40000 in
set_option maxHeartbeats 8000000 in
theorem gW_J1399 {X : gX} {p : Program} {l : Launch} {e : Env} {s : State} {m : MethodId} {below : List Frame} {meth : Method} {c : Code} {b L : Nat} {xs : Nat → Int32} (B : gB X p room_1 s m #[Value.ref b] meth c RL cL_law_ 7 room_1) (hS9 : gS X s) (hr : meth.sig.returnType = some .boolean) (hfl : l.stackTraces = false) (hXs : va_X b L xs s s.heap) (hbl : b < s.heap.size) (hbA : ¬ gA X b) (hlo : X.1 = s.heap.size) (j : Nat) (hj : j ≤ 512) (rec23 : Nat → Nat → Nat → Int32 → mMem → Option Int32) (hrec23 : ∀ (a1 : Nat) (a2 : Nat) (a3 : Nat) (x4 : Int32) (M : mMem), GG X p l e room_1 s m #[Value.ref b] below meth c (lwPhi below b s) 7 (337 + 4 * (j + 1)) (29787 + 24 * (j + 1)) 23 [(0, .ref b), (1, .ref a1), (2, .ref a2), (3, .ref a3), (4, .int x4)] [] M (rec23 a1 a2 a3 x4 M)) (a1 : Nat) (a2 : Nat) (a3 : Nat) (x4 : Int32) (M : mMem) : GG X p l e room_1 s m #[Value.ref b] below meth c (lwPhi below b s) 7 (337 + 4 * j + 2) (29787 + 24 * j + 12) 1399 [(0, .ref b), (1, .ref a1), (2, .ref a2), (3, .ref a3), (4, .int x4)] [] M (pW_J1399 xs L rec23 a1 a2 a3 x4 M) := by
  unfold pW_J1399
  refine g_goto B 3518 dL_law__1399 (by decide) ?_
  refine g_sub (lv' := [(0, .ref b), (1, .ref a1), (2, .ref a2), (3, .ref a3), (4, .int x4)]) [0, 1, 2, 3, 4] rfl ?_
  refine g_widen (cells' := (337 + 4 * j + 4)) (slots' := (29787 + 24 * j + 24)) (by first | omega | exact Nat.add_le_add_left (Nat.le_of_ble_eq_true rfl) _) (by first | omega | exact Nat.add_le_add_left (Nat.le_of_ble_eq_true rfl) _) ?_
  exact gW_J3518 B hS9 hr hfl hXs hbl hbA hlo j (by omega) rec23 hrec23 a1 a2 a3 x4 M
set_option maxRecDepth 40000 in
set_option maxHeartbeats 8000000 in
theorem gW_J1455 {X : gX} {p : Program} {l : Launch} {e : Env} {s : State} {m : MethodId} {below : List Frame} {meth : Method} {c : Code} {b L : Nat} {xs : Nat → Int32} (B : gB X p room_1 s m #[Value.ref b] meth c RL cL_law_ 7 room_1) (hS9 : gS X s) (hr : meth.sig.returnType = some .boolean) (hfl : l.stackTraces = false) (hXs : va_X b L xs s s.heap) (hbl : b < s.heap.size) (hbA : ¬ gA X b) (hlo : X.1 = s.heap.size) (j : Nat) (hj : j ≤ 512) (rec23 : Nat → Nat → Nat → Int32 → mMem → Option Int32) (hrec23 : ∀ (a1 : Nat) (a2 : Nat) (a3 : Nat) (x4 : Int32) (M : mMem), GG X p l e room_1 s m #[Value.ref b] below meth c (lwPhi below b s) 7 (337 + 4 * (j + 1)) (29787 + 24 * (j + 1)) 23 [(0, .ref b), (1, .ref a1), (2, .ref a2), (3, .ref a3), (4, .int x4)] [] M (rec23 a1 a2 a3 x4 M)) (a1 : Nat) (a2 : Nat) (a3 : Nat) (x4 : Int32) (M : mMem) : GG X p l e room_1 s m #[Value.ref b] below meth c (lwPhi below b s) 7 (337 + 4 * j + 1) (29787 + 24 * j + 6) 1455 [(0, .ref b), (1, .ref a1), (2, .ref a2), (3, .ref a3), (4, .int x4)] [] M (pW_J1455 xs L rec23 a1 a2 a3 x4 M) := by
  unfold pW_J1455
  refine g_goto B 3518 dL_law__1455 (by decide) ?_
  refine g_sub (lv' := [(0, .ref b), (1, .ref a1), (2, .ref a2), (3, .ref a3), (4, .int x4)]) [0, 1, 2, 3, 4] rfl ?_
  refine g_widen (cells' := (337 + 4 * j + 4)) (slots' := (29787 + 24 * j + 24)) (by first | omega | exact Nat.add_le_add_left (Nat.le_of_ble_eq_true rfl) _) (by first | omega | exact Nat.add_le_add_left (Nat.le_of_ble_eq_true rfl) _) ?_
  exact gW_J3518 B hS9 hr hfl hXs hbl hbA hlo j (by omega) rec23 hrec23 a1 a2 a3 x4 M
set_option maxRecDepth 40000 in
set_option maxHeartbeats 8000000 in
theorem gW_J1551 {X : gX} {p : Program} {l : Launch} {e : Env} {s : State} {m : MethodId} {below : List Frame} {meth : Method} {c : Code} {b L : Nat} {xs : Nat → Int32} (B : gB X p room_1 s m #[Value.ref b] meth c RL cL_law_ 7 room_1) (hS9 : gS X s) (hr : meth.sig.returnType = some .boolean) (hfl : l.stackTraces = false) (hXs : va_X b L xs s s.heap) (hbl : b < s.heap.size) (hbA : ¬ gA X b) (hlo : X.1 = s.heap.size) (j : Nat) (hj : j ≤ 512) (rec23 : Nat → Nat → Nat → Int32 → mMem → Option Int32) (hrec23 : ∀ (a1 : Nat) (a2 : Nat) (a3 : Nat) (x4 : Int32) (M : mMem), GG X p l e room_1 s m #[Value.ref b] below meth c (lwPhi below b s) 7 (337 + 4 * (j + 1)) (29787 + 24 * (j + 1)) 23 [(0, .ref b), (1, .ref a1), (2, .ref a2), (3, .ref a3), (4, .int x4)] [] M (rec23 a1 a2 a3 x4 M)) (a1 : Nat) (a2 : Nat) (a3 : Nat) (x4 : Int32) (M : mMem) : GG X p l e room_1 s m #[Value.ref b] below meth c (lwPhi below b s) 7 (337 + 4 * j + 3) (29787 + 24 * j + 18) 1551 [(0, .ref b), (1, .ref a1), (2, .ref a2), (3, .ref a3), (4, .int x4)] [] M (pW_J1551 xs L rec23 a1 a2 a3 x4 M) := by
  unfold pW_J1551
  refine g_goto B 3518 dL_law__1551 (by decide) ?_
  refine g_sub (lv' := [(0, .ref b), (1, .ref a1), (2, .ref a2), (3, .ref a3), (4, .int x4)]) [0, 1, 2, 3, 4] rfl ?_
  refine g_widen (cells' := (337 + 4 * j + 4)) (slots' := (29787 + 24 * j + 24)) (by first | omega | exact Nat.add_le_add_left (Nat.le_of_ble_eq_true rfl) _) (by first | omega | exact Nat.add_le_add_left (Nat.le_of_ble_eq_true rfl) _) ?_
  exact gW_J3518 B hS9 hr hfl hXs hbl hbA hlo j (by omega) rec23 hrec23 a1 a2 a3 x4 M
set_option maxRecDepth 40000 in
set_option maxHeartbeats 8000000 in
theorem gW_J1518 {X : gX} {p : Program} {l : Launch} {e : Env} {s : State} {m : MethodId} {below : List Frame} {meth : Method} {c : Code} {b L : Nat} {xs : Nat → Int32} (B : gB X p room_1 s m #[Value.ref b] meth c RL cL_law_ 7 room_1) (hS9 : gS X s) (hr : meth.sig.returnType = some .boolean) (hfl : l.stackTraces = false) (hXs : va_X b L xs s s.heap) (hbl : b < s.heap.size) (hbA : ¬ gA X b) (hlo : X.1 = s.heap.size) (j : Nat) (hj : j ≤ 512) (rec23 : Nat → Nat → Nat → Int32 → mMem → Option Int32) (hrec23 : ∀ (a1 : Nat) (a2 : Nat) (a3 : Nat) (x4 : Int32) (M : mMem), GG X p l e room_1 s m #[Value.ref b] below meth c (lwPhi below b s) 7 (337 + 4 * (j + 1)) (29787 + 24 * (j + 1)) 23 [(0, .ref b), (1, .ref a1), (2, .ref a2), (3, .ref a3), (4, .int x4)] [] M (rec23 a1 a2 a3 x4 M)) (a1 : Nat) (a2 : Nat) (a3 : Nat) (x4 : Int32) (x5 : Int32) (b0 : Nat) (u1 : Int32) (u2 : Int32) (u3 : Int32) (M : mMem) : GG X p l e room_1 s m #[Value.ref b] below meth c (lwPhi below b s) 7 (337 + 4 * j + 3) (29787 + 24 * j + 18) 1518 [(0, .ref b), (1, .ref a1), (2, .ref a2), (3, .ref a3), (4, .int x4), (5, .int x5)] [.int u3, .int u2, .int u1, .ref b0] M (pW_J1518 xs L rec23 a1 a2 a3 x4 x5 b0 u1 u2 u3 M) := by
  unfold pW_J1518
  refine g_callV_iw [.int u1, .int u2, .int u3] (ci := 11) (T0 := TX12) (N := 27) B hS9 mf12_would wd_2009 (gw B wd_2010) wd_2008 (by decide) rfl (fun h => (gd_ne h).1) (c12_would X l b0 u1 u2 u3 M) (by decide) (by decide) ⟨by show (337 + 4 * j + 3) + 0 ≤ 601024; omega, by show (29787 + 24 * j + 18) + 0 ≤ 7293034; omega⟩ rfl (by decide) dL_law__1518 rfl (fun q_1 => ?_)
  refine g_istore (lv' := [(6, .int q_1.1), (0, .ref b), (1, .ref a1), (2, .ref a2), (3, .ref a3), (4, .int x4), (5, .int x5)]) B dL_law__1521 (by decide) [0, 1, 2, 3, 4, 5, 6] rfl ?_
  refine g_aload_n B dL_law__1523 3 rfl ?_
  refine g_callV_ip [] (ci := 11) (T0 := TX12) (N := 27) B hS9 mf12_thrown wd_1632 (gw B wd_1633) wd_1631 (by decide) rfl (fun h => (gd_ne h).1) (c12_thrown X l a2 q_1.2) (by decide) (by decide) ⟨by show (337 + 4 * j + 3) + 0 ≤ 601024; omega, by show (29787 + 24 * j + 18) + 0 ≤ 7293034; omega⟩ rfl (by decide) dL_law__1524 rfl (fun v_2 => ?_)
  refine g_iload B dL_law__1527 6 rfl ?_
  refine g_icmp_eq B 1534 dL_law__1529 (by decide) ?_ ?_
  · refine g_iload B dL_law__1534 6 rfl ?_
    refine g_if_ne B 1551 dL_law__1536 (by decide) ?_ ?_
    · refine g_aload_n B dL_law__1539 4 rfl ?_
      refine g_iconst (v := 0) B dL_law__1540 (by decide) ?_
      refine g_laload B dL_law__1541 (fun v_3 => ?_)
      refine g_iload B dL_law__1542 0 rfl ?_
      refine g_i2l B dL_law__1544 ?_
      refine g_lcmp B dL_law__1545 ?_
      refine g_if_eq B 1551 dL_law__1546 (by decide) ?_ ?_
      · refine g_sub (lv' := [(0, .ref b), (1, .ref a1), (2, .ref a2), (3, .ref a3), (4, .int x4)]) [1, 2, 3, 4, 5] rfl ?_
        exact gW_J1551 B hS9 hr hfl hXs hbl hbA hlo j (by omega) rec23 hrec23 a1 a2 a3 x4 q_1.2
      · refine g_iconst (v := 0) B dL_law__1549 (by decide) ?_
        exact g_lawret0 (by decide)
    · refine g_sub (lv' := [(0, .ref b), (1, .ref a1), (2, .ref a2), (3, .ref a3), (4, .int x4)]) [1, 2, 3, 4, 5] rfl ?_
      exact gW_J1551 B hS9 hr hfl hXs hbl hbA hlo j (by omega) rec23 hrec23 a1 a2 a3 x4 q_1.2
  · refine g_iconst (v := 0) B dL_law__1532 (by decide) ?_
    exact g_lawret0 (by decide)
set_option maxRecDepth 40000 in
set_option maxHeartbeats 8000000 in
theorem gW_J1485 {X : gX} {p : Program} {l : Launch} {e : Env} {s : State} {m : MethodId} {below : List Frame} {meth : Method} {c : Code} {b L : Nat} {xs : Nat → Int32} (B : gB X p room_1 s m #[Value.ref b] meth c RL cL_law_ 7 room_1) (hS9 : gS X s) (hr : meth.sig.returnType = some .boolean) (hfl : l.stackTraces = false) (hXs : va_X b L xs s s.heap) (hbl : b < s.heap.size) (hbA : ¬ gA X b) (hlo : X.1 = s.heap.size) (j : Nat) (hj : j ≤ 512) (rec23 : Nat → Nat → Nat → Int32 → mMem → Option Int32) (hrec23 : ∀ (a1 : Nat) (a2 : Nat) (a3 : Nat) (x4 : Int32) (M : mMem), GG X p l e room_1 s m #[Value.ref b] below meth c (lwPhi below b s) 7 (337 + 4 * (j + 1)) (29787 + 24 * (j + 1)) 23 [(0, .ref b), (1, .ref a1), (2, .ref a2), (3, .ref a3), (4, .int x4)] [] M (rec23 a1 a2 a3 x4 M)) (a1 : Nat) (a2 : Nat) (a3 : Nat) (x4 : Int32) (b0 : Nat) (u1 : Int32) (u2 : Int32) (u3 : Int32) (M : mMem) : GG X p l e room_1 s m #[Value.ref b] below meth c (lwPhi below b s) 7 (337 + 4 * j) (29787 + 24 * j) 1485 [(0, .ref b), (1, .ref a1), (2, .ref a2), (3, .ref a3), (4, .int x4)] [.int u3, .int u2, .int u1, .ref b0] M (pW_J1485 xs L rec23 a1 a2 a3 x4 b0 u1 u2 u3 M) := by
  unfold pW_J1485
  refine g_aload_n B dL_law__1485 3 rfl ?_
  refine g_callW [.ref b0, .int u1, .int u2, .int u3, .ref a3] B hS9 mfL_would wd_1283 wd_1282 (oL_would X l hfl b0 u1 u2 u3 a3 M) (by decide) (by decide) ⟨by show (337 + 4 * j) + 3 ≤ 601024; omega, by show (29787 + 24 * j) + 18 ≤ 7293034; omega⟩ rfl (Nat.le_of_ble_eq_true rfl) dL_law__1486 rfl (fun q_1 => ?_)
  refine g_istore (lv' := [(5, .int q_1.1), (0, .ref b), (1, .ref a1), (2, .ref a2), (3, .ref a3), (4, .int x4)]) B dL_law__1489 (by decide) [0, 1, 2, 3, 4, 5] rfl ?_
  refine g_aload_n B dL_law__1491 3 rfl ?_
  refine g_aload_n B dL_law__1492 1 rfl ?_
  refine g_iload B dL_law__1493 5 rfl ?_
  refine g_iconst (v := 1) B dL_law__1495 (by decide) ?_
  refine g_iadd B dL_law__1496 ?_
  refine g_sld hXs hbl hbA B dL_law__1497 (fun v_2 => ?_)
  refine g_aload_n B dL_law__1498 1 rfl ?_
  refine g_iload B dL_law__1499 5 rfl ?_
  refine g_iconst (v := 2) B dL_law__1501 (by decide) ?_
  refine g_iadd B dL_law__1502 ?_
  refine g_sld hXs hbl hbA B dL_law__1503 (fun v_3 => ?_)
  refine g_aload_n B dL_law__1504 1 rfl ?_
  refine g_iload B dL_law__1505 5 rfl ?_
  refine g_iconst (v := 3) B dL_law__1507 (by decide) ?_
  refine g_iadd B dL_law__1508 ?_
  refine g_sld hXs hbl hbA B dL_law__1509 (fun v_4 => ?_)
  refine g_if_eq B 1517 dL_law__1510 (by decide) ?_ ?_
  · refine g_iconst (v := 0) B dL_law__1517 (by decide) ?_
    refine g_sub (lv' := [(0, .ref b), (1, .ref a1), (2, .ref a2), (3, .ref a3), (4, .int x4), (5, .int q_1.1)]) [1, 2, 3, 4, 5, 0] rfl ?_
    exact gW_J1518 B hS9 hr hfl hXs hbl hbA hlo j (by omega) rec23 hrec23 a1 a2 a3 x4 q_1.1 a2 v_2 v_3 0 q_1.2
  · refine g_iconst (v := 1) B dL_law__1513 (by decide) ?_
    refine g_goto B 1518 dL_law__1514 (by decide) ?_
    refine g_sub (lv' := [(0, .ref b), (1, .ref a1), (2, .ref a2), (3, .ref a3), (4, .int x4), (5, .int q_1.1)]) [1, 2, 3, 4, 5, 0] rfl ?_
    exact gW_J1518 B hS9 hr hfl hXs hbl hbA hlo j (by omega) rec23 hrec23 a1 a2 a3 x4 q_1.1 a2 v_2 v_3 1 q_1.2
set_option maxRecDepth 40000 in
set_option maxHeartbeats 8000000 in
theorem gW_J1619 {X : gX} {p : Program} {l : Launch} {e : Env} {s : State} {m : MethodId} {below : List Frame} {meth : Method} {c : Code} {b L : Nat} {xs : Nat → Int32} (B : gB X p room_1 s m #[Value.ref b] meth c RL cL_law_ 7 room_1) (hS9 : gS X s) (hr : meth.sig.returnType = some .boolean) (hfl : l.stackTraces = false) (hXs : va_X b L xs s s.heap) (hbl : b < s.heap.size) (hbA : ¬ gA X b) (hlo : X.1 = s.heap.size) (j : Nat) (hj : j ≤ 512) (rec23 : Nat → Nat → Nat → Int32 → mMem → Option Int32) (hrec23 : ∀ (a1 : Nat) (a2 : Nat) (a3 : Nat) (x4 : Int32) (M : mMem), GG X p l e room_1 s m #[Value.ref b] below meth c (lwPhi below b s) 7 (337 + 4 * (j + 1)) (29787 + 24 * (j + 1)) 23 [(0, .ref b), (1, .ref a1), (2, .ref a2), (3, .ref a3), (4, .int x4)] [] M (rec23 a1 a2 a3 x4 M)) (a1 : Nat) (a2 : Nat) (a3 : Nat) (x4 : Int32) (M : mMem) : GG X p l e room_1 s m #[Value.ref b] below meth c (lwPhi below b s) 7 (337 + 4 * j + 2) (29787 + 24 * j + 12) 1619 [(0, .ref b), (1, .ref a1), (2, .ref a2), (3, .ref a3), (4, .int x4)] [] M (pW_J1619 xs L rec23 a1 a2 a3 x4 M) := by
  unfold pW_J1619
  refine g_goto B 3518 dL_law__1619 (by decide) ?_
  refine g_sub (lv' := [(0, .ref b), (1, .ref a1), (2, .ref a2), (3, .ref a3), (4, .int x4)]) [0, 1, 2, 3, 4] rfl ?_
  refine g_widen (cells' := (337 + 4 * j + 4)) (slots' := (29787 + 24 * j + 24)) (by first | omega | exact Nat.add_le_add_left (Nat.le_of_ble_eq_true rfl) _) (by first | omega | exact Nat.add_le_add_left (Nat.le_of_ble_eq_true rfl) _) ?_
  exact gW_J3518 B hS9 hr hfl hXs hbl hbA hlo j (by omega) rec23 hrec23 a1 a2 a3 x4 M
set_option maxRecDepth 40000 in
set_option maxHeartbeats 8000000 in
theorem gW_J1687 {X : gX} {p : Program} {l : Launch} {e : Env} {s : State} {m : MethodId} {below : List Frame} {meth : Method} {c : Code} {b L : Nat} {xs : Nat → Int32} (B : gB X p room_1 s m #[Value.ref b] meth c RL cL_law_ 7 room_1) (hS9 : gS X s) (hr : meth.sig.returnType = some .boolean) (hfl : l.stackTraces = false) (hXs : va_X b L xs s s.heap) (hbl : b < s.heap.size) (hbA : ¬ gA X b) (hlo : X.1 = s.heap.size) (j : Nat) (hj : j ≤ 512) (rec23 : Nat → Nat → Nat → Int32 → mMem → Option Int32) (hrec23 : ∀ (a1 : Nat) (a2 : Nat) (a3 : Nat) (x4 : Int32) (M : mMem), GG X p l e room_1 s m #[Value.ref b] below meth c (lwPhi below b s) 7 (337 + 4 * (j + 1)) (29787 + 24 * (j + 1)) 23 [(0, .ref b), (1, .ref a1), (2, .ref a2), (3, .ref a3), (4, .int x4)] [] M (rec23 a1 a2 a3 x4 M)) (a1 : Nat) (a2 : Nat) (a3 : Nat) (x4 : Int32) (M : mMem) : GG X p l e room_1 s m #[Value.ref b] below meth c (lwPhi below b s) 7 (337 + 4 * j + 2) (29787 + 24 * j + 12) 1687 [(0, .ref b), (1, .ref a1), (2, .ref a2), (3, .ref a3), (4, .int x4)] [] M (pW_J1687 xs L rec23 a1 a2 a3 x4 M) := by
  unfold pW_J1687
  refine g_goto B 3518 dL_law__1687 (by decide) ?_
  refine g_sub (lv' := [(0, .ref b), (1, .ref a1), (2, .ref a2), (3, .ref a3), (4, .int x4)]) [0, 1, 2, 3, 4] rfl ?_
  refine g_widen (cells' := (337 + 4 * j + 4)) (slots' := (29787 + 24 * j + 24)) (by first | omega | exact Nat.add_le_add_left (Nat.le_of_ble_eq_true rfl) _) (by first | omega | exact Nat.add_le_add_left (Nat.le_of_ble_eq_true rfl) _) ?_
  exact gW_J3518 B hS9 hr hfl hXs hbl hbA hlo j (by omega) rec23 hrec23 a1 a2 a3 x4 M
set_option maxRecDepth 40000 in
set_option maxHeartbeats 8000000 in
theorem gW_J1755 {X : gX} {p : Program} {l : Launch} {e : Env} {s : State} {m : MethodId} {below : List Frame} {meth : Method} {c : Code} {b L : Nat} {xs : Nat → Int32} (B : gB X p room_1 s m #[Value.ref b] meth c RL cL_law_ 7 room_1) (hS9 : gS X s) (hr : meth.sig.returnType = some .boolean) (hfl : l.stackTraces = false) (hXs : va_X b L xs s s.heap) (hbl : b < s.heap.size) (hbA : ¬ gA X b) (hlo : X.1 = s.heap.size) (j : Nat) (hj : j ≤ 512) (rec23 : Nat → Nat → Nat → Int32 → mMem → Option Int32) (hrec23 : ∀ (a1 : Nat) (a2 : Nat) (a3 : Nat) (x4 : Int32) (M : mMem), GG X p l e room_1 s m #[Value.ref b] below meth c (lwPhi below b s) 7 (337 + 4 * (j + 1)) (29787 + 24 * (j + 1)) 23 [(0, .ref b), (1, .ref a1), (2, .ref a2), (3, .ref a3), (4, .int x4)] [] M (rec23 a1 a2 a3 x4 M)) (a1 : Nat) (a2 : Nat) (a3 : Nat) (x4 : Int32) (M : mMem) : GG X p l e room_1 s m #[Value.ref b] below meth c (lwPhi below b s) 7 (337 + 4 * j + 2) (29787 + 24 * j + 12) 1755 [(0, .ref b), (1, .ref a1), (2, .ref a2), (3, .ref a3), (4, .int x4)] [] M (pW_J1755 xs L rec23 a1 a2 a3 x4 M) := by
  unfold pW_J1755
  refine g_goto B 3518 dL_law__1755 (by decide) ?_
  refine g_sub (lv' := [(0, .ref b), (1, .ref a1), (2, .ref a2), (3, .ref a3), (4, .int x4)]) [0, 1, 2, 3, 4] rfl ?_
  refine g_widen (cells' := (337 + 4 * j + 4)) (slots' := (29787 + 24 * j + 24)) (by first | omega | exact Nat.add_le_add_left (Nat.le_of_ble_eq_true rfl) _) (by first | omega | exact Nat.add_le_add_left (Nat.le_of_ble_eq_true rfl) _) ?_
  exact gW_J3518 B hS9 hr hfl hXs hbl hbA hlo j (by omega) rec23 hrec23 a1 a2 a3 x4 M
set_option maxRecDepth 40000 in
set_option maxHeartbeats 8000000 in
theorem gW_J1811 {X : gX} {p : Program} {l : Launch} {e : Env} {s : State} {m : MethodId} {below : List Frame} {meth : Method} {c : Code} {b L : Nat} {xs : Nat → Int32} (B : gB X p room_1 s m #[Value.ref b] meth c RL cL_law_ 7 room_1) (hS9 : gS X s) (hr : meth.sig.returnType = some .boolean) (hfl : l.stackTraces = false) (hXs : va_X b L xs s s.heap) (hbl : b < s.heap.size) (hbA : ¬ gA X b) (hlo : X.1 = s.heap.size) (j : Nat) (hj : j ≤ 512) (rec23 : Nat → Nat → Nat → Int32 → mMem → Option Int32) (hrec23 : ∀ (a1 : Nat) (a2 : Nat) (a3 : Nat) (x4 : Int32) (M : mMem), GG X p l e room_1 s m #[Value.ref b] below meth c (lwPhi below b s) 7 (337 + 4 * (j + 1)) (29787 + 24 * (j + 1)) 23 [(0, .ref b), (1, .ref a1), (2, .ref a2), (3, .ref a3), (4, .int x4)] [] M (rec23 a1 a2 a3 x4 M)) (a1 : Nat) (a2 : Nat) (a3 : Nat) (x4 : Int32) (M : mMem) : GG X p l e room_1 s m #[Value.ref b] below meth c (lwPhi below b s) 7 (337 + 4 * j + 1) (29787 + 24 * j + 6) 1811 [(0, .ref b), (1, .ref a1), (2, .ref a2), (3, .ref a3), (4, .int x4)] [] M (pW_J1811 xs L rec23 a1 a2 a3 x4 M) := by
  unfold pW_J1811
  refine g_goto B 3518 dL_law__1811 (by decide) ?_
  refine g_sub (lv' := [(0, .ref b), (1, .ref a1), (2, .ref a2), (3, .ref a3), (4, .int x4)]) [0, 1, 2, 3, 4] rfl ?_
  refine g_widen (cells' := (337 + 4 * j + 4)) (slots' := (29787 + 24 * j + 24)) (by first | omega | exact Nat.add_le_add_left (Nat.le_of_ble_eq_true rfl) _) (by first | omega | exact Nat.add_le_add_left (Nat.le_of_ble_eq_true rfl) _) ?_
  exact gW_J3518 B hS9 hr hfl hXs hbl hbA hlo j (by omega) rec23 hrec23 a1 a2 a3 x4 M
set_option maxRecDepth 40000 in
set_option maxHeartbeats 8000000 in
theorem gW_J1867 {X : gX} {p : Program} {l : Launch} {e : Env} {s : State} {m : MethodId} {below : List Frame} {meth : Method} {c : Code} {b L : Nat} {xs : Nat → Int32} (B : gB X p room_1 s m #[Value.ref b] meth c RL cL_law_ 7 room_1) (hS9 : gS X s) (hr : meth.sig.returnType = some .boolean) (hfl : l.stackTraces = false) (hXs : va_X b L xs s s.heap) (hbl : b < s.heap.size) (hbA : ¬ gA X b) (hlo : X.1 = s.heap.size) (j : Nat) (hj : j ≤ 512) (rec23 : Nat → Nat → Nat → Int32 → mMem → Option Int32) (hrec23 : ∀ (a1 : Nat) (a2 : Nat) (a3 : Nat) (x4 : Int32) (M : mMem), GG X p l e room_1 s m #[Value.ref b] below meth c (lwPhi below b s) 7 (337 + 4 * (j + 1)) (29787 + 24 * (j + 1)) 23 [(0, .ref b), (1, .ref a1), (2, .ref a2), (3, .ref a3), (4, .int x4)] [] M (rec23 a1 a2 a3 x4 M)) (a1 : Nat) (a2 : Nat) (a3 : Nat) (x4 : Int32) (M : mMem) : GG X p l e room_1 s m #[Value.ref b] below meth c (lwPhi below b s) 7 (337 + 4 * j + 1) (29787 + 24 * j + 6) 1867 [(0, .ref b), (1, .ref a1), (2, .ref a2), (3, .ref a3), (4, .int x4)] [] M (pW_J1867 xs L rec23 a1 a2 a3 x4 M) := by
  unfold pW_J1867
  refine g_goto B 3518 dL_law__1867 (by decide) ?_
  refine g_sub (lv' := [(0, .ref b), (1, .ref a1), (2, .ref a2), (3, .ref a3), (4, .int x4)]) [0, 1, 2, 3, 4] rfl ?_
  refine g_widen (cells' := (337 + 4 * j + 4)) (slots' := (29787 + 24 * j + 24)) (by first | omega | exact Nat.add_le_add_left (Nat.le_of_ble_eq_true rfl) _) (by first | omega | exact Nat.add_le_add_left (Nat.le_of_ble_eq_true rfl) _) ?_
  exact gW_J3518 B hS9 hr hfl hXs hbl hbA hlo j (by omega) rec23 hrec23 a1 a2 a3 x4 M
set_option maxRecDepth 40000 in
set_option maxHeartbeats 8000000 in
theorem gW_J1931 {X : gX} {p : Program} {l : Launch} {e : Env} {s : State} {m : MethodId} {below : List Frame} {meth : Method} {c : Code} {b L : Nat} {xs : Nat → Int32} (B : gB X p room_1 s m #[Value.ref b] meth c RL cL_law_ 7 room_1) (hS9 : gS X s) (hr : meth.sig.returnType = some .boolean) (hfl : l.stackTraces = false) (hXs : va_X b L xs s s.heap) (hbl : b < s.heap.size) (hbA : ¬ gA X b) (hlo : X.1 = s.heap.size) (j : Nat) (hj : j ≤ 512) (rec23 : Nat → Nat → Nat → Int32 → mMem → Option Int32) (hrec23 : ∀ (a1 : Nat) (a2 : Nat) (a3 : Nat) (x4 : Int32) (M : mMem), GG X p l e room_1 s m #[Value.ref b] below meth c (lwPhi below b s) 7 (337 + 4 * (j + 1)) (29787 + 24 * (j + 1)) 23 [(0, .ref b), (1, .ref a1), (2, .ref a2), (3, .ref a3), (4, .int x4)] [] M (rec23 a1 a2 a3 x4 M)) (a1 : Nat) (a2 : Nat) (a3 : Nat) (x4 : Int32) (u0 : Int32) (b1 : Nat) (u2 : Int32) (u3 : Int32) (M : mMem) : GG X p l e room_1 s m #[Value.ref b] below meth c (lwPhi below b s) 7 (337 + 4 * j) (29787 + 24 * j) 1931 [(0, .ref b), (1, .ref a1), (2, .ref a2), (3, .ref a3), (4, .int x4)] [.int u3, .int u2, .ref b1, .int u0] M (pW_J1931 xs L rec23 a1 a2 a3 x4 u0 b1 u2 u3 M) := by
  unfold pW_J1931
  refine g_callV_iw [.int u2, .int u3] (ci := 11) (T0 := TX12) (N := 27) B hS9 mf12_cradle wd_2102 (gw B wd_2103) wd_2101 (by decide) rfl (fun h => (gd_ne h).1) (c12_cradle X l b1 u2 u3 M) (by decide) (by decide) ⟨by show (337 + 4 * j) + 0 ≤ 601024; omega, by show (29787 + 24 * j) + 0 ≤ 7293034; omega⟩ rfl (Nat.le_of_ble_eq_true rfl) dL_law__1931 rfl (fun q_1 => ?_)
  refine g_icmp_eq B 3518 dL_law__1934 (by decide) ?_ ?_
  · refine g_sub (lv' := [(0, .ref b), (1, .ref a1), (2, .ref a2), (3, .ref a3), (4, .int x4)]) [0, 1, 2, 3, 4] rfl ?_
    refine g_widen (cells' := (337 + 4 * j + 4)) (slots' := (29787 + 24 * j + 24)) (by first | omega | exact Nat.add_le_add_left (Nat.le_of_ble_eq_true rfl) _) (by first | omega | exact Nat.add_le_add_left (Nat.le_of_ble_eq_true rfl) _) ?_
    exact gW_J3518 B hS9 hr hfl hXs hbl hbA hlo j (by omega) rec23 hrec23 a1 a2 a3 x4 q_1.2
  · refine g_iconst (v := 0) B dL_law__1937 (by decide) ?_
    exact g_lawret0 (by decide)
set_option maxRecDepth 40000 in
set_option maxHeartbeats 8000000 in
theorem gW_J1917 {X : gX} {p : Program} {l : Launch} {e : Env} {s : State} {m : MethodId} {below : List Frame} {meth : Method} {c : Code} {b L : Nat} {xs : Nat → Int32} (B : gB X p room_1 s m #[Value.ref b] meth c RL cL_law_ 7 room_1) (hS9 : gS X s) (hr : meth.sig.returnType = some .boolean) (hfl : l.stackTraces = false) (hXs : va_X b L xs s s.heap) (hbl : b < s.heap.size) (hbA : ¬ gA X b) (hlo : X.1 = s.heap.size) (j : Nat) (hj : j ≤ 512) (rec23 : Nat → Nat → Nat → Int32 → mMem → Option Int32) (hrec23 : ∀ (a1 : Nat) (a2 : Nat) (a3 : Nat) (x4 : Int32) (M : mMem), GG X p l e room_1 s m #[Value.ref b] below meth c (lwPhi below b s) 7 (337 + 4 * (j + 1)) (29787 + 24 * (j + 1)) 23 [(0, .ref b), (1, .ref a1), (2, .ref a2), (3, .ref a3), (4, .int x4)] [] M (rec23 a1 a2 a3 x4 M)) (a1 : Nat) (a2 : Nat) (a3 : Nat) (x4 : Int32) (u0 : Int32) (b1 : Nat) (u2 : Int32) (M : mMem) : GG X p l e room_1 s m #[Value.ref b] below meth c (lwPhi below b s) 7 (337 + 4 * j) (29787 + 24 * j) 1917 [(0, .ref b), (1, .ref a1), (2, .ref a2), (3, .ref a3), (4, .int x4)] [.int u2, .ref b1, .int u0] M (pW_J1917 xs L rec23 a1 a2 a3 x4 u0 b1 u2 M) := by
  unfold pW_J1917
  refine g_aload_n B dL_law__1917 0 rfl ?_
  refine g_iload B dL_law__1918 4 rfl ?_
  refine g_iconst (v := 2) B dL_law__1920 (by decide) ?_
  refine g_iadd B dL_law__1921 ?_
  refine g_sld hXs hbl hbA B dL_law__1922 (fun v_1 => ?_)
  refine g_if_eq B 1930 dL_law__1923 (by decide) ?_ ?_
  · refine g_iconst (v := 0) B dL_law__1930 (by decide) ?_
    refine g_sub (lv' := [(0, .ref b), (1, .ref a1), (2, .ref a2), (3, .ref a3), (4, .int x4)]) [0, 1, 2, 3, 4] rfl ?_
    exact gW_J1931 B hS9 hr hfl hXs hbl hbA hlo j (by omega) rec23 hrec23 a1 a2 a3 x4 u0 b1 u2 0 M
  · refine g_iconst (v := 1) B dL_law__1926 (by decide) ?_
    refine g_goto B 1931 dL_law__1927 (by decide) ?_
    refine g_sub (lv' := [(0, .ref b), (1, .ref a1), (2, .ref a2), (3, .ref a3), (4, .int x4)]) [0, 1, 2, 3, 4] rfl ?_
    exact gW_J1931 B hS9 hr hfl hXs hbl hbA hlo j (by omega) rec23 hrec23 a1 a2 a3 x4 u0 b1 u2 1 M
set_option maxRecDepth 40000 in
set_option maxHeartbeats 8000000 in
theorem gW_J1899 {X : gX} {p : Program} {l : Launch} {e : Env} {s : State} {m : MethodId} {below : List Frame} {meth : Method} {c : Code} {b L : Nat} {xs : Nat → Int32} (B : gB X p room_1 s m #[Value.ref b] meth c RL cL_law_ 7 room_1) (hS9 : gS X s) (hr : meth.sig.returnType = some .boolean) (hfl : l.stackTraces = false) (hXs : va_X b L xs s s.heap) (hbl : b < s.heap.size) (hbA : ¬ gA X b) (hlo : X.1 = s.heap.size) (j : Nat) (hj : j ≤ 512) (rec23 : Nat → Nat → Nat → Int32 → mMem → Option Int32) (hrec23 : ∀ (a1 : Nat) (a2 : Nat) (a3 : Nat) (x4 : Int32) (M : mMem), GG X p l e room_1 s m #[Value.ref b] below meth c (lwPhi below b s) 7 (337 + 4 * (j + 1)) (29787 + 24 * (j + 1)) 23 [(0, .ref b), (1, .ref a1), (2, .ref a2), (3, .ref a3), (4, .int x4)] [] M (rec23 a1 a2 a3 x4 M)) (a1 : Nat) (a2 : Nat) (a3 : Nat) (x4 : Int32) (b0 : Nat) (u1 : Int32) (u2 : Int32) (M : mMem) : GG X p l e room_1 s m #[Value.ref b] below meth c (lwPhi below b s) 7 (337 + 4 * j) (29787 + 24 * j) 1899 [(0, .ref b), (1, .ref a1), (2, .ref a2), (3, .ref a3), (4, .int x4)] [.int u2, .int u1, .ref b0] M (pW_J1899 xs L rec23 a1 a2 a3 x4 b0 u1 u2 M) := by
  unfold pW_J1899
  refine g_callV_iw [.int u1, .int u2] (ci := 10) (T0 := TX11) (N := 18) B hS9 mf11_cradle wd_454 (gw B wd_455) wd_453 (by decide) rfl (fun h => (gd_ne h).1) (c11_cradle X l b0 u1 u2 M) (by decide) (by decide) ⟨by show (337 + 4 * j) + 0 ≤ 601024; omega, by show (29787 + 24 * j) + 0 ≤ 7293034; omega⟩ rfl (by decide) dL_law__1899 rfl (fun q_1 => ?_)
  refine g_aload_n B dL_law__1902 2 rfl ?_
  refine g_aload_n B dL_law__1903 0 rfl ?_
  refine g_iload B dL_law__1904 4 rfl ?_
  refine g_iconst (v := 1) B dL_law__1906 (by decide) ?_
  refine g_iadd B dL_law__1907 ?_
  refine g_sld hXs hbl hbA B dL_law__1908 (fun v_2 => ?_)
  refine g_if_eq B 1916 dL_law__1909 (by decide) ?_ ?_
  · refine g_iconst (v := 0) B dL_law__1916 (by decide) ?_
    refine g_sub (lv' := [(0, .ref b), (1, .ref a1), (2, .ref a2), (3, .ref a3), (4, .int x4)]) [0, 1, 2, 3, 4] rfl ?_
    exact gW_J1917 B hS9 hr hfl hXs hbl hbA hlo j (by omega) rec23 hrec23 a1 a2 a3 x4 q_1.1 a2 0 q_1.2
  · refine g_iconst (v := 1) B dL_law__1912 (by decide) ?_
    refine g_goto B 1917 dL_law__1913 (by decide) ?_
    refine g_sub (lv' := [(0, .ref b), (1, .ref a1), (2, .ref a2), (3, .ref a3), (4, .int x4)]) [0, 1, 2, 3, 4] rfl ?_
    exact gW_J1917 B hS9 hr hfl hXs hbl hbA hlo j (by omega) rec23 hrec23 a1 a2 a3 x4 q_1.1 a2 1 q_1.2
set_option maxRecDepth 40000 in
set_option maxHeartbeats 8000000 in
theorem gW_J1885 {X : gX} {p : Program} {l : Launch} {e : Env} {s : State} {m : MethodId} {below : List Frame} {meth : Method} {c : Code} {b L : Nat} {xs : Nat → Int32} (B : gB X p room_1 s m #[Value.ref b] meth c RL cL_law_ 7 room_1) (hS9 : gS X s) (hr : meth.sig.returnType = some .boolean) (hfl : l.stackTraces = false) (hXs : va_X b L xs s s.heap) (hbl : b < s.heap.size) (hbA : ¬ gA X b) (hlo : X.1 = s.heap.size) (j : Nat) (hj : j ≤ 512) (rec23 : Nat → Nat → Nat → Int32 → mMem → Option Int32) (hrec23 : ∀ (a1 : Nat) (a2 : Nat) (a3 : Nat) (x4 : Int32) (M : mMem), GG X p l e room_1 s m #[Value.ref b] below meth c (lwPhi below b s) 7 (337 + 4 * (j + 1)) (29787 + 24 * (j + 1)) 23 [(0, .ref b), (1, .ref a1), (2, .ref a2), (3, .ref a3), (4, .int x4)] [] M (rec23 a1 a2 a3 x4 M)) (a1 : Nat) (a2 : Nat) (a3 : Nat) (x4 : Int32) (b0 : Nat) (u1 : Int32) (M : mMem) : GG X p l e room_1 s m #[Value.ref b] below meth c (lwPhi below b s) 7 (337 + 4 * j) (29787 + 24 * j) 1885 [(0, .ref b), (1, .ref a1), (2, .ref a2), (3, .ref a3), (4, .int x4)] [.int u1, .ref b0] M (pW_J1885 xs L rec23 a1 a2 a3 x4 b0 u1 M) := by
  unfold pW_J1885
  refine g_aload_n B dL_law__1885 0 rfl ?_
  refine g_iload B dL_law__1886 4 rfl ?_
  refine g_iconst (v := 2) B dL_law__1888 (by decide) ?_
  refine g_iadd B dL_law__1889 ?_
  refine g_sld hXs hbl hbA B dL_law__1890 (fun v_1 => ?_)
  refine g_if_eq B 1898 dL_law__1891 (by decide) ?_ ?_
  · refine g_iconst (v := 0) B dL_law__1898 (by decide) ?_
    refine g_sub (lv' := [(0, .ref b), (1, .ref a1), (2, .ref a2), (3, .ref a3), (4, .int x4)]) [0, 1, 2, 3, 4] rfl ?_
    exact gW_J1899 B hS9 hr hfl hXs hbl hbA hlo j (by omega) rec23 hrec23 a1 a2 a3 x4 b0 u1 0 M
  · refine g_iconst (v := 1) B dL_law__1894 (by decide) ?_
    refine g_goto B 1899 dL_law__1895 (by decide) ?_
    refine g_sub (lv' := [(0, .ref b), (1, .ref a1), (2, .ref a2), (3, .ref a3), (4, .int x4)]) [0, 1, 2, 3, 4] rfl ?_
    exact gW_J1899 B hS9 hr hfl hXs hbl hbA hlo j (by omega) rec23 hrec23 a1 a2 a3 x4 b0 u1 1 M
set_option maxRecDepth 40000 in
set_option maxHeartbeats 8000000 in
theorem gW_J1972 {X : gX} {p : Program} {l : Launch} {e : Env} {s : State} {m : MethodId} {below : List Frame} {meth : Method} {c : Code} {b L : Nat} {xs : Nat → Int32} (B : gB X p room_1 s m #[Value.ref b] meth c RL cL_law_ 7 room_1) (hS9 : gS X s) (hr : meth.sig.returnType = some .boolean) (hfl : l.stackTraces = false) (hXs : va_X b L xs s s.heap) (hbl : b < s.heap.size) (hbA : ¬ gA X b) (hlo : X.1 = s.heap.size) (j : Nat) (hj : j ≤ 512) (rec23 : Nat → Nat → Nat → Int32 → mMem → Option Int32) (hrec23 : ∀ (a1 : Nat) (a2 : Nat) (a3 : Nat) (x4 : Int32) (M : mMem), GG X p l e room_1 s m #[Value.ref b] below meth c (lwPhi below b s) 7 (337 + 4 * (j + 1)) (29787 + 24 * (j + 1)) 23 [(0, .ref b), (1, .ref a1), (2, .ref a2), (3, .ref a3), (4, .int x4)] [] M (rec23 a1 a2 a3 x4 M)) (a1 : Nat) (a2 : Nat) (a3 : Nat) (x4 : Int32) (u0 : Int32) (b1 : Nat) (u2 : Int32) (M : mMem) : GG X p l e room_1 s m #[Value.ref b] below meth c (lwPhi below b s) 7 (337 + 4 * j) (29787 + 24 * j) 1972 [(0, .ref b), (1, .ref a1), (2, .ref a2), (3, .ref a3), (4, .int x4)] [.int u2, .ref b1, .int u0] M (pW_J1972 xs L rec23 a1 a2 a3 x4 u0 b1 u2 M) := by
  unfold pW_J1972
  refine g_callV_iw [.int u2] (ci := 11) (T0 := TX12) (N := 27) B hS9 mf12_again wd_2114 (gw B wd_2115) wd_2113 (by decide) rfl (fun h => (gd_ne h).1) (c12_again X l b1 u2 M) (by decide) (by decide) ⟨by show (337 + 4 * j) + 0 ≤ 601024; omega, by show (29787 + 24 * j) + 0 ≤ 7293034; omega⟩ rfl (Nat.le_of_ble_eq_true rfl) dL_law__1972 rfl (fun q_1 => ?_)
  refine g_icmp_eq B 3518 dL_law__1975 (by decide) ?_ ?_
  · refine g_sub (lv' := [(0, .ref b), (1, .ref a1), (2, .ref a2), (3, .ref a3), (4, .int x4)]) [0, 1, 2, 3, 4] rfl ?_
    refine g_widen (cells' := (337 + 4 * j + 4)) (slots' := (29787 + 24 * j + 24)) (by first | omega | exact Nat.add_le_add_left (Nat.le_of_ble_eq_true rfl) _) (by first | omega | exact Nat.add_le_add_left (Nat.le_of_ble_eq_true rfl) _) ?_
    exact gW_J3518 B hS9 hr hfl hXs hbl hbA hlo j (by omega) rec23 hrec23 a1 a2 a3 x4 q_1.2
  · refine g_iconst (v := 0) B dL_law__1978 (by decide) ?_
    exact g_lawret0 (by decide)
set_option maxRecDepth 40000 in
set_option maxHeartbeats 8000000 in
theorem gW_J1954 {X : gX} {p : Program} {l : Launch} {e : Env} {s : State} {m : MethodId} {below : List Frame} {meth : Method} {c : Code} {b L : Nat} {xs : Nat → Int32} (B : gB X p room_1 s m #[Value.ref b] meth c RL cL_law_ 7 room_1) (hS9 : gS X s) (hr : meth.sig.returnType = some .boolean) (hfl : l.stackTraces = false) (hXs : va_X b L xs s s.heap) (hbl : b < s.heap.size) (hbA : ¬ gA X b) (hlo : X.1 = s.heap.size) (j : Nat) (hj : j ≤ 512) (rec23 : Nat → Nat → Nat → Int32 → mMem → Option Int32) (hrec23 : ∀ (a1 : Nat) (a2 : Nat) (a3 : Nat) (x4 : Int32) (M : mMem), GG X p l e room_1 s m #[Value.ref b] below meth c (lwPhi below b s) 7 (337 + 4 * (j + 1)) (29787 + 24 * (j + 1)) 23 [(0, .ref b), (1, .ref a1), (2, .ref a2), (3, .ref a3), (4, .int x4)] [] M (rec23 a1 a2 a3 x4 M)) (a1 : Nat) (a2 : Nat) (a3 : Nat) (x4 : Int32) (b0 : Nat) (u1 : Int32) (M : mMem) : GG X p l e room_1 s m #[Value.ref b] below meth c (lwPhi below b s) 7 (337 + 4 * j) (29787 + 24 * j) 1954 [(0, .ref b), (1, .ref a1), (2, .ref a2), (3, .ref a3), (4, .int x4)] [.int u1, .ref b0] M (pW_J1954 xs L rec23 a1 a2 a3 x4 b0 u1 M) := by
  unfold pW_J1954
  refine g_callV_iw [.int u1] (ci := 10) (T0 := TX11) (N := 18) B hS9 mf11_again wd_554 (gw B wd_555) wd_553 (by decide) rfl (fun h => (gd_ne h).1) (c11_again X l b0 u1 M) (by decide) (by decide) ⟨by show (337 + 4 * j) + 0 ≤ 601024; omega, by show (29787 + 24 * j) + 0 ≤ 7293034; omega⟩ rfl (by decide) dL_law__1954 rfl (fun q_1 => ?_)
  refine g_aload_n B dL_law__1957 2 rfl ?_
  refine g_aload_n B dL_law__1958 0 rfl ?_
  refine g_iload B dL_law__1959 4 rfl ?_
  refine g_iconst (v := 1) B dL_law__1961 (by decide) ?_
  refine g_iadd B dL_law__1962 ?_
  refine g_sld hXs hbl hbA B dL_law__1963 (fun v_2 => ?_)
  refine g_if_eq B 1971 dL_law__1964 (by decide) ?_ ?_
  · refine g_iconst (v := 0) B dL_law__1971 (by decide) ?_
    refine g_sub (lv' := [(0, .ref b), (1, .ref a1), (2, .ref a2), (3, .ref a3), (4, .int x4)]) [0, 1, 2, 3, 4] rfl ?_
    exact gW_J1972 B hS9 hr hfl hXs hbl hbA hlo j (by omega) rec23 hrec23 a1 a2 a3 x4 q_1.1 a2 0 q_1.2
  · refine g_iconst (v := 1) B dL_law__1967 (by decide) ?_
    refine g_goto B 1972 dL_law__1968 (by decide) ?_
    refine g_sub (lv' := [(0, .ref b), (1, .ref a1), (2, .ref a2), (3, .ref a3), (4, .int x4)]) [0, 1, 2, 3, 4] rfl ?_
    exact gW_J1972 B hS9 hr hfl hXs hbl hbA hlo j (by omega) rec23 hrec23 a1 a2 a3 x4 q_1.1 a2 1 q_1.2
set_option maxRecDepth 40000 in
set_option maxHeartbeats 8000000 in
theorem gW_J2033 {X : gX} {p : Program} {l : Launch} {e : Env} {s : State} {m : MethodId} {below : List Frame} {meth : Method} {c : Code} {b L : Nat} {xs : Nat → Int32} (B : gB X p room_1 s m #[Value.ref b] meth c RL cL_law_ 7 room_1) (hS9 : gS X s) (hr : meth.sig.returnType = some .boolean) (hfl : l.stackTraces = false) (hXs : va_X b L xs s s.heap) (hbl : b < s.heap.size) (hbA : ¬ gA X b) (hlo : X.1 = s.heap.size) (j : Nat) (hj : j ≤ 512) (rec23 : Nat → Nat → Nat → Int32 → mMem → Option Int32) (hrec23 : ∀ (a1 : Nat) (a2 : Nat) (a3 : Nat) (x4 : Int32) (M : mMem), GG X p l e room_1 s m #[Value.ref b] below meth c (lwPhi below b s) 7 (337 + 4 * (j + 1)) (29787 + 24 * (j + 1)) 23 [(0, .ref b), (1, .ref a1), (2, .ref a2), (3, .ref a3), (4, .int x4)] [] M (rec23 a1 a2 a3 x4 M)) (a1 : Nat) (a2 : Nat) (a3 : Nat) (x4 : Int32) (M : mMem) : GG X p l e room_1 s m #[Value.ref b] below meth c (lwPhi below b s) 7 (337 + 4 * j + 1) (29787 + 24 * j + 6) 2033 [(0, .ref b), (1, .ref a1), (2, .ref a2), (3, .ref a3), (4, .int x4)] [] M (pW_J2033 xs L rec23 a1 a2 a3 x4 M) := by
  unfold pW_J2033
  refine g_goto B 3518 dL_law__2033 (by decide) ?_
  refine g_sub (lv' := [(0, .ref b), (1, .ref a1), (2, .ref a2), (3, .ref a3), (4, .int x4)]) [0, 1, 2, 3, 4] rfl ?_
  refine g_widen (cells' := (337 + 4 * j + 4)) (slots' := (29787 + 24 * j + 24)) (by first | omega | exact Nat.add_le_add_left (Nat.le_of_ble_eq_true rfl) _) (by first | omega | exact Nat.add_le_add_left (Nat.le_of_ble_eq_true rfl) _) ?_
  exact gW_J3518 B hS9 hr hfl hXs hbl hbA hlo j (by omega) rec23 hrec23 a1 a2 a3 x4 M
set_option maxRecDepth 40000 in
set_option maxHeartbeats 8000000 in
theorem gW_J2089 {X : gX} {p : Program} {l : Launch} {e : Env} {s : State} {m : MethodId} {below : List Frame} {meth : Method} {c : Code} {b L : Nat} {xs : Nat → Int32} (B : gB X p room_1 s m #[Value.ref b] meth c RL cL_law_ 7 room_1) (hS9 : gS X s) (hr : meth.sig.returnType = some .boolean) (hfl : l.stackTraces = false) (hXs : va_X b L xs s s.heap) (hbl : b < s.heap.size) (hbA : ¬ gA X b) (hlo : X.1 = s.heap.size) (j : Nat) (hj : j ≤ 512) (rec23 : Nat → Nat → Nat → Int32 → mMem → Option Int32) (hrec23 : ∀ (a1 : Nat) (a2 : Nat) (a3 : Nat) (x4 : Int32) (M : mMem), GG X p l e room_1 s m #[Value.ref b] below meth c (lwPhi below b s) 7 (337 + 4 * (j + 1)) (29787 + 24 * (j + 1)) 23 [(0, .ref b), (1, .ref a1), (2, .ref a2), (3, .ref a3), (4, .int x4)] [] M (rec23 a1 a2 a3 x4 M)) (a1 : Nat) (a2 : Nat) (a3 : Nat) (x4 : Int32) (M : mMem) : GG X p l e room_1 s m #[Value.ref b] below meth c (lwPhi below b s) 7 (337 + 4 * j + 2) (29787 + 24 * j + 12) 2089 [(0, .ref b), (1, .ref a1), (2, .ref a2), (3, .ref a3), (4, .int x4)] [] M (pW_J2089 xs L rec23 a1 a2 a3 x4 M) := by
  unfold pW_J2089
  refine g_goto B 3518 dL_law__2089 (by decide) ?_
  refine g_sub (lv' := [(0, .ref b), (1, .ref a1), (2, .ref a2), (3, .ref a3), (4, .int x4)]) [0, 1, 2, 3, 4] rfl ?_
  refine g_widen (cells' := (337 + 4 * j + 4)) (slots' := (29787 + 24 * j + 24)) (by first | omega | exact Nat.add_le_add_left (Nat.le_of_ble_eq_true rfl) _) (by first | omega | exact Nat.add_le_add_left (Nat.le_of_ble_eq_true rfl) _) ?_
  exact gW_J3518 B hS9 hr hfl hXs hbl hbA hlo j (by omega) rec23 hrec23 a1 a2 a3 x4 M
set_option maxRecDepth 40000 in
set_option maxHeartbeats 8000000 in
theorem gW_J2145 {X : gX} {p : Program} {l : Launch} {e : Env} {s : State} {m : MethodId} {below : List Frame} {meth : Method} {c : Code} {b L : Nat} {xs : Nat → Int32} (B : gB X p room_1 s m #[Value.ref b] meth c RL cL_law_ 7 room_1) (hS9 : gS X s) (hr : meth.sig.returnType = some .boolean) (hfl : l.stackTraces = false) (hXs : va_X b L xs s s.heap) (hbl : b < s.heap.size) (hbA : ¬ gA X b) (hlo : X.1 = s.heap.size) (j : Nat) (hj : j ≤ 512) (rec23 : Nat → Nat → Nat → Int32 → mMem → Option Int32) (hrec23 : ∀ (a1 : Nat) (a2 : Nat) (a3 : Nat) (x4 : Int32) (M : mMem), GG X p l e room_1 s m #[Value.ref b] below meth c (lwPhi below b s) 7 (337 + 4 * (j + 1)) (29787 + 24 * (j + 1)) 23 [(0, .ref b), (1, .ref a1), (2, .ref a2), (3, .ref a3), (4, .int x4)] [] M (rec23 a1 a2 a3 x4 M)) (a1 : Nat) (a2 : Nat) (a3 : Nat) (x4 : Int32) (M : mMem) : GG X p l e room_1 s m #[Value.ref b] below meth c (lwPhi below b s) 7 (337 + 4 * j + 2) (29787 + 24 * j + 12) 2145 [(0, .ref b), (1, .ref a1), (2, .ref a2), (3, .ref a3), (4, .int x4)] [] M (pW_J2145 xs L rec23 a1 a2 a3 x4 M) := by
  unfold pW_J2145
  refine g_goto B 3518 dL_law__2145 (by decide) ?_
  refine g_sub (lv' := [(0, .ref b), (1, .ref a1), (2, .ref a2), (3, .ref a3), (4, .int x4)]) [0, 1, 2, 3, 4] rfl ?_
  refine g_widen (cells' := (337 + 4 * j + 4)) (slots' := (29787 + 24 * j + 24)) (by first | omega | exact Nat.add_le_add_left (Nat.le_of_ble_eq_true rfl) _) (by first | omega | exact Nat.add_le_add_left (Nat.le_of_ble_eq_true rfl) _) ?_
  exact gW_J3518 B hS9 hr hfl hXs hbl hbA hlo j (by omega) rec23 hrec23 a1 a2 a3 x4 M
set_option maxRecDepth 40000 in
set_option maxHeartbeats 8000000 in
theorem gW_J2181 {X : gX} {p : Program} {l : Launch} {e : Env} {s : State} {m : MethodId} {below : List Frame} {meth : Method} {c : Code} {b L : Nat} {xs : Nat → Int32} (B : gB X p room_1 s m #[Value.ref b] meth c RL cL_law_ 7 room_1) (hS9 : gS X s) (hr : meth.sig.returnType = some .boolean) (hfl : l.stackTraces = false) (hXs : va_X b L xs s s.heap) (hbl : b < s.heap.size) (hbA : ¬ gA X b) (hlo : X.1 = s.heap.size) (j : Nat) (hj : j ≤ 512) (rec23 : Nat → Nat → Nat → Int32 → mMem → Option Int32) (hrec23 : ∀ (a1 : Nat) (a2 : Nat) (a3 : Nat) (x4 : Int32) (M : mMem), GG X p l e room_1 s m #[Value.ref b] below meth c (lwPhi below b s) 7 (337 + 4 * (j + 1)) (29787 + 24 * (j + 1)) 23 [(0, .ref b), (1, .ref a1), (2, .ref a2), (3, .ref a3), (4, .int x4)] [] M (rec23 a1 a2 a3 x4 M)) (a1 : Nat) (a2 : Nat) (a3 : Nat) (x4 : Int32) (u0 : Int32) (b1 : Nat) (u2 : Int32) (M : mMem) : GG X p l e room_1 s m #[Value.ref b] below meth c (lwPhi below b s) 7 (337 + 4 * j) (29787 + 24 * j) 2181 [(0, .ref b), (1, .ref a1), (2, .ref a2), (3, .ref a3), (4, .int x4)] [.int u2, .ref b1, .int u0] M (pW_J2181 xs L rec23 a1 a2 a3 x4 u0 b1 u2 M) := by
  unfold pW_J2181
  refine g_callV_iw [.int u2] (ci := 11) (T0 := TX12) (N := 27) B hS9 mf12_match wd_2198 (gw B wd_2199) wd_2197 (by decide) rfl (fun h => (gd_ne h).1) (c12_match X l b1 u2 M) (by decide) (by decide) ⟨by show (337 + 4 * j) + 0 ≤ 601024; omega, by show (29787 + 24 * j) + 0 ≤ 7293034; omega⟩ rfl (Nat.le_of_ble_eq_true rfl) dL_law__2181 rfl (fun q_1 => ?_)
  refine g_icmp_eq B 3518 dL_law__2184 (by decide) ?_ ?_
  · refine g_sub (lv' := [(0, .ref b), (1, .ref a1), (2, .ref a2), (3, .ref a3), (4, .int x4)]) [0, 1, 2, 3, 4] rfl ?_
    refine g_widen (cells' := (337 + 4 * j + 4)) (slots' := (29787 + 24 * j + 24)) (by first | omega | exact Nat.add_le_add_left (Nat.le_of_ble_eq_true rfl) _) (by first | omega | exact Nat.add_le_add_left (Nat.le_of_ble_eq_true rfl) _) ?_
    exact gW_J3518 B hS9 hr hfl hXs hbl hbA hlo j (by omega) rec23 hrec23 a1 a2 a3 x4 q_1.2
  · refine g_iconst (v := 0) B dL_law__2187 (by decide) ?_
    exact g_lawret0 (by decide)
set_option maxRecDepth 40000 in
set_option maxHeartbeats 8000000 in
theorem gW_J2163 {X : gX} {p : Program} {l : Launch} {e : Env} {s : State} {m : MethodId} {below : List Frame} {meth : Method} {c : Code} {b L : Nat} {xs : Nat → Int32} (B : gB X p room_1 s m #[Value.ref b] meth c RL cL_law_ 7 room_1) (hS9 : gS X s) (hr : meth.sig.returnType = some .boolean) (hfl : l.stackTraces = false) (hXs : va_X b L xs s s.heap) (hbl : b < s.heap.size) (hbA : ¬ gA X b) (hlo : X.1 = s.heap.size) (j : Nat) (hj : j ≤ 512) (rec23 : Nat → Nat → Nat → Int32 → mMem → Option Int32) (hrec23 : ∀ (a1 : Nat) (a2 : Nat) (a3 : Nat) (x4 : Int32) (M : mMem), GG X p l e room_1 s m #[Value.ref b] below meth c (lwPhi below b s) 7 (337 + 4 * (j + 1)) (29787 + 24 * (j + 1)) 23 [(0, .ref b), (1, .ref a1), (2, .ref a2), (3, .ref a3), (4, .int x4)] [] M (rec23 a1 a2 a3 x4 M)) (a1 : Nat) (a2 : Nat) (a3 : Nat) (x4 : Int32) (b0 : Nat) (u1 : Int32) (M : mMem) : GG X p l e room_1 s m #[Value.ref b] below meth c (lwPhi below b s) 7 (337 + 4 * j) (29787 + 24 * j) 2163 [(0, .ref b), (1, .ref a1), (2, .ref a2), (3, .ref a3), (4, .int x4)] [.int u1, .ref b0] M (pW_J2163 xs L rec23 a1 a2 a3 x4 b0 u1 M) := by
  unfold pW_J2163
  refine g_callV_iw [.int u1] (ci := 10) (T0 := TX11) (N := 18) B hS9 mf11_match wd_566 (gw B wd_567) wd_565 (by decide) rfl (fun h => (gd_ne h).1) (c11_match X l b0 u1 M) (by decide) (by decide) ⟨by show (337 + 4 * j) + 0 ≤ 601024; omega, by show (29787 + 24 * j) + 0 ≤ 7293034; omega⟩ rfl (by decide) dL_law__2163 rfl (fun q_1 => ?_)
  refine g_aload_n B dL_law__2166 2 rfl ?_
  refine g_aload_n B dL_law__2167 0 rfl ?_
  refine g_iload B dL_law__2168 4 rfl ?_
  refine g_iconst (v := 1) B dL_law__2170 (by decide) ?_
  refine g_iadd B dL_law__2171 ?_
  refine g_sld hXs hbl hbA B dL_law__2172 (fun v_2 => ?_)
  refine g_if_eq B 2180 dL_law__2173 (by decide) ?_ ?_
  · refine g_iconst (v := 0) B dL_law__2180 (by decide) ?_
    refine g_sub (lv' := [(0, .ref b), (1, .ref a1), (2, .ref a2), (3, .ref a3), (4, .int x4)]) [0, 1, 2, 3, 4] rfl ?_
    exact gW_J2181 B hS9 hr hfl hXs hbl hbA hlo j (by omega) rec23 hrec23 a1 a2 a3 x4 q_1.1 a2 0 q_1.2
  · refine g_iconst (v := 1) B dL_law__2176 (by decide) ?_
    refine g_goto B 2181 dL_law__2177 (by decide) ?_
    refine g_sub (lv' := [(0, .ref b), (1, .ref a1), (2, .ref a2), (3, .ref a3), (4, .int x4)]) [0, 1, 2, 3, 4] rfl ?_
    exact gW_J2181 B hS9 hr hfl hXs hbl hbA hlo j (by omega) rec23 hrec23 a1 a2 a3 x4 q_1.1 a2 1 q_1.2
set_option maxRecDepth 40000 in
set_option maxHeartbeats 8000000 in
theorem gW_J2242 {X : gX} {p : Program} {l : Launch} {e : Env} {s : State} {m : MethodId} {below : List Frame} {meth : Method} {c : Code} {b L : Nat} {xs : Nat → Int32} (B : gB X p room_1 s m #[Value.ref b] meth c RL cL_law_ 7 room_1) (hS9 : gS X s) (hr : meth.sig.returnType = some .boolean) (hfl : l.stackTraces = false) (hXs : va_X b L xs s s.heap) (hbl : b < s.heap.size) (hbA : ¬ gA X b) (hlo : X.1 = s.heap.size) (j : Nat) (hj : j ≤ 512) (rec23 : Nat → Nat → Nat → Int32 → mMem → Option Int32) (hrec23 : ∀ (a1 : Nat) (a2 : Nat) (a3 : Nat) (x4 : Int32) (M : mMem), GG X p l e room_1 s m #[Value.ref b] below meth c (lwPhi below b s) 7 (337 + 4 * (j + 1)) (29787 + 24 * (j + 1)) 23 [(0, .ref b), (1, .ref a1), (2, .ref a2), (3, .ref a3), (4, .int x4)] [] M (rec23 a1 a2 a3 x4 M)) (a1 : Nat) (a2 : Nat) (a3 : Nat) (x4 : Int32) (M : mMem) : GG X p l e room_1 s m #[Value.ref b] below meth c (lwPhi below b s) 7 (337 + 4 * j + 1) (29787 + 24 * j + 6) 2242 [(0, .ref b), (1, .ref a1), (2, .ref a2), (3, .ref a3), (4, .int x4)] [] M (pW_J2242 xs L rec23 a1 a2 a3 x4 M) := by
  unfold pW_J2242
  refine g_goto B 3518 dL_law__2242 (by decide) ?_
  refine g_sub (lv' := [(0, .ref b), (1, .ref a1), (2, .ref a2), (3, .ref a3), (4, .int x4)]) [0, 1, 2, 3, 4] rfl ?_
  refine g_widen (cells' := (337 + 4 * j + 4)) (slots' := (29787 + 24 * j + 24)) (by first | omega | exact Nat.add_le_add_left (Nat.le_of_ble_eq_true rfl) _) (by first | omega | exact Nat.add_le_add_left (Nat.le_of_ble_eq_true rfl) _) ?_
  exact gW_J3518 B hS9 hr hfl hXs hbl hbA hlo j (by omega) rec23 hrec23 a1 a2 a3 x4 M
set_option maxRecDepth 40000 in
set_option maxHeartbeats 8000000 in
theorem gW_J2298 {X : gX} {p : Program} {l : Launch} {e : Env} {s : State} {m : MethodId} {below : List Frame} {meth : Method} {c : Code} {b L : Nat} {xs : Nat → Int32} (B : gB X p room_1 s m #[Value.ref b] meth c RL cL_law_ 7 room_1) (hS9 : gS X s) (hr : meth.sig.returnType = some .boolean) (hfl : l.stackTraces = false) (hXs : va_X b L xs s s.heap) (hbl : b < s.heap.size) (hbA : ¬ gA X b) (hlo : X.1 = s.heap.size) (j : Nat) (hj : j ≤ 512) (rec23 : Nat → Nat → Nat → Int32 → mMem → Option Int32) (hrec23 : ∀ (a1 : Nat) (a2 : Nat) (a3 : Nat) (x4 : Int32) (M : mMem), GG X p l e room_1 s m #[Value.ref b] below meth c (lwPhi below b s) 7 (337 + 4 * (j + 1)) (29787 + 24 * (j + 1)) 23 [(0, .ref b), (1, .ref a1), (2, .ref a2), (3, .ref a3), (4, .int x4)] [] M (rec23 a1 a2 a3 x4 M)) (a1 : Nat) (a2 : Nat) (a3 : Nat) (x4 : Int32) (M : mMem) : GG X p l e room_1 s m #[Value.ref b] below meth c (lwPhi below b s) 7 (337 + 4 * j + 1) (29787 + 24 * j + 6) 2298 [(0, .ref b), (1, .ref a1), (2, .ref a2), (3, .ref a3), (4, .int x4)] [] M (pW_J2298 xs L rec23 a1 a2 a3 x4 M) := by
  unfold pW_J2298
  refine g_goto B 3518 dL_law__2298 (by decide) ?_
  refine g_sub (lv' := [(0, .ref b), (1, .ref a1), (2, .ref a2), (3, .ref a3), (4, .int x4)]) [0, 1, 2, 3, 4] rfl ?_
  refine g_widen (cells' := (337 + 4 * j + 4)) (slots' := (29787 + 24 * j + 24)) (by first | omega | exact Nat.add_le_add_left (Nat.le_of_ble_eq_true rfl) _) (by first | omega | exact Nat.add_le_add_left (Nat.le_of_ble_eq_true rfl) _) ?_
  exact gW_J3518 B hS9 hr hfl hXs hbl hbA hlo j (by omega) rec23 hrec23 a1 a2 a3 x4 M
set_option maxRecDepth 40000 in
set_option maxHeartbeats 8000000 in
theorem gW_J2379 {X : gX} {p : Program} {l : Launch} {e : Env} {s : State} {m : MethodId} {below : List Frame} {meth : Method} {c : Code} {b L : Nat} {xs : Nat → Int32} (B : gB X p room_1 s m #[Value.ref b] meth c RL cL_law_ 7 room_1) (hS9 : gS X s) (hr : meth.sig.returnType = some .boolean) (hfl : l.stackTraces = false) (hXs : va_X b L xs s s.heap) (hbl : b < s.heap.size) (hbA : ¬ gA X b) (hlo : X.1 = s.heap.size) (j : Nat) (hj : j ≤ 512) (rec23 : Nat → Nat → Nat → Int32 → mMem → Option Int32) (hrec23 : ∀ (a1 : Nat) (a2 : Nat) (a3 : Nat) (x4 : Int32) (M : mMem), GG X p l e room_1 s m #[Value.ref b] below meth c (lwPhi below b s) 7 (337 + 4 * (j + 1)) (29787 + 24 * (j + 1)) 23 [(0, .ref b), (1, .ref a1), (2, .ref a2), (3, .ref a3), (4, .int x4)] [] M (rec23 a1 a2 a3 x4 M)) (a1 : Nat) (a2 : Nat) (a3 : Nat) (x4 : Int32) (M : mMem) : GG X p l e room_1 s m #[Value.ref b] below meth c (lwPhi below b s) 7 (337 + 4 * j + 3) (29787 + 24 * j + 18) 2379 [(0, .ref b), (1, .ref a1), (2, .ref a2), (3, .ref a3), (4, .int x4)] [] M (pW_J2379 xs L rec23 a1 a2 a3 x4 M) := by
  unfold pW_J2379
  refine g_goto B 3518 dL_law__2379 (by decide) ?_
  refine g_sub (lv' := [(0, .ref b), (1, .ref a1), (2, .ref a2), (3, .ref a3), (4, .int x4)]) [0, 1, 2, 3, 4] rfl ?_
  refine g_widen (cells' := (337 + 4 * j + 4)) (slots' := (29787 + 24 * j + 24)) (by first | omega | exact Nat.add_le_add_left (Nat.le_of_ble_eq_true rfl) _) (by first | omega | exact Nat.add_le_add_left (Nat.le_of_ble_eq_true rfl) _) ?_
  exact gW_J3518 B hS9 hr hfl hXs hbl hbA hlo j (by omega) rec23 hrec23 a1 a2 a3 x4 M
set_option maxRecDepth 40000 in
set_option maxHeartbeats 8000000 in
theorem gW_J2455 {X : gX} {p : Program} {l : Launch} {e : Env} {s : State} {m : MethodId} {below : List Frame} {meth : Method} {c : Code} {b L : Nat} {xs : Nat → Int32} (B : gB X p room_1 s m #[Value.ref b] meth c RL cL_law_ 7 room_1) (hS9 : gS X s) (hr : meth.sig.returnType = some .boolean) (hfl : l.stackTraces = false) (hXs : va_X b L xs s s.heap) (hbl : b < s.heap.size) (hbA : ¬ gA X b) (hlo : X.1 = s.heap.size) (j : Nat) (hj : j ≤ 512) (rec23 : Nat → Nat → Nat → Int32 → mMem → Option Int32) (hrec23 : ∀ (a1 : Nat) (a2 : Nat) (a3 : Nat) (x4 : Int32) (M : mMem), GG X p l e room_1 s m #[Value.ref b] below meth c (lwPhi below b s) 7 (337 + 4 * (j + 1)) (29787 + 24 * (j + 1)) 23 [(0, .ref b), (1, .ref a1), (2, .ref a2), (3, .ref a3), (4, .int x4)] [] M (rec23 a1 a2 a3 x4 M)) (a1 : Nat) (a2 : Nat) (a3 : Nat) (x4 : Int32) (M : mMem) : GG X p l e room_1 s m #[Value.ref b] below meth c (lwPhi below b s) 7 (337 + 4 * j + 1) (29787 + 24 * j + 6) 2455 [(0, .ref b), (1, .ref a1), (2, .ref a2), (3, .ref a3), (4, .int x4)] [] M (pW_J2455 xs L rec23 a1 a2 a3 x4 M) := by
  unfold pW_J2455
  refine g_goto B 3518 dL_law__2455 (by decide) ?_
  refine g_sub (lv' := [(0, .ref b), (1, .ref a1), (2, .ref a2), (3, .ref a3), (4, .int x4)]) [0, 1, 2, 3, 4] rfl ?_
  refine g_widen (cells' := (337 + 4 * j + 4)) (slots' := (29787 + 24 * j + 24)) (by first | omega | exact Nat.add_le_add_left (Nat.le_of_ble_eq_true rfl) _) (by first | omega | exact Nat.add_le_add_left (Nat.le_of_ble_eq_true rfl) _) ?_
  exact gW_J3518 B hS9 hr hfl hXs hbl hbA hlo j (by omega) rec23 hrec23 a1 a2 a3 x4 M
set_option maxRecDepth 40000 in
set_option maxHeartbeats 8000000 in
theorem gW_J2449 {X : gX} {p : Program} {l : Launch} {e : Env} {s : State} {m : MethodId} {below : List Frame} {meth : Method} {c : Code} {b L : Nat} {xs : Nat → Int32} (B : gB X p room_1 s m #[Value.ref b] meth c RL cL_law_ 7 room_1) (hS9 : gS X s) (hr : meth.sig.returnType = some .boolean) (hfl : l.stackTraces = false) (hXs : va_X b L xs s s.heap) (hbl : b < s.heap.size) (hbA : ¬ gA X b) (hlo : X.1 = s.heap.size) (j : Nat) (hj : j ≤ 512) (rec23 : Nat → Nat → Nat → Int32 → mMem → Option Int32) (hrec23 : ∀ (a1 : Nat) (a2 : Nat) (a3 : Nat) (x4 : Int32) (M : mMem), GG X p l e room_1 s m #[Value.ref b] below meth c (lwPhi below b s) 7 (337 + 4 * (j + 1)) (29787 + 24 * (j + 1)) 23 [(0, .ref b), (1, .ref a1), (2, .ref a2), (3, .ref a3), (4, .int x4)] [] M (rec23 a1 a2 a3 x4 M)) (a1 : Nat) (a2 : Nat) (a3 : Nat) (x4 : Int32) (w0 : Int64) (w1 : Int64) (M : mMem) : GG X p l e room_1 s m #[Value.ref b] below meth c (lwPhi below b s) 7 (337 + 4 * j + 1) (29787 + 24 * j + 6) 2449 [(0, .ref b), (1, .ref a1), (2, .ref a2), (3, .ref a3), (4, .int x4)] [.long w1, .long w0] M (pW_J2449 xs L rec23 a1 a2 a3 x4 w0 w1 M) := by
  unfold pW_J2449
  refine g_lcmp B dL_law__2449 ?_
  refine g_if_eq B 2455 dL_law__2450 (by decide) ?_ ?_
  · refine g_sub (lv' := [(0, .ref b), (1, .ref a1), (2, .ref a2), (3, .ref a3), (4, .int x4)]) [0, 1, 2, 3, 4] rfl ?_
    exact gW_J2455 B hS9 hr hfl hXs hbl hbA hlo j (by omega) rec23 hrec23 a1 a2 a3 x4 M
  · refine g_iconst (v := 0) B dL_law__2453 (by decide) ?_
    exact g_lawret0 (by decide)
set_option maxRecDepth 40000 in
set_option maxHeartbeats 8000000 in
theorem gW_J2536 {X : gX} {p : Program} {l : Launch} {e : Env} {s : State} {m : MethodId} {below : List Frame} {meth : Method} {c : Code} {b L : Nat} {xs : Nat → Int32} (B : gB X p room_1 s m #[Value.ref b] meth c RL cL_law_ 7 room_1) (hS9 : gS X s) (hr : meth.sig.returnType = some .boolean) (hfl : l.stackTraces = false) (hXs : va_X b L xs s s.heap) (hbl : b < s.heap.size) (hbA : ¬ gA X b) (hlo : X.1 = s.heap.size) (j : Nat) (hj : j ≤ 512) (rec23 : Nat → Nat → Nat → Int32 → mMem → Option Int32) (hrec23 : ∀ (a1 : Nat) (a2 : Nat) (a3 : Nat) (x4 : Int32) (M : mMem), GG X p l e room_1 s m #[Value.ref b] below meth c (lwPhi below b s) 7 (337 + 4 * (j + 1)) (29787 + 24 * (j + 1)) 23 [(0, .ref b), (1, .ref a1), (2, .ref a2), (3, .ref a3), (4, .int x4)] [] M (rec23 a1 a2 a3 x4 M)) (a1 : Nat) (a2 : Nat) (a3 : Nat) (x4 : Int32) (M : mMem) : GG X p l e room_1 s m #[Value.ref b] below meth c (lwPhi below b s) 7 (337 + 4 * j + 4) (29787 + 24 * j + 24) 2536 [(0, .ref b), (1, .ref a1), (2, .ref a2), (3, .ref a3), (4, .int x4)] [] M (pW_J2536 xs L rec23 a1 a2 a3 x4 M) := by
  unfold pW_J2536
  refine g_goto B 3518 dL_law__2536 (by decide) ?_
  refine g_sub (lv' := [(0, .ref b), (1, .ref a1), (2, .ref a2), (3, .ref a3), (4, .int x4)]) [0, 1, 2, 3, 4] rfl ?_
  exact gW_J3518 B hS9 hr hfl hXs hbl hbA hlo j (by omega) rec23 hrec23 a1 a2 a3 x4 M
set_option maxRecDepth 40000 in
set_option maxHeartbeats 8000000 in
theorem gW_J2592 {X : gX} {p : Program} {l : Launch} {e : Env} {s : State} {m : MethodId} {below : List Frame} {meth : Method} {c : Code} {b L : Nat} {xs : Nat → Int32} (B : gB X p room_1 s m #[Value.ref b] meth c RL cL_law_ 7 room_1) (hS9 : gS X s) (hr : meth.sig.returnType = some .boolean) (hfl : l.stackTraces = false) (hXs : va_X b L xs s s.heap) (hbl : b < s.heap.size) (hbA : ¬ gA X b) (hlo : X.1 = s.heap.size) (j : Nat) (hj : j ≤ 512) (rec23 : Nat → Nat → Nat → Int32 → mMem → Option Int32) (hrec23 : ∀ (a1 : Nat) (a2 : Nat) (a3 : Nat) (x4 : Int32) (M : mMem), GG X p l e room_1 s m #[Value.ref b] below meth c (lwPhi below b s) 7 (337 + 4 * (j + 1)) (29787 + 24 * (j + 1)) 23 [(0, .ref b), (1, .ref a1), (2, .ref a2), (3, .ref a3), (4, .int x4)] [] M (rec23 a1 a2 a3 x4 M)) (a1 : Nat) (a2 : Nat) (a3 : Nat) (x4 : Int32) (M : mMem) : GG X p l e room_1 s m #[Value.ref b] below meth c (lwPhi below b s) 7 (337 + 4 * j + 1) (29787 + 24 * j + 6) 2592 [(0, .ref b), (1, .ref a1), (2, .ref a2), (3, .ref a3), (4, .int x4)] [] M (pW_J2592 xs L rec23 a1 a2 a3 x4 M) := by
  unfold pW_J2592
  refine g_goto B 3518 dL_law__2592 (by decide) ?_
  refine g_sub (lv' := [(0, .ref b), (1, .ref a1), (2, .ref a2), (3, .ref a3), (4, .int x4)]) [0, 1, 2, 3, 4] rfl ?_
  refine g_widen (cells' := (337 + 4 * j + 4)) (slots' := (29787 + 24 * j + 24)) (by first | omega | exact Nat.add_le_add_left (Nat.le_of_ble_eq_true rfl) _) (by first | omega | exact Nat.add_le_add_left (Nat.le_of_ble_eq_true rfl) _) ?_
  exact gW_J3518 B hS9 hr hfl hXs hbl hbA hlo j (by omega) rec23 hrec23 a1 a2 a3 x4 M
set_option maxRecDepth 40000 in
set_option maxHeartbeats 8000000 in
theorem gW_J2648 {X : gX} {p : Program} {l : Launch} {e : Env} {s : State} {m : MethodId} {below : List Frame} {meth : Method} {c : Code} {b L : Nat} {xs : Nat → Int32} (B : gB X p room_1 s m #[Value.ref b] meth c RL cL_law_ 7 room_1) (hS9 : gS X s) (hr : meth.sig.returnType = some .boolean) (hfl : l.stackTraces = false) (hXs : va_X b L xs s s.heap) (hbl : b < s.heap.size) (hbA : ¬ gA X b) (hlo : X.1 = s.heap.size) (j : Nat) (hj : j ≤ 512) (rec23 : Nat → Nat → Nat → Int32 → mMem → Option Int32) (hrec23 : ∀ (a1 : Nat) (a2 : Nat) (a3 : Nat) (x4 : Int32) (M : mMem), GG X p l e room_1 s m #[Value.ref b] below meth c (lwPhi below b s) 7 (337 + 4 * (j + 1)) (29787 + 24 * (j + 1)) 23 [(0, .ref b), (1, .ref a1), (2, .ref a2), (3, .ref a3), (4, .int x4)] [] M (rec23 a1 a2 a3 x4 M)) (a1 : Nat) (a2 : Nat) (a3 : Nat) (x4 : Int32) (M : mMem) : GG X p l e room_1 s m #[Value.ref b] below meth c (lwPhi below b s) 7 (337 + 4 * j + 1) (29787 + 24 * j + 6) 2648 [(0, .ref b), (1, .ref a1), (2, .ref a2), (3, .ref a3), (4, .int x4)] [] M (pW_J2648 xs L rec23 a1 a2 a3 x4 M) := by
  unfold pW_J2648
  refine g_goto B 3518 dL_law__2648 (by decide) ?_
  refine g_sub (lv' := [(0, .ref b), (1, .ref a1), (2, .ref a2), (3, .ref a3), (4, .int x4)]) [0, 1, 2, 3, 4] rfl ?_
  refine g_widen (cells' := (337 + 4 * j + 4)) (slots' := (29787 + 24 * j + 24)) (by first | omega | exact Nat.add_le_add_left (Nat.le_of_ble_eq_true rfl) _) (by first | omega | exact Nat.add_le_add_left (Nat.le_of_ble_eq_true rfl) _) ?_
  exact gW_J3518 B hS9 hr hfl hXs hbl hbA hlo j (by omega) rec23 hrec23 a1 a2 a3 x4 M
set_option maxRecDepth 40000 in
set_option maxHeartbeats 8000000 in
theorem gW_J2729 {X : gX} {p : Program} {l : Launch} {e : Env} {s : State} {m : MethodId} {below : List Frame} {meth : Method} {c : Code} {b L : Nat} {xs : Nat → Int32} (B : gB X p room_1 s m #[Value.ref b] meth c RL cL_law_ 7 room_1) (hS9 : gS X s) (hr : meth.sig.returnType = some .boolean) (hfl : l.stackTraces = false) (hXs : va_X b L xs s s.heap) (hbl : b < s.heap.size) (hbA : ¬ gA X b) (hlo : X.1 = s.heap.size) (j : Nat) (hj : j ≤ 512) (rec23 : Nat → Nat → Nat → Int32 → mMem → Option Int32) (hrec23 : ∀ (a1 : Nat) (a2 : Nat) (a3 : Nat) (x4 : Int32) (M : mMem), GG X p l e room_1 s m #[Value.ref b] below meth c (lwPhi below b s) 7 (337 + 4 * (j + 1)) (29787 + 24 * (j + 1)) 23 [(0, .ref b), (1, .ref a1), (2, .ref a2), (3, .ref a3), (4, .int x4)] [] M (rec23 a1 a2 a3 x4 M)) (a1 : Nat) (a2 : Nat) (a3 : Nat) (x4 : Int32) (M : mMem) : GG X p l e room_1 s m #[Value.ref b] below meth c (lwPhi below b s) 7 (337 + 4 * j + 3) (29787 + 24 * j + 18) 2729 [(0, .ref b), (1, .ref a1), (2, .ref a2), (3, .ref a3), (4, .int x4)] [] M (pW_J2729 xs L rec23 a1 a2 a3 x4 M) := by
  unfold pW_J2729
  refine g_goto B 3518 dL_law__2729 (by decide) ?_
  refine g_sub (lv' := [(0, .ref b), (1, .ref a1), (2, .ref a2), (3, .ref a3), (4, .int x4)]) [0, 1, 2, 3, 4] rfl ?_
  refine g_widen (cells' := (337 + 4 * j + 4)) (slots' := (29787 + 24 * j + 24)) (by first | omega | exact Nat.add_le_add_left (Nat.le_of_ble_eq_true rfl) _) (by first | omega | exact Nat.add_le_add_left (Nat.le_of_ble_eq_true rfl) _) ?_
  exact gW_J3518 B hS9 hr hfl hXs hbl hbA hlo j (by omega) rec23 hrec23 a1 a2 a3 x4 M
set_option maxRecDepth 40000 in
set_option maxHeartbeats 8000000 in
theorem gW_J2785 {X : gX} {p : Program} {l : Launch} {e : Env} {s : State} {m : MethodId} {below : List Frame} {meth : Method} {c : Code} {b L : Nat} {xs : Nat → Int32} (B : gB X p room_1 s m #[Value.ref b] meth c RL cL_law_ 7 room_1) (hS9 : gS X s) (hr : meth.sig.returnType = some .boolean) (hfl : l.stackTraces = false) (hXs : va_X b L xs s s.heap) (hbl : b < s.heap.size) (hbA : ¬ gA X b) (hlo : X.1 = s.heap.size) (j : Nat) (hj : j ≤ 512) (rec23 : Nat → Nat → Nat → Int32 → mMem → Option Int32) (hrec23 : ∀ (a1 : Nat) (a2 : Nat) (a3 : Nat) (x4 : Int32) (M : mMem), GG X p l e room_1 s m #[Value.ref b] below meth c (lwPhi below b s) 7 (337 + 4 * (j + 1)) (29787 + 24 * (j + 1)) 23 [(0, .ref b), (1, .ref a1), (2, .ref a2), (3, .ref a3), (4, .int x4)] [] M (rec23 a1 a2 a3 x4 M)) (a1 : Nat) (a2 : Nat) (a3 : Nat) (x4 : Int32) (M : mMem) : GG X p l e room_1 s m #[Value.ref b] below meth c (lwPhi below b s) 7 (337 + 4 * j + 1) (29787 + 24 * j + 6) 2785 [(0, .ref b), (1, .ref a1), (2, .ref a2), (3, .ref a3), (4, .int x4)] [] M (pW_J2785 xs L rec23 a1 a2 a3 x4 M) := by
  unfold pW_J2785
  refine g_goto B 3518 dL_law__2785 (by decide) ?_
  refine g_sub (lv' := [(0, .ref b), (1, .ref a1), (2, .ref a2), (3, .ref a3), (4, .int x4)]) [0, 1, 2, 3, 4] rfl ?_
  refine g_widen (cells' := (337 + 4 * j + 4)) (slots' := (29787 + 24 * j + 24)) (by first | omega | exact Nat.add_le_add_left (Nat.le_of_ble_eq_true rfl) _) (by first | omega | exact Nat.add_le_add_left (Nat.le_of_ble_eq_true rfl) _) ?_
  exact gW_J3518 B hS9 hr hfl hXs hbl hbA hlo j (by omega) rec23 hrec23 a1 a2 a3 x4 M
set_option maxRecDepth 40000 in
set_option maxHeartbeats 8000000 in
theorem gW_J2841 {X : gX} {p : Program} {l : Launch} {e : Env} {s : State} {m : MethodId} {below : List Frame} {meth : Method} {c : Code} {b L : Nat} {xs : Nat → Int32} (B : gB X p room_1 s m #[Value.ref b] meth c RL cL_law_ 7 room_1) (hS9 : gS X s) (hr : meth.sig.returnType = some .boolean) (hfl : l.stackTraces = false) (hXs : va_X b L xs s s.heap) (hbl : b < s.heap.size) (hbA : ¬ gA X b) (hlo : X.1 = s.heap.size) (j : Nat) (hj : j ≤ 512) (rec23 : Nat → Nat → Nat → Int32 → mMem → Option Int32) (hrec23 : ∀ (a1 : Nat) (a2 : Nat) (a3 : Nat) (x4 : Int32) (M : mMem), GG X p l e room_1 s m #[Value.ref b] below meth c (lwPhi below b s) 7 (337 + 4 * (j + 1)) (29787 + 24 * (j + 1)) 23 [(0, .ref b), (1, .ref a1), (2, .ref a2), (3, .ref a3), (4, .int x4)] [] M (rec23 a1 a2 a3 x4 M)) (a1 : Nat) (a2 : Nat) (a3 : Nat) (x4 : Int32) (M : mMem) : GG X p l e room_1 s m #[Value.ref b] below meth c (lwPhi below b s) 7 (337 + 4 * j + 1) (29787 + 24 * j + 6) 2841 [(0, .ref b), (1, .ref a1), (2, .ref a2), (3, .ref a3), (4, .int x4)] [] M (pW_J2841 xs L rec23 a1 a2 a3 x4 M) := by
  unfold pW_J2841
  refine g_goto B 3518 dL_law__2841 (by decide) ?_
  refine g_sub (lv' := [(0, .ref b), (1, .ref a1), (2, .ref a2), (3, .ref a3), (4, .int x4)]) [0, 1, 2, 3, 4] rfl ?_
  refine g_widen (cells' := (337 + 4 * j + 4)) (slots' := (29787 + 24 * j + 24)) (by first | omega | exact Nat.add_le_add_left (Nat.le_of_ble_eq_true rfl) _) (by first | omega | exact Nat.add_le_add_left (Nat.le_of_ble_eq_true rfl) _) ?_
  exact gW_J3518 B hS9 hr hfl hXs hbl hbA hlo j (by omega) rec23 hrec23 a1 a2 a3 x4 M
set_option maxRecDepth 40000 in
set_option maxHeartbeats 8000000 in
theorem gW_J2934 {X : gX} {p : Program} {l : Launch} {e : Env} {s : State} {m : MethodId} {below : List Frame} {meth : Method} {c : Code} {b L : Nat} {xs : Nat → Int32} (B : gB X p room_1 s m #[Value.ref b] meth c RL cL_law_ 7 room_1) (hS9 : gS X s) (hr : meth.sig.returnType = some .boolean) (hfl : l.stackTraces = false) (hXs : va_X b L xs s s.heap) (hbl : b < s.heap.size) (hbA : ¬ gA X b) (hlo : X.1 = s.heap.size) (j : Nat) (hj : j ≤ 512) (rec23 : Nat → Nat → Nat → Int32 → mMem → Option Int32) (hrec23 : ∀ (a1 : Nat) (a2 : Nat) (a3 : Nat) (x4 : Int32) (M : mMem), GG X p l e room_1 s m #[Value.ref b] below meth c (lwPhi below b s) 7 (337 + 4 * (j + 1)) (29787 + 24 * (j + 1)) 23 [(0, .ref b), (1, .ref a1), (2, .ref a2), (3, .ref a3), (4, .int x4)] [] M (rec23 a1 a2 a3 x4 M)) (a1 : Nat) (a2 : Nat) (a3 : Nat) (x4 : Int32) (M : mMem) : GG X p l e room_1 s m #[Value.ref b] below meth c (lwPhi below b s) 7 (337 + 4 * j + 3) (29787 + 24 * j + 18) 2934 [(0, .ref b), (1, .ref a1), (2, .ref a2), (3, .ref a3), (4, .int x4)] [] M (pW_J2934 xs L rec23 a1 a2 a3 x4 M) := by
  unfold pW_J2934
  refine g_goto B 3518 dL_law__2934 (by decide) ?_
  refine g_sub (lv' := [(0, .ref b), (1, .ref a1), (2, .ref a2), (3, .ref a3), (4, .int x4)]) [0, 1, 2, 3, 4] rfl ?_
  refine g_widen (cells' := (337 + 4 * j + 4)) (slots' := (29787 + 24 * j + 24)) (by first | omega | exact Nat.add_le_add_left (Nat.le_of_ble_eq_true rfl) _) (by first | omega | exact Nat.add_le_add_left (Nat.le_of_ble_eq_true rfl) _) ?_
  exact gW_J3518 B hS9 hr hfl hXs hbl hbA hlo j (by omega) rec23 hrec23 a1 a2 a3 x4 M
set_option maxRecDepth 40000 in
set_option maxHeartbeats 8000000 in
theorem gW_J3108 {X : gX} {p : Program} {l : Launch} {e : Env} {s : State} {m : MethodId} {below : List Frame} {meth : Method} {c : Code} {b L : Nat} {xs : Nat → Int32} (B : gB X p room_1 s m #[Value.ref b] meth c RL cL_law_ 7 room_1) (hS9 : gS X s) (hr : meth.sig.returnType = some .boolean) (hfl : l.stackTraces = false) (hXs : va_X b L xs s s.heap) (hbl : b < s.heap.size) (hbA : ¬ gA X b) (hlo : X.1 = s.heap.size) (j : Nat) (hj : j ≤ 512) (rec23 : Nat → Nat → Nat → Int32 → mMem → Option Int32) (hrec23 : ∀ (a1 : Nat) (a2 : Nat) (a3 : Nat) (x4 : Int32) (M : mMem), GG X p l e room_1 s m #[Value.ref b] below meth c (lwPhi below b s) 7 (337 + 4 * (j + 1)) (29787 + 24 * (j + 1)) 23 [(0, .ref b), (1, .ref a1), (2, .ref a2), (3, .ref a3), (4, .int x4)] [] M (rec23 a1 a2 a3 x4 M)) (a1 : Nat) (a2 : Nat) (a3 : Nat) (x4 : Int32) (M : mMem) : GG X p l e room_1 s m #[Value.ref b] below meth c (lwPhi below b s) 7 (337 + 4 * j + 2) (29787 + 24 * j + 12) 3108 [(0, .ref b), (1, .ref a1), (2, .ref a2), (3, .ref a3), (4, .int x4)] [] M (pW_J3108 xs L rec23 a1 a2 a3 x4 M) := by
  unfold pW_J3108
  refine g_goto B 3518 dL_law__3108 (by decide) ?_
  refine g_sub (lv' := [(0, .ref b), (1, .ref a1), (2, .ref a2), (3, .ref a3), (4, .int x4)]) [0, 1, 2, 3, 4] rfl ?_
  refine g_widen (cells' := (337 + 4 * j + 4)) (slots' := (29787 + 24 * j + 24)) (by first | omega | exact Nat.add_le_add_left (Nat.le_of_ble_eq_true rfl) _) (by first | omega | exact Nat.add_le_add_left (Nat.le_of_ble_eq_true rfl) _) ?_
  exact gW_J3518 B hS9 hr hfl hXs hbl hbA hlo j (by omega) rec23 hrec23 a1 a2 a3 x4 M
set_option maxRecDepth 40000 in
set_option maxHeartbeats 8000000 in
theorem gW_J3075 {X : gX} {p : Program} {l : Launch} {e : Env} {s : State} {m : MethodId} {below : List Frame} {meth : Method} {c : Code} {b L : Nat} {xs : Nat → Int32} (B : gB X p room_1 s m #[Value.ref b] meth c RL cL_law_ 7 room_1) (hS9 : gS X s) (hr : meth.sig.returnType = some .boolean) (hfl : l.stackTraces = false) (hXs : va_X b L xs s s.heap) (hbl : b < s.heap.size) (hbA : ¬ gA X b) (hlo : X.1 = s.heap.size) (j : Nat) (hj : j ≤ 512) (rec23 : Nat → Nat → Nat → Int32 → mMem → Option Int32) (hrec23 : ∀ (a1 : Nat) (a2 : Nat) (a3 : Nat) (x4 : Int32) (M : mMem), GG X p l e room_1 s m #[Value.ref b] below meth c (lwPhi below b s) 7 (337 + 4 * (j + 1)) (29787 + 24 * (j + 1)) 23 [(0, .ref b), (1, .ref a1), (2, .ref a2), (3, .ref a3), (4, .int x4)] [] M (rec23 a1 a2 a3 x4 M)) (a1 : Nat) (a2 : Nat) (a3 : Nat) (x4 : Int32) (x5 : Int32) (b0 : Nat) (u1 : Int32) (u2 : Int32) (u3 : Int32) (M : mMem) : GG X p l e room_1 s m #[Value.ref b] below meth c (lwPhi below b s) 7 (337 + 4 * j + 2) (29787 + 24 * j + 12) 3075 [(0, .ref b), (1, .ref a1), (2, .ref a2), (3, .ref a3), (4, .int x4), (5, .int x5)] [.int u3, .int u2, .int u1, .ref b0] M (pW_J3075 xs L rec23 a1 a2 a3 x4 x5 b0 u1 u2 u3 M) := by
  unfold pW_J3075
  refine g_callV_iw [.int u1, .int u2, .int u3] (ci := 11) (T0 := TX12) (N := 27) B hS9 mf12_ahead wd_2126 (gw B wd_2127) wd_2125 (by decide) rfl (fun h => (gd_ne h).1) (c12_ahead X l b0 u1 u2 u3 M) (by decide) (by decide) ⟨by show (337 + 4 * j + 2) + 0 ≤ 601024; omega, by show (29787 + 24 * j + 12) + 0 ≤ 7293034; omega⟩ rfl (by decide) dL_law__3075 rfl (fun q_1 => ?_)
  refine g_istore (lv' := [(6, .int q_1.1), (0, .ref b), (1, .ref a1), (2, .ref a2), (3, .ref a3), (4, .int x4), (5, .int x5)]) B dL_law__3078 (by decide) [0, 1, 2, 3, 4, 5, 6] rfl ?_
  refine g_aload_n B dL_law__3080 3 rfl ?_
  refine g_callV_ip [] (ci := 11) (T0 := TX12) (N := 27) B hS9 mf12_thrown wd_1632 (gw B wd_1633) wd_1631 (by decide) rfl (fun h => (gd_ne h).1) (c12_thrown X l a2 q_1.2) (by decide) (by decide) ⟨by show (337 + 4 * j + 2) + 0 ≤ 601024; omega, by show (29787 + 24 * j + 12) + 0 ≤ 7293034; omega⟩ rfl (by decide) dL_law__3081 rfl (fun v_2 => ?_)
  refine g_iload B dL_law__3084 6 rfl ?_
  refine g_icmp_eq B 3091 dL_law__3086 (by decide) ?_ ?_
  · refine g_iload B dL_law__3091 6 rfl ?_
    refine g_if_ne B 3108 dL_law__3093 (by decide) ?_ ?_
    · refine g_aload_n B dL_law__3096 4 rfl ?_
      refine g_iconst (v := 0) B dL_law__3097 (by decide) ?_
      refine g_laload B dL_law__3098 (fun v_3 => ?_)
      refine g_iload B dL_law__3099 0 rfl ?_
      refine g_i2l B dL_law__3101 ?_
      refine g_lcmp B dL_law__3102 ?_
      refine g_if_eq B 3108 dL_law__3103 (by decide) ?_ ?_
      · refine g_sub (lv' := [(0, .ref b), (1, .ref a1), (2, .ref a2), (3, .ref a3), (4, .int x4)]) [1, 2, 3, 4, 5] rfl ?_
        exact gW_J3108 B hS9 hr hfl hXs hbl hbA hlo j (by omega) rec23 hrec23 a1 a2 a3 x4 q_1.2
      · refine g_iconst (v := 0) B dL_law__3106 (by decide) ?_
        exact g_lawret0 (by decide)
    · refine g_sub (lv' := [(0, .ref b), (1, .ref a1), (2, .ref a2), (3, .ref a3), (4, .int x4)]) [1, 2, 3, 4, 5] rfl ?_
      exact gW_J3108 B hS9 hr hfl hXs hbl hbA hlo j (by omega) rec23 hrec23 a1 a2 a3 x4 q_1.2
  · refine g_iconst (v := 0) B dL_law__3089 (by decide) ?_
    exact g_lawret0 (by decide)
set_option maxRecDepth 40000 in
set_option maxHeartbeats 8000000 in
theorem gW_J3042 {X : gX} {p : Program} {l : Launch} {e : Env} {s : State} {m : MethodId} {below : List Frame} {meth : Method} {c : Code} {b L : Nat} {xs : Nat → Int32} (B : gB X p room_1 s m #[Value.ref b] meth c RL cL_law_ 7 room_1) (hS9 : gS X s) (hr : meth.sig.returnType = some .boolean) (hfl : l.stackTraces = false) (hXs : va_X b L xs s s.heap) (hbl : b < s.heap.size) (hbA : ¬ gA X b) (hlo : X.1 = s.heap.size) (j : Nat) (hj : j ≤ 512) (rec23 : Nat → Nat → Nat → Int32 → mMem → Option Int32) (hrec23 : ∀ (a1 : Nat) (a2 : Nat) (a3 : Nat) (x4 : Int32) (M : mMem), GG X p l e room_1 s m #[Value.ref b] below meth c (lwPhi below b s) 7 (337 + 4 * (j + 1)) (29787 + 24 * (j + 1)) 23 [(0, .ref b), (1, .ref a1), (2, .ref a2), (3, .ref a3), (4, .int x4)] [] M (rec23 a1 a2 a3 x4 M)) (a1 : Nat) (a2 : Nat) (a3 : Nat) (x4 : Int32) (b0 : Nat) (u1 : Int32) (u2 : Int32) (u3 : Int32) (M : mMem) : GG X p l e room_1 s m #[Value.ref b] below meth c (lwPhi below b s) 7 (337 + 4 * j) (29787 + 24 * j) 3042 [(0, .ref b), (1, .ref a1), (2, .ref a2), (3, .ref a3), (4, .int x4)] [.int u3, .int u2, .int u1, .ref b0] M (pW_J3042 xs L rec23 a1 a2 a3 x4 b0 u1 u2 u3 M) := by
  unfold pW_J3042
  refine g_aload_n B dL_law__3042 3 rfl ?_
  refine g_callW [.ref b0, .int u1, .int u2, .int u3, .ref a3] B hS9 mfL_ahead wd_1574 wd_1573 (oL_ahead X l hfl b0 u1 u2 u3 a3 M) (by decide) (by decide) ⟨by show (337 + 4 * j) + 2 ≤ 601024; omega, by show (29787 + 24 * j) + 12 ≤ 7293034; omega⟩ rfl (Nat.le_of_ble_eq_true rfl) dL_law__3043 rfl (fun q_1 => ?_)
  refine g_istore (lv' := [(5, .int q_1.1), (0, .ref b), (1, .ref a1), (2, .ref a2), (3, .ref a3), (4, .int x4)]) B dL_law__3046 (by decide) [0, 1, 2, 3, 4, 5] rfl ?_
  refine g_aload_n B dL_law__3048 3 rfl ?_
  refine g_aload_n B dL_law__3049 1 rfl ?_
  refine g_iload B dL_law__3050 5 rfl ?_
  refine g_iconst (v := 1) B dL_law__3052 (by decide) ?_
  refine g_iadd B dL_law__3053 ?_
  refine g_sld hXs hbl hbA B dL_law__3054 (fun v_2 => ?_)
  refine g_aload_n B dL_law__3055 1 rfl ?_
  refine g_iload B dL_law__3056 5 rfl ?_
  refine g_iconst (v := 2) B dL_law__3058 (by decide) ?_
  refine g_iadd B dL_law__3059 ?_
  refine g_sld hXs hbl hbA B dL_law__3060 (fun v_3 => ?_)
  refine g_aload_n B dL_law__3061 1 rfl ?_
  refine g_iload B dL_law__3062 5 rfl ?_
  refine g_iconst (v := 3) B dL_law__3064 (by decide) ?_
  refine g_iadd B dL_law__3065 ?_
  refine g_sld hXs hbl hbA B dL_law__3066 (fun v_4 => ?_)
  refine g_if_eq B 3074 dL_law__3067 (by decide) ?_ ?_
  · refine g_iconst (v := 0) B dL_law__3074 (by decide) ?_
    refine g_sub (lv' := [(0, .ref b), (1, .ref a1), (2, .ref a2), (3, .ref a3), (4, .int x4), (5, .int q_1.1)]) [1, 2, 3, 4, 5, 0] rfl ?_
    exact gW_J3075 B hS9 hr hfl hXs hbl hbA hlo j (by omega) rec23 hrec23 a1 a2 a3 x4 q_1.1 a2 v_2 v_3 0 q_1.2
  · refine g_iconst (v := 1) B dL_law__3070 (by decide) ?_
    refine g_goto B 3075 dL_law__3071 (by decide) ?_
    refine g_sub (lv' := [(0, .ref b), (1, .ref a1), (2, .ref a2), (3, .ref a3), (4, .int x4), (5, .int q_1.1)]) [1, 2, 3, 4, 5, 0] rfl ?_
    exact gW_J3075 B hS9 hr hfl hXs hbl hbA hlo j (by omega) rec23 hrec23 a1 a2 a3 x4 q_1.1 a2 v_2 v_3 1 q_1.2
set_option maxRecDepth 40000 in
set_option maxHeartbeats 8000000 in
theorem gW_J3192 {X : gX} {p : Program} {l : Launch} {e : Env} {s : State} {m : MethodId} {below : List Frame} {meth : Method} {c : Code} {b L : Nat} {xs : Nat → Int32} (B : gB X p room_1 s m #[Value.ref b] meth c RL cL_law_ 7 room_1) (hS9 : gS X s) (hr : meth.sig.returnType = some .boolean) (hfl : l.stackTraces = false) (hXs : va_X b L xs s s.heap) (hbl : b < s.heap.size) (hbA : ¬ gA X b) (hlo : X.1 = s.heap.size) (j : Nat) (hj : j ≤ 512) (rec23 : Nat → Nat → Nat → Int32 → mMem → Option Int32) (hrec23 : ∀ (a1 : Nat) (a2 : Nat) (a3 : Nat) (x4 : Int32) (M : mMem), GG X p l e room_1 s m #[Value.ref b] below meth c (lwPhi below b s) 7 (337 + 4 * (j + 1)) (29787 + 24 * (j + 1)) 23 [(0, .ref b), (1, .ref a1), (2, .ref a2), (3, .ref a3), (4, .int x4)] [] M (rec23 a1 a2 a3 x4 M)) (a1 : Nat) (a2 : Nat) (a3 : Nat) (x4 : Int32) (M : mMem) : GG X p l e room_1 s m #[Value.ref b] below meth c (lwPhi below b s) 7 (337 + 4 * j + 1) (29787 + 24 * j + 6) 3192 [(0, .ref b), (1, .ref a1), (2, .ref a2), (3, .ref a3), (4, .int x4)] [] M (pW_J3192 xs L rec23 a1 a2 a3 x4 M) := by
  unfold pW_J3192
  refine g_goto B 3518 dL_law__3192 (by decide) ?_
  refine g_sub (lv' := [(0, .ref b), (1, .ref a1), (2, .ref a2), (3, .ref a3), (4, .int x4)]) [0, 1, 2, 3, 4] rfl ?_
  refine g_widen (cells' := (337 + 4 * j + 4)) (slots' := (29787 + 24 * j + 24)) (by first | omega | exact Nat.add_le_add_left (Nat.le_of_ble_eq_true rfl) _) (by first | omega | exact Nat.add_le_add_left (Nat.le_of_ble_eq_true rfl) _) ?_
  exact gW_J3518 B hS9 hr hfl hXs hbl hbA hlo j (by omega) rec23 hrec23 a1 a2 a3 x4 M
set_option maxRecDepth 40000 in
set_option maxHeartbeats 8000000 in
theorem gW_J3159 {X : gX} {p : Program} {l : Launch} {e : Env} {s : State} {m : MethodId} {below : List Frame} {meth : Method} {c : Code} {b L : Nat} {xs : Nat → Int32} (B : gB X p room_1 s m #[Value.ref b] meth c RL cL_law_ 7 room_1) (hS9 : gS X s) (hr : meth.sig.returnType = some .boolean) (hfl : l.stackTraces = false) (hXs : va_X b L xs s s.heap) (hbl : b < s.heap.size) (hbA : ¬ gA X b) (hlo : X.1 = s.heap.size) (j : Nat) (hj : j ≤ 512) (rec23 : Nat → Nat → Nat → Int32 → mMem → Option Int32) (hrec23 : ∀ (a1 : Nat) (a2 : Nat) (a3 : Nat) (x4 : Int32) (M : mMem), GG X p l e room_1 s m #[Value.ref b] below meth c (lwPhi below b s) 7 (337 + 4 * (j + 1)) (29787 + 24 * (j + 1)) 23 [(0, .ref b), (1, .ref a1), (2, .ref a2), (3, .ref a3), (4, .int x4)] [] M (rec23 a1 a2 a3 x4 M)) (a1 : Nat) (a2 : Nat) (a3 : Nat) (x4 : Int32) (x5 : Int32) (b0 : Nat) (u1 : Int32) (u2 : Int32) (M : mMem) : GG X p l e room_1 s m #[Value.ref b] below meth c (lwPhi below b s) 7 (337 + 4 * j + 1) (29787 + 24 * j + 6) 3159 [(0, .ref b), (1, .ref a1), (2, .ref a2), (3, .ref a3), (4, .int x4), (5, .int x5)] [.int u2, .int u1, .ref b0] M (pW_J3159 xs L rec23 a1 a2 a3 x4 x5 b0 u1 u2 M) := by
  unfold pW_J3159
  refine g_callV_iw [.int u1, .int u2] (ci := 11) (T0 := TX12) (N := 27) B hS9 mf12_trial wd_2359 (gw B wd_2360) wd_2358 (by decide) rfl (fun h => (gd_ne h).1) (c12_trial X l b0 u1 u2 M) (by decide) (by decide) ⟨by show (337 + 4 * j + 1) + 0 ≤ 601024; omega, by show (29787 + 24 * j + 6) + 0 ≤ 7293034; omega⟩ rfl (by decide) dL_law__3159 rfl (fun q_1 => ?_)
  refine g_istore (lv' := [(6, .int q_1.1), (0, .ref b), (1, .ref a1), (2, .ref a2), (3, .ref a3), (4, .int x4), (5, .int x5)]) B dL_law__3162 (by decide) [0, 1, 2, 3, 4, 5, 6] rfl ?_
  refine g_aload_n B dL_law__3164 3 rfl ?_
  refine g_callV_ip [] (ci := 11) (T0 := TX12) (N := 27) B hS9 mf12_thrown wd_1632 (gw B wd_1633) wd_1631 (by decide) rfl (fun h => (gd_ne h).1) (c12_thrown X l a2 q_1.2) (by decide) (by decide) ⟨by show (337 + 4 * j + 1) + 0 ≤ 601024; omega, by show (29787 + 24 * j + 6) + 0 ≤ 7293034; omega⟩ rfl (by decide) dL_law__3165 rfl (fun v_2 => ?_)
  refine g_iload B dL_law__3168 6 rfl ?_
  refine g_icmp_eq B 3175 dL_law__3170 (by decide) ?_ ?_
  · refine g_iload B dL_law__3175 6 rfl ?_
    refine g_if_ne B 3192 dL_law__3177 (by decide) ?_ ?_
    · refine g_aload_n B dL_law__3180 4 rfl ?_
      refine g_iconst (v := 0) B dL_law__3181 (by decide) ?_
      refine g_laload B dL_law__3182 (fun v_3 => ?_)
      refine g_iload B dL_law__3183 0 rfl ?_
      refine g_i2l B dL_law__3185 ?_
      refine g_lcmp B dL_law__3186 ?_
      refine g_if_eq B 3192 dL_law__3187 (by decide) ?_ ?_
      · refine g_sub (lv' := [(0, .ref b), (1, .ref a1), (2, .ref a2), (3, .ref a3), (4, .int x4)]) [1, 2, 3, 4, 5] rfl ?_
        exact gW_J3192 B hS9 hr hfl hXs hbl hbA hlo j (by omega) rec23 hrec23 a1 a2 a3 x4 q_1.2
      · refine g_iconst (v := 0) B dL_law__3190 (by decide) ?_
        exact g_lawret0 (by decide)
    · refine g_sub (lv' := [(0, .ref b), (1, .ref a1), (2, .ref a2), (3, .ref a3), (4, .int x4)]) [1, 2, 3, 4, 5] rfl ?_
      exact gW_J3192 B hS9 hr hfl hXs hbl hbA hlo j (by omega) rec23 hrec23 a1 a2 a3 x4 q_1.2
  · refine g_iconst (v := 0) B dL_law__3173 (by decide) ?_
    exact g_lawret0 (by decide)
set_option maxRecDepth 40000 in
set_option maxHeartbeats 8000000 in
theorem gW_J3132 {X : gX} {p : Program} {l : Launch} {e : Env} {s : State} {m : MethodId} {below : List Frame} {meth : Method} {c : Code} {b L : Nat} {xs : Nat → Int32} (B : gB X p room_1 s m #[Value.ref b] meth c RL cL_law_ 7 room_1) (hS9 : gS X s) (hr : meth.sig.returnType = some .boolean) (hfl : l.stackTraces = false) (hXs : va_X b L xs s s.heap) (hbl : b < s.heap.size) (hbA : ¬ gA X b) (hlo : X.1 = s.heap.size) (j : Nat) (hj : j ≤ 512) (rec23 : Nat → Nat → Nat → Int32 → mMem → Option Int32) (hrec23 : ∀ (a1 : Nat) (a2 : Nat) (a3 : Nat) (x4 : Int32) (M : mMem), GG X p l e room_1 s m #[Value.ref b] below meth c (lwPhi below b s) 7 (337 + 4 * (j + 1)) (29787 + 24 * (j + 1)) 23 [(0, .ref b), (1, .ref a1), (2, .ref a2), (3, .ref a3), (4, .int x4)] [] M (rec23 a1 a2 a3 x4 M)) (a1 : Nat) (a2 : Nat) (a3 : Nat) (x4 : Int32) (b0 : Nat) (u1 : Int32) (u2 : Int32) (M : mMem) : GG X p l e room_1 s m #[Value.ref b] below meth c (lwPhi below b s) 7 (337 + 4 * j) (29787 + 24 * j) 3132 [(0, .ref b), (1, .ref a1), (2, .ref a2), (3, .ref a3), (4, .int x4)] [.int u2, .int u1, .ref b0] M (pW_J3132 xs L rec23 a1 a2 a3 x4 b0 u1 u2 M) := by
  unfold pW_J3132
  refine g_aload_n B dL_law__3132 3 rfl ?_
  refine g_callW [.ref b0, .int u1, .int u2, .ref a3] B hS9 mfL_trial wd_1585 wd_1584 (oL_trial X l hfl b0 u1 u2 a3 M) (by decide) (by decide) ⟨by show (337 + 4 * j) + 1 ≤ 601024; omega, by show (29787 + 24 * j) + 6 ≤ 7293034; omega⟩ rfl (Nat.le_of_ble_eq_true rfl) dL_law__3133 rfl (fun q_1 => ?_)
  refine g_istore (lv' := [(5, .int q_1.1), (0, .ref b), (1, .ref a1), (2, .ref a2), (3, .ref a3), (4, .int x4)]) B dL_law__3136 (by decide) [0, 1, 2, 3, 4, 5] rfl ?_
  refine g_aload_n B dL_law__3138 3 rfl ?_
  refine g_aload_n B dL_law__3139 1 rfl ?_
  refine g_iload B dL_law__3140 5 rfl ?_
  refine g_iconst (v := 1) B dL_law__3142 (by decide) ?_
  refine g_iadd B dL_law__3143 ?_
  refine g_sld hXs hbl hbA B dL_law__3144 (fun v_2 => ?_)
  refine g_aload_n B dL_law__3145 1 rfl ?_
  refine g_iload B dL_law__3146 5 rfl ?_
  refine g_iconst (v := 2) B dL_law__3148 (by decide) ?_
  refine g_iadd B dL_law__3149 ?_
  refine g_sld hXs hbl hbA B dL_law__3150 (fun v_3 => ?_)
  refine g_if_eq B 3158 dL_law__3151 (by decide) ?_ ?_
  · refine g_iconst (v := 0) B dL_law__3158 (by decide) ?_
    refine g_sub (lv' := [(0, .ref b), (1, .ref a1), (2, .ref a2), (3, .ref a3), (4, .int x4), (5, .int q_1.1)]) [1, 2, 3, 4, 5, 0] rfl ?_
    exact gW_J3159 B hS9 hr hfl hXs hbl hbA hlo j (by omega) rec23 hrec23 a1 a2 a3 x4 q_1.1 a2 v_2 0 q_1.2
  · refine g_iconst (v := 1) B dL_law__3154 (by decide) ?_
    refine g_goto B 3159 dL_law__3155 (by decide) ?_
    refine g_sub (lv' := [(0, .ref b), (1, .ref a1), (2, .ref a2), (3, .ref a3), (4, .int x4), (5, .int q_1.1)]) [1, 2, 3, 4, 5, 0] rfl ?_
    exact gW_J3159 B hS9 hr hfl hXs hbl hbA hlo j (by omega) rec23 hrec23 a1 a2 a3 x4 q_1.1 a2 v_2 1 q_1.2
set_option maxRecDepth 40000 in
set_option maxHeartbeats 8000000 in
theorem gW_J3276 {X : gX} {p : Program} {l : Launch} {e : Env} {s : State} {m : MethodId} {below : List Frame} {meth : Method} {c : Code} {b L : Nat} {xs : Nat → Int32} (B : gB X p room_1 s m #[Value.ref b] meth c RL cL_law_ 7 room_1) (hS9 : gS X s) (hr : meth.sig.returnType = some .boolean) (hfl : l.stackTraces = false) (hXs : va_X b L xs s s.heap) (hbl : b < s.heap.size) (hbA : ¬ gA X b) (hlo : X.1 = s.heap.size) (j : Nat) (hj : j ≤ 512) (rec23 : Nat → Nat → Nat → Int32 → mMem → Option Int32) (hrec23 : ∀ (a1 : Nat) (a2 : Nat) (a3 : Nat) (x4 : Int32) (M : mMem), GG X p l e room_1 s m #[Value.ref b] below meth c (lwPhi below b s) 7 (337 + 4 * (j + 1)) (29787 + 24 * (j + 1)) 23 [(0, .ref b), (1, .ref a1), (2, .ref a2), (3, .ref a3), (4, .int x4)] [] M (rec23 a1 a2 a3 x4 M)) (a1 : Nat) (a2 : Nat) (a3 : Nat) (x4 : Int32) (M : mMem) : GG X p l e room_1 s m #[Value.ref b] below meth c (lwPhi below b s) 7 (337 + 4 * j + 1) (29787 + 24 * j + 6) 3276 [(0, .ref b), (1, .ref a1), (2, .ref a2), (3, .ref a3), (4, .int x4)] [] M (pW_J3276 xs L rec23 a1 a2 a3 x4 M) := by
  unfold pW_J3276
  refine g_goto B 3518 dL_law__3276 (by decide) ?_
  refine g_sub (lv' := [(0, .ref b), (1, .ref a1), (2, .ref a2), (3, .ref a3), (4, .int x4)]) [0, 1, 2, 3, 4] rfl ?_
  refine g_widen (cells' := (337 + 4 * j + 4)) (slots' := (29787 + 24 * j + 24)) (by first | omega | exact Nat.add_le_add_left (Nat.le_of_ble_eq_true rfl) _) (by first | omega | exact Nat.add_le_add_left (Nat.le_of_ble_eq_true rfl) _) ?_
  exact gW_J3518 B hS9 hr hfl hXs hbl hbA hlo j (by omega) rec23 hrec23 a1 a2 a3 x4 M
set_option maxRecDepth 40000 in
set_option maxHeartbeats 8000000 in
theorem gW_J3243 {X : gX} {p : Program} {l : Launch} {e : Env} {s : State} {m : MethodId} {below : List Frame} {meth : Method} {c : Code} {b L : Nat} {xs : Nat → Int32} (B : gB X p room_1 s m #[Value.ref b] meth c RL cL_law_ 7 room_1) (hS9 : gS X s) (hr : meth.sig.returnType = some .boolean) (hfl : l.stackTraces = false) (hXs : va_X b L xs s s.heap) (hbl : b < s.heap.size) (hbA : ¬ gA X b) (hlo : X.1 = s.heap.size) (j : Nat) (hj : j ≤ 512) (rec23 : Nat → Nat → Nat → Int32 → mMem → Option Int32) (hrec23 : ∀ (a1 : Nat) (a2 : Nat) (a3 : Nat) (x4 : Int32) (M : mMem), GG X p l e room_1 s m #[Value.ref b] below meth c (lwPhi below b s) 7 (337 + 4 * (j + 1)) (29787 + 24 * (j + 1)) 23 [(0, .ref b), (1, .ref a1), (2, .ref a2), (3, .ref a3), (4, .int x4)] [] M (rec23 a1 a2 a3 x4 M)) (a1 : Nat) (a2 : Nat) (a3 : Nat) (x4 : Int32) (x5 : Int32) (b0 : Nat) (u1 : Int32) (u2 : Int32) (M : mMem) : GG X p l e room_1 s m #[Value.ref b] below meth c (lwPhi below b s) 7 (337 + 4 * j + 1) (29787 + 24 * j + 6) 3243 [(0, .ref b), (1, .ref a1), (2, .ref a2), (3, .ref a3), (4, .int x4), (5, .int x5)] [.int u2, .int u1, .ref b0] M (pW_J3243 xs L rec23 a1 a2 a3 x4 x5 b0 u1 u2 M) := by
  unfold pW_J3243
  refine g_callV_iw [.int u1, .int u2] (ci := 11) (T0 := TX12) (N := 27) B hS9 mf12_span wd_2363 (gw B wd_2364) wd_2362 (by decide) rfl (fun h => (gd_ne h).1) (c12_span X l b0 u1 u2 M) (by decide) (by decide) ⟨by show (337 + 4 * j + 1) + 0 ≤ 601024; omega, by show (29787 + 24 * j + 6) + 0 ≤ 7293034; omega⟩ rfl (by decide) dL_law__3243 rfl (fun q_1 => ?_)
  refine g_istore (lv' := [(6, .int q_1.1), (0, .ref b), (1, .ref a1), (2, .ref a2), (3, .ref a3), (4, .int x4), (5, .int x5)]) B dL_law__3246 (by decide) [0, 1, 2, 3, 4, 5, 6] rfl ?_
  refine g_aload_n B dL_law__3248 3 rfl ?_
  refine g_callV_ip [] (ci := 11) (T0 := TX12) (N := 27) B hS9 mf12_thrown wd_1632 (gw B wd_1633) wd_1631 (by decide) rfl (fun h => (gd_ne h).1) (c12_thrown X l a2 q_1.2) (by decide) (by decide) ⟨by show (337 + 4 * j + 1) + 0 ≤ 601024; omega, by show (29787 + 24 * j + 6) + 0 ≤ 7293034; omega⟩ rfl (by decide) dL_law__3249 rfl (fun v_2 => ?_)
  refine g_iload B dL_law__3252 6 rfl ?_
  refine g_icmp_eq B 3259 dL_law__3254 (by decide) ?_ ?_
  · refine g_iload B dL_law__3259 6 rfl ?_
    refine g_if_ne B 3276 dL_law__3261 (by decide) ?_ ?_
    · refine g_aload_n B dL_law__3264 4 rfl ?_
      refine g_iconst (v := 0) B dL_law__3265 (by decide) ?_
      refine g_laload B dL_law__3266 (fun v_3 => ?_)
      refine g_iload B dL_law__3267 0 rfl ?_
      refine g_i2l B dL_law__3269 ?_
      refine g_lcmp B dL_law__3270 ?_
      refine g_if_eq B 3276 dL_law__3271 (by decide) ?_ ?_
      · refine g_sub (lv' := [(0, .ref b), (1, .ref a1), (2, .ref a2), (3, .ref a3), (4, .int x4)]) [1, 2, 3, 4, 5] rfl ?_
        exact gW_J3276 B hS9 hr hfl hXs hbl hbA hlo j (by omega) rec23 hrec23 a1 a2 a3 x4 q_1.2
      · refine g_iconst (v := 0) B dL_law__3274 (by decide) ?_
        exact g_lawret0 (by decide)
    · refine g_sub (lv' := [(0, .ref b), (1, .ref a1), (2, .ref a2), (3, .ref a3), (4, .int x4)]) [1, 2, 3, 4, 5] rfl ?_
      exact gW_J3276 B hS9 hr hfl hXs hbl hbA hlo j (by omega) rec23 hrec23 a1 a2 a3 x4 q_1.2
  · refine g_iconst (v := 0) B dL_law__3257 (by decide) ?_
    exact g_lawret0 (by decide)
set_option maxRecDepth 40000 in
set_option maxHeartbeats 8000000 in
theorem gW_J3216 {X : gX} {p : Program} {l : Launch} {e : Env} {s : State} {m : MethodId} {below : List Frame} {meth : Method} {c : Code} {b L : Nat} {xs : Nat → Int32} (B : gB X p room_1 s m #[Value.ref b] meth c RL cL_law_ 7 room_1) (hS9 : gS X s) (hr : meth.sig.returnType = some .boolean) (hfl : l.stackTraces = false) (hXs : va_X b L xs s s.heap) (hbl : b < s.heap.size) (hbA : ¬ gA X b) (hlo : X.1 = s.heap.size) (j : Nat) (hj : j ≤ 512) (rec23 : Nat → Nat → Nat → Int32 → mMem → Option Int32) (hrec23 : ∀ (a1 : Nat) (a2 : Nat) (a3 : Nat) (x4 : Int32) (M : mMem), GG X p l e room_1 s m #[Value.ref b] below meth c (lwPhi below b s) 7 (337 + 4 * (j + 1)) (29787 + 24 * (j + 1)) 23 [(0, .ref b), (1, .ref a1), (2, .ref a2), (3, .ref a3), (4, .int x4)] [] M (rec23 a1 a2 a3 x4 M)) (a1 : Nat) (a2 : Nat) (a3 : Nat) (x4 : Int32) (b0 : Nat) (u1 : Int32) (u2 : Int32) (M : mMem) : GG X p l e room_1 s m #[Value.ref b] below meth c (lwPhi below b s) 7 (337 + 4 * j) (29787 + 24 * j) 3216 [(0, .ref b), (1, .ref a1), (2, .ref a2), (3, .ref a3), (4, .int x4)] [.int u2, .int u1, .ref b0] M (pW_J3216 xs L rec23 a1 a2 a3 x4 b0 u1 u2 M) := by
  unfold pW_J3216
  refine g_aload_n B dL_law__3216 3 rfl ?_
  refine g_callW [.ref b0, .int u1, .int u2, .ref a3] B hS9 mfL_span wd_1598 wd_1597 (oL_span X l hfl b0 u1 u2 a3 M) (by decide) (by decide) ⟨by show (337 + 4 * j) + 1 ≤ 601024; omega, by show (29787 + 24 * j) + 6 ≤ 7293034; omega⟩ rfl (Nat.le_of_ble_eq_true rfl) dL_law__3217 rfl (fun q_1 => ?_)
  refine g_istore (lv' := [(5, .int q_1.1), (0, .ref b), (1, .ref a1), (2, .ref a2), (3, .ref a3), (4, .int x4)]) B dL_law__3220 (by decide) [0, 1, 2, 3, 4, 5] rfl ?_
  refine g_aload_n B dL_law__3222 3 rfl ?_
  refine g_aload_n B dL_law__3223 1 rfl ?_
  refine g_iload B dL_law__3224 5 rfl ?_
  refine g_iconst (v := 1) B dL_law__3226 (by decide) ?_
  refine g_iadd B dL_law__3227 ?_
  refine g_sld hXs hbl hbA B dL_law__3228 (fun v_2 => ?_)
  refine g_aload_n B dL_law__3229 1 rfl ?_
  refine g_iload B dL_law__3230 5 rfl ?_
  refine g_iconst (v := 2) B dL_law__3232 (by decide) ?_
  refine g_iadd B dL_law__3233 ?_
  refine g_sld hXs hbl hbA B dL_law__3234 (fun v_3 => ?_)
  refine g_if_eq B 3242 dL_law__3235 (by decide) ?_ ?_
  · refine g_iconst (v := 0) B dL_law__3242 (by decide) ?_
    refine g_sub (lv' := [(0, .ref b), (1, .ref a1), (2, .ref a2), (3, .ref a3), (4, .int x4), (5, .int q_1.1)]) [1, 2, 3, 4, 5, 0] rfl ?_
    exact gW_J3243 B hS9 hr hfl hXs hbl hbA hlo j (by omega) rec23 hrec23 a1 a2 a3 x4 q_1.1 a2 v_2 0 q_1.2
  · refine g_iconst (v := 1) B dL_law__3238 (by decide) ?_
    refine g_goto B 3243 dL_law__3239 (by decide) ?_
    refine g_sub (lv' := [(0, .ref b), (1, .ref a1), (2, .ref a2), (3, .ref a3), (4, .int x4), (5, .int q_1.1)]) [1, 2, 3, 4, 5, 0] rfl ?_
    exact gW_J3243 B hS9 hr hfl hXs hbl hbA hlo j (by omega) rec23 hrec23 a1 a2 a3 x4 q_1.1 a2 v_2 1 q_1.2
set_option maxRecDepth 40000 in
set_option maxHeartbeats 8000000 in
theorem gW_J3360 {X : gX} {p : Program} {l : Launch} {e : Env} {s : State} {m : MethodId} {below : List Frame} {meth : Method} {c : Code} {b L : Nat} {xs : Nat → Int32} (B : gB X p room_1 s m #[Value.ref b] meth c RL cL_law_ 7 room_1) (hS9 : gS X s) (hr : meth.sig.returnType = some .boolean) (hfl : l.stackTraces = false) (hXs : va_X b L xs s s.heap) (hbl : b < s.heap.size) (hbA : ¬ gA X b) (hlo : X.1 = s.heap.size) (j : Nat) (hj : j ≤ 512) (rec23 : Nat → Nat → Nat → Int32 → mMem → Option Int32) (hrec23 : ∀ (a1 : Nat) (a2 : Nat) (a3 : Nat) (x4 : Int32) (M : mMem), GG X p l e room_1 s m #[Value.ref b] below meth c (lwPhi below b s) 7 (337 + 4 * (j + 1)) (29787 + 24 * (j + 1)) 23 [(0, .ref b), (1, .ref a1), (2, .ref a2), (3, .ref a3), (4, .int x4)] [] M (rec23 a1 a2 a3 x4 M)) (a1 : Nat) (a2 : Nat) (a3 : Nat) (x4 : Int32) (M : mMem) : GG X p l e room_1 s m #[Value.ref b] below meth c (lwPhi below b s) 7 (337 + 4 * j + 1) (29787 + 24 * j + 6) 3360 [(0, .ref b), (1, .ref a1), (2, .ref a2), (3, .ref a3), (4, .int x4)] [] M (pW_J3360 xs L rec23 a1 a2 a3 x4 M) := by
  unfold pW_J3360
  refine g_goto B 3518 dL_law__3360 (by decide) ?_
  refine g_sub (lv' := [(0, .ref b), (1, .ref a1), (2, .ref a2), (3, .ref a3), (4, .int x4)]) [0, 1, 2, 3, 4] rfl ?_
  refine g_widen (cells' := (337 + 4 * j + 4)) (slots' := (29787 + 24 * j + 24)) (by first | omega | exact Nat.add_le_add_left (Nat.le_of_ble_eq_true rfl) _) (by first | omega | exact Nat.add_le_add_left (Nat.le_of_ble_eq_true rfl) _) ?_
  exact gW_J3518 B hS9 hr hfl hXs hbl hbA hlo j (by omega) rec23 hrec23 a1 a2 a3 x4 M
set_option maxRecDepth 40000 in
set_option maxHeartbeats 8000000 in
theorem gW_J3327 {X : gX} {p : Program} {l : Launch} {e : Env} {s : State} {m : MethodId} {below : List Frame} {meth : Method} {c : Code} {b L : Nat} {xs : Nat → Int32} (B : gB X p room_1 s m #[Value.ref b] meth c RL cL_law_ 7 room_1) (hS9 : gS X s) (hr : meth.sig.returnType = some .boolean) (hfl : l.stackTraces = false) (hXs : va_X b L xs s s.heap) (hbl : b < s.heap.size) (hbA : ¬ gA X b) (hlo : X.1 = s.heap.size) (j : Nat) (hj : j ≤ 512) (rec23 : Nat → Nat → Nat → Int32 → mMem → Option Int32) (hrec23 : ∀ (a1 : Nat) (a2 : Nat) (a3 : Nat) (x4 : Int32) (M : mMem), GG X p l e room_1 s m #[Value.ref b] below meth c (lwPhi below b s) 7 (337 + 4 * (j + 1)) (29787 + 24 * (j + 1)) 23 [(0, .ref b), (1, .ref a1), (2, .ref a2), (3, .ref a3), (4, .int x4)] [] M (rec23 a1 a2 a3 x4 M)) (a1 : Nat) (a2 : Nat) (a3 : Nat) (x4 : Int32) (x5 : Int32) (b0 : Nat) (u1 : Int32) (u2 : Int32) (M : mMem) : GG X p l e room_1 s m #[Value.ref b] below meth c (lwPhi below b s) 7 (337 + 4 * j + 1) (29787 + 24 * j + 6) 3327 [(0, .ref b), (1, .ref a1), (2, .ref a2), (3, .ref a3), (4, .int x4), (5, .int x5)] [.int u2, .int u1, .ref b0] M (pW_J3327 xs L rec23 a1 a2 a3 x4 x5 b0 u1 u2 M) := by
  unfold pW_J3327
  refine g_callV_iw [.int u1, .int u2] (ci := 11) (T0 := TX12) (N := 27) B hS9 mf12_led wd_2367 (gw B wd_2368) wd_2366 (by decide) rfl (fun h => (gd_ne h).1) (c12_led X l b0 u1 u2 M) (by decide) (by decide) ⟨by show (337 + 4 * j + 1) + 0 ≤ 601024; omega, by show (29787 + 24 * j + 6) + 0 ≤ 7293034; omega⟩ rfl (by decide) dL_law__3327 rfl (fun q_1 => ?_)
  refine g_istore (lv' := [(6, .int q_1.1), (0, .ref b), (1, .ref a1), (2, .ref a2), (3, .ref a3), (4, .int x4), (5, .int x5)]) B dL_law__3330 (by decide) [0, 1, 2, 3, 4, 5, 6] rfl ?_
  refine g_aload_n B dL_law__3332 3 rfl ?_
  refine g_callV_ip [] (ci := 11) (T0 := TX12) (N := 27) B hS9 mf12_thrown wd_1632 (gw B wd_1633) wd_1631 (by decide) rfl (fun h => (gd_ne h).1) (c12_thrown X l a2 q_1.2) (by decide) (by decide) ⟨by show (337 + 4 * j + 1) + 0 ≤ 601024; omega, by show (29787 + 24 * j + 6) + 0 ≤ 7293034; omega⟩ rfl (by decide) dL_law__3333 rfl (fun v_2 => ?_)
  refine g_iload B dL_law__3336 6 rfl ?_
  refine g_icmp_eq B 3343 dL_law__3338 (by decide) ?_ ?_
  · refine g_iload B dL_law__3343 6 rfl ?_
    refine g_if_ne B 3360 dL_law__3345 (by decide) ?_ ?_
    · refine g_aload_n B dL_law__3348 4 rfl ?_
      refine g_iconst (v := 0) B dL_law__3349 (by decide) ?_
      refine g_laload B dL_law__3350 (fun v_3 => ?_)
      refine g_iload B dL_law__3351 0 rfl ?_
      refine g_i2l B dL_law__3353 ?_
      refine g_lcmp B dL_law__3354 ?_
      refine g_if_eq B 3360 dL_law__3355 (by decide) ?_ ?_
      · refine g_sub (lv' := [(0, .ref b), (1, .ref a1), (2, .ref a2), (3, .ref a3), (4, .int x4)]) [1, 2, 3, 4, 5] rfl ?_
        exact gW_J3360 B hS9 hr hfl hXs hbl hbA hlo j (by omega) rec23 hrec23 a1 a2 a3 x4 q_1.2
      · refine g_iconst (v := 0) B dL_law__3358 (by decide) ?_
        exact g_lawret0 (by decide)
    · refine g_sub (lv' := [(0, .ref b), (1, .ref a1), (2, .ref a2), (3, .ref a3), (4, .int x4)]) [1, 2, 3, 4, 5] rfl ?_
      exact gW_J3360 B hS9 hr hfl hXs hbl hbA hlo j (by omega) rec23 hrec23 a1 a2 a3 x4 q_1.2
  · refine g_iconst (v := 0) B dL_law__3341 (by decide) ?_
    exact g_lawret0 (by decide)
set_option maxRecDepth 40000 in
set_option maxHeartbeats 8000000 in
theorem gW_J3300 {X : gX} {p : Program} {l : Launch} {e : Env} {s : State} {m : MethodId} {below : List Frame} {meth : Method} {c : Code} {b L : Nat} {xs : Nat → Int32} (B : gB X p room_1 s m #[Value.ref b] meth c RL cL_law_ 7 room_1) (hS9 : gS X s) (hr : meth.sig.returnType = some .boolean) (hfl : l.stackTraces = false) (hXs : va_X b L xs s s.heap) (hbl : b < s.heap.size) (hbA : ¬ gA X b) (hlo : X.1 = s.heap.size) (j : Nat) (hj : j ≤ 512) (rec23 : Nat → Nat → Nat → Int32 → mMem → Option Int32) (hrec23 : ∀ (a1 : Nat) (a2 : Nat) (a3 : Nat) (x4 : Int32) (M : mMem), GG X p l e room_1 s m #[Value.ref b] below meth c (lwPhi below b s) 7 (337 + 4 * (j + 1)) (29787 + 24 * (j + 1)) 23 [(0, .ref b), (1, .ref a1), (2, .ref a2), (3, .ref a3), (4, .int x4)] [] M (rec23 a1 a2 a3 x4 M)) (a1 : Nat) (a2 : Nat) (a3 : Nat) (x4 : Int32) (b0 : Nat) (u1 : Int32) (u2 : Int32) (M : mMem) : GG X p l e room_1 s m #[Value.ref b] below meth c (lwPhi below b s) 7 (337 + 4 * j) (29787 + 24 * j) 3300 [(0, .ref b), (1, .ref a1), (2, .ref a2), (3, .ref a3), (4, .int x4)] [.int u2, .int u1, .ref b0] M (pW_J3300 xs L rec23 a1 a2 a3 x4 b0 u1 u2 M) := by
  unfold pW_J3300
  refine g_aload_n B dL_law__3300 3 rfl ?_
  refine g_callW [.ref b0, .int u1, .int u2, .ref a3] B hS9 mfL_led wd_1609 wd_1608 (oL_led X l hfl b0 u1 u2 a3 M) (by decide) (by decide) ⟨by show (337 + 4 * j) + 1 ≤ 601024; omega, by show (29787 + 24 * j) + 6 ≤ 7293034; omega⟩ rfl (Nat.le_of_ble_eq_true rfl) dL_law__3301 rfl (fun q_1 => ?_)
  refine g_istore (lv' := [(5, .int q_1.1), (0, .ref b), (1, .ref a1), (2, .ref a2), (3, .ref a3), (4, .int x4)]) B dL_law__3304 (by decide) [0, 1, 2, 3, 4, 5] rfl ?_
  refine g_aload_n B dL_law__3306 3 rfl ?_
  refine g_aload_n B dL_law__3307 1 rfl ?_
  refine g_iload B dL_law__3308 5 rfl ?_
  refine g_iconst (v := 1) B dL_law__3310 (by decide) ?_
  refine g_iadd B dL_law__3311 ?_
  refine g_sld hXs hbl hbA B dL_law__3312 (fun v_2 => ?_)
  refine g_aload_n B dL_law__3313 1 rfl ?_
  refine g_iload B dL_law__3314 5 rfl ?_
  refine g_iconst (v := 2) B dL_law__3316 (by decide) ?_
  refine g_iadd B dL_law__3317 ?_
  refine g_sld hXs hbl hbA B dL_law__3318 (fun v_3 => ?_)
  refine g_if_eq B 3326 dL_law__3319 (by decide) ?_ ?_
  · refine g_iconst (v := 0) B dL_law__3326 (by decide) ?_
    refine g_sub (lv' := [(0, .ref b), (1, .ref a1), (2, .ref a2), (3, .ref a3), (4, .int x4), (5, .int q_1.1)]) [1, 2, 3, 4, 5, 0] rfl ?_
    exact gW_J3327 B hS9 hr hfl hXs hbl hbA hlo j (by omega) rec23 hrec23 a1 a2 a3 x4 q_1.1 a2 v_2 0 q_1.2
  · refine g_iconst (v := 1) B dL_law__3322 (by decide) ?_
    refine g_goto B 3327 dL_law__3323 (by decide) ?_
    refine g_sub (lv' := [(0, .ref b), (1, .ref a1), (2, .ref a2), (3, .ref a3), (4, .int x4), (5, .int q_1.1)]) [1, 2, 3, 4, 5, 0] rfl ?_
    exact gW_J3327 B hS9 hr hfl hXs hbl hbA hlo j (by omega) rec23 hrec23 a1 a2 a3 x4 q_1.1 a2 v_2 1 q_1.2
set_option maxRecDepth 40000 in
set_option maxHeartbeats 8000000 in
theorem gW_J3428 {X : gX} {p : Program} {l : Launch} {e : Env} {s : State} {m : MethodId} {below : List Frame} {meth : Method} {c : Code} {b L : Nat} {xs : Nat → Int32} (B : gB X p room_1 s m #[Value.ref b] meth c RL cL_law_ 7 room_1) (hS9 : gS X s) (hr : meth.sig.returnType = some .boolean) (hfl : l.stackTraces = false) (hXs : va_X b L xs s s.heap) (hbl : b < s.heap.size) (hbA : ¬ gA X b) (hlo : X.1 = s.heap.size) (j : Nat) (hj : j ≤ 512) (rec23 : Nat → Nat → Nat → Int32 → mMem → Option Int32) (hrec23 : ∀ (a1 : Nat) (a2 : Nat) (a3 : Nat) (x4 : Int32) (M : mMem), GG X p l e room_1 s m #[Value.ref b] below meth c (lwPhi below b s) 7 (337 + 4 * (j + 1)) (29787 + 24 * (j + 1)) 23 [(0, .ref b), (1, .ref a1), (2, .ref a2), (3, .ref a3), (4, .int x4)] [] M (rec23 a1 a2 a3 x4 M)) (a1 : Nat) (a2 : Nat) (a3 : Nat) (x4 : Int32) (M : mMem) : GG X p l e room_1 s m #[Value.ref b] below meth c (lwPhi below b s) 7 (337 + 4 * j + 1) (29787 + 24 * j + 6) 3428 [(0, .ref b), (1, .ref a1), (2, .ref a2), (3, .ref a3), (4, .int x4)] [] M (pW_J3428 xs L rec23 a1 a2 a3 x4 M) := by
  unfold pW_J3428
  refine g_goto B 3518 dL_law__3428 (by decide) ?_
  refine g_sub (lv' := [(0, .ref b), (1, .ref a1), (2, .ref a2), (3, .ref a3), (4, .int x4)]) [0, 1, 2, 3, 4] rfl ?_
  refine g_widen (cells' := (337 + 4 * j + 4)) (slots' := (29787 + 24 * j + 24)) (by first | omega | exact Nat.add_le_add_left (Nat.le_of_ble_eq_true rfl) _) (by first | omega | exact Nat.add_le_add_left (Nat.le_of_ble_eq_true rfl) _) ?_
  exact gW_J3518 B hS9 hr hfl hXs hbl hbA hlo j (by omega) rec23 hrec23 a1 a2 a3 x4 M
