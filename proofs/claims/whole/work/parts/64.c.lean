set_option maxRecDepth 40000 in
set_option maxHeartbeats 8000000 in
theorem gW_L23 {X : gX} {p : Program} {l : Launch} {e : Env} {s : State} {m : MethodId} {below : List Frame} {meth : Method} {c : Code} {b L : Nat} {xs : Nat → Int32} (B : gB X p room_1 s m #[Value.ref b] meth c RL cL_law_ 7 room_1) (hS9 : gS X s) (hr : meth.sig.returnType = some .boolean) (hfl : l.stackTraces = false) (hXs : va_X b L xs s s.heap) (hbl : b < s.heap.size) (hbA : ¬ gA X b) (hlo : X.1 = s.heap.size) : ∀ (n j : Nat) (_ : j + n = 513) (a1 : Nat) (a2 : Nat) (a3 : Nat) (x4 : Int32) (M : mMem), GG X p l e room_1 s m #[Value.ref b] below meth c (lwPhi below b s) 7 (337 + 4 * j) (29787 + 24 * j) 23 [(0, .ref b), (1, .ref a1), (2, .ref a2), (3, .ref a3), (4, .int x4)] [] M (pW_L23 xs L n a1 a2 a3 x4 M) := by
  intro n
  induction n with
  | zero => intro j hj a1 a2 a3 x4 M; exact g_none
  | succ n ih =>
    intro j hj a1 a2 a3 x4 M
    rw [pW_L23]
    refine g_iload B dL_law__23 4 rfl ?_
    refine g_aload_n B dL_law__25 0 rfl ?_
    refine g_slaw hXs hbl hbA B dL_law__26 ?_
    refine g_bipush (v := 6) B dL_law__27 (by decide) ?_
    refine g_isub B dL_law__29 ?_
    refine g_icmp_gt B 3524 dL_law__30 (by decide) ?_ ?_
    · refine g_iconst (v := 1) B dL_law__3524 (by decide) ?_
      exact g_lawret1 B hr hlo (by omega) (by omega) dL_law__3525
    · refine g_aload_n B dL_law__33 0 rfl ?_
      refine g_iload B dL_law__34 4 rfl ?_
      refine g_sld hXs hbl hbA B dL_law__36 (fun v_2 => ?_)
      refine g_bipush (v := 63) B dL_law__37 (by decide) ?_
      refine g_iand B dL_law__39 ?_
      refine g_tableswitch B [0, 1, 2, 3, 4, 5, 6, 7, 8, 9, 10, 11, 12, 13, 14, 15, 16, 17, 18, 19, 20, 21, 22, 23, 24, 25, 26, 27, 28, 29, 30, 31, 32, 33, 34, 35, 36, 37, 38, 39, 40, 41, 42, 43, 44, 45, 46, 47, 48, 49, 50, 51, 52, 53, 54, 55, 56, 57, 58, 59, 60, 61] [304, 377, 402, 446, 490, 503, 571, 639, 735, 803, 899, 983, 1051, 1107, 1175, 1231, 1334, 1402, 1458, 1554, 1622, 1690, 1758, 1814, 1870, 1939, 1980, 2036, 2092, 2148, 2189, 2245, 2301, 2314, 2382, 2395, 2458, 2471, 2539, 2595, 2651, 2664, 2732, 2788, 2844, 2857, 2937, 2950, 2963, 2976, 2989, 3002, 3015, 3111, 3195, 3279, 3363, 3431, 3456, 3469, 3480, 3493] 3518 dL_law__40 (by decide) (by decide) ?_ ?_
      · refine g_sub (lv' := [(0, .ref b), (1, .ref a1), (2, .ref a2), (3, .ref a3), (4, .int x4)]) [0, 1, 2, 3, 4] rfl ?_
        refine g_widen (cells' := (337 + 4 * j + 4)) (slots' := (29787 + 24 * j + 24)) (by first | omega | exact Nat.add_le_add_left (Nat.le_of_ble_eq_true rfl) _) (by first | omega | exact Nat.add_le_add_left (Nat.le_of_ble_eq_true rfl) _) ?_
        exact gW_J3518 B hS9 hr hfl hXs hbl hbA hlo j (by omega) (pW_L23 xs L n) (fun a1 a2 a3 x4 M9 => ih (j + 1) (by omega) a1 a2 a3 x4 M9) a1 a2 a3 x4 M
      · refine ⟨rfl, ?_, ?_, ?_, ?_, ?_, ?_, ?_, ?_, ?_, ?_, ?_, ?_, ?_, ?_, ?_, ?_, ?_, ?_, ?_, ?_, ?_, ?_, ?_, ?_, ?_, ?_, ?_, ?_, ?_, ?_, ?_, ?_, ?_, ?_, ?_, ?_, ?_, ?_, ?_, ?_, ?_, ?_, ?_, ?_, ?_, ?_, ?_, ?_, ?_, ?_, ?_, ?_, ?_, ?_, ?_, ?_, ?_, ?_, ?_, ?_, ?_, ?_, trivial⟩
        · refine g_aload_n B dL_law__304 1 rfl ?_
          refine g_aload_n B dL_law__305 0 rfl ?_
          refine g_iload B dL_law__306 4 rfl ?_
          refine g_iconst (v := 1) B dL_law__308 (by decide) ?_
          refine g_iadd B dL_law__309 ?_
          refine g_sld hXs hbl hbA B dL_law__310 (fun v_3 => ?_)
          refine g_aload_n B dL_law__311 0 rfl ?_
          refine g_iload B dL_law__312 4 rfl ?_
          refine g_iconst (v := 2) B dL_law__314 (by decide) ?_
          refine g_iadd B dL_law__315 ?_
          refine g_sld hXs hbl hbA B dL_law__316 (fun v_4 => ?_)
          refine g_aload_n B dL_law__317 0 rfl ?_
          refine g_iload B dL_law__318 4 rfl ?_
          refine g_iconst (v := 3) B dL_law__320 (by decide) ?_
          refine g_iadd B dL_law__321 ?_
          refine g_sld hXs hbl hbA B dL_law__322 (fun v_5 => ?_)
          refine g_aload_n B dL_law__323 0 rfl ?_
          refine g_iload B dL_law__324 4 rfl ?_
          refine g_iconst (v := 4) B dL_law__326 (by decide) ?_
          refine g_iadd B dL_law__327 ?_
          refine g_sld hXs hbl hbA B dL_law__328 (fun v_6 => ?_)
          refine g_aload_n B dL_law__329 0 rfl ?_
          refine g_iload B dL_law__330 4 rfl ?_
          refine g_iconst (v := 5) B dL_law__332 (by decide) ?_
          refine g_iadd B dL_law__333 ?_
          refine g_sld hXs hbl hbA B dL_law__334 (fun v_7 => ?_)
          refine g_callV_iw [.int v_3, .int v_4, .int v_5, .int v_6, .int v_7] (ci := 10) (T0 := TX11) (N := 18) B hS9 mf11_feed wd_438 (gw B wd_439) wd_437 (by decide) rfl (fun h => (gd_ne h).1) (c11_feed X l a1 v_3 v_4 v_5 v_6 v_7 M) (by decide) (by decide) ⟨by show (337 + 4 * j) + 0 ≤ 601024; omega, by show (29787 + 24 * j) + 0 ≤ 7293034; omega⟩ rfl (by decide) dL_law__335 rfl (fun q_8 => ?_)
          refine g_aload_n B dL_law__338 2 rfl ?_
          refine g_aload_n B dL_law__339 0 rfl ?_
          refine g_iload B dL_law__340 4 rfl ?_
          refine g_iconst (v := 1) B dL_law__342 (by decide) ?_
          refine g_iadd B dL_law__343 ?_
          refine g_sld hXs hbl hbA B dL_law__344 (fun v_9 => ?_)
          refine g_aload_n B dL_law__345 0 rfl ?_
          refine g_iload B dL_law__346 4 rfl ?_
          refine g_iconst (v := 2) B dL_law__348 (by decide) ?_
          refine g_iadd B dL_law__349 ?_
          refine g_sld hXs hbl hbA B dL_law__350 (fun v_10 => ?_)
          refine g_aload_n B dL_law__351 0 rfl ?_
          refine g_iload B dL_law__352 4 rfl ?_
          refine g_iconst (v := 3) B dL_law__354 (by decide) ?_
          refine g_iadd B dL_law__355 ?_
          refine g_sld hXs hbl hbA B dL_law__356 (fun v_11 => ?_)
          refine g_aload_n B dL_law__357 0 rfl ?_
          refine g_iload B dL_law__358 4 rfl ?_
          refine g_iconst (v := 4) B dL_law__360 (by decide) ?_
          refine g_iadd B dL_law__361 ?_
          refine g_sld hXs hbl hbA B dL_law__362 (fun v_12 => ?_)
          refine g_aload_n B dL_law__363 0 rfl ?_
          refine g_iload B dL_law__364 4 rfl ?_
          refine g_iconst (v := 5) B dL_law__366 (by decide) ?_
          refine g_iadd B dL_law__367 ?_
          refine g_sld hXs hbl hbA B dL_law__368 (fun v_13 => ?_)
          refine g_callV_iw [.int v_9, .int v_10, .int v_11, .int v_12, .int v_13] (ci := 11) (T0 := TX12) (N := 27) B hS9 mf12_feed wd_1737 (gw B wd_1738) wd_1736 (by decide) rfl (fun h => (gd_ne h).1) (c12_feed X l a2 v_9 v_10 v_11 v_12 v_13 q_8.2) (by decide) (by decide) ⟨by show (337 + 4 * j) + 0 ≤ 601024; omega, by show (29787 + 24 * j) + 0 ≤ 7293034; omega⟩ rfl (Nat.le_of_ble_eq_true rfl) dL_law__369 rfl (fun q_14 => ?_)
          refine g_icmp_eq B 3518 dL_law__372 (by decide) ?_ ?_
          · refine g_sub (lv' := [(0, .ref b), (1, .ref a1), (2, .ref a2), (3, .ref a3), (4, .int x4)]) [0, 1, 2, 3, 4] rfl ?_
            refine g_widen (cells' := (337 + 4 * j + 4)) (slots' := (29787 + 24 * j + 24)) (by first | omega | exact Nat.add_le_add_left (Nat.le_of_ble_eq_true rfl) _) (by first | omega | exact Nat.add_le_add_left (Nat.le_of_ble_eq_true rfl) _) ?_
            exact gW_J3518 B hS9 hr hfl hXs hbl hbA hlo j (by omega) (pW_L23 xs L n) (fun a1 a2 a3 x4 M9 => ih (j + 1) (by omega) a1 a2 a3 x4 M9) a1 a2 a3 x4 q_14.2
          · refine g_iconst (v := 0) B dL_law__375 (by decide) ?_
            exact g_lawret0 (by decide)
        · refine g_aload_n B dL_law__377 1 rfl ?_
          refine g_aload_n B dL_law__378 0 rfl ?_
          refine g_iload B dL_law__379 4 rfl ?_
          refine g_iconst (v := 1) B dL_law__381 (by decide) ?_
          refine g_iadd B dL_law__382 ?_
          refine g_sld hXs hbl hbA B dL_law__383 (fun v_15 => ?_)
          refine g_callV_iw [.int v_15] (ci := 10) (T0 := TX11) (N := 18) B hS9 mf11_end wd_446 (gw B wd_447) wd_445 (by decide) rfl (fun h => (gd_ne h).1) (c11_end X l a1 v_15 M) (by decide) (by decide) ⟨by show (337 + 4 * j) + 0 ≤ 601024; omega, by show (29787 + 24 * j) + 0 ≤ 7293034; omega⟩ rfl (by decide) dL_law__384 rfl (fun q_16 => ?_)
          refine g_aload_n B dL_law__387 2 rfl ?_
          refine g_aload_n B dL_law__388 0 rfl ?_
          refine g_iload B dL_law__389 4 rfl ?_
          refine g_iconst (v := 1) B dL_law__391 (by decide) ?_
          refine g_iadd B dL_law__392 ?_
          refine g_sld hXs hbl hbA B dL_law__393 (fun v_17 => ?_)
          refine g_callV_iw [.int v_17] (ci := 11) (T0 := TX12) (N := 27) B hS9 mf12_end wd_1741 (gw B wd_1742) wd_1740 (by decide) rfl (fun h => (gd_ne h).1) (c12_end X l a2 v_17 q_16.2) (by decide) (by decide) ⟨by show (337 + 4 * j) + 0 ≤ 601024; omega, by show (29787 + 24 * j) + 0 ≤ 7293034; omega⟩ rfl (Nat.le_of_ble_eq_true rfl) dL_law__394 rfl (fun q_18 => ?_)
          refine g_icmp_eq B 3518 dL_law__397 (by decide) ?_ ?_
          · refine g_sub (lv' := [(0, .ref b), (1, .ref a1), (2, .ref a2), (3, .ref a3), (4, .int x4)]) [0, 1, 2, 3, 4] rfl ?_
            refine g_widen (cells' := (337 + 4 * j + 4)) (slots' := (29787 + 24 * j + 24)) (by first | omega | exact Nat.add_le_add_left (Nat.le_of_ble_eq_true rfl) _) (by first | omega | exact Nat.add_le_add_left (Nat.le_of_ble_eq_true rfl) _) ?_
            exact gW_J3518 B hS9 hr hfl hXs hbl hbA hlo j (by omega) (pW_L23 xs L n) (fun a1 a2 a3 x4 M9 => ih (j + 1) (by omega) a1 a2 a3 x4 M9) a1 a2 a3 x4 q_18.2
          · refine g_iconst (v := 0) B dL_law__400 (by decide) ?_
            exact g_lawret0 (by decide)
        · refine g_aload_n B dL_law__402 1 rfl ?_
          refine g_aload_n B dL_law__403 3 rfl ?_
          refine g_callW [.ref a1, .ref a3] B hS9 mfL_family wd_724 wd_723 (oL_family X l hfl a1 a3 M) (by decide) (by decide) ⟨by show (337 + 4 * j) + 2 ≤ 601024; omega, by show (29787 + 24 * j) + 12 ≤ 7293034; omega⟩ rfl (Nat.le_of_ble_eq_true rfl) dL_law__404 rfl (fun q_19 => ?_)
          refine g_istore (lv' := [(5, .int q_19.1), (0, .ref b), (1, .ref a1), (2, .ref a2), (3, .ref a3), (4, .int x4)]) B dL_law__407 (by decide) [0, 1, 2, 3, 4, 5] rfl ?_
          refine g_aload_n B dL_law__409 3 rfl ?_
          refine g_callV_iw [] (ci := 11) (T0 := TX12) (N := 27) B hS9 mf12_family wd_1749 (gw B wd_1750) wd_1748 (by decide) rfl (fun h => (gd_ne h).1) (c12_family X l a2 q_19.2) (by decide) (by decide) ⟨by show (337 + 4 * j + 2) + 0 ≤ 601024; omega, by show (29787 + 24 * j + 12) + 0 ≤ 7293034; omega⟩ rfl (by decide) dL_law__410 rfl (fun q_20 => ?_)
          refine g_istore (lv' := [(6, .int q_20.1), (5, .int q_19.1), (0, .ref b), (1, .ref a1), (2, .ref a2), (3, .ref a3), (4, .int x4)]) B dL_law__413 (by decide) [0, 1, 2, 3, 4, 5, 6] rfl ?_
          refine g_aload_n B dL_law__415 4 rfl ?_
          refine g_callV_ip [] (ci := 11) (T0 := TX12) (N := 27) B hS9 mf12_thrown wd_1632 (gw B wd_1633) wd_1631 (by decide) rfl (fun h => (gd_ne h).1) (c12_thrown X l a2 q_20.2) (by decide) (by decide) ⟨by show (337 + 4 * j + 2) + 0 ≤ 601024; omega, by show (29787 + 24 * j + 12) + 0 ≤ 7293034; omega⟩ rfl (by decide) dL_law__416 rfl (fun v_21 => ?_)
          refine g_iload B dL_law__419 1 rfl ?_
          refine g_icmp_eq B 426 dL_law__421 (by decide) ?_ ?_
          · refine g_iload B dL_law__426 1 rfl ?_
            refine g_if_ne B 443 dL_law__428 (by decide) ?_ ?_
            · refine g_aload_n B dL_law__431 5 rfl ?_
              refine g_iconst (v := 0) B dL_law__432 (by decide) ?_
              refine g_laload B dL_law__433 (fun v_22 => ?_)
              refine g_iload B dL_law__434 0 rfl ?_
              refine g_i2l B dL_law__436 ?_
              refine g_lcmp B dL_law__437 ?_
              refine g_if_eq B 443 dL_law__438 (by decide) ?_ ?_
              · refine g_sub (lv' := [(0, .ref b), (1, .ref a1), (2, .ref a2), (3, .ref a3), (4, .int x4)]) [2, 3, 4, 5, 6] rfl ?_
                exact gW_J443 B hS9 hr hfl hXs hbl hbA hlo j (by omega) (pW_L23 xs L n) (fun a1 a2 a3 x4 M9 => ih (j + 1) (by omega) a1 a2 a3 x4 M9) a1 a2 a3 x4 q_20.2
              · refine g_iconst (v := 0) B dL_law__441 (by decide) ?_
                exact g_lawret0 (by decide)
            · refine g_sub (lv' := [(0, .ref b), (1, .ref a1), (2, .ref a2), (3, .ref a3), (4, .int x4)]) [2, 3, 4, 5, 6] rfl ?_
              exact gW_J443 B hS9 hr hfl hXs hbl hbA hlo j (by omega) (pW_L23 xs L n) (fun a1 a2 a3 x4 M9 => ih (j + 1) (by omega) a1 a2 a3 x4 M9) a1 a2 a3 x4 q_20.2
          · refine g_iconst (v := 0) B dL_law__424 (by decide) ?_
            exact g_lawret0 (by decide)
        · refine g_aload_n B dL_law__446 1 rfl ?_
          refine g_aload_n B dL_law__447 3 rfl ?_
          refine g_callW [.ref a1, .ref a3] B hS9 mfL_law wd_1061 wd_1060 (oL_law X l hfl a1 a3 M) (by decide) (by decide) ⟨by show (337 + 4 * j) + 1 ≤ 601024; omega, by show (29787 + 24 * j) + 6 ≤ 7293034; omega⟩ rfl (Nat.le_of_ble_eq_true rfl) dL_law__448 rfl (fun q_23 => ?_)
          refine g_istore (lv' := [(5, .int q_23.1), (0, .ref b), (1, .ref a1), (2, .ref a2), (3, .ref a3), (4, .int x4)]) B dL_law__451 (by decide) [0, 1, 2, 3, 4, 5] rfl ?_
          refine g_aload_n B dL_law__453 3 rfl ?_
          refine g_callV_iw [] (ci := 11) (T0 := TX12) (N := 27) B hS9 mf12_law wd_1935 (gw B wd_1936) wd_1934 (by decide) rfl (fun h => (gd_ne h).1) (c12_law X l a2 q_23.2) (by decide) (by decide) ⟨by show (337 + 4 * j + 1) + 0 ≤ 601024; omega, by show (29787 + 24 * j + 6) + 0 ≤ 7293034; omega⟩ rfl (by decide) dL_law__454 rfl (fun q_24 => ?_)
          refine g_istore (lv' := [(6, .int q_24.1), (5, .int q_23.1), (0, .ref b), (1, .ref a1), (2, .ref a2), (3, .ref a3), (4, .int x4)]) B dL_law__457 (by decide) [0, 1, 2, 3, 4, 5, 6] rfl ?_
          refine g_aload_n B dL_law__459 4 rfl ?_
          refine g_callV_ip [] (ci := 11) (T0 := TX12) (N := 27) B hS9 mf12_thrown wd_1632 (gw B wd_1633) wd_1631 (by decide) rfl (fun h => (gd_ne h).1) (c12_thrown X l a2 q_24.2) (by decide) (by decide) ⟨by show (337 + 4 * j + 1) + 0 ≤ 601024; omega, by show (29787 + 24 * j + 6) + 0 ≤ 7293034; omega⟩ rfl (by decide) dL_law__460 rfl (fun v_25 => ?_)
          refine g_iload B dL_law__463 1 rfl ?_
          refine g_icmp_eq B 470 dL_law__465 (by decide) ?_ ?_
          · refine g_iload B dL_law__470 1 rfl ?_
            refine g_if_ne B 487 dL_law__472 (by decide) ?_ ?_
            · refine g_aload_n B dL_law__475 5 rfl ?_
              refine g_iconst (v := 0) B dL_law__476 (by decide) ?_
              refine g_laload B dL_law__477 (fun v_26 => ?_)
              refine g_iload B dL_law__478 0 rfl ?_
              refine g_i2l B dL_law__480 ?_
              refine g_lcmp B dL_law__481 ?_
              refine g_if_eq B 487 dL_law__482 (by decide) ?_ ?_
              · refine g_sub (lv' := [(0, .ref b), (1, .ref a1), (2, .ref a2), (3, .ref a3), (4, .int x4)]) [2, 3, 4, 5, 6] rfl ?_
                exact gW_J487 B hS9 hr hfl hXs hbl hbA hlo j (by omega) (pW_L23 xs L n) (fun a1 a2 a3 x4 M9 => ih (j + 1) (by omega) a1 a2 a3 x4 M9) a1 a2 a3 x4 q_24.2
              · refine g_iconst (v := 0) B dL_law__485 (by decide) ?_
                exact g_lawret0 (by decide)
            · refine g_sub (lv' := [(0, .ref b), (1, .ref a1), (2, .ref a2), (3, .ref a3), (4, .int x4)]) [2, 3, 4, 5, 6] rfl ?_
              exact gW_J487 B hS9 hr hfl hXs hbl hbA hlo j (by omega) (pW_L23 xs L n) (fun a1 a2 a3 x4 M9 => ih (j + 1) (by omega) a1 a2 a3 x4 M9) a1 a2 a3 x4 q_24.2
          · refine g_iconst (v := 0) B dL_law__468 (by decide) ?_
            exact g_lawret0 (by decide)
        · refine g_aload_n B dL_law__490 1 rfl ?_
          refine g_callV_ip [] (ci := 10) (T0 := TX11) (N := 18) B hS9 mf11_fault wd_450 (gw B wd_451) wd_449 (by decide) rfl (fun h => (gd_ne h).1) (c11_fault X l a1 M) (by decide) (by decide) ⟨by show (337 + 4 * j) + 0 ≤ 601024; omega, by show (29787 + 24 * j) + 0 ≤ 7293034; omega⟩ rfl (by decide) dL_law__491 rfl (fun v_27 => ?_)
          refine g_aload_n B dL_law__494 2 rfl ?_
          refine g_callV_iw [] (ci := 11) (T0 := TX12) (N := 27) B hS9 mf12_fault wd_1745 (gw B wd_1746) wd_1744 (by decide) rfl (fun h => (gd_ne h).1) (c12_fault X l a2 M) (by decide) (by decide) ⟨by show (337 + 4 * j) + 0 ≤ 601024; omega, by show (29787 + 24 * j) + 0 ≤ 7293034; omega⟩ rfl (Nat.le_of_ble_eq_true rfl) dL_law__495 rfl (fun q_28 => ?_)
          refine g_icmp_eq B 3518 dL_law__498 (by decide) ?_ ?_
          · refine g_sub (lv' := [(0, .ref b), (1, .ref a1), (2, .ref a2), (3, .ref a3), (4, .int x4)]) [0, 1, 2, 3, 4] rfl ?_
            refine g_widen (cells' := (337 + 4 * j + 4)) (slots' := (29787 + 24 * j + 24)) (by first | omega | exact Nat.add_le_add_left (Nat.le_of_ble_eq_true rfl) _) (by first | omega | exact Nat.add_le_add_left (Nat.le_of_ble_eq_true rfl) _) ?_
            exact gW_J3518 B hS9 hr hfl hXs hbl hbA hlo j (by omega) (pW_L23 xs L n) (fun a1 a2 a3 x4 M9 => ih (j + 1) (by omega) a1 a2 a3 x4 M9) a1 a2 a3 x4 q_28.2
          · refine g_iconst (v := 0) B dL_law__501 (by decide) ?_
            exact g_lawret0 (by decide)
        · refine g_aload_n B dL_law__503 1 rfl ?_
          refine g_aload_n B dL_law__504 0 rfl ?_
          refine g_iload B dL_law__505 4 rfl ?_
          refine g_iconst (v := 1) B dL_law__507 (by decide) ?_
          refine g_iadd B dL_law__508 ?_
          refine g_sld hXs hbl hbA B dL_law__509 (fun v_29 => ?_)
          refine g_aload_n B dL_law__510 0 rfl ?_
          refine g_iload B dL_law__511 4 rfl ?_
          refine g_iconst (v := 2) B dL_law__513 (by decide) ?_
          refine g_iadd B dL_law__514 ?_
          refine g_sld hXs hbl hbA B dL_law__515 (fun v_30 => ?_)
          refine g_aload_n B dL_law__516 3 rfl ?_
          refine g_callW [.ref a1, .int v_29, .int v_30, .ref a3] B hS9 mfL_person wd_1075 wd_1074 (oL_person X l hfl a1 v_29 v_30 a3 M) (by decide) (by decide) ⟨by show (337 + 4 * j) + 2 ≤ 601024; omega, by show (29787 + 24 * j) + 12 ≤ 7293034; omega⟩ rfl (Nat.le_of_ble_eq_true rfl) dL_law__517 rfl (fun q_31 => ?_)
          refine g_istore (lv' := [(5, .int q_31.1), (0, .ref b), (1, .ref a1), (2, .ref a2), (3, .ref a3), (4, .int x4)]) B dL_law__520 (by decide) [0, 1, 2, 3, 4, 5] rfl ?_
          refine g_aload_n B dL_law__522 3 rfl ?_
          refine g_aload_n B dL_law__523 1 rfl ?_
          refine g_iload B dL_law__524 5 rfl ?_
          refine g_iconst (v := 1) B dL_law__526 (by decide) ?_
          refine g_iadd B dL_law__527 ?_
          refine g_sld hXs hbl hbA B dL_law__528 (fun v_32 => ?_)
          refine g_aload_n B dL_law__529 1 rfl ?_
          refine g_iload B dL_law__530 5 rfl ?_
          refine g_iconst (v := 2) B dL_law__532 (by decide) ?_
          refine g_iadd B dL_law__533 ?_
          refine g_sld hXs hbl hbA B dL_law__534 (fun v_33 => ?_)
          refine g_callV_iw [.int v_32, .int v_33] (ci := 11) (T0 := TX12) (N := 27) B hS9 mf12_person wd_1939 (gw B wd_1940) wd_1938 (by decide) rfl (fun h => (gd_ne h).1) (c12_person X l a2 v_32 v_33 q_31.2) (by decide) (by decide) ⟨by show (337 + 4 * j + 2) + 0 ≤ 601024; omega, by show (29787 + 24 * j + 12) + 0 ≤ 7293034; omega⟩ rfl (by decide) dL_law__535 rfl (fun q_34 => ?_)
          refine g_istore (lv' := [(6, .int q_34.1), (5, .int q_31.1), (0, .ref b), (1, .ref a1), (2, .ref a2), (3, .ref a3), (4, .int x4)]) B dL_law__538 (by decide) [0, 1, 2, 3, 4, 5, 6] rfl ?_
          refine g_aload_n B dL_law__540 4 rfl ?_
          refine g_callV_ip [] (ci := 11) (T0 := TX12) (N := 27) B hS9 mf12_thrown wd_1632 (gw B wd_1633) wd_1631 (by decide) rfl (fun h => (gd_ne h).1) (c12_thrown X l a2 q_34.2) (by decide) (by decide) ⟨by show (337 + 4 * j + 2) + 0 ≤ 601024; omega, by show (29787 + 24 * j + 12) + 0 ≤ 7293034; omega⟩ rfl (by decide) dL_law__541 rfl (fun v_35 => ?_)
          refine g_iload B dL_law__544 1 rfl ?_
          refine g_icmp_eq B 551 dL_law__546 (by decide) ?_ ?_
          · refine g_iload B dL_law__551 1 rfl ?_
            refine g_if_ne B 568 dL_law__553 (by decide) ?_ ?_
            · refine g_aload_n B dL_law__556 5 rfl ?_
              refine g_iconst (v := 0) B dL_law__557 (by decide) ?_
              refine g_laload B dL_law__558 (fun v_36 => ?_)
              refine g_iload B dL_law__559 0 rfl ?_
              refine g_i2l B dL_law__561 ?_
              refine g_lcmp B dL_law__562 ?_
              refine g_if_eq B 568 dL_law__563 (by decide) ?_ ?_
              · refine g_sub (lv' := [(0, .ref b), (1, .ref a1), (2, .ref a2), (3, .ref a3), (4, .int x4)]) [2, 3, 4, 5, 6] rfl ?_
                exact gW_J568 B hS9 hr hfl hXs hbl hbA hlo j (by omega) (pW_L23 xs L n) (fun a1 a2 a3 x4 M9 => ih (j + 1) (by omega) a1 a2 a3 x4 M9) a1 a2 a3 x4 q_34.2
              · refine g_iconst (v := 0) B dL_law__566 (by decide) ?_
                exact g_lawret0 (by decide)
            · refine g_sub (lv' := [(0, .ref b), (1, .ref a1), (2, .ref a2), (3, .ref a3), (4, .int x4)]) [2, 3, 4, 5, 6] rfl ?_
              exact gW_J568 B hS9 hr hfl hXs hbl hbA hlo j (by omega) (pW_L23 xs L n) (fun a1 a2 a3 x4 M9 => ih (j + 1) (by omega) a1 a2 a3 x4 M9) a1 a2 a3 x4 q_34.2
          · refine g_iconst (v := 0) B dL_law__549 (by decide) ?_
            exact g_lawret0 (by decide)
        · refine g_aload_n B dL_law__571 1 rfl ?_
          refine g_aload_n B dL_law__572 0 rfl ?_
          refine g_iload B dL_law__573 4 rfl ?_
          refine g_iconst (v := 1) B dL_law__575 (by decide) ?_
          refine g_iadd B dL_law__576 ?_
          refine g_sld hXs hbl hbA B dL_law__577 (fun v_37 => ?_)
          refine g_aload_n B dL_law__578 0 rfl ?_
          refine g_iload B dL_law__579 4 rfl ?_
          refine g_iconst (v := 2) B dL_law__581 (by decide) ?_
          refine g_iadd B dL_law__582 ?_
          refine g_sld hXs hbl hbA B dL_law__583 (fun v_38 => ?_)
          refine g_aload_n B dL_law__584 3 rfl ?_
          refine g_callW [.ref a1, .int v_37, .int v_38, .ref a3] B hS9 mfL_lent wd_1133 wd_1132 (oL_lent X l hfl a1 v_37 v_38 a3 M) (by decide) (by decide) ⟨by show (337 + 4 * j) + 3 ≤ 601024; omega, by show (29787 + 24 * j) + 18 ≤ 7293034; omega⟩ rfl (Nat.le_of_ble_eq_true rfl) dL_law__585 rfl (fun q_39 => ?_)
          refine g_istore (lv' := [(5, .int q_39.1), (0, .ref b), (1, .ref a1), (2, .ref a2), (3, .ref a3), (4, .int x4)]) B dL_law__588 (by decide) [0, 1, 2, 3, 4, 5] rfl ?_
          refine g_aload_n B dL_law__590 3 rfl ?_
          refine g_aload_n B dL_law__591 1 rfl ?_
          refine g_iload B dL_law__592 5 rfl ?_
          refine g_iconst (v := 1) B dL_law__594 (by decide) ?_
          refine g_iadd B dL_law__595 ?_
          refine g_sld hXs hbl hbA B dL_law__596 (fun v_40 => ?_)
          refine g_aload_n B dL_law__597 1 rfl ?_
          refine g_iload B dL_law__598 5 rfl ?_
          refine g_iconst (v := 2) B dL_law__600 (by decide) ?_
          refine g_iadd B dL_law__601 ?_
          refine g_sld hXs hbl hbA B dL_law__602 (fun v_41 => ?_)
          refine g_callV_iw [.int v_40, .int v_41] (ci := 11) (T0 := TX12) (N := 27) B hS9 mf12_lent wd_1969 (gw B wd_1970) wd_1968 (by decide) rfl (fun h => (gd_ne h).1) (c12_lent X l a2 v_40 v_41 q_39.2) (by decide) (by decide) ⟨by show (337 + 4 * j + 3) + 0 ≤ 601024; omega, by show (29787 + 24 * j + 18) + 0 ≤ 7293034; omega⟩ rfl (by decide) dL_law__603 rfl (fun q_42 => ?_)
          refine g_istore (lv' := [(6, .int q_42.1), (5, .int q_39.1), (0, .ref b), (1, .ref a1), (2, .ref a2), (3, .ref a3), (4, .int x4)]) B dL_law__606 (by decide) [0, 1, 2, 3, 4, 5, 6] rfl ?_
          refine g_aload_n B dL_law__608 4 rfl ?_
          refine g_callV_ip [] (ci := 11) (T0 := TX12) (N := 27) B hS9 mf12_thrown wd_1632 (gw B wd_1633) wd_1631 (by decide) rfl (fun h => (gd_ne h).1) (c12_thrown X l a2 q_42.2) (by decide) (by decide) ⟨by show (337 + 4 * j + 3) + 0 ≤ 601024; omega, by show (29787 + 24 * j + 18) + 0 ≤ 7293034; omega⟩ rfl (by decide) dL_law__609 rfl (fun v_43 => ?_)
          refine g_iload B dL_law__612 1 rfl ?_
          refine g_icmp_eq B 619 dL_law__614 (by decide) ?_ ?_
          · refine g_iload B dL_law__619 1 rfl ?_
            refine g_if_ne B 636 dL_law__621 (by decide) ?_ ?_
            · refine g_aload_n B dL_law__624 5 rfl ?_
              refine g_iconst (v := 0) B dL_law__625 (by decide) ?_
              refine g_laload B dL_law__626 (fun v_44 => ?_)
              refine g_iload B dL_law__627 0 rfl ?_
              refine g_i2l B dL_law__629 ?_
              refine g_lcmp B dL_law__630 ?_
              refine g_if_eq B 636 dL_law__631 (by decide) ?_ ?_
              · refine g_sub (lv' := [(0, .ref b), (1, .ref a1), (2, .ref a2), (3, .ref a3), (4, .int x4)]) [2, 3, 4, 5, 6] rfl ?_
                exact gW_J636 B hS9 hr hfl hXs hbl hbA hlo j (by omega) (pW_L23 xs L n) (fun a1 a2 a3 x4 M9 => ih (j + 1) (by omega) a1 a2 a3 x4 M9) a1 a2 a3 x4 q_42.2
              · refine g_iconst (v := 0) B dL_law__634 (by decide) ?_
                exact g_lawret0 (by decide)
            · refine g_sub (lv' := [(0, .ref b), (1, .ref a1), (2, .ref a2), (3, .ref a3), (4, .int x4)]) [2, 3, 4, 5, 6] rfl ?_
              exact gW_J636 B hS9 hr hfl hXs hbl hbA hlo j (by omega) (pW_L23 xs L n) (fun a1 a2 a3 x4 M9 => ih (j + 1) (by omega) a1 a2 a3 x4 M9) a1 a2 a3 x4 q_42.2
          · refine g_iconst (v := 0) B dL_law__617 (by decide) ?_
            exact g_lawret0 (by decide)
        · refine g_aload_n B dL_law__639 1 rfl ?_
          refine g_aload_n B dL_law__640 0 rfl ?_
          refine g_iload B dL_law__641 4 rfl ?_
          refine g_iconst (v := 1) B dL_law__643 (by decide) ?_
          refine g_iadd B dL_law__644 ?_
          refine g_sld hXs hbl hbA B dL_law__645 (fun v_45 => ?_)
          refine g_aload_n B dL_law__646 0 rfl ?_
          refine g_iload B dL_law__647 4 rfl ?_
          refine g_iconst (v := 2) B dL_law__649 (by decide) ?_
          refine g_iadd B dL_law__650 ?_
          refine g_sld hXs hbl hbA B dL_law__651 (fun v_46 => ?_)
          refine g_aload_n B dL_law__652 0 rfl ?_
          refine g_iload B dL_law__653 4 rfl ?_
          refine g_iconst (v := 3) B dL_law__655 (by decide) ?_
          refine g_iadd B dL_law__656 ?_
          refine g_sld hXs hbl hbA B dL_law__657 (fun v_47 => ?_)
          refine g_if_eq B 665 dL_law__658 (by decide) ?_ ?_
          · refine g_iconst (v := 0) B dL_law__665 (by decide) ?_
            refine g_sub (lv' := [(0, .ref b), (1, .ref a1), (2, .ref a2), (3, .ref a3), (4, .int x4)]) [0, 1, 2, 3, 4] rfl ?_
            exact gW_J666 B hS9 hr hfl hXs hbl hbA hlo j (by omega) (pW_L23 xs L n) (fun a1 a2 a3 x4 M9 => ih (j + 1) (by omega) a1 a2 a3 x4 M9) a1 a2 a3 x4 a1 v_45 v_46 0 M
          · refine g_iconst (v := 1) B dL_law__661 (by decide) ?_
            refine g_goto B 666 dL_law__662 (by decide) ?_
            refine g_sub (lv' := [(0, .ref b), (1, .ref a1), (2, .ref a2), (3, .ref a3), (4, .int x4)]) [0, 1, 2, 3, 4] rfl ?_
            exact gW_J666 B hS9 hr hfl hXs hbl hbA hlo j (by omega) (pW_L23 xs L n) (fun a1 a2 a3 x4 M9 => ih (j + 1) (by omega) a1 a2 a3 x4 M9) a1 a2 a3 x4 a1 v_45 v_46 1 M
        · refine g_aload_n B dL_law__735 1 rfl ?_
          refine g_aload_n B dL_law__736 0 rfl ?_
          refine g_iload B dL_law__737 4 rfl ?_
          refine g_iconst (v := 1) B dL_law__739 (by decide) ?_
          refine g_iadd B dL_law__740 ?_
          refine g_sld hXs hbl hbA B dL_law__741 (fun v_48 => ?_)
          refine g_aload_n B dL_law__742 0 rfl ?_
          refine g_iload B dL_law__743 4 rfl ?_
          refine g_iconst (v := 2) B dL_law__745 (by decide) ?_
          refine g_iadd B dL_law__746 ?_
          refine g_sld hXs hbl hbA B dL_law__747 (fun v_49 => ?_)
          refine g_aload_n B dL_law__748 3 rfl ?_
          refine g_callW [.ref a1, .int v_48, .int v_49, .ref a3] B hS9 mfL_gap wd_1154 wd_1153 (oL_gap X l hfl a1 v_48 v_49 a3 M) (by decide) (by decide) ⟨by show (337 + 4 * j) + 3 ≤ 601024; omega, by show (29787 + 24 * j) + 18 ≤ 7293034; omega⟩ rfl (Nat.le_of_ble_eq_true rfl) dL_law__749 rfl (fun q_50 => ?_)
          refine g_istore (lv' := [(5, .int q_50.1), (0, .ref b), (1, .ref a1), (2, .ref a2), (3, .ref a3), (4, .int x4)]) B dL_law__752 (by decide) [0, 1, 2, 3, 4, 5] rfl ?_
          refine g_aload_n B dL_law__754 3 rfl ?_
          refine g_aload_n B dL_law__755 1 rfl ?_
          refine g_iload B dL_law__756 5 rfl ?_
          refine g_iconst (v := 1) B dL_law__758 (by decide) ?_
          refine g_iadd B dL_law__759 ?_
          refine g_sld hXs hbl hbA B dL_law__760 (fun v_51 => ?_)
          refine g_aload_n B dL_law__761 1 rfl ?_
          refine g_iload B dL_law__762 5 rfl ?_
          refine g_iconst (v := 2) B dL_law__764 (by decide) ?_
          refine g_iadd B dL_law__765 ?_
          refine g_sld hXs hbl hbA B dL_law__766 (fun v_52 => ?_)
          refine g_callV_iw [.int v_51, .int v_52] (ci := 11) (T0 := TX12) (N := 27) B hS9 mf12_gap wd_1997 (gw B wd_1998) wd_1996 (by decide) rfl (fun h => (gd_ne h).1) (c12_gap X l a2 v_51 v_52 q_50.2) (by decide) (by decide) ⟨by show (337 + 4 * j + 3) + 0 ≤ 601024; omega, by show (29787 + 24 * j + 18) + 0 ≤ 7293034; omega⟩ rfl (by decide) dL_law__767 rfl (fun q_53 => ?_)
          refine g_istore (lv' := [(6, .int q_53.1), (5, .int q_50.1), (0, .ref b), (1, .ref a1), (2, .ref a2), (3, .ref a3), (4, .int x4)]) B dL_law__770 (by decide) [0, 1, 2, 3, 4, 5, 6] rfl ?_
          refine g_aload_n B dL_law__772 4 rfl ?_
          refine g_callV_ip [] (ci := 11) (T0 := TX12) (N := 27) B hS9 mf12_thrown wd_1632 (gw B wd_1633) wd_1631 (by decide) rfl (fun h => (gd_ne h).1) (c12_thrown X l a2 q_53.2) (by decide) (by decide) ⟨by show (337 + 4 * j + 3) + 0 ≤ 601024; omega, by show (29787 + 24 * j + 18) + 0 ≤ 7293034; omega⟩ rfl (by decide) dL_law__773 rfl (fun v_54 => ?_)
          refine g_iload B dL_law__776 1 rfl ?_
          refine g_icmp_eq B 783 dL_law__778 (by decide) ?_ ?_
          · refine g_iload B dL_law__783 1 rfl ?_
            refine g_if_ne B 800 dL_law__785 (by decide) ?_ ?_
            · refine g_aload_n B dL_law__788 5 rfl ?_
              refine g_iconst (v := 0) B dL_law__789 (by decide) ?_
              refine g_laload B dL_law__790 (fun v_55 => ?_)
              refine g_iload B dL_law__791 0 rfl ?_
              refine g_i2l B dL_law__793 ?_
              refine g_lcmp B dL_law__794 ?_
              refine g_if_eq B 800 dL_law__795 (by decide) ?_ ?_
              · refine g_sub (lv' := [(0, .ref b), (1, .ref a1), (2, .ref a2), (3, .ref a3), (4, .int x4)]) [2, 3, 4, 5, 6] rfl ?_
                exact gW_J800 B hS9 hr hfl hXs hbl hbA hlo j (by omega) (pW_L23 xs L n) (fun a1 a2 a3 x4 M9 => ih (j + 1) (by omega) a1 a2 a3 x4 M9) a1 a2 a3 x4 q_53.2
              · refine g_iconst (v := 0) B dL_law__798 (by decide) ?_
                exact g_lawret0 (by decide)
            · refine g_sub (lv' := [(0, .ref b), (1, .ref a1), (2, .ref a2), (3, .ref a3), (4, .int x4)]) [2, 3, 4, 5, 6] rfl ?_
              exact gW_J800 B hS9 hr hfl hXs hbl hbA hlo j (by omega) (pW_L23 xs L n) (fun a1 a2 a3 x4 M9 => ih (j + 1) (by omega) a1 a2 a3 x4 M9) a1 a2 a3 x4 q_53.2
          · refine g_iconst (v := 0) B dL_law__781 (by decide) ?_
            exact g_lawret0 (by decide)
        · refine g_aload_n B dL_law__803 1 rfl ?_
          refine g_aload_n B dL_law__804 0 rfl ?_
          refine g_iload B dL_law__805 4 rfl ?_
          refine g_iconst (v := 1) B dL_law__807 (by decide) ?_
          refine g_iadd B dL_law__808 ?_
          refine g_sld hXs hbl hbA B dL_law__809 (fun v_56 => ?_)
          refine g_aload_n B dL_law__810 0 rfl ?_
          refine g_iload B dL_law__811 4 rfl ?_
          refine g_iconst (v := 2) B dL_law__813 (by decide) ?_
          refine g_iadd B dL_law__814 ?_
          refine g_sld hXs hbl hbA B dL_law__815 (fun v_57 => ?_)
          refine g_aload_n B dL_law__816 0 rfl ?_
          refine g_iload B dL_law__817 4 rfl ?_
          refine g_iconst (v := 3) B dL_law__819 (by decide) ?_
          refine g_iadd B dL_law__820 ?_
          refine g_sld hXs hbl hbA B dL_law__821 (fun v_58 => ?_)
          refine g_if_eq B 829 dL_law__822 (by decide) ?_ ?_
          · refine g_iconst (v := 0) B dL_law__829 (by decide) ?_
            refine g_sub (lv' := [(0, .ref b), (1, .ref a1), (2, .ref a2), (3, .ref a3), (4, .int x4)]) [0, 1, 2, 3, 4] rfl ?_
            exact gW_J830 B hS9 hr hfl hXs hbl hbA hlo j (by omega) (pW_L23 xs L n) (fun a1 a2 a3 x4 M9 => ih (j + 1) (by omega) a1 a2 a3 x4 M9) a1 a2 a3 x4 a1 v_56 v_57 0 M
          · refine g_iconst (v := 1) B dL_law__825 (by decide) ?_
            refine g_goto B 830 dL_law__826 (by decide) ?_
            refine g_sub (lv' := [(0, .ref b), (1, .ref a1), (2, .ref a2), (3, .ref a3), (4, .int x4)]) [0, 1, 2, 3, 4] rfl ?_
            exact gW_J830 B hS9 hr hfl hXs hbl hbA hlo j (by omega) (pW_L23 xs L n) (fun a1 a2 a3 x4 M9 => ih (j + 1) (by omega) a1 a2 a3 x4 M9) a1 a2 a3 x4 a1 v_56 v_57 1 M
        · refine g_aload_n B dL_law__899 1 rfl ?_
          refine g_aload_n B dL_law__900 0 rfl ?_
          refine g_iload B dL_law__901 4 rfl ?_
          refine g_iconst (v := 1) B dL_law__903 (by decide) ?_
          refine g_iadd B dL_law__904 ?_
          refine g_sld hXs hbl hbA B dL_law__905 (fun v_59 => ?_)
          refine g_aload_n B dL_law__906 0 rfl ?_
          refine g_iload B dL_law__907 4 rfl ?_
          refine g_iconst (v := 2) B dL_law__909 (by decide) ?_
          refine g_iadd B dL_law__910 ?_
          refine g_sld hXs hbl hbA B dL_law__911 (fun v_60 => ?_)
          refine g_if_eq B 919 dL_law__912 (by decide) ?_ ?_
          · refine g_iconst (v := 0) B dL_law__919 (by decide) ?_
            refine g_sub (lv' := [(0, .ref b), (1, .ref a1), (2, .ref a2), (3, .ref a3), (4, .int x4)]) [0, 1, 2, 3, 4] rfl ?_
            exact gW_J920 B hS9 hr hfl hXs hbl hbA hlo j (by omega) (pW_L23 xs L n) (fun a1 a2 a3 x4 M9 => ih (j + 1) (by omega) a1 a2 a3 x4 M9) a1 a2 a3 x4 a1 v_59 0 M
          · refine g_iconst (v := 1) B dL_law__915 (by decide) ?_
            refine g_goto B 920 dL_law__916 (by decide) ?_
            refine g_sub (lv' := [(0, .ref b), (1, .ref a1), (2, .ref a2), (3, .ref a3), (4, .int x4)]) [0, 1, 2, 3, 4] rfl ?_
            exact gW_J920 B hS9 hr hfl hXs hbl hbA hlo j (by omega) (pW_L23 xs L n) (fun a1 a2 a3 x4 M9 => ih (j + 1) (by omega) a1 a2 a3 x4 M9) a1 a2 a3 x4 a1 v_59 1 M
        · refine g_aload_n B dL_law__983 1 rfl ?_
          refine g_aload_n B dL_law__984 0 rfl ?_
          refine g_iload B dL_law__985 4 rfl ?_
          refine g_iconst (v := 1) B dL_law__987 (by decide) ?_
          refine g_iadd B dL_law__988 ?_
          refine g_sld hXs hbl hbA B dL_law__989 (fun v_61 => ?_)
          refine g_aload_n B dL_law__990 0 rfl ?_
          refine g_iload B dL_law__991 4 rfl ?_
          refine g_iconst (v := 2) B dL_law__993 (by decide) ?_
          refine g_iadd B dL_law__994 ?_
          refine g_sld hXs hbl hbA B dL_law__995 (fun v_62 => ?_)
          refine g_aload_n B dL_law__996 3 rfl ?_
          refine g_callW [.ref a1, .int v_61, .int v_62, .ref a3] B hS9 mfL_wed wd_1204 wd_1203 (oL_wed X l hfl a1 v_61 v_62 a3 M) (by decide) (by decide) ⟨by show (337 + 4 * j) + 4 ≤ 601024; omega, by show (29787 + 24 * j) + 24 ≤ 7293034; omega⟩ rfl (Nat.le_of_ble_eq_true rfl) dL_law__997 rfl (fun q_63 => ?_)
          refine g_istore (lv' := [(5, .int q_63.1), (0, .ref b), (1, .ref a1), (2, .ref a2), (3, .ref a3), (4, .int x4)]) B dL_law__1000 (by decide) [0, 1, 2, 3, 4, 5] rfl ?_
          refine g_aload_n B dL_law__1002 3 rfl ?_
          refine g_aload_n B dL_law__1003 1 rfl ?_
          refine g_iload B dL_law__1004 5 rfl ?_
          refine g_iconst (v := 1) B dL_law__1006 (by decide) ?_
          refine g_iadd B dL_law__1007 ?_
          refine g_sld hXs hbl hbA B dL_law__1008 (fun v_64 => ?_)
          refine g_aload_n B dL_law__1009 1 rfl ?_
          refine g_iload B dL_law__1010 5 rfl ?_
          refine g_iconst (v := 2) B dL_law__1012 (by decide) ?_
          refine g_iadd B dL_law__1013 ?_
          refine g_sld hXs hbl hbA B dL_law__1014 (fun v_65 => ?_)
          refine g_callV_iw [.int v_64, .int v_65] (ci := 11) (T0 := TX12) (N := 27) B hS9 mf12_wed wd_2053 (gw B wd_2054) wd_2052 (by decide) rfl (fun h => (gd_ne h).1) (c12_wed X l a2 v_64 v_65 q_63.2) (by decide) (by decide) ⟨by show (337 + 4 * j + 4) + 0 ≤ 601024; omega, by show (29787 + 24 * j + 24) + 0 ≤ 7293034; omega⟩ rfl (by decide) dL_law__1015 rfl (fun q_66 => ?_)
          refine g_istore (lv' := [(6, .int q_66.1), (5, .int q_63.1), (0, .ref b), (1, .ref a1), (2, .ref a2), (3, .ref a3), (4, .int x4)]) B dL_law__1018 (by decide) [0, 1, 2, 3, 4, 5, 6] rfl ?_
          refine g_aload_n B dL_law__1020 4 rfl ?_
          refine g_callV_ip [] (ci := 11) (T0 := TX12) (N := 27) B hS9 mf12_thrown wd_1632 (gw B wd_1633) wd_1631 (by decide) rfl (fun h => (gd_ne h).1) (c12_thrown X l a2 q_66.2) (by decide) (by decide) ⟨by show (337 + 4 * j + 4) + 0 ≤ 601024; omega, by show (29787 + 24 * j + 24) + 0 ≤ 7293034; omega⟩ rfl (by decide) dL_law__1021 rfl (fun v_67 => ?_)
          refine g_iload B dL_law__1024 1 rfl ?_
          refine g_icmp_eq B 1031 dL_law__1026 (by decide) ?_ ?_
          · refine g_iload B dL_law__1031 1 rfl ?_
            refine g_if_ne B 1048 dL_law__1033 (by decide) ?_ ?_
            · refine g_aload_n B dL_law__1036 5 rfl ?_
              refine g_iconst (v := 0) B dL_law__1037 (by decide) ?_
              refine g_laload B dL_law__1038 (fun v_68 => ?_)
              refine g_iload B dL_law__1039 0 rfl ?_
              refine g_i2l B dL_law__1041 ?_
              refine g_lcmp B dL_law__1042 ?_
              refine g_if_eq B 1048 dL_law__1043 (by decide) ?_ ?_
              · refine g_sub (lv' := [(0, .ref b), (1, .ref a1), (2, .ref a2), (3, .ref a3), (4, .int x4)]) [2, 3, 4, 5, 6] rfl ?_
                exact gW_J1048 B hS9 hr hfl hXs hbl hbA hlo j (by omega) (pW_L23 xs L n) (fun a1 a2 a3 x4 M9 => ih (j + 1) (by omega) a1 a2 a3 x4 M9) a1 a2 a3 x4 q_66.2
              · refine g_iconst (v := 0) B dL_law__1046 (by decide) ?_
                exact g_lawret0 (by decide)
            · refine g_sub (lv' := [(0, .ref b), (1, .ref a1), (2, .ref a2), (3, .ref a3), (4, .int x4)]) [2, 3, 4, 5, 6] rfl ?_
              exact gW_J1048 B hS9 hr hfl hXs hbl hbA hlo j (by omega) (pW_L23 xs L n) (fun a1 a2 a3 x4 M9 => ih (j + 1) (by omega) a1 a2 a3 x4 M9) a1 a2 a3 x4 q_66.2
          · refine g_iconst (v := 0) B dL_law__1029 (by decide) ?_
            exact g_lawret0 (by decide)
        · refine g_aload_n B dL_law__1051 1 rfl ?_
          refine g_aload_n B dL_law__1052 0 rfl ?_
          refine g_iload B dL_law__1053 4 rfl ?_
          refine g_iconst (v := 1) B dL_law__1055 (by decide) ?_
          refine g_iadd B dL_law__1056 ?_
          refine g_sld hXs hbl hbA B dL_law__1057 (fun v_69 => ?_)
          refine g_aload_n B dL_law__1058 3 rfl ?_
          refine g_callW [.ref a1, .int v_69, .ref a3] B hS9 mfL_part wd_1213 wd_1212 (oL_part X l hfl a1 v_69 a3 M) (by decide) (by decide) ⟨by show (337 + 4 * j) + 2 ≤ 601024; omega, by show (29787 + 24 * j) + 12 ≤ 7293034; omega⟩ rfl (Nat.le_of_ble_eq_true rfl) dL_law__1059 rfl (fun q_70 => ?_)
          refine g_istore (lv' := [(5, .int q_70.1), (0, .ref b), (1, .ref a1), (2, .ref a2), (3, .ref a3), (4, .int x4)]) B dL_law__1062 (by decide) [0, 1, 2, 3, 4, 5] rfl ?_
          refine g_aload_n B dL_law__1064 3 rfl ?_
          refine g_aload_n B dL_law__1065 1 rfl ?_
          refine g_iload B dL_law__1066 5 rfl ?_
          refine g_iconst (v := 1) B dL_law__1068 (by decide) ?_
          refine g_iadd B dL_law__1069 ?_
          refine g_sld hXs hbl hbA B dL_law__1070 (fun v_71 => ?_)
          refine g_callV_iw [.int v_71] (ci := 11) (T0 := TX12) (N := 27) B hS9 mf12_part wd_2057 (gw B wd_2058) wd_2056 (by decide) rfl (fun h => (gd_ne h).1) (c12_part X l a2 v_71 q_70.2) (by decide) (by decide) ⟨by show (337 + 4 * j + 2) + 0 ≤ 601024; omega, by show (29787 + 24 * j + 12) + 0 ≤ 7293034; omega⟩ rfl (by decide) dL_law__1071 rfl (fun q_72 => ?_)
          refine g_istore (lv' := [(6, .int q_72.1), (5, .int q_70.1), (0, .ref b), (1, .ref a1), (2, .ref a2), (3, .ref a3), (4, .int x4)]) B dL_law__1074 (by decide) [0, 1, 2, 3, 4, 5, 6] rfl ?_
          refine g_aload_n B dL_law__1076 4 rfl ?_
          refine g_callV_ip [] (ci := 11) (T0 := TX12) (N := 27) B hS9 mf12_thrown wd_1632 (gw B wd_1633) wd_1631 (by decide) rfl (fun h => (gd_ne h).1) (c12_thrown X l a2 q_72.2) (by decide) (by decide) ⟨by show (337 + 4 * j + 2) + 0 ≤ 601024; omega, by show (29787 + 24 * j + 12) + 0 ≤ 7293034; omega⟩ rfl (by decide) dL_law__1077 rfl (fun v_73 => ?_)
          refine g_iload B dL_law__1080 1 rfl ?_
          refine g_icmp_eq B 1087 dL_law__1082 (by decide) ?_ ?_
          · refine g_iload B dL_law__1087 1 rfl ?_
            refine g_if_ne B 1104 dL_law__1089 (by decide) ?_ ?_
            · refine g_aload_n B dL_law__1092 5 rfl ?_
              refine g_iconst (v := 0) B dL_law__1093 (by decide) ?_
              refine g_laload B dL_law__1094 (fun v_74 => ?_)
              refine g_iload B dL_law__1095 0 rfl ?_
              refine g_i2l B dL_law__1097 ?_
              refine g_lcmp B dL_law__1098 ?_
              refine g_if_eq B 1104 dL_law__1099 (by decide) ?_ ?_
              · refine g_sub (lv' := [(0, .ref b), (1, .ref a1), (2, .ref a2), (3, .ref a3), (4, .int x4)]) [2, 3, 4, 5, 6] rfl ?_
                exact gW_J1104 B hS9 hr hfl hXs hbl hbA hlo j (by omega) (pW_L23 xs L n) (fun a1 a2 a3 x4 M9 => ih (j + 1) (by omega) a1 a2 a3 x4 M9) a1 a2 a3 x4 q_72.2
              · refine g_iconst (v := 0) B dL_law__1102 (by decide) ?_
                exact g_lawret0 (by decide)
            · refine g_sub (lv' := [(0, .ref b), (1, .ref a1), (2, .ref a2), (3, .ref a3), (4, .int x4)]) [2, 3, 4, 5, 6] rfl ?_
              exact gW_J1104 B hS9 hr hfl hXs hbl hbA hlo j (by omega) (pW_L23 xs L n) (fun a1 a2 a3 x4 M9 => ih (j + 1) (by omega) a1 a2 a3 x4 M9) a1 a2 a3 x4 q_72.2
          · refine g_iconst (v := 0) B dL_law__1085 (by decide) ?_
            exact g_lawret0 (by decide)
        · refine g_aload_n B dL_law__1107 1 rfl ?_
          refine g_aload_n B dL_law__1108 0 rfl ?_
          refine g_iload B dL_law__1109 4 rfl ?_
          refine g_iconst (v := 1) B dL_law__1111 (by decide) ?_
          refine g_iadd B dL_law__1112 ?_
          refine g_sld hXs hbl hbA B dL_law__1113 (fun v_75 => ?_)
          refine g_aload_n B dL_law__1114 0 rfl ?_
          refine g_iload B dL_law__1115 4 rfl ?_
          refine g_iconst (v := 2) B dL_law__1117 (by decide) ?_
          refine g_iadd B dL_law__1118 ?_
          refine g_sld hXs hbl hbA B dL_law__1119 (fun v_76 => ?_)
          refine g_aload_n B dL_law__1120 3 rfl ?_
          refine g_callW [.ref a1, .int v_75, .int v_76, .ref a3] B hS9 mfL_lend wd_1220 wd_1219 (oL_lend X l hfl a1 v_75 v_76 a3 M) (by decide) (by decide) ⟨by show (337 + 4 * j) + 4 ≤ 601024; omega, by show (29787 + 24 * j) + 24 ≤ 7293034; omega⟩ rfl (Nat.le_of_ble_eq_true rfl) dL_law__1121 rfl (fun q_77 => ?_)
          refine g_istore (lv' := [(5, .int q_77.1), (0, .ref b), (1, .ref a1), (2, .ref a2), (3, .ref a3), (4, .int x4)]) B dL_law__1124 (by decide) [0, 1, 2, 3, 4, 5] rfl ?_
          refine g_aload_n B dL_law__1126 3 rfl ?_
          refine g_aload_n B dL_law__1127 1 rfl ?_
          refine g_iload B dL_law__1128 5 rfl ?_
          refine g_iconst (v := 1) B dL_law__1130 (by decide) ?_
          refine g_iadd B dL_law__1131 ?_
          refine g_sld hXs hbl hbA B dL_law__1132 (fun v_78 => ?_)
          refine g_aload_n B dL_law__1133 1 rfl ?_
          refine g_iload B dL_law__1134 5 rfl ?_
          refine g_iconst (v := 2) B dL_law__1136 (by decide) ?_
          refine g_iadd B dL_law__1137 ?_
          refine g_sld hXs hbl hbA B dL_law__1138 (fun v_79 => ?_)
          refine g_callV_iw [.int v_78, .int v_79] (ci := 11) (T0 := TX12) (N := 27) B hS9 mf12_lend wd_2061 (gw B wd_2062) wd_2060 (by decide) rfl (fun h => (gd_ne h).1) (c12_lend X l a2 v_78 v_79 q_77.2) (by decide) (by decide) ⟨by show (337 + 4 * j + 4) + 0 ≤ 601024; omega, by show (29787 + 24 * j + 24) + 0 ≤ 7293034; omega⟩ rfl (by decide) dL_law__1139 rfl (fun q_80 => ?_)
          refine g_istore (lv' := [(6, .int q_80.1), (5, .int q_77.1), (0, .ref b), (1, .ref a1), (2, .ref a2), (3, .ref a3), (4, .int x4)]) B dL_law__1142 (by decide) [0, 1, 2, 3, 4, 5, 6] rfl ?_
          refine g_aload_n B dL_law__1144 4 rfl ?_
          refine g_callV_ip [] (ci := 11) (T0 := TX12) (N := 27) B hS9 mf12_thrown wd_1632 (gw B wd_1633) wd_1631 (by decide) rfl (fun h => (gd_ne h).1) (c12_thrown X l a2 q_80.2) (by decide) (by decide) ⟨by show (337 + 4 * j + 4) + 0 ≤ 601024; omega, by show (29787 + 24 * j + 24) + 0 ≤ 7293034; omega⟩ rfl (by decide) dL_law__1145 rfl (fun v_81 => ?_)
          refine g_iload B dL_law__1148 1 rfl ?_
          refine g_icmp_eq B 1155 dL_law__1150 (by decide) ?_ ?_
          · refine g_iload B dL_law__1155 1 rfl ?_
            refine g_if_ne B 1172 dL_law__1157 (by decide) ?_ ?_
            · refine g_aload_n B dL_law__1160 5 rfl ?_
              refine g_iconst (v := 0) B dL_law__1161 (by decide) ?_
              refine g_laload B dL_law__1162 (fun v_82 => ?_)
              refine g_iload B dL_law__1163 0 rfl ?_
              refine g_i2l B dL_law__1165 ?_
              refine g_lcmp B dL_law__1166 ?_
              refine g_if_eq B 1172 dL_law__1167 (by decide) ?_ ?_
              · refine g_sub (lv' := [(0, .ref b), (1, .ref a1), (2, .ref a2), (3, .ref a3), (4, .int x4)]) [2, 3, 4, 5, 6] rfl ?_
                exact gW_J1172 B hS9 hr hfl hXs hbl hbA hlo j (by omega) (pW_L23 xs L n) (fun a1 a2 a3 x4 M9 => ih (j + 1) (by omega) a1 a2 a3 x4 M9) a1 a2 a3 x4 q_80.2
              · refine g_iconst (v := 0) B dL_law__1170 (by decide) ?_
                exact g_lawret0 (by decide)
            · refine g_sub (lv' := [(0, .ref b), (1, .ref a1), (2, .ref a2), (3, .ref a3), (4, .int x4)]) [2, 3, 4, 5, 6] rfl ?_
              exact gW_J1172 B hS9 hr hfl hXs hbl hbA hlo j (by omega) (pW_L23 xs L n) (fun a1 a2 a3 x4 M9 => ih (j + 1) (by omega) a1 a2 a3 x4 M9) a1 a2 a3 x4 q_80.2
          · refine g_iconst (v := 0) B dL_law__1153 (by decide) ?_
            exact g_lawret0 (by decide)
        · refine g_aload_n B dL_law__1175 1 rfl ?_
          refine g_aload_n B dL_law__1176 0 rfl ?_
          refine g_iload B dL_law__1177 4 rfl ?_
          refine g_iconst (v := 1) B dL_law__1179 (by decide) ?_
          refine g_iadd B dL_law__1180 ?_
          refine g_sld hXs hbl hbA B dL_law__1181 (fun v_83 => ?_)
          refine g_aload_n B dL_law__1182 3 rfl ?_
          refine g_callW [.ref a1, .int v_83, .ref a3] B hS9 mfL_use wd_1231 wd_1230 (oL_use X l hfl a1 v_83 a3 M) (by decide) (by decide) ⟨by show (337 + 4 * j) + 2 ≤ 601024; omega, by show (29787 + 24 * j) + 12 ≤ 7293034; omega⟩ rfl (Nat.le_of_ble_eq_true rfl) dL_law__1183 rfl (fun q_84 => ?_)
          refine g_istore (lv' := [(5, .int q_84.1), (0, .ref b), (1, .ref a1), (2, .ref a2), (3, .ref a3), (4, .int x4)]) B dL_law__1186 (by decide) [0, 1, 2, 3, 4, 5] rfl ?_
          refine g_aload_n B dL_law__1188 3 rfl ?_
          refine g_aload_n B dL_law__1189 1 rfl ?_
          refine g_iload B dL_law__1190 5 rfl ?_
          refine g_iconst (v := 1) B dL_law__1192 (by decide) ?_
          refine g_iadd B dL_law__1193 ?_
          refine g_sld hXs hbl hbA B dL_law__1194 (fun v_85 => ?_)
          refine g_callV_iw [.int v_85] (ci := 11) (T0 := TX12) (N := 27) B hS9 mf12_use wd_2065 (gw B wd_2066) wd_2064 (by decide) rfl (fun h => (gd_ne h).1) (c12_use X l a2 v_85 q_84.2) (by decide) (by decide) ⟨by show (337 + 4 * j + 2) + 0 ≤ 601024; omega, by show (29787 + 24 * j + 12) + 0 ≤ 7293034; omega⟩ rfl (by decide) dL_law__1195 rfl (fun q_86 => ?_)
          refine g_istore (lv' := [(6, .int q_86.1), (5, .int q_84.1), (0, .ref b), (1, .ref a1), (2, .ref a2), (3, .ref a3), (4, .int x4)]) B dL_law__1198 (by decide) [0, 1, 2, 3, 4, 5, 6] rfl ?_
          refine g_aload_n B dL_law__1200 4 rfl ?_
          refine g_callV_ip [] (ci := 11) (T0 := TX12) (N := 27) B hS9 mf12_thrown wd_1632 (gw B wd_1633) wd_1631 (by decide) rfl (fun h => (gd_ne h).1) (c12_thrown X l a2 q_86.2) (by decide) (by decide) ⟨by show (337 + 4 * j + 2) + 0 ≤ 601024; omega, by show (29787 + 24 * j + 12) + 0 ≤ 7293034; omega⟩ rfl (by decide) dL_law__1201 rfl (fun v_87 => ?_)
          refine g_iload B dL_law__1204 1 rfl ?_
          refine g_icmp_eq B 1211 dL_law__1206 (by decide) ?_ ?_
          · refine g_iload B dL_law__1211 1 rfl ?_
            refine g_if_ne B 1228 dL_law__1213 (by decide) ?_ ?_
            · refine g_aload_n B dL_law__1216 5 rfl ?_
              refine g_iconst (v := 0) B dL_law__1217 (by decide) ?_
              refine g_laload B dL_law__1218 (fun v_88 => ?_)
              refine g_iload B dL_law__1219 0 rfl ?_
              refine g_i2l B dL_law__1221 ?_
              refine g_lcmp B dL_law__1222 ?_
              refine g_if_eq B 1228 dL_law__1223 (by decide) ?_ ?_
              · refine g_sub (lv' := [(0, .ref b), (1, .ref a1), (2, .ref a2), (3, .ref a3), (4, .int x4)]) [2, 3, 4, 5, 6] rfl ?_
                exact gW_J1228 B hS9 hr hfl hXs hbl hbA hlo j (by omega) (pW_L23 xs L n) (fun a1 a2 a3 x4 M9 => ih (j + 1) (by omega) a1 a2 a3 x4 M9) a1 a2 a3 x4 q_86.2
              · refine g_iconst (v := 0) B dL_law__1226 (by decide) ?_
                exact g_lawret0 (by decide)
            · refine g_sub (lv' := [(0, .ref b), (1, .ref a1), (2, .ref a2), (3, .ref a3), (4, .int x4)]) [2, 3, 4, 5, 6] rfl ?_
              exact gW_J1228 B hS9 hr hfl hXs hbl hbA hlo j (by omega) (pW_L23 xs L n) (fun a1 a2 a3 x4 M9 => ih (j + 1) (by omega) a1 a2 a3 x4 M9) a1 a2 a3 x4 q_86.2
          · refine g_iconst (v := 0) B dL_law__1209 (by decide) ?_
            exact g_lawret0 (by decide)
        · refine g_aload_n B dL_law__1231 1 rfl ?_
          refine g_aload_n B dL_law__1232 0 rfl ?_
          refine g_iload B dL_law__1233 4 rfl ?_
          refine g_iconst (v := 1) B dL_law__1235 (by decide) ?_
          refine g_iadd B dL_law__1236 ?_
          refine g_sld hXs hbl hbA B dL_law__1237 (fun v_89 => ?_)
          refine g_aload_n B dL_law__1238 0 rfl ?_
          refine g_iload B dL_law__1239 4 rfl ?_
          refine g_iconst (v := 2) B dL_law__1241 (by decide) ?_
          refine g_iadd B dL_law__1242 ?_
          refine g_sld hXs hbl hbA B dL_law__1243 (fun v_90 => ?_)
          refine g_aload_n B dL_law__1244 0 rfl ?_
          refine g_iload B dL_law__1245 4 rfl ?_
          refine g_iconst (v := 3) B dL_law__1247 (by decide) ?_
          refine g_iadd B dL_law__1248 ?_
          refine g_sld hXs hbl hbA B dL_law__1249 (fun v_91 => ?_)
          refine g_if_eq B 1257 dL_law__1250 (by decide) ?_ ?_
          · refine g_iconst (v := 0) B dL_law__1257 (by decide) ?_
            refine g_sub (lv' := [(0, .ref b), (1, .ref a1), (2, .ref a2), (3, .ref a3), (4, .int x4)]) [0, 1, 2, 3, 4] rfl ?_
            exact gW_J1258 B hS9 hr hfl hXs hbl hbA hlo j (by omega) (pW_L23 xs L n) (fun a1 a2 a3 x4 M9 => ih (j + 1) (by omega) a1 a2 a3 x4 M9) a1 a2 a3 x4 a1 v_89 v_90 0 M
          · refine g_iconst (v := 1) B dL_law__1253 (by decide) ?_
            refine g_goto B 1258 dL_law__1254 (by decide) ?_
            refine g_sub (lv' := [(0, .ref b), (1, .ref a1), (2, .ref a2), (3, .ref a3), (4, .int x4)]) [0, 1, 2, 3, 4] rfl ?_
            exact gW_J1258 B hS9 hr hfl hXs hbl hbA hlo j (by omega) (pW_L23 xs L n) (fun a1 a2 a3 x4 M9 => ih (j + 1) (by omega) a1 a2 a3 x4 M9) a1 a2 a3 x4 a1 v_89 v_90 1 M
        · refine g_aload_n B dL_law__1334 1 rfl ?_
          refine g_aload_n B dL_law__1335 0 rfl ?_
          refine g_iload B dL_law__1336 4 rfl ?_
          refine g_iconst (v := 1) B dL_law__1338 (by decide) ?_
          refine g_iadd B dL_law__1339 ?_
          refine g_sld hXs hbl hbA B dL_law__1340 (fun v_92 => ?_)
          refine g_aload_n B dL_law__1341 0 rfl ?_
          refine g_iload B dL_law__1342 4 rfl ?_
          refine g_iconst (v := 2) B dL_law__1344 (by decide) ?_
          refine g_iadd B dL_law__1345 ?_
          refine g_sld hXs hbl hbA B dL_law__1346 (fun v_93 => ?_)
          refine g_aload_n B dL_law__1347 3 rfl ?_
          refine g_callW [.ref a1, .int v_92, .int v_93, .ref a3] B hS9 mfL_stern wd_1246 wd_1245 (oL_stern X l hfl a1 v_92 v_93 a3 M) (by decide) (by decide) ⟨by show (337 + 4 * j) + 2 ≤ 601024; omega, by show (29787 + 24 * j) + 12 ≤ 7293034; omega⟩ rfl (Nat.le_of_ble_eq_true rfl) dL_law__1348 rfl (fun q_94 => ?_)
          refine g_istore (lv' := [(5, .int q_94.1), (0, .ref b), (1, .ref a1), (2, .ref a2), (3, .ref a3), (4, .int x4)]) B dL_law__1351 (by decide) [0, 1, 2, 3, 4, 5] rfl ?_
          refine g_aload_n B dL_law__1353 3 rfl ?_
          refine g_aload_n B dL_law__1354 1 rfl ?_
          refine g_iload B dL_law__1355 5 rfl ?_
          refine g_iconst (v := 1) B dL_law__1357 (by decide) ?_
          refine g_iadd B dL_law__1358 ?_
          refine g_sld hXs hbl hbA B dL_law__1359 (fun v_95 => ?_)
          refine g_aload_n B dL_law__1360 1 rfl ?_
          refine g_iload B dL_law__1361 5 rfl ?_
          refine g_iconst (v := 2) B dL_law__1363 (by decide) ?_
          refine g_iadd B dL_law__1364 ?_
          refine g_sld hXs hbl hbA B dL_law__1365 (fun v_96 => ?_)
          refine g_callV_iw [.int v_95, .int v_96] (ci := 11) (T0 := TX12) (N := 27) B hS9 mf12_stern wd_2073 (gw B wd_2074) wd_2072 (by decide) rfl (fun h => (gd_ne h).1) (c12_stern X l a2 v_95 v_96 q_94.2) (by decide) (by decide) ⟨by show (337 + 4 * j + 2) + 0 ≤ 601024; omega, by show (29787 + 24 * j + 12) + 0 ≤ 7293034; omega⟩ rfl (by decide) dL_law__1366 rfl (fun q_97 => ?_)
          refine g_istore (lv' := [(6, .int q_97.1), (5, .int q_94.1), (0, .ref b), (1, .ref a1), (2, .ref a2), (3, .ref a3), (4, .int x4)]) B dL_law__1369 (by decide) [0, 1, 2, 3, 4, 5, 6] rfl ?_
          refine g_aload_n B dL_law__1371 4 rfl ?_
          refine g_callV_ip [] (ci := 11) (T0 := TX12) (N := 27) B hS9 mf12_thrown wd_1632 (gw B wd_1633) wd_1631 (by decide) rfl (fun h => (gd_ne h).1) (c12_thrown X l a2 q_97.2) (by decide) (by decide) ⟨by show (337 + 4 * j + 2) + 0 ≤ 601024; omega, by show (29787 + 24 * j + 12) + 0 ≤ 7293034; omega⟩ rfl (by decide) dL_law__1372 rfl (fun v_98 => ?_)
          refine g_iload B dL_law__1375 1 rfl ?_
          refine g_icmp_eq B 1382 dL_law__1377 (by decide) ?_ ?_
          · refine g_iload B dL_law__1382 1 rfl ?_
            refine g_if_ne B 1399 dL_law__1384 (by decide) ?_ ?_
            · refine g_aload_n B dL_law__1387 5 rfl ?_
              refine g_iconst (v := 0) B dL_law__1388 (by decide) ?_
              refine g_laload B dL_law__1389 (fun v_99 => ?_)
              refine g_iload B dL_law__1390 0 rfl ?_
              refine g_i2l B dL_law__1392 ?_
              refine g_lcmp B dL_law__1393 ?_
              refine g_if_eq B 1399 dL_law__1394 (by decide) ?_ ?_
              · refine g_sub (lv' := [(0, .ref b), (1, .ref a1), (2, .ref a2), (3, .ref a3), (4, .int x4)]) [2, 3, 4, 5, 6] rfl ?_
                exact gW_J1399 B hS9 hr hfl hXs hbl hbA hlo j (by omega) (pW_L23 xs L n) (fun a1 a2 a3 x4 M9 => ih (j + 1) (by omega) a1 a2 a3 x4 M9) a1 a2 a3 x4 q_97.2
              · refine g_iconst (v := 0) B dL_law__1397 (by decide) ?_
                exact g_lawret0 (by decide)
            · refine g_sub (lv' := [(0, .ref b), (1, .ref a1), (2, .ref a2), (3, .ref a3), (4, .int x4)]) [2, 3, 4, 5, 6] rfl ?_
              exact gW_J1399 B hS9 hr hfl hXs hbl hbA hlo j (by omega) (pW_L23 xs L n) (fun a1 a2 a3 x4 M9 => ih (j + 1) (by omega) a1 a2 a3 x4 M9) a1 a2 a3 x4 q_97.2
          · refine g_iconst (v := 0) B dL_law__1380 (by decide) ?_
            exact g_lawret0 (by decide)
        · refine g_aload_n B dL_law__1402 1 rfl ?_
          refine g_aload_n B dL_law__1403 0 rfl ?_
          refine g_iload B dL_law__1404 4 rfl ?_
          refine g_iconst (v := 1) B dL_law__1406 (by decide) ?_
          refine g_iadd B dL_law__1407 ?_
          refine g_sld hXs hbl hbA B dL_law__1408 (fun v_100 => ?_)
          refine g_aload_n B dL_law__1409 3 rfl ?_
          refine g_callW [.ref a1, .int v_100, .ref a3] B hS9 mfL_days wd_1257 wd_1256 (oL_days X l hfl a1 v_100 a3 M) (by decide) (by decide) ⟨by show (337 + 4 * j) + 1 ≤ 601024; omega, by show (29787 + 24 * j) + 6 ≤ 7293034; omega⟩ rfl (Nat.le_of_ble_eq_true rfl) dL_law__1410 rfl (fun q_101 => ?_)
          refine g_istore (lv' := [(5, .int q_101.1), (0, .ref b), (1, .ref a1), (2, .ref a2), (3, .ref a3), (4, .int x4)]) B dL_law__1413 (by decide) [0, 1, 2, 3, 4, 5] rfl ?_
          refine g_aload_n B dL_law__1415 3 rfl ?_
          refine g_aload_n B dL_law__1416 1 rfl ?_
          refine g_iload B dL_law__1417 5 rfl ?_
          refine g_iconst (v := 1) B dL_law__1419 (by decide) ?_
          refine g_iadd B dL_law__1420 ?_
          refine g_sld hXs hbl hbA B dL_law__1421 (fun v_102 => ?_)
          refine g_callV_iw [.int v_102] (ci := 11) (T0 := TX12) (N := 27) B hS9 mf12_days wd_2077 (gw B wd_2078) wd_2076 (by decide) rfl (fun h => (gd_ne h).1) (c12_days X l a2 v_102 q_101.2) (by decide) (by decide) ⟨by show (337 + 4 * j + 1) + 0 ≤ 601024; omega, by show (29787 + 24 * j + 6) + 0 ≤ 7293034; omega⟩ rfl (by decide) dL_law__1422 rfl (fun q_103 => ?_)
          refine g_istore (lv' := [(6, .int q_103.1), (5, .int q_101.1), (0, .ref b), (1, .ref a1), (2, .ref a2), (3, .ref a3), (4, .int x4)]) B dL_law__1425 (by decide) [0, 1, 2, 3, 4, 5, 6] rfl ?_
          refine g_aload_n B dL_law__1427 4 rfl ?_
          refine g_callV_ip [] (ci := 11) (T0 := TX12) (N := 27) B hS9 mf12_thrown wd_1632 (gw B wd_1633) wd_1631 (by decide) rfl (fun h => (gd_ne h).1) (c12_thrown X l a2 q_103.2) (by decide) (by decide) ⟨by show (337 + 4 * j + 1) + 0 ≤ 601024; omega, by show (29787 + 24 * j + 6) + 0 ≤ 7293034; omega⟩ rfl (by decide) dL_law__1428 rfl (fun v_104 => ?_)
          refine g_iload B dL_law__1431 1 rfl ?_
          refine g_icmp_eq B 1438 dL_law__1433 (by decide) ?_ ?_
          · refine g_iload B dL_law__1438 1 rfl ?_
            refine g_if_ne B 1455 dL_law__1440 (by decide) ?_ ?_
            · refine g_aload_n B dL_law__1443 5 rfl ?_
              refine g_iconst (v := 0) B dL_law__1444 (by decide) ?_
              refine g_laload B dL_law__1445 (fun v_105 => ?_)
              refine g_iload B dL_law__1446 0 rfl ?_
              refine g_i2l B dL_law__1448 ?_
              refine g_lcmp B dL_law__1449 ?_
              refine g_if_eq B 1455 dL_law__1450 (by decide) ?_ ?_
              · refine g_sub (lv' := [(0, .ref b), (1, .ref a1), (2, .ref a2), (3, .ref a3), (4, .int x4)]) [2, 3, 4, 5, 6] rfl ?_
                exact gW_J1455 B hS9 hr hfl hXs hbl hbA hlo j (by omega) (pW_L23 xs L n) (fun a1 a2 a3 x4 M9 => ih (j + 1) (by omega) a1 a2 a3 x4 M9) a1 a2 a3 x4 q_103.2
              · refine g_iconst (v := 0) B dL_law__1453 (by decide) ?_
                exact g_lawret0 (by decide)
            · refine g_sub (lv' := [(0, .ref b), (1, .ref a1), (2, .ref a2), (3, .ref a3), (4, .int x4)]) [2, 3, 4, 5, 6] rfl ?_
              exact gW_J1455 B hS9 hr hfl hXs hbl hbA hlo j (by omega) (pW_L23 xs L n) (fun a1 a2 a3 x4 M9 => ih (j + 1) (by omega) a1 a2 a3 x4 M9) a1 a2 a3 x4 q_103.2
          · refine g_iconst (v := 0) B dL_law__1436 (by decide) ?_
            exact g_lawret0 (by decide)
        · refine g_aload_n B dL_law__1458 1 rfl ?_
          refine g_aload_n B dL_law__1459 0 rfl ?_
          refine g_iload B dL_law__1460 4 rfl ?_
          refine g_iconst (v := 1) B dL_law__1462 (by decide) ?_
          refine g_iadd B dL_law__1463 ?_
          refine g_sld hXs hbl hbA B dL_law__1464 (fun v_106 => ?_)
          refine g_aload_n B dL_law__1465 0 rfl ?_
          refine g_iload B dL_law__1466 4 rfl ?_
          refine g_iconst (v := 2) B dL_law__1468 (by decide) ?_
          refine g_iadd B dL_law__1469 ?_
          refine g_sld hXs hbl hbA B dL_law__1470 (fun v_107 => ?_)
          refine g_aload_n B dL_law__1471 0 rfl ?_
          refine g_iload B dL_law__1472 4 rfl ?_
          refine g_iconst (v := 3) B dL_law__1474 (by decide) ?_
          refine g_iadd B dL_law__1475 ?_
          refine g_sld hXs hbl hbA B dL_law__1476 (fun v_108 => ?_)
          refine g_if_eq B 1484 dL_law__1477 (by decide) ?_ ?_
          · refine g_iconst (v := 0) B dL_law__1484 (by decide) ?_
            refine g_sub (lv' := [(0, .ref b), (1, .ref a1), (2, .ref a2), (3, .ref a3), (4, .int x4)]) [0, 1, 2, 3, 4] rfl ?_
            exact gW_J1485 B hS9 hr hfl hXs hbl hbA hlo j (by omega) (pW_L23 xs L n) (fun a1 a2 a3 x4 M9 => ih (j + 1) (by omega) a1 a2 a3 x4 M9) a1 a2 a3 x4 a1 v_106 v_107 0 M
          · refine g_iconst (v := 1) B dL_law__1480 (by decide) ?_
            refine g_goto B 1485 dL_law__1481 (by decide) ?_
            refine g_sub (lv' := [(0, .ref b), (1, .ref a1), (2, .ref a2), (3, .ref a3), (4, .int x4)]) [0, 1, 2, 3, 4] rfl ?_
            exact gW_J1485 B hS9 hr hfl hXs hbl hbA hlo j (by omega) (pW_L23 xs L n) (fun a1 a2 a3 x4 M9 => ih (j + 1) (by omega) a1 a2 a3 x4 M9) a1 a2 a3 x4 a1 v_106 v_107 1 M
        · refine g_aload_n B dL_law__1554 1 rfl ?_
          refine g_aload_n B dL_law__1555 0 rfl ?_
          refine g_iload B dL_law__1556 4 rfl ?_
          refine g_iconst (v := 1) B dL_law__1558 (by decide) ?_
          refine g_iadd B dL_law__1559 ?_
          refine g_sld hXs hbl hbA B dL_law__1560 (fun v_109 => ?_)
          refine g_aload_n B dL_law__1561 0 rfl ?_
          refine g_iload B dL_law__1562 4 rfl ?_
          refine g_iconst (v := 2) B dL_law__1564 (by decide) ?_
          refine g_iadd B dL_law__1565 ?_
          refine g_sld hXs hbl hbA B dL_law__1566 (fun v_110 => ?_)
          refine g_aload_n B dL_law__1567 3 rfl ?_
          refine g_callW [.ref a1, .int v_109, .int v_110, .ref a3] B hS9 mfL_fewest wd_1291 wd_1290 (oL_fewest X l hfl a1 v_109 v_110 a3 M) (by decide) (by decide) ⟨by show (337 + 4 * j) + 2 ≤ 601024; omega, by show (29787 + 24 * j) + 12 ≤ 7293034; omega⟩ rfl (Nat.le_of_ble_eq_true rfl) dL_law__1568 rfl (fun q_111 => ?_)
          refine g_istore (lv' := [(5, .int q_111.1), (0, .ref b), (1, .ref a1), (2, .ref a2), (3, .ref a3), (4, .int x4)]) B dL_law__1571 (by decide) [0, 1, 2, 3, 4, 5] rfl ?_
          refine g_aload_n B dL_law__1573 3 rfl ?_
          refine g_aload_n B dL_law__1574 1 rfl ?_
          refine g_iload B dL_law__1575 5 rfl ?_
          refine g_iconst (v := 1) B dL_law__1577 (by decide) ?_
          refine g_iadd B dL_law__1578 ?_
          refine g_sld hXs hbl hbA B dL_law__1579 (fun v_112 => ?_)
          refine g_aload_n B dL_law__1580 1 rfl ?_
          refine g_iload B dL_law__1581 5 rfl ?_
          refine g_iconst (v := 2) B dL_law__1583 (by decide) ?_
          refine g_iadd B dL_law__1584 ?_
          refine g_sld hXs hbl hbA B dL_law__1585 (fun v_113 => ?_)
          refine g_callV_iw [.int v_112, .int v_113] (ci := 11) (T0 := TX12) (N := 27) B hS9 mf12_fewest wd_2134 (gw B wd_2135) wd_2133 (by decide) rfl (fun h => (gd_ne h).1) (c12_fewest X l a2 v_112 v_113 q_111.2) (by decide) (by decide) ⟨by show (337 + 4 * j + 2) + 0 ≤ 601024; omega, by show (29787 + 24 * j + 12) + 0 ≤ 7293034; omega⟩ rfl (by decide) dL_law__1586 rfl (fun q_114 => ?_)
          refine g_istore (lv' := [(6, .int q_114.1), (5, .int q_111.1), (0, .ref b), (1, .ref a1), (2, .ref a2), (3, .ref a3), (4, .int x4)]) B dL_law__1589 (by decide) [0, 1, 2, 3, 4, 5, 6] rfl ?_
          refine g_aload_n B dL_law__1591 4 rfl ?_
          refine g_callV_ip [] (ci := 11) (T0 := TX12) (N := 27) B hS9 mf12_thrown wd_1632 (gw B wd_1633) wd_1631 (by decide) rfl (fun h => (gd_ne h).1) (c12_thrown X l a2 q_114.2) (by decide) (by decide) ⟨by show (337 + 4 * j + 2) + 0 ≤ 601024; omega, by show (29787 + 24 * j + 12) + 0 ≤ 7293034; omega⟩ rfl (by decide) dL_law__1592 rfl (fun v_115 => ?_)
          refine g_iload B dL_law__1595 1 rfl ?_
          refine g_icmp_eq B 1602 dL_law__1597 (by decide) ?_ ?_
          · refine g_iload B dL_law__1602 1 rfl ?_
            refine g_if_ne B 1619 dL_law__1604 (by decide) ?_ ?_
            · refine g_aload_n B dL_law__1607 5 rfl ?_
              refine g_iconst (v := 0) B dL_law__1608 (by decide) ?_
              refine g_laload B dL_law__1609 (fun v_116 => ?_)
              refine g_iload B dL_law__1610 0 rfl ?_
              refine g_i2l B dL_law__1612 ?_
              refine g_lcmp B dL_law__1613 ?_
              refine g_if_eq B 1619 dL_law__1614 (by decide) ?_ ?_
              · refine g_sub (lv' := [(0, .ref b), (1, .ref a1), (2, .ref a2), (3, .ref a3), (4, .int x4)]) [2, 3, 4, 5, 6] rfl ?_
                exact gW_J1619 B hS9 hr hfl hXs hbl hbA hlo j (by omega) (pW_L23 xs L n) (fun a1 a2 a3 x4 M9 => ih (j + 1) (by omega) a1 a2 a3 x4 M9) a1 a2 a3 x4 q_114.2
              · refine g_iconst (v := 0) B dL_law__1617 (by decide) ?_
                exact g_lawret0 (by decide)
            · refine g_sub (lv' := [(0, .ref b), (1, .ref a1), (2, .ref a2), (3, .ref a3), (4, .int x4)]) [2, 3, 4, 5, 6] rfl ?_
              exact gW_J1619 B hS9 hr hfl hXs hbl hbA hlo j (by omega) (pW_L23 xs L n) (fun a1 a2 a3 x4 M9 => ih (j + 1) (by omega) a1 a2 a3 x4 M9) a1 a2 a3 x4 q_114.2
          · refine g_iconst (v := 0) B dL_law__1600 (by decide) ?_
            exact g_lawret0 (by decide)
        · refine g_aload_n B dL_law__1622 1 rfl ?_
          refine g_aload_n B dL_law__1623 0 rfl ?_
          refine g_iload B dL_law__1624 4 rfl ?_
          refine g_iconst (v := 1) B dL_law__1626 (by decide) ?_
          refine g_iadd B dL_law__1627 ?_
          refine g_sld hXs hbl hbA B dL_law__1628 (fun v_117 => ?_)
          refine g_aload_n B dL_law__1629 0 rfl ?_
          refine g_iload B dL_law__1630 4 rfl ?_
          refine g_iconst (v := 2) B dL_law__1632 (by decide) ?_
          refine g_iadd B dL_law__1633 ?_
          refine g_sld hXs hbl hbA B dL_law__1634 (fun v_118 => ?_)
          refine g_aload_n B dL_law__1635 3 rfl ?_
          refine g_callW [.ref a1, .int v_117, .int v_118, .ref a3] B hS9 mfL_first wd_1328 wd_1327 (oL_first X l hfl a1 v_117 v_118 a3 M) (by decide) (by decide) ⟨by show (337 + 4 * j) + 2 ≤ 601024; omega, by show (29787 + 24 * j) + 12 ≤ 7293034; omega⟩ rfl (Nat.le_of_ble_eq_true rfl) dL_law__1636 rfl (fun q_119 => ?_)
          refine g_istore (lv' := [(5, .int q_119.1), (0, .ref b), (1, .ref a1), (2, .ref a2), (3, .ref a3), (4, .int x4)]) B dL_law__1639 (by decide) [0, 1, 2, 3, 4, 5] rfl ?_
          refine g_aload_n B dL_law__1641 3 rfl ?_
          refine g_aload_n B dL_law__1642 1 rfl ?_
          refine g_iload B dL_law__1643 5 rfl ?_
          refine g_iconst (v := 1) B dL_law__1645 (by decide) ?_
          refine g_iadd B dL_law__1646 ?_
          refine g_sld hXs hbl hbA B dL_law__1647 (fun v_120 => ?_)
          refine g_aload_n B dL_law__1648 1 rfl ?_
          refine g_iload B dL_law__1649 5 rfl ?_
          refine g_iconst (v := 2) B dL_law__1651 (by decide) ?_
          refine g_iadd B dL_law__1652 ?_
          refine g_sld hXs hbl hbA B dL_law__1653 (fun v_121 => ?_)
          refine g_callV_iw [.int v_120, .int v_121] (ci := 11) (T0 := TX12) (N := 27) B hS9 mf12_first wd_2158 (gw B wd_2159) wd_2157 (by decide) rfl (fun h => (gd_ne h).1) (c12_first X l a2 v_120 v_121 q_119.2) (by decide) (by decide) ⟨by show (337 + 4 * j + 2) + 0 ≤ 601024; omega, by show (29787 + 24 * j + 12) + 0 ≤ 7293034; omega⟩ rfl (by decide) dL_law__1654 rfl (fun q_122 => ?_)
          refine g_istore (lv' := [(6, .int q_122.1), (5, .int q_119.1), (0, .ref b), (1, .ref a1), (2, .ref a2), (3, .ref a3), (4, .int x4)]) B dL_law__1657 (by decide) [0, 1, 2, 3, 4, 5, 6] rfl ?_
          refine g_aload_n B dL_law__1659 4 rfl ?_
          refine g_callV_ip [] (ci := 11) (T0 := TX12) (N := 27) B hS9 mf12_thrown wd_1632 (gw B wd_1633) wd_1631 (by decide) rfl (fun h => (gd_ne h).1) (c12_thrown X l a2 q_122.2) (by decide) (by decide) ⟨by show (337 + 4 * j + 2) + 0 ≤ 601024; omega, by show (29787 + 24 * j + 12) + 0 ≤ 7293034; omega⟩ rfl (by decide) dL_law__1660 rfl (fun v_123 => ?_)
          refine g_iload B dL_law__1663 1 rfl ?_
          refine g_icmp_eq B 1670 dL_law__1665 (by decide) ?_ ?_
          · refine g_iload B dL_law__1670 1 rfl ?_
            refine g_if_ne B 1687 dL_law__1672 (by decide) ?_ ?_
            · refine g_aload_n B dL_law__1675 5 rfl ?_
              refine g_iconst (v := 0) B dL_law__1676 (by decide) ?_
              refine g_laload B dL_law__1677 (fun v_124 => ?_)
              refine g_iload B dL_law__1678 0 rfl ?_
              refine g_i2l B dL_law__1680 ?_
              refine g_lcmp B dL_law__1681 ?_
              refine g_if_eq B 1687 dL_law__1682 (by decide) ?_ ?_
              · refine g_sub (lv' := [(0, .ref b), (1, .ref a1), (2, .ref a2), (3, .ref a3), (4, .int x4)]) [2, 3, 4, 5, 6] rfl ?_
                exact gW_J1687 B hS9 hr hfl hXs hbl hbA hlo j (by omega) (pW_L23 xs L n) (fun a1 a2 a3 x4 M9 => ih (j + 1) (by omega) a1 a2 a3 x4 M9) a1 a2 a3 x4 q_122.2
              · refine g_iconst (v := 0) B dL_law__1685 (by decide) ?_
                exact g_lawret0 (by decide)
            · refine g_sub (lv' := [(0, .ref b), (1, .ref a1), (2, .ref a2), (3, .ref a3), (4, .int x4)]) [2, 3, 4, 5, 6] rfl ?_
              exact gW_J1687 B hS9 hr hfl hXs hbl hbA hlo j (by omega) (pW_L23 xs L n) (fun a1 a2 a3 x4 M9 => ih (j + 1) (by omega) a1 a2 a3 x4 M9) a1 a2 a3 x4 q_122.2
          · refine g_iconst (v := 0) B dL_law__1668 (by decide) ?_
            exact g_lawret0 (by decide)
        · refine g_aload_n B dL_law__1690 1 rfl ?_
          refine g_aload_n B dL_law__1691 0 rfl ?_
          refine g_iload B dL_law__1692 4 rfl ?_
          refine g_iconst (v := 1) B dL_law__1694 (by decide) ?_
          refine g_iadd B dL_law__1695 ?_
          refine g_sld hXs hbl hbA B dL_law__1696 (fun v_125 => ?_)
          refine g_aload_n B dL_law__1697 0 rfl ?_
          refine g_iload B dL_law__1698 4 rfl ?_
          refine g_iconst (v := 2) B dL_law__1700 (by decide) ?_
          refine g_iadd B dL_law__1701 ?_
          refine g_sld hXs hbl hbA B dL_law__1702 (fun v_126 => ?_)
          refine g_aload_n B dL_law__1703 3 rfl ?_
          refine g_callW [.ref a1, .int v_125, .int v_126, .ref a3] B hS9 mfL_can wd_1339 wd_1338 (oL_can X l hfl a1 v_125 v_126 a3 M) (by decide) (by decide) ⟨by show (337 + 4 * j) + 2 ≤ 601024; omega, by show (29787 + 24 * j) + 12 ≤ 7293034; omega⟩ rfl (Nat.le_of_ble_eq_true rfl) dL_law__1704 rfl (fun q_127 => ?_)
          refine g_istore (lv' := [(5, .int q_127.1), (0, .ref b), (1, .ref a1), (2, .ref a2), (3, .ref a3), (4, .int x4)]) B dL_law__1707 (by decide) [0, 1, 2, 3, 4, 5] rfl ?_
          refine g_aload_n B dL_law__1709 3 rfl ?_
          refine g_aload_n B dL_law__1710 1 rfl ?_
          refine g_iload B dL_law__1711 5 rfl ?_
          refine g_iconst (v := 1) B dL_law__1713 (by decide) ?_
          refine g_iadd B dL_law__1714 ?_
          refine g_sld hXs hbl hbA B dL_law__1715 (fun v_128 => ?_)
          refine g_aload_n B dL_law__1716 1 rfl ?_
          refine g_iload B dL_law__1717 5 rfl ?_
          refine g_iconst (v := 2) B dL_law__1719 (by decide) ?_
          refine g_iadd B dL_law__1720 ?_
          refine g_sld hXs hbl hbA B dL_law__1721 (fun v_129 => ?_)
          refine g_callV_iw [.int v_128, .int v_129] (ci := 11) (T0 := TX12) (N := 27) B hS9 mf12_can wd_2162 (gw B wd_2163) wd_2161 (by decide) rfl (fun h => (gd_ne h).1) (c12_can X l a2 v_128 v_129 q_127.2) (by decide) (by decide) ⟨by show (337 + 4 * j + 2) + 0 ≤ 601024; omega, by show (29787 + 24 * j + 12) + 0 ≤ 7293034; omega⟩ rfl (by decide) dL_law__1722 rfl (fun q_130 => ?_)
          refine g_istore (lv' := [(6, .int q_130.1), (5, .int q_127.1), (0, .ref b), (1, .ref a1), (2, .ref a2), (3, .ref a3), (4, .int x4)]) B dL_law__1725 (by decide) [0, 1, 2, 3, 4, 5, 6] rfl ?_
          refine g_aload_n B dL_law__1727 4 rfl ?_
          refine g_callV_ip [] (ci := 11) (T0 := TX12) (N := 27) B hS9 mf12_thrown wd_1632 (gw B wd_1633) wd_1631 (by decide) rfl (fun h => (gd_ne h).1) (c12_thrown X l a2 q_130.2) (by decide) (by decide) ⟨by show (337 + 4 * j + 2) + 0 ≤ 601024; omega, by show (29787 + 24 * j + 12) + 0 ≤ 7293034; omega⟩ rfl (by decide) dL_law__1728 rfl (fun v_131 => ?_)
          refine g_iload B dL_law__1731 1 rfl ?_
          refine g_icmp_eq B 1738 dL_law__1733 (by decide) ?_ ?_
          · refine g_iload B dL_law__1738 1 rfl ?_
            refine g_if_ne B 1755 dL_law__1740 (by decide) ?_ ?_
            · refine g_aload_n B dL_law__1743 5 rfl ?_
              refine g_iconst (v := 0) B dL_law__1744 (by decide) ?_
              refine g_laload B dL_law__1745 (fun v_132 => ?_)
              refine g_iload B dL_law__1746 0 rfl ?_
              refine g_i2l B dL_law__1748 ?_
              refine g_lcmp B dL_law__1749 ?_
              refine g_if_eq B 1755 dL_law__1750 (by decide) ?_ ?_
              · refine g_sub (lv' := [(0, .ref b), (1, .ref a1), (2, .ref a2), (3, .ref a3), (4, .int x4)]) [2, 3, 4, 5, 6] rfl ?_
                exact gW_J1755 B hS9 hr hfl hXs hbl hbA hlo j (by omega) (pW_L23 xs L n) (fun a1 a2 a3 x4 M9 => ih (j + 1) (by omega) a1 a2 a3 x4 M9) a1 a2 a3 x4 q_130.2
              · refine g_iconst (v := 0) B dL_law__1753 (by decide) ?_
                exact g_lawret0 (by decide)
            · refine g_sub (lv' := [(0, .ref b), (1, .ref a1), (2, .ref a2), (3, .ref a3), (4, .int x4)]) [2, 3, 4, 5, 6] rfl ?_
              exact gW_J1755 B hS9 hr hfl hXs hbl hbA hlo j (by omega) (pW_L23 xs L n) (fun a1 a2 a3 x4 M9 => ih (j + 1) (by omega) a1 a2 a3 x4 M9) a1 a2 a3 x4 q_130.2
          · refine g_iconst (v := 0) B dL_law__1736 (by decide) ?_
            exact g_lawret0 (by decide)
        · refine g_aload_n B dL_law__1758 1 rfl ?_
          refine g_aload_n B dL_law__1759 0 rfl ?_
          refine g_iload B dL_law__1760 4 rfl ?_
          refine g_iconst (v := 1) B dL_law__1762 (by decide) ?_
          refine g_iadd B dL_law__1763 ?_
          refine g_sld hXs hbl hbA B dL_law__1764 (fun v_133 => ?_)
          refine g_aload_n B dL_law__1765 3 rfl ?_
          refine g_callW [.ref a1, .int v_133, .ref a3] B hS9 mfL_harsh wd_1350 wd_1349 (oL_harsh X l hfl a1 v_133 a3 M) (by decide) (by decide) ⟨by show (337 + 4 * j) + 1 ≤ 601024; omega, by show (29787 + 24 * j) + 6 ≤ 7293034; omega⟩ rfl (Nat.le_of_ble_eq_true rfl) dL_law__1766 rfl (fun q_134 => ?_)
          refine g_istore (lv' := [(5, .int q_134.1), (0, .ref b), (1, .ref a1), (2, .ref a2), (3, .ref a3), (4, .int x4)]) B dL_law__1769 (by decide) [0, 1, 2, 3, 4, 5] rfl ?_
          refine g_aload_n B dL_law__1771 3 rfl ?_
          refine g_aload_n B dL_law__1772 1 rfl ?_
          refine g_iload B dL_law__1773 5 rfl ?_
          refine g_iconst (v := 1) B dL_law__1775 (by decide) ?_
          refine g_iadd B dL_law__1776 ?_
          refine g_sld hXs hbl hbA B dL_law__1777 (fun v_135 => ?_)
          refine g_callV_iw [.int v_135] (ci := 11) (T0 := TX12) (N := 27) B hS9 mf12_harsh wd_2166 (gw B wd_2167) wd_2165 (by decide) rfl (fun h => (gd_ne h).1) (c12_harsh X l a2 v_135 q_134.2) (by decide) (by decide) ⟨by show (337 + 4 * j + 1) + 0 ≤ 601024; omega, by show (29787 + 24 * j + 6) + 0 ≤ 7293034; omega⟩ rfl (by decide) dL_law__1778 rfl (fun q_136 => ?_)
          refine g_istore (lv' := [(6, .int q_136.1), (5, .int q_134.1), (0, .ref b), (1, .ref a1), (2, .ref a2), (3, .ref a3), (4, .int x4)]) B dL_law__1781 (by decide) [0, 1, 2, 3, 4, 5, 6] rfl ?_
          refine g_aload_n B dL_law__1783 4 rfl ?_
          refine g_callV_ip [] (ci := 11) (T0 := TX12) (N := 27) B hS9 mf12_thrown wd_1632 (gw B wd_1633) wd_1631 (by decide) rfl (fun h => (gd_ne h).1) (c12_thrown X l a2 q_136.2) (by decide) (by decide) ⟨by show (337 + 4 * j + 1) + 0 ≤ 601024; omega, by show (29787 + 24 * j + 6) + 0 ≤ 7293034; omega⟩ rfl (by decide) dL_law__1784 rfl (fun v_137 => ?_)
          refine g_iload B dL_law__1787 1 rfl ?_
          refine g_icmp_eq B 1794 dL_law__1789 (by decide) ?_ ?_
          · refine g_iload B dL_law__1794 1 rfl ?_
            refine g_if_ne B 1811 dL_law__1796 (by decide) ?_ ?_
            · refine g_aload_n B dL_law__1799 5 rfl ?_
              refine g_iconst (v := 0) B dL_law__1800 (by decide) ?_
              refine g_laload B dL_law__1801 (fun v_138 => ?_)
              refine g_iload B dL_law__1802 0 rfl ?_
              refine g_i2l B dL_law__1804 ?_
              refine g_lcmp B dL_law__1805 ?_
              refine g_if_eq B 1811 dL_law__1806 (by decide) ?_ ?_
              · refine g_sub (lv' := [(0, .ref b), (1, .ref a1), (2, .ref a2), (3, .ref a3), (4, .int x4)]) [2, 3, 4, 5, 6] rfl ?_
                exact gW_J1811 B hS9 hr hfl hXs hbl hbA hlo j (by omega) (pW_L23 xs L n) (fun a1 a2 a3 x4 M9 => ih (j + 1) (by omega) a1 a2 a3 x4 M9) a1 a2 a3 x4 q_136.2
              · refine g_iconst (v := 0) B dL_law__1809 (by decide) ?_
                exact g_lawret0 (by decide)
            · refine g_sub (lv' := [(0, .ref b), (1, .ref a1), (2, .ref a2), (3, .ref a3), (4, .int x4)]) [2, 3, 4, 5, 6] rfl ?_
              exact gW_J1811 B hS9 hr hfl hXs hbl hbA hlo j (by omega) (pW_L23 xs L n) (fun a1 a2 a3 x4 M9 => ih (j + 1) (by omega) a1 a2 a3 x4 M9) a1 a2 a3 x4 q_136.2
          · refine g_iconst (v := 0) B dL_law__1792 (by decide) ?_
            exact g_lawret0 (by decide)
        · refine g_aload_n B dL_law__1814 1 rfl ?_
          refine g_aload_n B dL_law__1815 0 rfl ?_
          refine g_iload B dL_law__1816 4 rfl ?_
          refine g_iconst (v := 1) B dL_law__1818 (by decide) ?_
          refine g_iadd B dL_law__1819 ?_
          refine g_sld hXs hbl hbA B dL_law__1820 (fun v_139 => ?_)
          refine g_aload_n B dL_law__1821 3 rfl ?_
          refine g_callW [.ref a1, .int v_139, .ref a3] B hS9 mfL_kind wd_1361 wd_1360 (oL_kind X l hfl a1 v_139 a3 M) (by decide) (by decide) ⟨by show (337 + 4 * j) + 1 ≤ 601024; omega, by show (29787 + 24 * j) + 6 ≤ 7293034; omega⟩ rfl (Nat.le_of_ble_eq_true rfl) dL_law__1822 rfl (fun q_140 => ?_)
          refine g_istore (lv' := [(5, .int q_140.1), (0, .ref b), (1, .ref a1), (2, .ref a2), (3, .ref a3), (4, .int x4)]) B dL_law__1825 (by decide) [0, 1, 2, 3, 4, 5] rfl ?_
          refine g_aload_n B dL_law__1827 3 rfl ?_
          refine g_aload_n B dL_law__1828 1 rfl ?_
          refine g_iload B dL_law__1829 5 rfl ?_
          refine g_iconst (v := 1) B dL_law__1831 (by decide) ?_
          refine g_iadd B dL_law__1832 ?_
          refine g_sld hXs hbl hbA B dL_law__1833 (fun v_141 => ?_)
          refine g_callV_iw [.int v_141] (ci := 11) (T0 := TX12) (N := 27) B hS9 mf12_kind wd_2174 (gw B wd_2175) wd_2173 (by decide) rfl (fun h => (gd_ne h).1) (c12_kind X l a2 v_141 q_140.2) (by decide) (by decide) ⟨by show (337 + 4 * j + 1) + 0 ≤ 601024; omega, by show (29787 + 24 * j + 6) + 0 ≤ 7293034; omega⟩ rfl (by decide) dL_law__1834 rfl (fun q_142 => ?_)
          refine g_istore (lv' := [(6, .int q_142.1), (5, .int q_140.1), (0, .ref b), (1, .ref a1), (2, .ref a2), (3, .ref a3), (4, .int x4)]) B dL_law__1837 (by decide) [0, 1, 2, 3, 4, 5, 6] rfl ?_
          refine g_aload_n B dL_law__1839 4 rfl ?_
          refine g_callV_ip [] (ci := 11) (T0 := TX12) (N := 27) B hS9 mf12_thrown wd_1632 (gw B wd_1633) wd_1631 (by decide) rfl (fun h => (gd_ne h).1) (c12_thrown X l a2 q_142.2) (by decide) (by decide) ⟨by show (337 + 4 * j + 1) + 0 ≤ 601024; omega, by show (29787 + 24 * j + 6) + 0 ≤ 7293034; omega⟩ rfl (by decide) dL_law__1840 rfl (fun v_143 => ?_)
          refine g_iload B dL_law__1843 1 rfl ?_
          refine g_icmp_eq B 1850 dL_law__1845 (by decide) ?_ ?_
          · refine g_iload B dL_law__1850 1 rfl ?_
            refine g_if_ne B 1867 dL_law__1852 (by decide) ?_ ?_
            · refine g_aload_n B dL_law__1855 5 rfl ?_
              refine g_iconst (v := 0) B dL_law__1856 (by decide) ?_
              refine g_laload B dL_law__1857 (fun v_144 => ?_)
              refine g_iload B dL_law__1858 0 rfl ?_
              refine g_i2l B dL_law__1860 ?_
              refine g_lcmp B dL_law__1861 ?_
              refine g_if_eq B 1867 dL_law__1862 (by decide) ?_ ?_
              · refine g_sub (lv' := [(0, .ref b), (1, .ref a1), (2, .ref a2), (3, .ref a3), (4, .int x4)]) [2, 3, 4, 5, 6] rfl ?_
                exact gW_J1867 B hS9 hr hfl hXs hbl hbA hlo j (by omega) (pW_L23 xs L n) (fun a1 a2 a3 x4 M9 => ih (j + 1) (by omega) a1 a2 a3 x4 M9) a1 a2 a3 x4 q_142.2
              · refine g_iconst (v := 0) B dL_law__1865 (by decide) ?_
                exact g_lawret0 (by decide)
            · refine g_sub (lv' := [(0, .ref b), (1, .ref a1), (2, .ref a2), (3, .ref a3), (4, .int x4)]) [2, 3, 4, 5, 6] rfl ?_
              exact gW_J1867 B hS9 hr hfl hXs hbl hbA hlo j (by omega) (pW_L23 xs L n) (fun a1 a2 a3 x4 M9 => ih (j + 1) (by omega) a1 a2 a3 x4 M9) a1 a2 a3 x4 q_142.2
          · refine g_iconst (v := 0) B dL_law__1848 (by decide) ?_
            exact g_lawret0 (by decide)
        · refine g_aload_n B dL_law__1870 1 rfl ?_
          refine g_aload_n B dL_law__1871 0 rfl ?_
          refine g_iload B dL_law__1872 4 rfl ?_
          refine g_iconst (v := 1) B dL_law__1874 (by decide) ?_
          refine g_iadd B dL_law__1875 ?_
          refine g_sld hXs hbl hbA B dL_law__1876 (fun v_145 => ?_)
          refine g_if_eq B 1884 dL_law__1877 (by decide) ?_ ?_
          · refine g_iconst (v := 0) B dL_law__1884 (by decide) ?_
            refine g_sub (lv' := [(0, .ref b), (1, .ref a1), (2, .ref a2), (3, .ref a3), (4, .int x4)]) [0, 1, 2, 3, 4] rfl ?_
            exact gW_J1885 B hS9 hr hfl hXs hbl hbA hlo j (by omega) (pW_L23 xs L n) (fun a1 a2 a3 x4 M9 => ih (j + 1) (by omega) a1 a2 a3 x4 M9) a1 a2 a3 x4 a1 0 M
          · refine g_iconst (v := 1) B dL_law__1880 (by decide) ?_
            refine g_goto B 1885 dL_law__1881 (by decide) ?_
            refine g_sub (lv' := [(0, .ref b), (1, .ref a1), (2, .ref a2), (3, .ref a3), (4, .int x4)]) [0, 1, 2, 3, 4] rfl ?_
            exact gW_J1885 B hS9 hr hfl hXs hbl hbA hlo j (by omega) (pW_L23 xs L n) (fun a1 a2 a3 x4 M9 => ih (j + 1) (by omega) a1 a2 a3 x4 M9) a1 a2 a3 x4 a1 1 M
        · refine g_aload_n B dL_law__1939 1 rfl ?_
          refine g_aload_n B dL_law__1940 0 rfl ?_
          refine g_iload B dL_law__1941 4 rfl ?_
          refine g_iconst (v := 1) B dL_law__1943 (by decide) ?_
          refine g_iadd B dL_law__1944 ?_
          refine g_sld hXs hbl hbA B dL_law__1945 (fun v_146 => ?_)
          refine g_if_eq B 1953 dL_law__1946 (by decide) ?_ ?_
          · refine g_iconst (v := 0) B dL_law__1953 (by decide) ?_
            refine g_sub (lv' := [(0, .ref b), (1, .ref a1), (2, .ref a2), (3, .ref a3), (4, .int x4)]) [0, 1, 2, 3, 4] rfl ?_
            exact gW_J1954 B hS9 hr hfl hXs hbl hbA hlo j (by omega) (pW_L23 xs L n) (fun a1 a2 a3 x4 M9 => ih (j + 1) (by omega) a1 a2 a3 x4 M9) a1 a2 a3 x4 a1 0 M
          · refine g_iconst (v := 1) B dL_law__1949 (by decide) ?_
            refine g_goto B 1954 dL_law__1950 (by decide) ?_
            refine g_sub (lv' := [(0, .ref b), (1, .ref a1), (2, .ref a2), (3, .ref a3), (4, .int x4)]) [0, 1, 2, 3, 4] rfl ?_
            exact gW_J1954 B hS9 hr hfl hXs hbl hbA hlo j (by omega) (pW_L23 xs L n) (fun a1 a2 a3 x4 M9 => ih (j + 1) (by omega) a1 a2 a3 x4 M9) a1 a2 a3 x4 a1 1 M
        · refine g_aload_n B dL_law__1980 1 rfl ?_
          refine g_aload_n B dL_law__1981 0 rfl ?_
          refine g_iload B dL_law__1982 4 rfl ?_
          refine g_iconst (v := 1) B dL_law__1984 (by decide) ?_
          refine g_iadd B dL_law__1985 ?_
          refine g_sld hXs hbl hbA B dL_law__1986 (fun v_147 => ?_)
          refine g_aload_n B dL_law__1987 3 rfl ?_
          refine g_callW [.ref a1, .int v_147, .ref a3] B hS9 mfL_over wd_1368 wd_1367 (oL_over X l hfl a1 v_147 a3 M) (by decide) (by decide) ⟨by show (337 + 4 * j) + 1 ≤ 601024; omega, by show (29787 + 24 * j) + 6 ≤ 7293034; omega⟩ rfl (Nat.le_of_ble_eq_true rfl) dL_law__1988 rfl (fun q_148 => ?_)
          refine g_istore (lv' := [(5, .int q_148.1), (0, .ref b), (1, .ref a1), (2, .ref a2), (3, .ref a3), (4, .int x4)]) B dL_law__1991 (by decide) [0, 1, 2, 3, 4, 5] rfl ?_
          refine g_aload_n B dL_law__1993 3 rfl ?_
          refine g_aload_n B dL_law__1994 1 rfl ?_
          refine g_iload B dL_law__1995 5 rfl ?_
          refine g_iconst (v := 1) B dL_law__1997 (by decide) ?_
          refine g_iadd B dL_law__1998 ?_
          refine g_sld hXs hbl hbA B dL_law__1999 (fun v_149 => ?_)
          refine g_callV_iw [.int v_149] (ci := 11) (T0 := TX12) (N := 27) B hS9 mf12_over wd_2122 (gw B wd_2123) wd_2121 (by decide) rfl (fun h => (gd_ne h).1) (c12_over X l a2 v_149 q_148.2) (by decide) (by decide) ⟨by show (337 + 4 * j + 1) + 0 ≤ 601024; omega, by show (29787 + 24 * j + 6) + 0 ≤ 7293034; omega⟩ rfl (by decide) dL_law__2000 rfl (fun q_150 => ?_)
          refine g_istore (lv' := [(6, .int q_150.1), (5, .int q_148.1), (0, .ref b), (1, .ref a1), (2, .ref a2), (3, .ref a3), (4, .int x4)]) B dL_law__2003 (by decide) [0, 1, 2, 3, 4, 5, 6] rfl ?_
          refine g_aload_n B dL_law__2005 4 rfl ?_
          refine g_callV_ip [] (ci := 11) (T0 := TX12) (N := 27) B hS9 mf12_thrown wd_1632 (gw B wd_1633) wd_1631 (by decide) rfl (fun h => (gd_ne h).1) (c12_thrown X l a2 q_150.2) (by decide) (by decide) ⟨by show (337 + 4 * j + 1) + 0 ≤ 601024; omega, by show (29787 + 24 * j + 6) + 0 ≤ 7293034; omega⟩ rfl (by decide) dL_law__2006 rfl (fun v_151 => ?_)
          refine g_iload B dL_law__2009 1 rfl ?_
          refine g_icmp_eq B 2016 dL_law__2011 (by decide) ?_ ?_
          · refine g_iload B dL_law__2016 1 rfl ?_
            refine g_if_ne B 2033 dL_law__2018 (by decide) ?_ ?_
            · refine g_aload_n B dL_law__2021 5 rfl ?_
              refine g_iconst (v := 0) B dL_law__2022 (by decide) ?_
              refine g_laload B dL_law__2023 (fun v_152 => ?_)
              refine g_iload B dL_law__2024 0 rfl ?_
              refine g_i2l B dL_law__2026 ?_
              refine g_lcmp B dL_law__2027 ?_
              refine g_if_eq B 2033 dL_law__2028 (by decide) ?_ ?_
              · refine g_sub (lv' := [(0, .ref b), (1, .ref a1), (2, .ref a2), (3, .ref a3), (4, .int x4)]) [2, 3, 4, 5, 6] rfl ?_
                exact gW_J2033 B hS9 hr hfl hXs hbl hbA hlo j (by omega) (pW_L23 xs L n) (fun a1 a2 a3 x4 M9 => ih (j + 1) (by omega) a1 a2 a3 x4 M9) a1 a2 a3 x4 q_150.2
              · refine g_iconst (v := 0) B dL_law__2031 (by decide) ?_
                exact g_lawret0 (by decide)
            · refine g_sub (lv' := [(0, .ref b), (1, .ref a1), (2, .ref a2), (3, .ref a3), (4, .int x4)]) [2, 3, 4, 5, 6] rfl ?_
              exact gW_J2033 B hS9 hr hfl hXs hbl hbA hlo j (by omega) (pW_L23 xs L n) (fun a1 a2 a3 x4 M9 => ih (j + 1) (by omega) a1 a2 a3 x4 M9) a1 a2 a3 x4 q_150.2
          · refine g_iconst (v := 0) B dL_law__2014 (by decide) ?_
            exact g_lawret0 (by decide)
        · refine g_aload_n B dL_law__2036 1 rfl ?_
          refine g_aload_n B dL_law__2037 0 rfl ?_
          refine g_iload B dL_law__2038 4 rfl ?_
          refine g_iconst (v := 1) B dL_law__2040 (by decide) ?_
          refine g_iadd B dL_law__2041 ?_
          refine g_sld hXs hbl hbA B dL_law__2042 (fun v_153 => ?_)
          refine g_aload_n B dL_law__2043 3 rfl ?_
          refine g_callW [.ref a1, .int v_153, .ref a3] B hS9 mfL_said wd_1379 wd_1378 (oL_said X l hfl a1 v_153 a3 M) (by decide) (by decide) ⟨by show (337 + 4 * j) + 2 ≤ 601024; omega, by show (29787 + 24 * j) + 12 ≤ 7293034; omega⟩ rfl (Nat.le_of_ble_eq_true rfl) dL_law__2044 rfl (fun q_154 => ?_)
          refine g_istore (lv' := [(5, .int q_154.1), (0, .ref b), (1, .ref a1), (2, .ref a2), (3, .ref a3), (4, .int x4)]) B dL_law__2047 (by decide) [0, 1, 2, 3, 4, 5] rfl ?_
          refine g_aload_n B dL_law__2049 3 rfl ?_
          refine g_aload_n B dL_law__2050 1 rfl ?_
          refine g_iload B dL_law__2051 5 rfl ?_
          refine g_iconst (v := 1) B dL_law__2053 (by decide) ?_
          refine g_iadd B dL_law__2054 ?_
          refine g_sld hXs hbl hbA B dL_law__2055 (fun v_155 => ?_)
          refine g_callV_iw [.int v_155] (ci := 11) (T0 := TX12) (N := 27) B hS9 mf12_said wd_2178 (gw B wd_2179) wd_2177 (by decide) rfl (fun h => (gd_ne h).1) (c12_said X l a2 v_155 q_154.2) (by decide) (by decide) ⟨by show (337 + 4 * j + 2) + 0 ≤ 601024; omega, by show (29787 + 24 * j + 12) + 0 ≤ 7293034; omega⟩ rfl (by decide) dL_law__2056 rfl (fun q_156 => ?_)
          refine g_istore (lv' := [(6, .int q_156.1), (5, .int q_154.1), (0, .ref b), (1, .ref a1), (2, .ref a2), (3, .ref a3), (4, .int x4)]) B dL_law__2059 (by decide) [0, 1, 2, 3, 4, 5, 6] rfl ?_
          refine g_aload_n B dL_law__2061 4 rfl ?_
          refine g_callV_ip [] (ci := 11) (T0 := TX12) (N := 27) B hS9 mf12_thrown wd_1632 (gw B wd_1633) wd_1631 (by decide) rfl (fun h => (gd_ne h).1) (c12_thrown X l a2 q_156.2) (by decide) (by decide) ⟨by show (337 + 4 * j + 2) + 0 ≤ 601024; omega, by show (29787 + 24 * j + 12) + 0 ≤ 7293034; omega⟩ rfl (by decide) dL_law__2062 rfl (fun v_157 => ?_)
          refine g_iload B dL_law__2065 1 rfl ?_
          refine g_icmp_eq B 2072 dL_law__2067 (by decide) ?_ ?_
          · refine g_iload B dL_law__2072 1 rfl ?_
            refine g_if_ne B 2089 dL_law__2074 (by decide) ?_ ?_
            · refine g_aload_n B dL_law__2077 5 rfl ?_
              refine g_iconst (v := 0) B dL_law__2078 (by decide) ?_
              refine g_laload B dL_law__2079 (fun v_158 => ?_)
              refine g_iload B dL_law__2080 0 rfl ?_
              refine g_i2l B dL_law__2082 ?_
              refine g_lcmp B dL_law__2083 ?_
              refine g_if_eq B 2089 dL_law__2084 (by decide) ?_ ?_
              · refine g_sub (lv' := [(0, .ref b), (1, .ref a1), (2, .ref a2), (3, .ref a3), (4, .int x4)]) [2, 3, 4, 5, 6] rfl ?_
                exact gW_J2089 B hS9 hr hfl hXs hbl hbA hlo j (by omega) (pW_L23 xs L n) (fun a1 a2 a3 x4 M9 => ih (j + 1) (by omega) a1 a2 a3 x4 M9) a1 a2 a3 x4 q_156.2
              · refine g_iconst (v := 0) B dL_law__2087 (by decide) ?_
                exact g_lawret0 (by decide)
            · refine g_sub (lv' := [(0, .ref b), (1, .ref a1), (2, .ref a2), (3, .ref a3), (4, .int x4)]) [2, 3, 4, 5, 6] rfl ?_
              exact gW_J2089 B hS9 hr hfl hXs hbl hbA hlo j (by omega) (pW_L23 xs L n) (fun a1 a2 a3 x4 M9 => ih (j + 1) (by omega) a1 a2 a3 x4 M9) a1 a2 a3 x4 q_156.2
          · refine g_iconst (v := 0) B dL_law__2070 (by decide) ?_
            exact g_lawret0 (by decide)
        · refine g_aload_n B dL_law__2092 1 rfl ?_
          refine g_aload_n B dL_law__2093 0 rfl ?_
          refine g_iload B dL_law__2094 4 rfl ?_
          refine g_iconst (v := 1) B dL_law__2096 (by decide) ?_
          refine g_iadd B dL_law__2097 ?_
          refine g_sld hXs hbl hbA B dL_law__2098 (fun v_159 => ?_)
          refine g_aload_n B dL_law__2099 3 rfl ?_
          refine g_callW [.ref a1, .int v_159, .ref a3] B hS9 mfL_ask wd_1399 wd_1398 (oL_ask X l hfl a1 v_159 a3 M) (by decide) (by decide) ⟨by show (337 + 4 * j) + 2 ≤ 601024; omega, by show (29787 + 24 * j) + 12 ≤ 7293034; omega⟩ rfl (Nat.le_of_ble_eq_true rfl) dL_law__2100 rfl (fun q_160 => ?_)
          refine g_istore (lv' := [(5, .int q_160.1), (0, .ref b), (1, .ref a1), (2, .ref a2), (3, .ref a3), (4, .int x4)]) B dL_law__2103 (by decide) [0, 1, 2, 3, 4, 5] rfl ?_
          refine g_aload_n B dL_law__2105 3 rfl ?_
          refine g_aload_n B dL_law__2106 1 rfl ?_
          refine g_iload B dL_law__2107 5 rfl ?_
          refine g_iconst (v := 1) B dL_law__2109 (by decide) ?_
          refine g_iadd B dL_law__2110 ?_
          refine g_sld hXs hbl hbA B dL_law__2111 (fun v_161 => ?_)
          refine g_callV_iw [.int v_161] (ci := 11) (T0 := TX12) (N := 27) B hS9 mf12_ask wd_2190 (gw B wd_2191) wd_2189 (by decide) rfl (fun h => (gd_ne h).1) (c12_ask X l a2 v_161 q_160.2) (by decide) (by decide) ⟨by show (337 + 4 * j + 2) + 0 ≤ 601024; omega, by show (29787 + 24 * j + 12) + 0 ≤ 7293034; omega⟩ rfl (by decide) dL_law__2112 rfl (fun q_162 => ?_)
          refine g_istore (lv' := [(6, .int q_162.1), (5, .int q_160.1), (0, .ref b), (1, .ref a1), (2, .ref a2), (3, .ref a3), (4, .int x4)]) B dL_law__2115 (by decide) [0, 1, 2, 3, 4, 5, 6] rfl ?_
          refine g_aload_n B dL_law__2117 4 rfl ?_
          refine g_callV_ip [] (ci := 11) (T0 := TX12) (N := 27) B hS9 mf12_thrown wd_1632 (gw B wd_1633) wd_1631 (by decide) rfl (fun h => (gd_ne h).1) (c12_thrown X l a2 q_162.2) (by decide) (by decide) ⟨by show (337 + 4 * j + 2) + 0 ≤ 601024; omega, by show (29787 + 24 * j + 12) + 0 ≤ 7293034; omega⟩ rfl (by decide) dL_law__2118 rfl (fun v_163 => ?_)
          refine g_iload B dL_law__2121 1 rfl ?_
          refine g_icmp_eq B 2128 dL_law__2123 (by decide) ?_ ?_
          · refine g_iload B dL_law__2128 1 rfl ?_
            refine g_if_ne B 2145 dL_law__2130 (by decide) ?_ ?_
            · refine g_aload_n B dL_law__2133 5 rfl ?_
              refine g_iconst (v := 0) B dL_law__2134 (by decide) ?_
              refine g_laload B dL_law__2135 (fun v_164 => ?_)
              refine g_iload B dL_law__2136 0 rfl ?_
              refine g_i2l B dL_law__2138 ?_
              refine g_lcmp B dL_law__2139 ?_
              refine g_if_eq B 2145 dL_law__2140 (by decide) ?_ ?_
              · refine g_sub (lv' := [(0, .ref b), (1, .ref a1), (2, .ref a2), (3, .ref a3), (4, .int x4)]) [2, 3, 4, 5, 6] rfl ?_
                exact gW_J2145 B hS9 hr hfl hXs hbl hbA hlo j (by omega) (pW_L23 xs L n) (fun a1 a2 a3 x4 M9 => ih (j + 1) (by omega) a1 a2 a3 x4 M9) a1 a2 a3 x4 q_162.2
              · refine g_iconst (v := 0) B dL_law__2143 (by decide) ?_
                exact g_lawret0 (by decide)
            · refine g_sub (lv' := [(0, .ref b), (1, .ref a1), (2, .ref a2), (3, .ref a3), (4, .int x4)]) [2, 3, 4, 5, 6] rfl ?_
              exact gW_J2145 B hS9 hr hfl hXs hbl hbA hlo j (by omega) (pW_L23 xs L n) (fun a1 a2 a3 x4 M9 => ih (j + 1) (by omega) a1 a2 a3 x4 M9) a1 a2 a3 x4 q_162.2
          · refine g_iconst (v := 0) B dL_law__2126 (by decide) ?_
            exact g_lawret0 (by decide)
        · refine g_aload_n B dL_law__2148 1 rfl ?_
          refine g_aload_n B dL_law__2149 0 rfl ?_
          refine g_iload B dL_law__2150 4 rfl ?_
          refine g_iconst (v := 1) B dL_law__2152 (by decide) ?_
          refine g_iadd B dL_law__2153 ?_
          refine g_sld hXs hbl hbA B dL_law__2154 (fun v_165 => ?_)
          refine g_if_eq B 2162 dL_law__2155 (by decide) ?_ ?_
          · refine g_iconst (v := 0) B dL_law__2162 (by decide) ?_
            refine g_sub (lv' := [(0, .ref b), (1, .ref a1), (2, .ref a2), (3, .ref a3), (4, .int x4)]) [0, 1, 2, 3, 4] rfl ?_
            exact gW_J2163 B hS9 hr hfl hXs hbl hbA hlo j (by omega) (pW_L23 xs L n) (fun a1 a2 a3 x4 M9 => ih (j + 1) (by omega) a1 a2 a3 x4 M9) a1 a2 a3 x4 a1 0 M
          · refine g_iconst (v := 1) B dL_law__2158 (by decide) ?_
            refine g_goto B 2163 dL_law__2159 (by decide) ?_
            refine g_sub (lv' := [(0, .ref b), (1, .ref a1), (2, .ref a2), (3, .ref a3), (4, .int x4)]) [0, 1, 2, 3, 4] rfl ?_
            exact gW_J2163 B hS9 hr hfl hXs hbl hbA hlo j (by omega) (pW_L23 xs L n) (fun a1 a2 a3 x4 M9 => ih (j + 1) (by omega) a1 a2 a3 x4 M9) a1 a2 a3 x4 a1 1 M
        · refine g_aload_n B dL_law__2189 1 rfl ?_
          refine g_aload_n B dL_law__2190 0 rfl ?_
          refine g_iload B dL_law__2191 4 rfl ?_
          refine g_iconst (v := 1) B dL_law__2193 (by decide) ?_
          refine g_iadd B dL_law__2194 ?_
          refine g_sld hXs hbl hbA B dL_law__2195 (fun v_166 => ?_)
          refine g_aload_n B dL_law__2196 3 rfl ?_
          refine g_callW [.ref a1, .int v_166, .ref a3] B hS9 mfL_mate wd_1417 wd_1416 (oL_mate X l hfl a1 v_166 a3 M) (by decide) (by decide) ⟨by show (337 + 4 * j) + 1 ≤ 601024; omega, by show (29787 + 24 * j) + 6 ≤ 7293034; omega⟩ rfl (Nat.le_of_ble_eq_true rfl) dL_law__2197 rfl (fun q_167 => ?_)
          refine g_istore (lv' := [(5, .int q_167.1), (0, .ref b), (1, .ref a1), (2, .ref a2), (3, .ref a3), (4, .int x4)]) B dL_law__2200 (by decide) [0, 1, 2, 3, 4, 5] rfl ?_
          refine g_aload_n B dL_law__2202 3 rfl ?_
          refine g_aload_n B dL_law__2203 1 rfl ?_
          refine g_iload B dL_law__2204 5 rfl ?_
          refine g_iconst (v := 1) B dL_law__2206 (by decide) ?_
          refine g_iadd B dL_law__2207 ?_
          refine g_sld hXs hbl hbA B dL_law__2208 (fun v_168 => ?_)
          refine g_callV_iw [.int v_168] (ci := 11) (T0 := TX12) (N := 27) B hS9 mf12_mate wd_2226 (gw B wd_2227) wd_2225 (by decide) rfl (fun h => (gd_ne h).1) (c12_mate X l a2 v_168 q_167.2) (by decide) (by decide) ⟨by show (337 + 4 * j + 1) + 0 ≤ 601024; omega, by show (29787 + 24 * j + 6) + 0 ≤ 7293034; omega⟩ rfl (by decide) dL_law__2209 rfl (fun q_169 => ?_)
          refine g_istore (lv' := [(6, .int q_169.1), (5, .int q_167.1), (0, .ref b), (1, .ref a1), (2, .ref a2), (3, .ref a3), (4, .int x4)]) B dL_law__2212 (by decide) [0, 1, 2, 3, 4, 5, 6] rfl ?_
          refine g_aload_n B dL_law__2214 4 rfl ?_
          refine g_callV_ip [] (ci := 11) (T0 := TX12) (N := 27) B hS9 mf12_thrown wd_1632 (gw B wd_1633) wd_1631 (by decide) rfl (fun h => (gd_ne h).1) (c12_thrown X l a2 q_169.2) (by decide) (by decide) ⟨by show (337 + 4 * j + 1) + 0 ≤ 601024; omega, by show (29787 + 24 * j + 6) + 0 ≤ 7293034; omega⟩ rfl (by decide) dL_law__2215 rfl (fun v_170 => ?_)
          refine g_iload B dL_law__2218 1 rfl ?_
          refine g_icmp_eq B 2225 dL_law__2220 (by decide) ?_ ?_
          · refine g_iload B dL_law__2225 1 rfl ?_
            refine g_if_ne B 2242 dL_law__2227 (by decide) ?_ ?_
            · refine g_aload_n B dL_law__2230 5 rfl ?_
              refine g_iconst (v := 0) B dL_law__2231 (by decide) ?_
              refine g_laload B dL_law__2232 (fun v_171 => ?_)
              refine g_iload B dL_law__2233 0 rfl ?_
              refine g_i2l B dL_law__2235 ?_
              refine g_lcmp B dL_law__2236 ?_
              refine g_if_eq B 2242 dL_law__2237 (by decide) ?_ ?_
              · refine g_sub (lv' := [(0, .ref b), (1, .ref a1), (2, .ref a2), (3, .ref a3), (4, .int x4)]) [2, 3, 4, 5, 6] rfl ?_
                exact gW_J2242 B hS9 hr hfl hXs hbl hbA hlo j (by omega) (pW_L23 xs L n) (fun a1 a2 a3 x4 M9 => ih (j + 1) (by omega) a1 a2 a3 x4 M9) a1 a2 a3 x4 q_169.2
              · refine g_iconst (v := 0) B dL_law__2240 (by decide) ?_
                exact g_lawret0 (by decide)
            · refine g_sub (lv' := [(0, .ref b), (1, .ref a1), (2, .ref a2), (3, .ref a3), (4, .int x4)]) [2, 3, 4, 5, 6] rfl ?_
              exact gW_J2242 B hS9 hr hfl hXs hbl hbA hlo j (by omega) (pW_L23 xs L n) (fun a1 a2 a3 x4 M9 => ih (j + 1) (by omega) a1 a2 a3 x4 M9) a1 a2 a3 x4 q_169.2
          · refine g_iconst (v := 0) B dL_law__2223 (by decide) ?_
            exact g_lawret0 (by decide)
        · refine g_aload_n B dL_law__2245 1 rfl ?_
          refine g_aload_n B dL_law__2246 0 rfl ?_
          refine g_iload B dL_law__2247 4 rfl ?_
          refine g_iconst (v := 1) B dL_law__2249 (by decide) ?_
          refine g_iadd B dL_law__2250 ?_
          refine g_sld hXs hbl hbA B dL_law__2251 (fun v_172 => ?_)
          refine g_aload_n B dL_law__2252 3 rfl ?_
          refine g_callW [.ref a1, .int v_172, .ref a3] B hS9 mfL_stable wd_1428 wd_1427 (oL_stable X l hfl a1 v_172 a3 M) (by decide) (by decide) ⟨by show (337 + 4 * j) + 1 ≤ 601024; omega, by show (29787 + 24 * j) + 6 ≤ 7293034; omega⟩ rfl (Nat.le_of_ble_eq_true rfl) dL_law__2253 rfl (fun q_173 => ?_)
          refine g_istore (lv' := [(5, .int q_173.1), (0, .ref b), (1, .ref a1), (2, .ref a2), (3, .ref a3), (4, .int x4)]) B dL_law__2256 (by decide) [0, 1, 2, 3, 4, 5] rfl ?_
          refine g_aload_n B dL_law__2258 3 rfl ?_
          refine g_aload_n B dL_law__2259 1 rfl ?_
          refine g_iload B dL_law__2260 5 rfl ?_
          refine g_iconst (v := 1) B dL_law__2262 (by decide) ?_
          refine g_iadd B dL_law__2263 ?_
          refine g_sld hXs hbl hbA B dL_law__2264 (fun v_174 => ?_)
          refine g_callV_iw [.int v_174] (ci := 11) (T0 := TX12) (N := 27) B hS9 mf12_stable wd_2230 (gw B wd_2231) wd_2229 (by decide) rfl (fun h => (gd_ne h).1) (c12_stable X l a2 v_174 q_173.2) (by decide) (by decide) ⟨by show (337 + 4 * j + 1) + 0 ≤ 601024; omega, by show (29787 + 24 * j + 6) + 0 ≤ 7293034; omega⟩ rfl (by decide) dL_law__2265 rfl (fun q_175 => ?_)
          refine g_istore (lv' := [(6, .int q_175.1), (5, .int q_173.1), (0, .ref b), (1, .ref a1), (2, .ref a2), (3, .ref a3), (4, .int x4)]) B dL_law__2268 (by decide) [0, 1, 2, 3, 4, 5, 6] rfl ?_
          refine g_aload_n B dL_law__2270 4 rfl ?_
          refine g_callV_ip [] (ci := 11) (T0 := TX12) (N := 27) B hS9 mf12_thrown wd_1632 (gw B wd_1633) wd_1631 (by decide) rfl (fun h => (gd_ne h).1) (c12_thrown X l a2 q_175.2) (by decide) (by decide) ⟨by show (337 + 4 * j + 1) + 0 ≤ 601024; omega, by show (29787 + 24 * j + 6) + 0 ≤ 7293034; omega⟩ rfl (by decide) dL_law__2271 rfl (fun v_176 => ?_)
          refine g_iload B dL_law__2274 1 rfl ?_
          refine g_icmp_eq B 2281 dL_law__2276 (by decide) ?_ ?_
          · refine g_iload B dL_law__2281 1 rfl ?_
            refine g_if_ne B 2298 dL_law__2283 (by decide) ?_ ?_
            · refine g_aload_n B dL_law__2286 5 rfl ?_
              refine g_iconst (v := 0) B dL_law__2287 (by decide) ?_
              refine g_laload B dL_law__2288 (fun v_177 => ?_)
              refine g_iload B dL_law__2289 0 rfl ?_
              refine g_i2l B dL_law__2291 ?_
              refine g_lcmp B dL_law__2292 ?_
              refine g_if_eq B 2298 dL_law__2293 (by decide) ?_ ?_
              · refine g_sub (lv' := [(0, .ref b), (1, .ref a1), (2, .ref a2), (3, .ref a3), (4, .int x4)]) [2, 3, 4, 5, 6] rfl ?_
                exact gW_J2298 B hS9 hr hfl hXs hbl hbA hlo j (by omega) (pW_L23 xs L n) (fun a1 a2 a3 x4 M9 => ih (j + 1) (by omega) a1 a2 a3 x4 M9) a1 a2 a3 x4 q_175.2
              · refine g_iconst (v := 0) B dL_law__2296 (by decide) ?_
                exact g_lawret0 (by decide)
            · refine g_sub (lv' := [(0, .ref b), (1, .ref a1), (2, .ref a2), (3, .ref a3), (4, .int x4)]) [2, 3, 4, 5, 6] rfl ?_
              exact gW_J2298 B hS9 hr hfl hXs hbl hbA hlo j (by omega) (pW_L23 xs L n) (fun a1 a2 a3 x4 M9 => ih (j + 1) (by omega) a1 a2 a3 x4 M9) a1 a2 a3 x4 q_175.2
          · refine g_iconst (v := 0) B dL_law__2279 (by decide) ?_
            exact g_lawret0 (by decide)
        · refine g_aload_n B dL_law__2301 1 rfl ?_
          refine g_callV_ip [] (ci := 10) (T0 := TX11) (N := 18) B hS9 mf11_runs wd_600 (gw B wd_601) wd_599 (by decide) rfl (fun h => (gd_ne h).1) (c11_runs X l a1 M) (by decide) (by decide) ⟨by show (337 + 4 * j) + 0 ≤ 601024; omega, by show (29787 + 24 * j) + 0 ≤ 7293034; omega⟩ rfl (by decide) dL_law__2302 rfl (fun v_178 => ?_)
          refine g_aload_n B dL_law__2305 2 rfl ?_
          refine g_callV_iw [] (ci := 11) (T0 := TX12) (N := 27) B hS9 mf12_runs wd_2246 (gw B wd_2247) wd_2245 (by decide) rfl (fun h => (gd_ne h).1) (c12_runs X l a2 M) (by decide) (by decide) ⟨by show (337 + 4 * j) + 0 ≤ 601024; omega, by show (29787 + 24 * j) + 0 ≤ 7293034; omega⟩ rfl (Nat.le_of_ble_eq_true rfl) dL_law__2306 rfl (fun q_179 => ?_)
          refine g_icmp_eq B 3518 dL_law__2309 (by decide) ?_ ?_
          · refine g_sub (lv' := [(0, .ref b), (1, .ref a1), (2, .ref a2), (3, .ref a3), (4, .int x4)]) [0, 1, 2, 3, 4] rfl ?_
            refine g_widen (cells' := (337 + 4 * j + 4)) (slots' := (29787 + 24 * j + 24)) (by first | omega | exact Nat.add_le_add_left (Nat.le_of_ble_eq_true rfl) _) (by first | omega | exact Nat.add_le_add_left (Nat.le_of_ble_eq_true rfl) _) ?_
            exact gW_J3518 B hS9 hr hfl hXs hbl hbA hlo j (by omega) (pW_L23 xs L n) (fun a1 a2 a3 x4 M9 => ih (j + 1) (by omega) a1 a2 a3 x4 M9) a1 a2 a3 x4 q_179.2
          · refine g_iconst (v := 0) B dL_law__2312 (by decide) ?_
            exact g_lawret0 (by decide)
        · refine g_aload_n B dL_law__2314 1 rfl ?_
          refine g_aload_n B dL_law__2315 0 rfl ?_
          refine g_iload B dL_law__2316 4 rfl ?_
          refine g_iconst (v := 1) B dL_law__2318 (by decide) ?_
          refine g_iadd B dL_law__2319 ?_
          refine g_sld hXs hbl hbA B dL_law__2320 (fun v_180 => ?_)
          refine g_aload_n B dL_law__2321 0 rfl ?_
          refine g_iload B dL_law__2322 4 rfl ?_
          refine g_iconst (v := 2) B dL_law__2324 (by decide) ?_
          refine g_iadd B dL_law__2325 ?_
          refine g_sld hXs hbl hbA B dL_law__2326 (fun v_181 => ?_)
          refine g_aload_n B dL_law__2327 3 rfl ?_
          refine g_callW [.ref a1, .int v_180, .int v_181, .ref a3] B hS9 mfL_owes wd_1455 wd_1454 (oL_owes X l hfl a1 v_180 v_181 a3 M) (by decide) (by decide) ⟨by show (337 + 4 * j) + 3 ≤ 601024; omega, by show (29787 + 24 * j) + 18 ≤ 7293034; omega⟩ rfl (Nat.le_of_ble_eq_true rfl) dL_law__2328 rfl (fun q_182 => ?_)
          refine g_istore (lv' := [(5, .int q_182.1), (0, .ref b), (1, .ref a1), (2, .ref a2), (3, .ref a3), (4, .int x4)]) B dL_law__2331 (by decide) [0, 1, 2, 3, 4, 5] rfl ?_
          refine g_aload_n B dL_law__2333 3 rfl ?_
          refine g_aload_n B dL_law__2334 1 rfl ?_
          refine g_iload B dL_law__2335 5 rfl ?_
          refine g_iconst (v := 1) B dL_law__2337 (by decide) ?_
          refine g_iadd B dL_law__2338 ?_
          refine g_sld hXs hbl hbA B dL_law__2339 (fun v_183 => ?_)
          refine g_aload_n B dL_law__2340 1 rfl ?_
          refine g_iload B dL_law__2341 5 rfl ?_
          refine g_iconst (v := 2) B dL_law__2343 (by decide) ?_
          refine g_iadd B dL_law__2344 ?_
          refine g_sld hXs hbl hbA B dL_law__2345 (fun v_184 => ?_)
          refine g_callV_iw [.int v_183, .int v_184] (ci := 11) (T0 := TX12) (N := 27) B hS9 mf12_owes wd_2254 (gw B wd_2255) wd_2253 (by decide) rfl (fun h => (gd_ne h).1) (c12_owes X l a2 v_183 v_184 q_182.2) (by decide) (by decide) ⟨by show (337 + 4 * j + 3) + 0 ≤ 601024; omega, by show (29787 + 24 * j + 18) + 0 ≤ 7293034; omega⟩ rfl (by decide) dL_law__2346 rfl (fun q_185 => ?_)
          refine g_istore (lv' := [(6, .int q_185.1), (5, .int q_182.1), (0, .ref b), (1, .ref a1), (2, .ref a2), (3, .ref a3), (4, .int x4)]) B dL_law__2349 (by decide) [0, 1, 2, 3, 4, 5, 6] rfl ?_
          refine g_aload_n B dL_law__2351 4 rfl ?_
          refine g_callV_ip [] (ci := 11) (T0 := TX12) (N := 27) B hS9 mf12_thrown wd_1632 (gw B wd_1633) wd_1631 (by decide) rfl (fun h => (gd_ne h).1) (c12_thrown X l a2 q_185.2) (by decide) (by decide) ⟨by show (337 + 4 * j + 3) + 0 ≤ 601024; omega, by show (29787 + 24 * j + 18) + 0 ≤ 7293034; omega⟩ rfl (by decide) dL_law__2352 rfl (fun v_186 => ?_)
          refine g_iload B dL_law__2355 1 rfl ?_
          refine g_icmp_eq B 2362 dL_law__2357 (by decide) ?_ ?_
          · refine g_iload B dL_law__2362 1 rfl ?_
            refine g_if_ne B 2379 dL_law__2364 (by decide) ?_ ?_
            · refine g_aload_n B dL_law__2367 5 rfl ?_
              refine g_iconst (v := 0) B dL_law__2368 (by decide) ?_
              refine g_laload B dL_law__2369 (fun v_187 => ?_)
              refine g_iload B dL_law__2370 0 rfl ?_
              refine g_i2l B dL_law__2372 ?_
              refine g_lcmp B dL_law__2373 ?_
              refine g_if_eq B 2379 dL_law__2374 (by decide) ?_ ?_
              · refine g_sub (lv' := [(0, .ref b), (1, .ref a1), (2, .ref a2), (3, .ref a3), (4, .int x4)]) [2, 3, 4, 5, 6] rfl ?_
                exact gW_J2379 B hS9 hr hfl hXs hbl hbA hlo j (by omega) (pW_L23 xs L n) (fun a1 a2 a3 x4 M9 => ih (j + 1) (by omega) a1 a2 a3 x4 M9) a1 a2 a3 x4 q_185.2
              · refine g_iconst (v := 0) B dL_law__2377 (by decide) ?_
                exact g_lawret0 (by decide)
            · refine g_sub (lv' := [(0, .ref b), (1, .ref a1), (2, .ref a2), (3, .ref a3), (4, .int x4)]) [2, 3, 4, 5, 6] rfl ?_
              exact gW_J2379 B hS9 hr hfl hXs hbl hbA hlo j (by omega) (pW_L23 xs L n) (fun a1 a2 a3 x4 M9 => ih (j + 1) (by omega) a1 a2 a3 x4 M9) a1 a2 a3 x4 q_185.2
          · refine g_iconst (v := 0) B dL_law__2360 (by decide) ?_
            exact g_lawret0 (by decide)
        · refine g_aload_n B dL_law__2382 1 rfl ?_
          refine g_callV_ip [] (ci := 10) (T0 := TX11) (N := 18) B hS9 mf11_net wd_613 (gw B wd_614) wd_612 (by decide) rfl (fun h => (gd_ne h).1) (c11_net X l a1 M) (by decide) (by decide) ⟨by show (337 + 4 * j) + 0 ≤ 601024; omega, by show (29787 + 24 * j) + 0 ≤ 7293034; omega⟩ rfl (by decide) dL_law__2383 rfl (fun v_188 => ?_)
          refine g_aload_n B dL_law__2386 2 rfl ?_
          refine g_callV_iw [] (ci := 11) (T0 := TX12) (N := 27) B hS9 mf12_net wd_2258 (gw B wd_2259) wd_2257 (by decide) rfl (fun h => (gd_ne h).1) (c12_net X l a2 M) (by decide) (by decide) ⟨by show (337 + 4 * j) + 0 ≤ 601024; omega, by show (29787 + 24 * j) + 0 ≤ 7293034; omega⟩ rfl (Nat.le_of_ble_eq_true rfl) dL_law__2387 rfl (fun q_189 => ?_)
          refine g_icmp_eq B 3518 dL_law__2390 (by decide) ?_ ?_
          · refine g_sub (lv' := [(0, .ref b), (1, .ref a1), (2, .ref a2), (3, .ref a3), (4, .int x4)]) [0, 1, 2, 3, 4] rfl ?_
            refine g_widen (cells' := (337 + 4 * j + 4)) (slots' := (29787 + 24 * j + 24)) (by first | omega | exact Nat.add_le_add_left (Nat.le_of_ble_eq_true rfl) _) (by first | omega | exact Nat.add_le_add_left (Nat.le_of_ble_eq_true rfl) _) ?_
            exact gW_J3518 B hS9 hr hfl hXs hbl hbA hlo j (by omega) (pW_L23 xs L n) (fun a1 a2 a3 x4 M9 => ih (j + 1) (by omega) a1 a2 a3 x4 M9) a1 a2 a3 x4 q_189.2
          · refine g_iconst (v := 0) B dL_law__2393 (by decide) ?_
            exact g_lawret0 (by decide)
        · refine g_aload_n B dL_law__2395 1 rfl ?_
          refine g_aload_n B dL_law__2396 0 rfl ?_
          refine g_iload B dL_law__2397 4 rfl ?_
          refine g_iconst (v := 1) B dL_law__2399 (by decide) ?_
          refine g_iadd B dL_law__2400 ?_
          refine g_sld hXs hbl hbA B dL_law__2401 (fun v_190 => ?_)
          refine g_aload_n B dL_law__2402 3 rfl ?_
          refine g_callW [.ref a1, .int v_190, .ref a3] B hS9 mfL_ring wd_1462 wd_1461 (oL_ring X l hfl a1 v_190 a3 M) (by decide) (by decide) ⟨by show (337 + 4 * j) + 1 ≤ 601024; omega, by show (29787 + 24 * j) + 6 ≤ 7293034; omega⟩ rfl (Nat.le_of_ble_eq_true rfl) dL_law__2403 rfl (fun q_191 => ?_)
          refine g_istore (lv' := [(5, .int q_191.1), (0, .ref b), (1, .ref a1), (2, .ref a2), (3, .ref a3), (4, .int x4)]) B dL_law__2406 (by decide) [0, 1, 2, 3, 4, 5] rfl ?_
          refine g_aload_n B dL_law__2408 3 rfl ?_
          refine g_aload_n B dL_law__2409 1 rfl ?_
          refine g_iload B dL_law__2410 5 rfl ?_
          refine g_iconst (v := 1) B dL_law__2412 (by decide) ?_
          refine g_iadd B dL_law__2413 ?_
          refine g_sld hXs hbl hbA B dL_law__2414 (fun v_192 => ?_)
          refine g_callV_iw [.int v_192] (ci := 11) (T0 := TX12) (N := 27) B hS9 mf12_ring wd_2262 (gw B wd_2263) wd_2261 (by decide) rfl (fun h => (gd_ne h).1) (c12_ring X l a2 v_192 q_191.2) (by decide) (by decide) ⟨by show (337 + 4 * j + 1) + 0 ≤ 601024; omega, by show (29787 + 24 * j + 6) + 0 ≤ 7293034; omega⟩ rfl (by decide) dL_law__2415 rfl (fun q_193 => ?_)
          refine g_istore (lv' := [(6, .int q_193.1), (5, .int q_191.1), (0, .ref b), (1, .ref a1), (2, .ref a2), (3, .ref a3), (4, .int x4)]) B dL_law__2418 (by decide) [0, 1, 2, 3, 4, 5, 6] rfl ?_
          refine g_aload_n B dL_law__2420 4 rfl ?_
          refine g_callV_ip [] (ci := 11) (T0 := TX12) (N := 27) B hS9 mf12_thrown wd_1632 (gw B wd_1633) wd_1631 (by decide) rfl (fun h => (gd_ne h).1) (c12_thrown X l a2 q_193.2) (by decide) (by decide) ⟨by show (337 + 4 * j + 1) + 0 ≤ 601024; omega, by show (29787 + 24 * j + 6) + 0 ≤ 7293034; omega⟩ rfl (by decide) dL_law__2421 rfl (fun v_194 => ?_)
          refine g_iload B dL_law__2424 1 rfl ?_
          refine g_icmp_eq B 2431 dL_law__2426 (by decide) ?_ ?_
          · refine g_iload B dL_law__2431 1 rfl ?_
            refine g_if_ne B 2455 dL_law__2433 (by decide) ?_ ?_
            · refine g_aload_n B dL_law__2436 5 rfl ?_
              refine g_iconst (v := 0) B dL_law__2437 (by decide) ?_
              refine g_laload B dL_law__2438 (fun v_195 => ?_)
              refine g_iload B dL_law__2439 0 rfl ?_
              refine g_if_eq B 2448 dL_law__2441 (by decide) ?_ ?_
              · refine g_lconst (v := 0) B dL_law__2448 (by decide) ?_
                refine g_sub (lv' := [(0, .ref b), (1, .ref a1), (2, .ref a2), (3, .ref a3), (4, .int x4)]) [2, 3, 4, 5, 6] rfl ?_
                exact gW_J2449 B hS9 hr hfl hXs hbl hbA hlo j (by omega) (pW_L23 xs L n) (fun a1 a2 a3 x4 M9 => ih (j + 1) (by omega) a1 a2 a3 x4 M9) a1 a2 a3 x4 v_195 0 q_193.2
              · refine g_lconst (v := 1) B dL_law__2444 (by decide) ?_
                refine g_goto B 2449 dL_law__2445 (by decide) ?_
                refine g_sub (lv' := [(0, .ref b), (1, .ref a1), (2, .ref a2), (3, .ref a3), (4, .int x4)]) [2, 3, 4, 5, 6] rfl ?_
                exact gW_J2449 B hS9 hr hfl hXs hbl hbA hlo j (by omega) (pW_L23 xs L n) (fun a1 a2 a3 x4 M9 => ih (j + 1) (by omega) a1 a2 a3 x4 M9) a1 a2 a3 x4 v_195 1 q_193.2
            · refine g_sub (lv' := [(0, .ref b), (1, .ref a1), (2, .ref a2), (3, .ref a3), (4, .int x4)]) [2, 3, 4, 5, 6] rfl ?_
              exact gW_J2455 B hS9 hr hfl hXs hbl hbA hlo j (by omega) (pW_L23 xs L n) (fun a1 a2 a3 x4 M9 => ih (j + 1) (by omega) a1 a2 a3 x4 M9) a1 a2 a3 x4 q_193.2
          · refine g_iconst (v := 0) B dL_law__2429 (by decide) ?_
            exact g_lawret0 (by decide)
        · refine g_aload_n B dL_law__2458 1 rfl ?_
          refine g_callV_ip [] (ci := 10) (T0 := TX11) (N := 18) B hS9 mf11_rich wd_626 (gw B wd_627) wd_625 (by decide) rfl (fun h => (gd_ne h).1) (c11_rich X l a1 M) (by decide) (by decide) ⟨by show (337 + 4 * j) + 0 ≤ 601024; omega, by show (29787 + 24 * j) + 0 ≤ 7293034; omega⟩ rfl (by decide) dL_law__2459 rfl (fun v_196 => ?_)
          refine g_aload_n B dL_law__2462 2 rfl ?_
          refine g_callV_iw [] (ci := 11) (T0 := TX12) (N := 27) B hS9 mf12_rich wd_2270 (gw B wd_2271) wd_2269 (by decide) rfl (fun h => (gd_ne h).1) (c12_rich X l a2 M) (by decide) (by decide) ⟨by show (337 + 4 * j) + 0 ≤ 601024; omega, by show (29787 + 24 * j) + 0 ≤ 7293034; omega⟩ rfl (Nat.le_of_ble_eq_true rfl) dL_law__2463 rfl (fun q_197 => ?_)
          refine g_icmp_eq B 3518 dL_law__2466 (by decide) ?_ ?_
          · refine g_sub (lv' := [(0, .ref b), (1, .ref a1), (2, .ref a2), (3, .ref a3), (4, .int x4)]) [0, 1, 2, 3, 4] rfl ?_
            refine g_widen (cells' := (337 + 4 * j + 4)) (slots' := (29787 + 24 * j + 24)) (by first | omega | exact Nat.add_le_add_left (Nat.le_of_ble_eq_true rfl) _) (by first | omega | exact Nat.add_le_add_left (Nat.le_of_ble_eq_true rfl) _) ?_
            exact gW_J3518 B hS9 hr hfl hXs hbl hbA hlo j (by omega) (pW_L23 xs L n) (fun a1 a2 a3 x4 M9 => ih (j + 1) (by omega) a1 a2 a3 x4 M9) a1 a2 a3 x4 q_197.2
          · refine g_iconst (v := 0) B dL_law__2469 (by decide) ?_
            exact g_lawret0 (by decide)
        · refine g_aload_n B dL_law__2471 1 rfl ?_
          refine g_aload_n B dL_law__2472 0 rfl ?_
          refine g_iload B dL_law__2473 4 rfl ?_
          refine g_iconst (v := 1) B dL_law__2475 (by decide) ?_
          refine g_iadd B dL_law__2476 ?_
          refine g_sld hXs hbl hbA B dL_law__2477 (fun v_198 => ?_)
          refine g_aload_n B dL_law__2478 0 rfl ?_
          refine g_iload B dL_law__2479 4 rfl ?_
          refine g_iconst (v := 2) B dL_law__2481 (by decide) ?_
          refine g_iadd B dL_law__2482 ?_
          refine g_sld hXs hbl hbA B dL_law__2483 (fun v_199 => ?_)
          refine g_aload_n B dL_law__2484 3 rfl ?_
          refine g_callW [.ref a1, .int v_198, .int v_199, .ref a3] B hS9 mfL_rests wd_1478 wd_1477 (oL_rests X l hfl a1 v_198 v_199 a3 M) (by decide) (by decide) ⟨by show (337 + 4 * j) + 4 ≤ 601024; omega, by show (29787 + 24 * j) + 24 ≤ 7293034; omega⟩ rfl (Nat.le_of_ble_eq_true rfl) dL_law__2485 rfl (fun q_200 => ?_)
          refine g_istore (lv' := [(5, .int q_200.1), (0, .ref b), (1, .ref a1), (2, .ref a2), (3, .ref a3), (4, .int x4)]) B dL_law__2488 (by decide) [0, 1, 2, 3, 4, 5] rfl ?_
          refine g_aload_n B dL_law__2490 3 rfl ?_
          refine g_aload_n B dL_law__2491 1 rfl ?_
          refine g_iload B dL_law__2492 5 rfl ?_
          refine g_iconst (v := 1) B dL_law__2494 (by decide) ?_
          refine g_iadd B dL_law__2495 ?_
          refine g_sld hXs hbl hbA B dL_law__2496 (fun v_201 => ?_)
          refine g_aload_n B dL_law__2497 1 rfl ?_
          refine g_iload B dL_law__2498 5 rfl ?_
          refine g_iconst (v := 2) B dL_law__2500 (by decide) ?_
          refine g_iadd B dL_law__2501 ?_
          refine g_sld hXs hbl hbA B dL_law__2502 (fun v_202 => ?_)
          refine g_callV_iw [.int v_201, .int v_202] (ci := 11) (T0 := TX12) (N := 27) B hS9 mf12_rests wd_2274 (gw B wd_2275) wd_2273 (by decide) rfl (fun h => (gd_ne h).1) (c12_rests X l a2 v_201 v_202 q_200.2) (by decide) (by decide) ⟨by show (337 + 4 * j + 4) + 0 ≤ 601024; omega, by show (29787 + 24 * j + 24) + 0 ≤ 7293034; omega⟩ rfl (by decide) dL_law__2503 rfl (fun q_203 => ?_)
          refine g_istore (lv' := [(6, .int q_203.1), (5, .int q_200.1), (0, .ref b), (1, .ref a1), (2, .ref a2), (3, .ref a3), (4, .int x4)]) B dL_law__2506 (by decide) [0, 1, 2, 3, 4, 5, 6] rfl ?_
          refine g_aload_n B dL_law__2508 4 rfl ?_
          refine g_callV_ip [] (ci := 11) (T0 := TX12) (N := 27) B hS9 mf12_thrown wd_1632 (gw B wd_1633) wd_1631 (by decide) rfl (fun h => (gd_ne h).1) (c12_thrown X l a2 q_203.2) (by decide) (by decide) ⟨by show (337 + 4 * j + 4) + 0 ≤ 601024; omega, by show (29787 + 24 * j + 24) + 0 ≤ 7293034; omega⟩ rfl (by decide) dL_law__2509 rfl (fun v_204 => ?_)
          refine g_iload B dL_law__2512 1 rfl ?_
          refine g_icmp_eq B 2519 dL_law__2514 (by decide) ?_ ?_
          · refine g_iload B dL_law__2519 1 rfl ?_
            refine g_if_ne B 2536 dL_law__2521 (by decide) ?_ ?_
            · refine g_aload_n B dL_law__2524 5 rfl ?_
              refine g_iconst (v := 0) B dL_law__2525 (by decide) ?_
              refine g_laload B dL_law__2526 (fun v_205 => ?_)
              refine g_iload B dL_law__2527 0 rfl ?_
              refine g_i2l B dL_law__2529 ?_
              refine g_lcmp B dL_law__2530 ?_
              refine g_if_eq B 2536 dL_law__2531 (by decide) ?_ ?_
              · refine g_sub (lv' := [(0, .ref b), (1, .ref a1), (2, .ref a2), (3, .ref a3), (4, .int x4)]) [2, 3, 4, 5, 6] rfl ?_
                exact gW_J2536 B hS9 hr hfl hXs hbl hbA hlo j (by omega) (pW_L23 xs L n) (fun a1 a2 a3 x4 M9 => ih (j + 1) (by omega) a1 a2 a3 x4 M9) a1 a2 a3 x4 q_203.2
              · refine g_iconst (v := 0) B dL_law__2534 (by decide) ?_
                exact g_lawret0 (by decide)
            · refine g_sub (lv' := [(0, .ref b), (1, .ref a1), (2, .ref a2), (3, .ref a3), (4, .int x4)]) [2, 3, 4, 5, 6] rfl ?_
              exact gW_J2536 B hS9 hr hfl hXs hbl hbA hlo j (by omega) (pW_L23 xs L n) (fun a1 a2 a3 x4 M9 => ih (j + 1) (by omega) a1 a2 a3 x4 M9) a1 a2 a3 x4 q_203.2
          · refine g_iconst (v := 0) B dL_law__2517 (by decide) ?_
            exact g_lawret0 (by decide)
        · refine g_aload_n B dL_law__2539 1 rfl ?_
          refine g_aload_n B dL_law__2540 0 rfl ?_
          refine g_iload B dL_law__2541 4 rfl ?_
          refine g_iconst (v := 1) B dL_law__2543 (by decide) ?_
          refine g_iadd B dL_law__2544 ?_
          refine g_sld hXs hbl hbA B dL_law__2545 (fun v_206 => ?_)
          refine g_aload_n B dL_law__2546 3 rfl ?_
          refine g_callW [.ref a1, .int v_206, .ref a3] B hS9 mfL_mild wd_1495 wd_1494 (oL_mild X l hfl a1 v_206 a3 M) (by decide) (by decide) ⟨by show (337 + 4 * j) + 1 ≤ 601024; omega, by show (29787 + 24 * j) + 6 ≤ 7293034; omega⟩ rfl (Nat.le_of_ble_eq_true rfl) dL_law__2547 rfl (fun q_207 => ?_)
          refine g_istore (lv' := [(5, .int q_207.1), (0, .ref b), (1, .ref a1), (2, .ref a2), (3, .ref a3), (4, .int x4)]) B dL_law__2550 (by decide) [0, 1, 2, 3, 4, 5] rfl ?_
          refine g_aload_n B dL_law__2552 3 rfl ?_
          refine g_aload_n B dL_law__2553 1 rfl ?_
          refine g_iload B dL_law__2554 5 rfl ?_
          refine g_iconst (v := 1) B dL_law__2556 (by decide) ?_
          refine g_iadd B dL_law__2557 ?_
          refine g_sld hXs hbl hbA B dL_law__2558 (fun v_208 => ?_)
          refine g_callV_iw [.int v_208] (ci := 11) (T0 := TX12) (N := 27) B hS9 mf12_mild wd_2130 (gw B wd_2131) wd_2129 (by decide) rfl (fun h => (gd_ne h).1) (c12_mild X l a2 v_208 q_207.2) (by decide) (by decide) ⟨by show (337 + 4 * j + 1) + 0 ≤ 601024; omega, by show (29787 + 24 * j + 6) + 0 ≤ 7293034; omega⟩ rfl (by decide) dL_law__2559 rfl (fun q_209 => ?_)
          refine g_istore (lv' := [(6, .int q_209.1), (5, .int q_207.1), (0, .ref b), (1, .ref a1), (2, .ref a2), (3, .ref a3), (4, .int x4)]) B dL_law__2562 (by decide) [0, 1, 2, 3, 4, 5, 6] rfl ?_
          refine g_aload_n B dL_law__2564 4 rfl ?_
          refine g_callV_ip [] (ci := 11) (T0 := TX12) (N := 27) B hS9 mf12_thrown wd_1632 (gw B wd_1633) wd_1631 (by decide) rfl (fun h => (gd_ne h).1) (c12_thrown X l a2 q_209.2) (by decide) (by decide) ⟨by show (337 + 4 * j + 1) + 0 ≤ 601024; omega, by show (29787 + 24 * j + 6) + 0 ≤ 7293034; omega⟩ rfl (by decide) dL_law__2565 rfl (fun v_210 => ?_)
          refine g_iload B dL_law__2568 1 rfl ?_
          refine g_icmp_eq B 2575 dL_law__2570 (by decide) ?_ ?_
          · refine g_iload B dL_law__2575 1 rfl ?_
            refine g_if_ne B 2592 dL_law__2577 (by decide) ?_ ?_
            · refine g_aload_n B dL_law__2580 5 rfl ?_
              refine g_iconst (v := 0) B dL_law__2581 (by decide) ?_
              refine g_laload B dL_law__2582 (fun v_211 => ?_)
              refine g_iload B dL_law__2583 0 rfl ?_
              refine g_i2l B dL_law__2585 ?_
              refine g_lcmp B dL_law__2586 ?_
              refine g_if_eq B 2592 dL_law__2587 (by decide) ?_ ?_
              · refine g_sub (lv' := [(0, .ref b), (1, .ref a1), (2, .ref a2), (3, .ref a3), (4, .int x4)]) [2, 3, 4, 5, 6] rfl ?_
                exact gW_J2592 B hS9 hr hfl hXs hbl hbA hlo j (by omega) (pW_L23 xs L n) (fun a1 a2 a3 x4 M9 => ih (j + 1) (by omega) a1 a2 a3 x4 M9) a1 a2 a3 x4 q_209.2
              · refine g_iconst (v := 0) B dL_law__2590 (by decide) ?_
                exact g_lawret0 (by decide)
            · refine g_sub (lv' := [(0, .ref b), (1, .ref a1), (2, .ref a2), (3, .ref a3), (4, .int x4)]) [2, 3, 4, 5, 6] rfl ?_
              exact gW_J2592 B hS9 hr hfl hXs hbl hbA hlo j (by omega) (pW_L23 xs L n) (fun a1 a2 a3 x4 M9 => ih (j + 1) (by omega) a1 a2 a3 x4 M9) a1 a2 a3 x4 q_209.2
          · refine g_iconst (v := 0) B dL_law__2573 (by decide) ?_
            exact g_lawret0 (by decide)
        · refine g_aload_n B dL_law__2595 1 rfl ?_
          refine g_aload_n B dL_law__2596 0 rfl ?_
          refine g_iload B dL_law__2597 4 rfl ?_
          refine g_iconst (v := 1) B dL_law__2599 (by decide) ?_
          refine g_iadd B dL_law__2600 ?_
          refine g_sld hXs hbl hbA B dL_law__2601 (fun v_212 => ?_)
          refine g_aload_n B dL_law__2602 3 rfl ?_
          refine g_callW [.ref a1, .int v_212, .ref a3] B hS9 mfL_branch wd_1510 wd_1509 (oL_branch X l hfl a1 v_212 a3 M) (by decide) (by decide) ⟨by show (337 + 4 * j) + 1 ≤ 601024; omega, by show (29787 + 24 * j) + 6 ≤ 7293034; omega⟩ rfl (Nat.le_of_ble_eq_true rfl) dL_law__2603 rfl (fun q_213 => ?_)
          refine g_istore (lv' := [(5, .int q_213.1), (0, .ref b), (1, .ref a1), (2, .ref a2), (3, .ref a3), (4, .int x4)]) B dL_law__2606 (by decide) [0, 1, 2, 3, 4, 5] rfl ?_
          refine g_aload_n B dL_law__2608 3 rfl ?_
          refine g_aload_n B dL_law__2609 1 rfl ?_
          refine g_iload B dL_law__2610 5 rfl ?_
          refine g_iconst (v := 1) B dL_law__2612 (by decide) ?_
          refine g_iadd B dL_law__2613 ?_
          refine g_sld hXs hbl hbA B dL_law__2614 (fun v_214 => ?_)
          refine g_callV_iw [.int v_214] (ci := 11) (T0 := TX12) (N := 27) B hS9 mf12_branch wd_2286 (gw B wd_2287) wd_2285 (by decide) rfl (fun h => (gd_ne h).1) (c12_branch X l a2 v_214 q_213.2) (by decide) (by decide) ⟨by show (337 + 4 * j + 1) + 0 ≤ 601024; omega, by show (29787 + 24 * j + 6) + 0 ≤ 7293034; omega⟩ rfl (by decide) dL_law__2615 rfl (fun q_215 => ?_)
          refine g_istore (lv' := [(6, .int q_215.1), (5, .int q_213.1), (0, .ref b), (1, .ref a1), (2, .ref a2), (3, .ref a3), (4, .int x4)]) B dL_law__2618 (by decide) [0, 1, 2, 3, 4, 5, 6] rfl ?_
          refine g_aload_n B dL_law__2620 4 rfl ?_
          refine g_callV_ip [] (ci := 11) (T0 := TX12) (N := 27) B hS9 mf12_thrown wd_1632 (gw B wd_1633) wd_1631 (by decide) rfl (fun h => (gd_ne h).1) (c12_thrown X l a2 q_215.2) (by decide) (by decide) ⟨by show (337 + 4 * j + 1) + 0 ≤ 601024; omega, by show (29787 + 24 * j + 6) + 0 ≤ 7293034; omega⟩ rfl (by decide) dL_law__2621 rfl (fun v_216 => ?_)
          refine g_iload B dL_law__2624 1 rfl ?_
          refine g_icmp_eq B 2631 dL_law__2626 (by decide) ?_ ?_
          · refine g_iload B dL_law__2631 1 rfl ?_
            refine g_if_ne B 2648 dL_law__2633 (by decide) ?_ ?_
            · refine g_aload_n B dL_law__2636 5 rfl ?_
              refine g_iconst (v := 0) B dL_law__2637 (by decide) ?_
              refine g_laload B dL_law__2638 (fun v_217 => ?_)
              refine g_iload B dL_law__2639 0 rfl ?_
              refine g_i2l B dL_law__2641 ?_
              refine g_lcmp B dL_law__2642 ?_
              refine g_if_eq B 2648 dL_law__2643 (by decide) ?_ ?_
              · refine g_sub (lv' := [(0, .ref b), (1, .ref a1), (2, .ref a2), (3, .ref a3), (4, .int x4)]) [2, 3, 4, 5, 6] rfl ?_
                exact gW_J2648 B hS9 hr hfl hXs hbl hbA hlo j (by omega) (pW_L23 xs L n) (fun a1 a2 a3 x4 M9 => ih (j + 1) (by omega) a1 a2 a3 x4 M9) a1 a2 a3 x4 q_215.2
              · refine g_iconst (v := 0) B dL_law__2646 (by decide) ?_
                exact g_lawret0 (by decide)
            · refine g_sub (lv' := [(0, .ref b), (1, .ref a1), (2, .ref a2), (3, .ref a3), (4, .int x4)]) [2, 3, 4, 5, 6] rfl ?_
              exact gW_J2648 B hS9 hr hfl hXs hbl hbA hlo j (by omega) (pW_L23 xs L n) (fun a1 a2 a3 x4 M9 => ih (j + 1) (by omega) a1 a2 a3 x4 M9) a1 a2 a3 x4 q_215.2
          · refine g_iconst (v := 0) B dL_law__2629 (by decide) ?_
            exact g_lawret0 (by decide)
        · refine g_aload_n B dL_law__2651 1 rfl ?_
          refine g_callV_ip [] (ci := 10) (T0 := TX11) (N := 18) B hS9 mf11_senior wd_631 (gw B wd_632) wd_630 (by decide) rfl (fun h => (gd_ne h).1) (c11_senior X l a1 M) (by decide) (by decide) ⟨by show (337 + 4 * j) + 0 ≤ 601024; omega, by show (29787 + 24 * j) + 0 ≤ 7293034; omega⟩ rfl (by decide) dL_law__2652 rfl (fun v_218 => ?_)
          refine g_aload_n B dL_law__2655 2 rfl ?_
          refine g_callV_iw [] (ci := 11) (T0 := TX12) (N := 27) B hS9 mf12_senior wd_2294 (gw B wd_2295) wd_2293 (by decide) rfl (fun h => (gd_ne h).1) (c12_senior X l a2 M) (by decide) (by decide) ⟨by show (337 + 4 * j) + 0 ≤ 601024; omega, by show (29787 + 24 * j) + 0 ≤ 7293034; omega⟩ rfl (Nat.le_of_ble_eq_true rfl) dL_law__2656 rfl (fun q_219 => ?_)
          refine g_icmp_eq B 3518 dL_law__2659 (by decide) ?_ ?_
          · refine g_sub (lv' := [(0, .ref b), (1, .ref a1), (2, .ref a2), (3, .ref a3), (4, .int x4)]) [0, 1, 2, 3, 4] rfl ?_
            refine g_widen (cells' := (337 + 4 * j + 4)) (slots' := (29787 + 24 * j + 24)) (by first | omega | exact Nat.add_le_add_left (Nat.le_of_ble_eq_true rfl) _) (by first | omega | exact Nat.add_le_add_left (Nat.le_of_ble_eq_true rfl) _) ?_
            exact gW_J3518 B hS9 hr hfl hXs hbl hbA hlo j (by omega) (pW_L23 xs L n) (fun a1 a2 a3 x4 M9 => ih (j + 1) (by omega) a1 a2 a3 x4 M9) a1 a2 a3 x4 q_219.2
          · refine g_iconst (v := 0) B dL_law__2662 (by decide) ?_
            exact g_lawret0 (by decide)
        · refine g_aload_n B dL_law__2664 1 rfl ?_
          refine g_aload_n B dL_law__2665 0 rfl ?_
          refine g_iload B dL_law__2666 4 rfl ?_
          refine g_iconst (v := 1) B dL_law__2668 (by decide) ?_
          refine g_iadd B dL_law__2669 ?_
          refine g_sld hXs hbl hbA B dL_law__2670 (fun v_220 => ?_)
          refine g_aload_n B dL_law__2671 0 rfl ?_
          refine g_iload B dL_law__2672 4 rfl ?_
          refine g_iconst (v := 2) B dL_law__2674 (by decide) ?_
          refine g_iadd B dL_law__2675 ?_
          refine g_sld hXs hbl hbA B dL_law__2676 (fun v_221 => ?_)
          refine g_aload_n B dL_law__2677 3 rfl ?_
          refine g_callW [.ref a1, .int v_220, .int v_221, .ref a3] B hS9 mfL_kin wd_1518 wd_1517 (oL_kin X l hfl a1 v_220 v_221 a3 M) (by decide) (by decide) ⟨by show (337 + 4 * j) + 3 ≤ 601024; omega, by show (29787 + 24 * j) + 18 ≤ 7293034; omega⟩ rfl (Nat.le_of_ble_eq_true rfl) dL_law__2678 rfl (fun q_222 => ?_)
          refine g_istore (lv' := [(5, .int q_222.1), (0, .ref b), (1, .ref a1), (2, .ref a2), (3, .ref a3), (4, .int x4)]) B dL_law__2681 (by decide) [0, 1, 2, 3, 4, 5] rfl ?_
          refine g_aload_n B dL_law__2683 3 rfl ?_
          refine g_aload_n B dL_law__2684 1 rfl ?_
          refine g_iload B dL_law__2685 5 rfl ?_
          refine g_iconst (v := 1) B dL_law__2687 (by decide) ?_
          refine g_iadd B dL_law__2688 ?_
          refine g_sld hXs hbl hbA B dL_law__2689 (fun v_223 => ?_)
          refine g_aload_n B dL_law__2690 1 rfl ?_
          refine g_iload B dL_law__2691 5 rfl ?_
          refine g_iconst (v := 2) B dL_law__2693 (by decide) ?_
          refine g_iadd B dL_law__2694 ?_
          refine g_sld hXs hbl hbA B dL_law__2695 (fun v_224 => ?_)
          refine g_callV_iw [.int v_223, .int v_224] (ci := 11) (T0 := TX12) (N := 27) B hS9 mf12_kin wd_2302 (gw B wd_2303) wd_2301 (by decide) rfl (fun h => (gd_ne h).1) (c12_kin X l a2 v_223 v_224 q_222.2) (by decide) (by decide) ⟨by show (337 + 4 * j + 3) + 0 ≤ 601024; omega, by show (29787 + 24 * j + 18) + 0 ≤ 7293034; omega⟩ rfl (by decide) dL_law__2696 rfl (fun q_225 => ?_)
          refine g_istore (lv' := [(6, .int q_225.1), (5, .int q_222.1), (0, .ref b), (1, .ref a1), (2, .ref a2), (3, .ref a3), (4, .int x4)]) B dL_law__2699 (by decide) [0, 1, 2, 3, 4, 5, 6] rfl ?_
          refine g_aload_n B dL_law__2701 4 rfl ?_
          refine g_callV_ip [] (ci := 11) (T0 := TX12) (N := 27) B hS9 mf12_thrown wd_1632 (gw B wd_1633) wd_1631 (by decide) rfl (fun h => (gd_ne h).1) (c12_thrown X l a2 q_225.2) (by decide) (by decide) ⟨by show (337 + 4 * j + 3) + 0 ≤ 601024; omega, by show (29787 + 24 * j + 18) + 0 ≤ 7293034; omega⟩ rfl (by decide) dL_law__2702 rfl (fun v_226 => ?_)
          refine g_iload B dL_law__2705 1 rfl ?_
          refine g_icmp_eq B 2712 dL_law__2707 (by decide) ?_ ?_
          · refine g_iload B dL_law__2712 1 rfl ?_
            refine g_if_ne B 2729 dL_law__2714 (by decide) ?_ ?_
            · refine g_aload_n B dL_law__2717 5 rfl ?_
              refine g_iconst (v := 0) B dL_law__2718 (by decide) ?_
              refine g_laload B dL_law__2719 (fun v_227 => ?_)
              refine g_iload B dL_law__2720 0 rfl ?_
              refine g_i2l B dL_law__2722 ?_
              refine g_lcmp B dL_law__2723 ?_
              refine g_if_eq B 2729 dL_law__2724 (by decide) ?_ ?_
              · refine g_sub (lv' := [(0, .ref b), (1, .ref a1), (2, .ref a2), (3, .ref a3), (4, .int x4)]) [2, 3, 4, 5, 6] rfl ?_
                exact gW_J2729 B hS9 hr hfl hXs hbl hbA hlo j (by omega) (pW_L23 xs L n) (fun a1 a2 a3 x4 M9 => ih (j + 1) (by omega) a1 a2 a3 x4 M9) a1 a2 a3 x4 q_225.2
              · refine g_iconst (v := 0) B dL_law__2727 (by decide) ?_
                exact g_lawret0 (by decide)
            · refine g_sub (lv' := [(0, .ref b), (1, .ref a1), (2, .ref a2), (3, .ref a3), (4, .int x4)]) [2, 3, 4, 5, 6] rfl ?_
              exact gW_J2729 B hS9 hr hfl hXs hbl hbA hlo j (by omega) (pW_L23 xs L n) (fun a1 a2 a3 x4 M9 => ih (j + 1) (by omega) a1 a2 a3 x4 M9) a1 a2 a3 x4 q_225.2
          · refine g_iconst (v := 0) B dL_law__2710 (by decide) ?_
            exact g_lawret0 (by decide)
        · refine g_aload_n B dL_law__2732 1 rfl ?_
          refine g_aload_n B dL_law__2733 0 rfl ?_
          refine g_iload B dL_law__2734 4 rfl ?_
          refine g_iconst (v := 1) B dL_law__2736 (by decide) ?_
          refine g_iadd B dL_law__2737 ?_
          refine g_sld hXs hbl hbA B dL_law__2738 (fun v_228 => ?_)
          refine g_aload_n B dL_law__2739 3 rfl ?_
          refine g_callW [.ref a1, .int v_228, .ref a3] B hS9 mfL_cousins wd_1533 wd_1532 (oL_cousins X l hfl a1 v_228 a3 M) (by decide) (by decide) ⟨by show (337 + 4 * j) + 1 ≤ 601024; omega, by show (29787 + 24 * j) + 6 ≤ 7293034; omega⟩ rfl (Nat.le_of_ble_eq_true rfl) dL_law__2740 rfl (fun q_229 => ?_)
          refine g_istore (lv' := [(5, .int q_229.1), (0, .ref b), (1, .ref a1), (2, .ref a2), (3, .ref a3), (4, .int x4)]) B dL_law__2743 (by decide) [0, 1, 2, 3, 4, 5] rfl ?_
          refine g_aload_n B dL_law__2745 3 rfl ?_
          refine g_aload_n B dL_law__2746 1 rfl ?_
          refine g_iload B dL_law__2747 5 rfl ?_
          refine g_iconst (v := 1) B dL_law__2749 (by decide) ?_
          refine g_iadd B dL_law__2750 ?_
          refine g_sld hXs hbl hbA B dL_law__2751 (fun v_230 => ?_)
          refine g_callV_iw [.int v_230] (ci := 11) (T0 := TX12) (N := 27) B hS9 mf12_cousins wd_2310 (gw B wd_2311) wd_2309 (by decide) rfl (fun h => (gd_ne h).1) (c12_cousins X l a2 v_230 q_229.2) (by decide) (by decide) ⟨by show (337 + 4 * j + 1) + 0 ≤ 601024; omega, by show (29787 + 24 * j + 6) + 0 ≤ 7293034; omega⟩ rfl (by decide) dL_law__2752 rfl (fun q_231 => ?_)
          refine g_istore (lv' := [(6, .int q_231.1), (5, .int q_229.1), (0, .ref b), (1, .ref a1), (2, .ref a2), (3, .ref a3), (4, .int x4)]) B dL_law__2755 (by decide) [0, 1, 2, 3, 4, 5, 6] rfl ?_
          refine g_aload_n B dL_law__2757 4 rfl ?_
          refine g_callV_ip [] (ci := 11) (T0 := TX12) (N := 27) B hS9 mf12_thrown wd_1632 (gw B wd_1633) wd_1631 (by decide) rfl (fun h => (gd_ne h).1) (c12_thrown X l a2 q_231.2) (by decide) (by decide) ⟨by show (337 + 4 * j + 1) + 0 ≤ 601024; omega, by show (29787 + 24 * j + 6) + 0 ≤ 7293034; omega⟩ rfl (by decide) dL_law__2758 rfl (fun v_232 => ?_)
          refine g_iload B dL_law__2761 1 rfl ?_
          refine g_icmp_eq B 2768 dL_law__2763 (by decide) ?_ ?_
          · refine g_iload B dL_law__2768 1 rfl ?_
            refine g_if_ne B 2785 dL_law__2770 (by decide) ?_ ?_
            · refine g_aload_n B dL_law__2773 5 rfl ?_
              refine g_iconst (v := 0) B dL_law__2774 (by decide) ?_
              refine g_laload B dL_law__2775 (fun v_233 => ?_)
              refine g_iload B dL_law__2776 0 rfl ?_
              refine g_i2l B dL_law__2778 ?_
              refine g_lcmp B dL_law__2779 ?_
              refine g_if_eq B 2785 dL_law__2780 (by decide) ?_ ?_
              · refine g_sub (lv' := [(0, .ref b), (1, .ref a1), (2, .ref a2), (3, .ref a3), (4, .int x4)]) [2, 3, 4, 5, 6] rfl ?_
                exact gW_J2785 B hS9 hr hfl hXs hbl hbA hlo j (by omega) (pW_L23 xs L n) (fun a1 a2 a3 x4 M9 => ih (j + 1) (by omega) a1 a2 a3 x4 M9) a1 a2 a3 x4 q_231.2
              · refine g_iconst (v := 0) B dL_law__2783 (by decide) ?_
                exact g_lawret0 (by decide)
            · refine g_sub (lv' := [(0, .ref b), (1, .ref a1), (2, .ref a2), (3, .ref a3), (4, .int x4)]) [2, 3, 4, 5, 6] rfl ?_
              exact gW_J2785 B hS9 hr hfl hXs hbl hbA hlo j (by omega) (pW_L23 xs L n) (fun a1 a2 a3 x4 M9 => ih (j + 1) (by omega) a1 a2 a3 x4 M9) a1 a2 a3 x4 q_231.2
          · refine g_iconst (v := 0) B dL_law__2766 (by decide) ?_
            exact g_lawret0 (by decide)
        · refine g_aload_n B dL_law__2788 1 rfl ?_
          refine g_aload_n B dL_law__2789 0 rfl ?_
          refine g_iload B dL_law__2790 4 rfl ?_
          refine g_iconst (v := 1) B dL_law__2792 (by decide) ?_
          refine g_iadd B dL_law__2793 ?_
          refine g_sld hXs hbl hbA B dL_law__2794 (fun v_234 => ?_)
          refine g_aload_n B dL_law__2795 3 rfl ?_
          refine g_callW [.ref a1, .int v_234, .ref a3] B hS9 mfL_under wd_1548 wd_1547 (oL_under X l hfl a1 v_234 a3 M) (by decide) (by decide) ⟨by show (337 + 4 * j) + 1 ≤ 601024; omega, by show (29787 + 24 * j) + 6 ≤ 7293034; omega⟩ rfl (Nat.le_of_ble_eq_true rfl) dL_law__2796 rfl (fun q_235 => ?_)
          refine g_istore (lv' := [(5, .int q_235.1), (0, .ref b), (1, .ref a1), (2, .ref a2), (3, .ref a3), (4, .int x4)]) B dL_law__2799 (by decide) [0, 1, 2, 3, 4, 5] rfl ?_
          refine g_aload_n B dL_law__2801 3 rfl ?_
          refine g_aload_n B dL_law__2802 1 rfl ?_
          refine g_iload B dL_law__2803 5 rfl ?_
          refine g_iconst (v := 1) B dL_law__2805 (by decide) ?_
          refine g_iadd B dL_law__2806 ?_
          refine g_sld hXs hbl hbA B dL_law__2807 (fun v_236 => ?_)
          refine g_callV_iw [.int v_236] (ci := 11) (T0 := TX12) (N := 27) B hS9 mf12_under wd_2318 (gw B wd_2319) wd_2317 (by decide) rfl (fun h => (gd_ne h).1) (c12_under X l a2 v_236 q_235.2) (by decide) (by decide) ⟨by show (337 + 4 * j + 1) + 0 ≤ 601024; omega, by show (29787 + 24 * j + 6) + 0 ≤ 7293034; omega⟩ rfl (by decide) dL_law__2808 rfl (fun q_237 => ?_)
          refine g_istore (lv' := [(6, .int q_237.1), (5, .int q_235.1), (0, .ref b), (1, .ref a1), (2, .ref a2), (3, .ref a3), (4, .int x4)]) B dL_law__2811 (by decide) [0, 1, 2, 3, 4, 5, 6] rfl ?_
          refine g_aload_n B dL_law__2813 4 rfl ?_
          refine g_callV_ip [] (ci := 11) (T0 := TX12) (N := 27) B hS9 mf12_thrown wd_1632 (gw B wd_1633) wd_1631 (by decide) rfl (fun h => (gd_ne h).1) (c12_thrown X l a2 q_237.2) (by decide) (by decide) ⟨by show (337 + 4 * j + 1) + 0 ≤ 601024; omega, by show (29787 + 24 * j + 6) + 0 ≤ 7293034; omega⟩ rfl (by decide) dL_law__2814 rfl (fun v_238 => ?_)
          refine g_iload B dL_law__2817 1 rfl ?_
          refine g_icmp_eq B 2824 dL_law__2819 (by decide) ?_ ?_
          · refine g_iload B dL_law__2824 1 rfl ?_
            refine g_if_ne B 2841 dL_law__2826 (by decide) ?_ ?_
            · refine g_aload_n B dL_law__2829 5 rfl ?_
              refine g_iconst (v := 0) B dL_law__2830 (by decide) ?_
              refine g_laload B dL_law__2831 (fun v_239 => ?_)
              refine g_iload B dL_law__2832 0 rfl ?_
              refine g_i2l B dL_law__2834 ?_
              refine g_lcmp B dL_law__2835 ?_
              refine g_if_eq B 2841 dL_law__2836 (by decide) ?_ ?_
              · refine g_sub (lv' := [(0, .ref b), (1, .ref a1), (2, .ref a2), (3, .ref a3), (4, .int x4)]) [2, 3, 4, 5, 6] rfl ?_
                exact gW_J2841 B hS9 hr hfl hXs hbl hbA hlo j (by omega) (pW_L23 xs L n) (fun a1 a2 a3 x4 M9 => ih (j + 1) (by omega) a1 a2 a3 x4 M9) a1 a2 a3 x4 q_237.2
              · refine g_iconst (v := 0) B dL_law__2839 (by decide) ?_
                exact g_lawret0 (by decide)
            · refine g_sub (lv' := [(0, .ref b), (1, .ref a1), (2, .ref a2), (3, .ref a3), (4, .int x4)]) [2, 3, 4, 5, 6] rfl ?_
              exact gW_J2841 B hS9 hr hfl hXs hbl hbA hlo j (by omega) (pW_L23 xs L n) (fun a1 a2 a3 x4 M9 => ih (j + 1) (by omega) a1 a2 a3 x4 M9) a1 a2 a3 x4 q_237.2
          · refine g_iconst (v := 0) B dL_law__2822 (by decide) ?_
            exact g_lawret0 (by decide)
        · refine g_aload_n B dL_law__2844 1 rfl ?_
          refine g_callV_ip [] (ci := 10) (T0 := TX11) (N := 18) B hS9 mf11_free wd_648 (gw B wd_649) wd_647 (by decide) rfl (fun h => (gd_ne h).1) (c11_free X l a1 M) (by decide) (by decide) ⟨by show (337 + 4 * j) + 0 ≤ 601024; omega, by show (29787 + 24 * j) + 0 ≤ 7293034; omega⟩ rfl (by decide) dL_law__2845 rfl (fun v_240 => ?_)
          refine g_aload_n B dL_law__2848 2 rfl ?_
          refine g_callV_iw [] (ci := 11) (T0 := TX12) (N := 27) B hS9 mf12_free wd_2322 (gw B wd_2323) wd_2321 (by decide) rfl (fun h => (gd_ne h).1) (c12_free X l a2 M) (by decide) (by decide) ⟨by show (337 + 4 * j) + 0 ≤ 601024; omega, by show (29787 + 24 * j) + 0 ≤ 7293034; omega⟩ rfl (Nat.le_of_ble_eq_true rfl) dL_law__2849 rfl (fun q_241 => ?_)
          refine g_icmp_eq B 3518 dL_law__2852 (by decide) ?_ ?_
          · refine g_sub (lv' := [(0, .ref b), (1, .ref a1), (2, .ref a2), (3, .ref a3), (4, .int x4)]) [0, 1, 2, 3, 4] rfl ?_
            refine g_widen (cells' := (337 + 4 * j + 4)) (slots' := (29787 + 24 * j + 24)) (by first | omega | exact Nat.add_le_add_left (Nat.le_of_ble_eq_true rfl) _) (by first | omega | exact Nat.add_le_add_left (Nat.le_of_ble_eq_true rfl) _) ?_
            exact gW_J3518 B hS9 hr hfl hXs hbl hbA hlo j (by omega) (pW_L23 xs L n) (fun a1 a2 a3 x4 M9 => ih (j + 1) (by omega) a1 a2 a3 x4 M9) a1 a2 a3 x4 q_241.2
          · refine g_iconst (v := 0) B dL_law__2855 (by decide) ?_
            exact g_lawret0 (by decide)
        · refine g_aload_n B dL_law__2857 1 rfl ?_
          refine g_aload_n B dL_law__2858 0 rfl ?_
          refine g_iload B dL_law__2859 4 rfl ?_
          refine g_iconst (v := 1) B dL_law__2861 (by decide) ?_
          refine g_iadd B dL_law__2862 ?_
          refine g_sld hXs hbl hbA B dL_law__2863 (fun v_242 => ?_)
          refine g_aload_n B dL_law__2864 0 rfl ?_
          refine g_iload B dL_law__2865 4 rfl ?_
          refine g_iconst (v := 2) B dL_law__2867 (by decide) ?_
          refine g_iadd B dL_law__2868 ?_
          refine g_sld hXs hbl hbA B dL_law__2869 (fun v_243 => ?_)
          refine g_aload_n B dL_law__2870 0 rfl ?_
          refine g_iload B dL_law__2871 4 rfl ?_
          refine g_iconst (v := 3) B dL_law__2873 (by decide) ?_
          refine g_iadd B dL_law__2874 ?_
          refine g_sld hXs hbl hbA B dL_law__2875 (fun v_244 => ?_)
          refine g_aload_n B dL_law__2876 3 rfl ?_
          refine g_callW [.ref a1, .int v_242, .int v_243, .int v_244, .ref a3] B hS9 mfL_odds wd_1555 wd_1554 (oL_odds X l hfl a1 v_242 v_243 v_244 a3 M) (by decide) (by decide) ⟨by show (337 + 4 * j) + 3 ≤ 601024; omega, by show (29787 + 24 * j) + 18 ≤ 7293034; omega⟩ rfl (Nat.le_of_ble_eq_true rfl) dL_law__2877 rfl (fun q_245 => ?_)
          refine g_istore (lv' := [(5, .int q_245.1), (0, .ref b), (1, .ref a1), (2, .ref a2), (3, .ref a3), (4, .int x4)]) B dL_law__2880 (by decide) [0, 1, 2, 3, 4, 5] rfl ?_
          refine g_aload_n B dL_law__2882 3 rfl ?_
          refine g_aload_n B dL_law__2883 1 rfl ?_
          refine g_iload B dL_law__2884 5 rfl ?_
          refine g_iconst (v := 1) B dL_law__2886 (by decide) ?_
          refine g_iadd B dL_law__2887 ?_
          refine g_sld hXs hbl hbA B dL_law__2888 (fun v_246 => ?_)
          refine g_aload_n B dL_law__2889 1 rfl ?_
          refine g_iload B dL_law__2890 5 rfl ?_
          refine g_iconst (v := 2) B dL_law__2892 (by decide) ?_
          refine g_iadd B dL_law__2893 ?_
          refine g_sld hXs hbl hbA B dL_law__2894 (fun v_247 => ?_)
          refine g_aload_n B dL_law__2895 1 rfl ?_
          refine g_iload B dL_law__2896 5 rfl ?_
          refine g_iconst (v := 3) B dL_law__2898 (by decide) ?_
          refine g_iadd B dL_law__2899 ?_
          refine g_sld hXs hbl hbA B dL_law__2900 (fun v_248 => ?_)
          refine g_callV_iw [.int v_246, .int v_247, .int v_248] (ci := 11) (T0 := TX12) (N := 27) B hS9 mf12_odds wd_2326 (gw B wd_2327) wd_2325 (by decide) rfl (fun h => (gd_ne h).1) (c12_odds X l a2 v_246 v_247 v_248 q_245.2) (by decide) (by decide) ⟨by show (337 + 4 * j + 3) + 0 ≤ 601024; omega, by show (29787 + 24 * j + 18) + 0 ≤ 7293034; omega⟩ rfl (by decide) dL_law__2901 rfl (fun q_249 => ?_)
          refine g_istore (lv' := [(6, .int q_249.1), (5, .int q_245.1), (0, .ref b), (1, .ref a1), (2, .ref a2), (3, .ref a3), (4, .int x4)]) B dL_law__2904 (by decide) [0, 1, 2, 3, 4, 5, 6] rfl ?_
          refine g_aload_n B dL_law__2906 4 rfl ?_
          refine g_callV_ip [] (ci := 11) (T0 := TX12) (N := 27) B hS9 mf12_thrown wd_1632 (gw B wd_1633) wd_1631 (by decide) rfl (fun h => (gd_ne h).1) (c12_thrown X l a2 q_249.2) (by decide) (by decide) ⟨by show (337 + 4 * j + 3) + 0 ≤ 601024; omega, by show (29787 + 24 * j + 18) + 0 ≤ 7293034; omega⟩ rfl (by decide) dL_law__2907 rfl (fun v_250 => ?_)
          refine g_iload B dL_law__2910 1 rfl ?_
          refine g_icmp_eq B 2917 dL_law__2912 (by decide) ?_ ?_
          · refine g_iload B dL_law__2917 1 rfl ?_
            refine g_if_ne B 2934 dL_law__2919 (by decide) ?_ ?_
            · refine g_aload_n B dL_law__2922 5 rfl ?_
              refine g_iconst (v := 0) B dL_law__2923 (by decide) ?_
              refine g_laload B dL_law__2924 (fun v_251 => ?_)
              refine g_iload B dL_law__2925 0 rfl ?_
              refine g_i2l B dL_law__2927 ?_
              refine g_lcmp B dL_law__2928 ?_
              refine g_if_eq B 2934 dL_law__2929 (by decide) ?_ ?_
              · refine g_sub (lv' := [(0, .ref b), (1, .ref a1), (2, .ref a2), (3, .ref a3), (4, .int x4)]) [2, 3, 4, 5, 6] rfl ?_
                exact gW_J2934 B hS9 hr hfl hXs hbl hbA hlo j (by omega) (pW_L23 xs L n) (fun a1 a2 a3 x4 M9 => ih (j + 1) (by omega) a1 a2 a3 x4 M9) a1 a2 a3 x4 q_249.2
              · refine g_iconst (v := 0) B dL_law__2932 (by decide) ?_
                exact g_lawret0 (by decide)
            · refine g_sub (lv' := [(0, .ref b), (1, .ref a1), (2, .ref a2), (3, .ref a3), (4, .int x4)]) [2, 3, 4, 5, 6] rfl ?_
              exact gW_J2934 B hS9 hr hfl hXs hbl hbA hlo j (by omega) (pW_L23 xs L n) (fun a1 a2 a3 x4 M9 => ih (j + 1) (by omega) a1 a2 a3 x4 M9) a1 a2 a3 x4 q_249.2
          · refine g_iconst (v := 0) B dL_law__2915 (by decide) ?_
            exact g_lawret0 (by decide)
        · refine g_aload_n B dL_law__2937 1 rfl ?_
          refine g_callV_ip [] (ci := 10) (T0 := TX11) (N := 18) B hS9 mf11_twins wd_652 (gw B wd_653) wd_651 (by decide) rfl (fun h => (gd_ne h).1) (c11_twins X l a1 M) (by decide) (by decide) ⟨by show (337 + 4 * j) + 0 ≤ 601024; omega, by show (29787 + 24 * j) + 0 ≤ 7293034; omega⟩ rfl (by decide) dL_law__2938 rfl (fun v_252 => ?_)
          refine g_aload_n B dL_law__2941 2 rfl ?_
          refine g_callV_iw [] (ci := 11) (T0 := TX12) (N := 27) B hS9 mf12_twins wd_2331 (gw B wd_2332) wd_2330 (by decide) rfl (fun h => (gd_ne h).1) (c12_twins X l a2 M) (by decide) (by decide) ⟨by show (337 + 4 * j) + 0 ≤ 601024; omega, by show (29787 + 24 * j) + 0 ≤ 7293034; omega⟩ rfl (Nat.le_of_ble_eq_true rfl) dL_law__2942 rfl (fun q_253 => ?_)
          refine g_icmp_eq B 3518 dL_law__2945 (by decide) ?_ ?_
          · refine g_sub (lv' := [(0, .ref b), (1, .ref a1), (2, .ref a2), (3, .ref a3), (4, .int x4)]) [0, 1, 2, 3, 4] rfl ?_
            refine g_widen (cells' := (337 + 4 * j + 4)) (slots' := (29787 + 24 * j + 24)) (by first | omega | exact Nat.add_le_add_left (Nat.le_of_ble_eq_true rfl) _) (by first | omega | exact Nat.add_le_add_left (Nat.le_of_ble_eq_true rfl) _) ?_
            exact gW_J3518 B hS9 hr hfl hXs hbl hbA hlo j (by omega) (pW_L23 xs L n) (fun a1 a2 a3 x4 M9 => ih (j + 1) (by omega) a1 a2 a3 x4 M9) a1 a2 a3 x4 q_253.2
          · refine g_iconst (v := 0) B dL_law__2948 (by decide) ?_
            exact g_lawret0 (by decide)
        · refine g_aload_n B dL_law__2950 1 rfl ?_
          refine g_callV_ip [] (ci := 10) (T0 := TX11) (N := 18) B hS9 mf11_mean wd_656 (gw B wd_657) wd_655 (by decide) rfl (fun h => (gd_ne h).1) (c11_mean X l a1 M) (by decide) (by decide) ⟨by show (337 + 4 * j) + 0 ≤ 601024; omega, by show (29787 + 24 * j) + 0 ≤ 7293034; omega⟩ rfl (by decide) dL_law__2951 rfl (fun v_254 => ?_)
          refine g_aload_n B dL_law__2954 2 rfl ?_
          refine g_callV_iw [] (ci := 11) (T0 := TX12) (N := 27) B hS9 mf12_mean wd_2335 (gw B wd_2336) wd_2334 (by decide) rfl (fun h => (gd_ne h).1) (c12_mean X l a2 M) (by decide) (by decide) ⟨by show (337 + 4 * j) + 0 ≤ 601024; omega, by show (29787 + 24 * j) + 0 ≤ 7293034; omega⟩ rfl (Nat.le_of_ble_eq_true rfl) dL_law__2955 rfl (fun q_255 => ?_)
          refine g_icmp_eq B 3518 dL_law__2958 (by decide) ?_ ?_
          · refine g_sub (lv' := [(0, .ref b), (1, .ref a1), (2, .ref a2), (3, .ref a3), (4, .int x4)]) [0, 1, 2, 3, 4] rfl ?_
            refine g_widen (cells' := (337 + 4 * j + 4)) (slots' := (29787 + 24 * j + 24)) (by first | omega | exact Nat.add_le_add_left (Nat.le_of_ble_eq_true rfl) _) (by first | omega | exact Nat.add_le_add_left (Nat.le_of_ble_eq_true rfl) _) ?_
            exact gW_J3518 B hS9 hr hfl hXs hbl hbA hlo j (by omega) (pW_L23 xs L n) (fun a1 a2 a3 x4 M9 => ih (j + 1) (by omega) a1 a2 a3 x4 M9) a1 a2 a3 x4 q_255.2
          · refine g_iconst (v := 0) B dL_law__2961 (by decide) ?_
            exact g_lawret0 (by decide)
        · refine g_aload_n B dL_law__2963 1 rfl ?_
          refine g_callV_ip [] (ci := 10) (T0 := TX11) (N := 18) B hS9 mf11_oldest wd_664 (gw B wd_665) wd_663 (by decide) rfl (fun h => (gd_ne h).1) (c11_oldest X l a1 M) (by decide) (by decide) ⟨by show (337 + 4 * j) + 0 ≤ 601024; omega, by show (29787 + 24 * j) + 0 ≤ 7293034; omega⟩ rfl (by decide) dL_law__2964 rfl (fun v_256 => ?_)
          refine g_aload_n B dL_law__2967 2 rfl ?_
          refine g_callV_iw [] (ci := 11) (T0 := TX12) (N := 27) B hS9 mf12_oldest wd_2343 (gw B wd_2344) wd_2342 (by decide) rfl (fun h => (gd_ne h).1) (c12_oldest X l a2 M) (by decide) (by decide) ⟨by show (337 + 4 * j) + 0 ≤ 601024; omega, by show (29787 + 24 * j) + 0 ≤ 7293034; omega⟩ rfl (Nat.le_of_ble_eq_true rfl) dL_law__2968 rfl (fun q_257 => ?_)
          refine g_icmp_eq B 3518 dL_law__2971 (by decide) ?_ ?_
          · refine g_sub (lv' := [(0, .ref b), (1, .ref a1), (2, .ref a2), (3, .ref a3), (4, .int x4)]) [0, 1, 2, 3, 4] rfl ?_
            refine g_widen (cells' := (337 + 4 * j + 4)) (slots' := (29787 + 24 * j + 24)) (by first | omega | exact Nat.add_le_add_left (Nat.le_of_ble_eq_true rfl) _) (by first | omega | exact Nat.add_le_add_left (Nat.le_of_ble_eq_true rfl) _) ?_
            exact gW_J3518 B hS9 hr hfl hXs hbl hbA hlo j (by omega) (pW_L23 xs L n) (fun a1 a2 a3 x4 M9 => ih (j + 1) (by omega) a1 a2 a3 x4 M9) a1 a2 a3 x4 q_257.2
          · refine g_iconst (v := 0) B dL_law__2974 (by decide) ?_
            exact g_lawret0 (by decide)
        · refine g_aload_n B dL_law__2976 1 rfl ?_
          refine g_callV_ip [] (ci := 10) (T0 := TX11) (N := 18) B hS9 mf11_youngest wd_672 (gw B wd_673) wd_671 (by decide) rfl (fun h => (gd_ne h).1) (c11_youngest X l a1 M) (by decide) (by decide) ⟨by show (337 + 4 * j) + 0 ≤ 601024; omega, by show (29787 + 24 * j) + 0 ≤ 7293034; omega⟩ rfl (by decide) dL_law__2977 rfl (fun v_258 => ?_)
          refine g_aload_n B dL_law__2980 2 rfl ?_
          refine g_callV_iw [] (ci := 11) (T0 := TX12) (N := 27) B hS9 mf12_youngest wd_2347 (gw B wd_2348) wd_2346 (by decide) rfl (fun h => (gd_ne h).1) (c12_youngest X l a2 M) (by decide) (by decide) ⟨by show (337 + 4 * j) + 0 ≤ 601024; omega, by show (29787 + 24 * j) + 0 ≤ 7293034; omega⟩ rfl (Nat.le_of_ble_eq_true rfl) dL_law__2981 rfl (fun q_259 => ?_)
          refine g_icmp_eq B 3518 dL_law__2984 (by decide) ?_ ?_
          · refine g_sub (lv' := [(0, .ref b), (1, .ref a1), (2, .ref a2), (3, .ref a3), (4, .int x4)]) [0, 1, 2, 3, 4] rfl ?_
            refine g_widen (cells' := (337 + 4 * j + 4)) (slots' := (29787 + 24 * j + 24)) (by first | omega | exact Nat.add_le_add_left (Nat.le_of_ble_eq_true rfl) _) (by first | omega | exact Nat.add_le_add_left (Nat.le_of_ble_eq_true rfl) _) ?_
            exact gW_J3518 B hS9 hr hfl hXs hbl hbA hlo j (by omega) (pW_L23 xs L n) (fun a1 a2 a3 x4 M9 => ih (j + 1) (by omega) a1 a2 a3 x4 M9) a1 a2 a3 x4 q_259.2
          · refine g_iconst (v := 0) B dL_law__2987 (by decide) ?_
            exact g_lawret0 (by decide)
        · refine g_aload_n B dL_law__2989 1 rfl ?_
          refine g_callV_ip [] (ci := 10) (T0 := TX11) (N := 18) B hS9 mf11_crib wd_676 (gw B wd_677) wd_675 (by decide) rfl (fun h => (gd_ne h).1) (c11_crib X l a1 M) (by decide) (by decide) ⟨by show (337 + 4 * j) + 0 ≤ 601024; omega, by show (29787 + 24 * j) + 0 ≤ 7293034; omega⟩ rfl (by decide) dL_law__2990 rfl (fun v_260 => ?_)
          refine g_aload_n B dL_law__2993 2 rfl ?_
          refine g_callV_iw [] (ci := 11) (T0 := TX12) (N := 27) B hS9 mf12_crib wd_2351 (gw B wd_2352) wd_2350 (by decide) rfl (fun h => (gd_ne h).1) (c12_crib X l a2 M) (by decide) (by decide) ⟨by show (337 + 4 * j) + 0 ≤ 601024; omega, by show (29787 + 24 * j) + 0 ≤ 7293034; omega⟩ rfl (Nat.le_of_ble_eq_true rfl) dL_law__2994 rfl (fun q_261 => ?_)
          refine g_icmp_eq B 3518 dL_law__2997 (by decide) ?_ ?_
          · refine g_sub (lv' := [(0, .ref b), (1, .ref a1), (2, .ref a2), (3, .ref a3), (4, .int x4)]) [0, 1, 2, 3, 4] rfl ?_
            refine g_widen (cells' := (337 + 4 * j + 4)) (slots' := (29787 + 24 * j + 24)) (by first | omega | exact Nat.add_le_add_left (Nat.le_of_ble_eq_true rfl) _) (by first | omega | exact Nat.add_le_add_left (Nat.le_of_ble_eq_true rfl) _) ?_
            exact gW_J3518 B hS9 hr hfl hXs hbl hbA hlo j (by omega) (pW_L23 xs L n) (fun a1 a2 a3 x4 M9 => ih (j + 1) (by omega) a1 a2 a3 x4 M9) a1 a2 a3 x4 q_261.2
          · refine g_iconst (v := 0) B dL_law__3000 (by decide) ?_
            exact g_lawret0 (by decide)
        · refine g_aload_n B dL_law__3002 1 rfl ?_
          refine g_callV_ip [] (ci := 10) (T0 := TX11) (N := 18) B hS9 mf11_spread wd_681 (gw B wd_682) wd_680 (by decide) rfl (fun h => (gd_ne h).1) (c11_spread X l a1 M) (by decide) (by decide) ⟨by show (337 + 4 * j) + 0 ≤ 601024; omega, by show (29787 + 24 * j) + 0 ≤ 7293034; omega⟩ rfl (by decide) dL_law__3003 rfl (fun v_262 => ?_)
          refine g_aload_n B dL_law__3006 2 rfl ?_
          refine g_callV_iw [] (ci := 11) (T0 := TX12) (N := 27) B hS9 mf12_spread wd_2355 (gw B wd_2356) wd_2354 (by decide) rfl (fun h => (gd_ne h).1) (c12_spread X l a2 M) (by decide) (by decide) ⟨by show (337 + 4 * j) + 0 ≤ 601024; omega, by show (29787 + 24 * j) + 0 ≤ 7293034; omega⟩ rfl (Nat.le_of_ble_eq_true rfl) dL_law__3007 rfl (fun q_263 => ?_)
          refine g_icmp_eq B 3518 dL_law__3010 (by decide) ?_ ?_
          · refine g_sub (lv' := [(0, .ref b), (1, .ref a1), (2, .ref a2), (3, .ref a3), (4, .int x4)]) [0, 1, 2, 3, 4] rfl ?_
            refine g_widen (cells' := (337 + 4 * j + 4)) (slots' := (29787 + 24 * j + 24)) (by first | omega | exact Nat.add_le_add_left (Nat.le_of_ble_eq_true rfl) _) (by first | omega | exact Nat.add_le_add_left (Nat.le_of_ble_eq_true rfl) _) ?_
            exact gW_J3518 B hS9 hr hfl hXs hbl hbA hlo j (by omega) (pW_L23 xs L n) (fun a1 a2 a3 x4 M9 => ih (j + 1) (by omega) a1 a2 a3 x4 M9) a1 a2 a3 x4 q_263.2
          · refine g_iconst (v := 0) B dL_law__3013 (by decide) ?_
            exact g_lawret0 (by decide)
        · refine g_aload_n B dL_law__3015 1 rfl ?_
          refine g_aload_n B dL_law__3016 0 rfl ?_
          refine g_iload B dL_law__3017 4 rfl ?_
          refine g_iconst (v := 1) B dL_law__3019 (by decide) ?_
          refine g_iadd B dL_law__3020 ?_
          refine g_sld hXs hbl hbA B dL_law__3021 (fun v_264 => ?_)
          refine g_aload_n B dL_law__3022 0 rfl ?_
          refine g_iload B dL_law__3023 4 rfl ?_
          refine g_iconst (v := 2) B dL_law__3025 (by decide) ?_
          refine g_iadd B dL_law__3026 ?_
          refine g_sld hXs hbl hbA B dL_law__3027 (fun v_265 => ?_)
          refine g_aload_n B dL_law__3028 0 rfl ?_
          refine g_iload B dL_law__3029 4 rfl ?_
          refine g_iconst (v := 3) B dL_law__3031 (by decide) ?_
          refine g_iadd B dL_law__3032 ?_
          refine g_sld hXs hbl hbA B dL_law__3033 (fun v_266 => ?_)
          refine g_if_eq B 3041 dL_law__3034 (by decide) ?_ ?_
          · refine g_iconst (v := 0) B dL_law__3041 (by decide) ?_
            refine g_sub (lv' := [(0, .ref b), (1, .ref a1), (2, .ref a2), (3, .ref a3), (4, .int x4)]) [0, 1, 2, 3, 4] rfl ?_
            exact gW_J3042 B hS9 hr hfl hXs hbl hbA hlo j (by omega) (pW_L23 xs L n) (fun a1 a2 a3 x4 M9 => ih (j + 1) (by omega) a1 a2 a3 x4 M9) a1 a2 a3 x4 a1 v_264 v_265 0 M
          · refine g_iconst (v := 1) B dL_law__3037 (by decide) ?_
            refine g_goto B 3042 dL_law__3038 (by decide) ?_
            refine g_sub (lv' := [(0, .ref b), (1, .ref a1), (2, .ref a2), (3, .ref a3), (4, .int x4)]) [0, 1, 2, 3, 4] rfl ?_
            exact gW_J3042 B hS9 hr hfl hXs hbl hbA hlo j (by omega) (pW_L23 xs L n) (fun a1 a2 a3 x4 M9 => ih (j + 1) (by omega) a1 a2 a3 x4 M9) a1 a2 a3 x4 a1 v_264 v_265 1 M
        · refine g_aload_n B dL_law__3111 1 rfl ?_
          refine g_aload_n B dL_law__3112 0 rfl ?_
          refine g_iload B dL_law__3113 4 rfl ?_
          refine g_iconst (v := 1) B dL_law__3115 (by decide) ?_
          refine g_iadd B dL_law__3116 ?_
          refine g_sld hXs hbl hbA B dL_law__3117 (fun v_267 => ?_)
          refine g_aload_n B dL_law__3118 0 rfl ?_
          refine g_iload B dL_law__3119 4 rfl ?_
          refine g_iconst (v := 2) B dL_law__3121 (by decide) ?_
          refine g_iadd B dL_law__3122 ?_
          refine g_sld hXs hbl hbA B dL_law__3123 (fun v_268 => ?_)
          refine g_if_eq B 3131 dL_law__3124 (by decide) ?_ ?_
          · refine g_iconst (v := 0) B dL_law__3131 (by decide) ?_
            refine g_sub (lv' := [(0, .ref b), (1, .ref a1), (2, .ref a2), (3, .ref a3), (4, .int x4)]) [0, 1, 2, 3, 4] rfl ?_
            exact gW_J3132 B hS9 hr hfl hXs hbl hbA hlo j (by omega) (pW_L23 xs L n) (fun a1 a2 a3 x4 M9 => ih (j + 1) (by omega) a1 a2 a3 x4 M9) a1 a2 a3 x4 a1 v_267 0 M
          · refine g_iconst (v := 1) B dL_law__3127 (by decide) ?_
            refine g_goto B 3132 dL_law__3128 (by decide) ?_
            refine g_sub (lv' := [(0, .ref b), (1, .ref a1), (2, .ref a2), (3, .ref a3), (4, .int x4)]) [0, 1, 2, 3, 4] rfl ?_
            exact gW_J3132 B hS9 hr hfl hXs hbl hbA hlo j (by omega) (pW_L23 xs L n) (fun a1 a2 a3 x4 M9 => ih (j + 1) (by omega) a1 a2 a3 x4 M9) a1 a2 a3 x4 a1 v_267 1 M
        · refine g_aload_n B dL_law__3195 1 rfl ?_
          refine g_aload_n B dL_law__3196 0 rfl ?_
          refine g_iload B dL_law__3197 4 rfl ?_
          refine g_iconst (v := 1) B dL_law__3199 (by decide) ?_
          refine g_iadd B dL_law__3200 ?_
          refine g_sld hXs hbl hbA B dL_law__3201 (fun v_269 => ?_)
          refine g_aload_n B dL_law__3202 0 rfl ?_
          refine g_iload B dL_law__3203 4 rfl ?_
          refine g_iconst (v := 2) B dL_law__3205 (by decide) ?_
          refine g_iadd B dL_law__3206 ?_
          refine g_sld hXs hbl hbA B dL_law__3207 (fun v_270 => ?_)
          refine g_if_eq B 3215 dL_law__3208 (by decide) ?_ ?_
          · refine g_iconst (v := 0) B dL_law__3215 (by decide) ?_
            refine g_sub (lv' := [(0, .ref b), (1, .ref a1), (2, .ref a2), (3, .ref a3), (4, .int x4)]) [0, 1, 2, 3, 4] rfl ?_
            exact gW_J3216 B hS9 hr hfl hXs hbl hbA hlo j (by omega) (pW_L23 xs L n) (fun a1 a2 a3 x4 M9 => ih (j + 1) (by omega) a1 a2 a3 x4 M9) a1 a2 a3 x4 a1 v_269 0 M
          · refine g_iconst (v := 1) B dL_law__3211 (by decide) ?_
            refine g_goto B 3216 dL_law__3212 (by decide) ?_
            refine g_sub (lv' := [(0, .ref b), (1, .ref a1), (2, .ref a2), (3, .ref a3), (4, .int x4)]) [0, 1, 2, 3, 4] rfl ?_
            exact gW_J3216 B hS9 hr hfl hXs hbl hbA hlo j (by omega) (pW_L23 xs L n) (fun a1 a2 a3 x4 M9 => ih (j + 1) (by omega) a1 a2 a3 x4 M9) a1 a2 a3 x4 a1 v_269 1 M
        · refine g_aload_n B dL_law__3279 1 rfl ?_
          refine g_aload_n B dL_law__3280 0 rfl ?_
          refine g_iload B dL_law__3281 4 rfl ?_
          refine g_iconst (v := 1) B dL_law__3283 (by decide) ?_
          refine g_iadd B dL_law__3284 ?_
          refine g_sld hXs hbl hbA B dL_law__3285 (fun v_271 => ?_)
          refine g_aload_n B dL_law__3286 0 rfl ?_
          refine g_iload B dL_law__3287 4 rfl ?_
          refine g_iconst (v := 2) B dL_law__3289 (by decide) ?_
          refine g_iadd B dL_law__3290 ?_
          refine g_sld hXs hbl hbA B dL_law__3291 (fun v_272 => ?_)
          refine g_if_eq B 3299 dL_law__3292 (by decide) ?_ ?_
          · refine g_iconst (v := 0) B dL_law__3299 (by decide) ?_
            refine g_sub (lv' := [(0, .ref b), (1, .ref a1), (2, .ref a2), (3, .ref a3), (4, .int x4)]) [0, 1, 2, 3, 4] rfl ?_
            exact gW_J3300 B hS9 hr hfl hXs hbl hbA hlo j (by omega) (pW_L23 xs L n) (fun a1 a2 a3 x4 M9 => ih (j + 1) (by omega) a1 a2 a3 x4 M9) a1 a2 a3 x4 a1 v_271 0 M
          · refine g_iconst (v := 1) B dL_law__3295 (by decide) ?_
            refine g_goto B 3300 dL_law__3296 (by decide) ?_
            refine g_sub (lv' := [(0, .ref b), (1, .ref a1), (2, .ref a2), (3, .ref a3), (4, .int x4)]) [0, 1, 2, 3, 4] rfl ?_
            exact gW_J3300 B hS9 hr hfl hXs hbl hbA hlo j (by omega) (pW_L23 xs L n) (fun a1 a2 a3 x4 M9 => ih (j + 1) (by omega) a1 a2 a3 x4 M9) a1 a2 a3 x4 a1 v_271 1 M
        · refine g_aload_n B dL_law__3363 1 rfl ?_
          refine g_aload_n B dL_law__3364 0 rfl ?_
          refine g_iload B dL_law__3365 4 rfl ?_
          refine g_iconst (v := 1) B dL_law__3367 (by decide) ?_
          refine g_iadd B dL_law__3368 ?_
          refine g_sld hXs hbl hbA B dL_law__3369 (fun v_273 => ?_)
          refine g_aload_n B dL_law__3370 0 rfl ?_
          refine g_iload B dL_law__3371 4 rfl ?_
          refine g_iconst (v := 2) B dL_law__3373 (by decide) ?_
          refine g_iadd B dL_law__3374 ?_
          refine g_sld hXs hbl hbA B dL_law__3375 (fun v_274 => ?_)
          refine g_aload_n B dL_law__3376 3 rfl ?_
          refine g_callW [.ref a1, .int v_273, .int v_274, .ref a3] B hS9 mfL_log wd_1624 wd_1623 (oL_log X l hfl a1 v_273 v_274 a3 M) (by decide) (by decide) ⟨by show (337 + 4 * j) + 1 ≤ 601024; omega, by show (29787 + 24 * j) + 6 ≤ 7293034; omega⟩ rfl (Nat.le_of_ble_eq_true rfl) dL_law__3377 rfl (fun q_275 => ?_)
          refine g_istore (lv' := [(5, .int q_275.1), (0, .ref b), (1, .ref a1), (2, .ref a2), (3, .ref a3), (4, .int x4)]) B dL_law__3380 (by decide) [0, 1, 2, 3, 4, 5] rfl ?_
          refine g_aload_n B dL_law__3382 3 rfl ?_
          refine g_aload_n B dL_law__3383 1 rfl ?_
          refine g_iload B dL_law__3384 5 rfl ?_
          refine g_iconst (v := 1) B dL_law__3386 (by decide) ?_
          refine g_iadd B dL_law__3387 ?_
          refine g_sld hXs hbl hbA B dL_law__3388 (fun v_276 => ?_)
          refine g_aload_n B dL_law__3389 1 rfl ?_
          refine g_iload B dL_law__3390 5 rfl ?_
          refine g_iconst (v := 2) B dL_law__3392 (by decide) ?_
          refine g_iadd B dL_law__3393 ?_
          refine g_sld hXs hbl hbA B dL_law__3394 (fun v_277 => ?_)
          refine g_callV_iw [.int v_276, .int v_277] (ci := 11) (T0 := TX12) (N := 27) B hS9 mf12_log wd_2371 (gw B wd_2372) wd_2370 (by decide) rfl (fun h => (gd_ne h).1) (c12_log X l a2 v_276 v_277 q_275.2) (by decide) (by decide) ⟨by show (337 + 4 * j + 1) + 0 ≤ 601024; omega, by show (29787 + 24 * j + 6) + 0 ≤ 7293034; omega⟩ rfl (by decide) dL_law__3395 rfl (fun q_278 => ?_)
          refine g_istore (lv' := [(6, .int q_278.1), (5, .int q_275.1), (0, .ref b), (1, .ref a1), (2, .ref a2), (3, .ref a3), (4, .int x4)]) B dL_law__3398 (by decide) [0, 1, 2, 3, 4, 5, 6] rfl ?_
          refine g_aload_n B dL_law__3400 4 rfl ?_
          refine g_callV_ip [] (ci := 11) (T0 := TX12) (N := 27) B hS9 mf12_thrown wd_1632 (gw B wd_1633) wd_1631 (by decide) rfl (fun h => (gd_ne h).1) (c12_thrown X l a2 q_278.2) (by decide) (by decide) ⟨by show (337 + 4 * j + 1) + 0 ≤ 601024; omega, by show (29787 + 24 * j + 6) + 0 ≤ 7293034; omega⟩ rfl (by decide) dL_law__3401 rfl (fun v_279 => ?_)
          refine g_iload B dL_law__3404 1 rfl ?_
          refine g_icmp_eq B 3411 dL_law__3406 (by decide) ?_ ?_
          · refine g_iload B dL_law__3411 1 rfl ?_
            refine g_if_ne B 3428 dL_law__3413 (by decide) ?_ ?_
            · refine g_aload_n B dL_law__3416 5 rfl ?_
              refine g_iconst (v := 0) B dL_law__3417 (by decide) ?_
              refine g_laload B dL_law__3418 (fun v_280 => ?_)
              refine g_iload B dL_law__3419 0 rfl ?_
              refine g_i2l B dL_law__3421 ?_
              refine g_lcmp B dL_law__3422 ?_
              refine g_if_eq B 3428 dL_law__3423 (by decide) ?_ ?_
              · refine g_sub (lv' := [(0, .ref b), (1, .ref a1), (2, .ref a2), (3, .ref a3), (4, .int x4)]) [2, 3, 4, 5, 6] rfl ?_
                exact gW_J3428 B hS9 hr hfl hXs hbl hbA hlo j (by omega) (pW_L23 xs L n) (fun a1 a2 a3 x4 M9 => ih (j + 1) (by omega) a1 a2 a3 x4 M9) a1 a2 a3 x4 q_278.2
              · refine g_iconst (v := 0) B dL_law__3426 (by decide) ?_
                exact g_lawret0 (by decide)
            · refine g_sub (lv' := [(0, .ref b), (1, .ref a1), (2, .ref a2), (3, .ref a3), (4, .int x4)]) [2, 3, 4, 5, 6] rfl ?_
              exact gW_J3428 B hS9 hr hfl hXs hbl hbA hlo j (by omega) (pW_L23 xs L n) (fun a1 a2 a3 x4 M9 => ih (j + 1) (by omega) a1 a2 a3 x4 M9) a1 a2 a3 x4 q_278.2
          · refine g_iconst (v := 0) B dL_law__3409 (by decide) ?_
            exact g_lawret0 (by decide)
        · refine g_aload_n B dL_law__3431 1 rfl ?_
          refine g_aload_n B dL_law__3432 0 rfl ?_
          refine g_iload B dL_law__3433 4 rfl ?_
          refine g_iconst (v := 1) B dL_law__3435 (by decide) ?_
          refine g_iadd B dL_law__3436 ?_
          refine g_sld hXs hbl hbA B dL_law__3437 (fun v_281 => ?_)
          refine g_callV_iw [.int v_281] (ci := 10) (T0 := TX11) (N := 18) B hS9 mf11_seed wd_686 (gw B wd_687) wd_685 (by decide) rfl (fun h => (gd_ne h).1) (c11_seed X l a1 v_281 M) (by decide) (by decide) ⟨by show (337 + 4 * j) + 0 ≤ 601024; omega, by show (29787 + 24 * j) + 0 ≤ 7293034; omega⟩ rfl (by decide) dL_law__3438 rfl (fun q_282 => ?_)
          refine g_aload_n B dL_law__3441 2 rfl ?_
          refine g_aload_n B dL_law__3442 0 rfl ?_
          refine g_iload B dL_law__3443 4 rfl ?_
          refine g_iconst (v := 1) B dL_law__3445 (by decide) ?_
          refine g_iadd B dL_law__3446 ?_
          refine g_sld hXs hbl hbA B dL_law__3447 (fun v_283 => ?_)
          refine g_callV_iw [.int v_283] (ci := 11) (T0 := TX12) (N := 27) B hS9 mf12_seed wd_2375 (gw B wd_2376) wd_2374 (by decide) rfl (fun h => (gd_ne h).1) (c12_seed X l a2 v_283 q_282.2) (by decide) (by decide) ⟨by show (337 + 4 * j) + 0 ≤ 601024; omega, by show (29787 + 24 * j) + 0 ≤ 7293034; omega⟩ rfl (Nat.le_of_ble_eq_true rfl) dL_law__3448 rfl (fun q_284 => ?_)
          refine g_icmp_eq B 3518 dL_law__3451 (by decide) ?_ ?_
          · refine g_sub (lv' := [(0, .ref b), (1, .ref a1), (2, .ref a2), (3, .ref a3), (4, .int x4)]) [0, 1, 2, 3, 4] rfl ?_
            refine g_widen (cells' := (337 + 4 * j + 4)) (slots' := (29787 + 24 * j + 24)) (by first | omega | exact Nat.add_le_add_left (Nat.le_of_ble_eq_true rfl) _) (by first | omega | exact Nat.add_le_add_left (Nat.le_of_ble_eq_true rfl) _) ?_
            exact gW_J3518 B hS9 hr hfl hXs hbl hbA hlo j (by omega) (pW_L23 xs L n) (fun a1 a2 a3 x4 M9 => ih (j + 1) (by omega) a1 a2 a3 x4 M9) a1 a2 a3 x4 q_284.2
          · refine g_iconst (v := 0) B dL_law__3454 (by decide) ?_
            exact g_lawret0 (by decide)
        · refine g_aload_n B dL_law__3456 1 rfl ?_
          refine g_callV_iw [] (ci := 10) (T0 := TX11) (N := 18) B hS9 mf11_undo wd_690 (gw B wd_691) wd_689 (by decide) rfl (fun h => (gd_ne h).1) (c11_undo X l a1 M) (by decide) (by decide) ⟨by show (337 + 4 * j) + 0 ≤ 601024; omega, by show (29787 + 24 * j) + 0 ≤ 7293034; omega⟩ rfl (by decide) dL_law__3457 rfl (fun q_285 => ?_)
          refine g_aload_n B dL_law__3460 2 rfl ?_
          refine g_callV_iw [] (ci := 11) (T0 := TX12) (N := 27) B hS9 mf12_undo wd_1733 (gw B wd_1734) wd_1732 (by decide) rfl (fun h => (gd_ne h).1) (c12_undo X l a2 q_285.2) (by decide) (by decide) ⟨by show (337 + 4 * j) + 0 ≤ 601024; omega, by show (29787 + 24 * j) + 0 ≤ 7293034; omega⟩ rfl (Nat.le_of_ble_eq_true rfl) dL_law__3461 rfl (fun q_286 => ?_)
          refine g_icmp_eq B 3518 dL_law__3464 (by decide) ?_ ?_
          · refine g_sub (lv' := [(0, .ref b), (1, .ref a1), (2, .ref a2), (3, .ref a3), (4, .int x4)]) [0, 1, 2, 3, 4] rfl ?_
            refine g_widen (cells' := (337 + 4 * j + 4)) (slots' := (29787 + 24 * j + 24)) (by first | omega | exact Nat.add_le_add_left (Nat.le_of_ble_eq_true rfl) _) (by first | omega | exact Nat.add_le_add_left (Nat.le_of_ble_eq_true rfl) _) ?_
            exact gW_J3518 B hS9 hr hfl hXs hbl hbA hlo j (by omega) (pW_L23 xs L n) (fun a1 a2 a3 x4 M9 => ih (j + 1) (by omega) a1 a2 a3 x4 M9) a1 a2 a3 x4 q_286.2
          · refine g_iconst (v := 0) B dL_law__3467 (by decide) ?_
            exact g_lawret0 (by decide)
        · refine g_aload_n B dL_law__3469 1 rfl ?_
          refine g_callV_vw [] (ci := 10) (T0 := TX11) (N := 18) B hS9 mf11_image wd_695 (gw B wd_696) wd_694 (by decide) rfl (fun h => (gd_ne h).1) (c11_image X l a1 M) (by decide) (by decide) ⟨by show (337 + 4 * j) + 0 ≤ 601024; omega, by show (29787 + 24 * j) + 0 ≤ 7293034; omega⟩ rfl (by decide) dL_law__3470 rfl (fun q_287 => ?_)
          refine g_aload_n B dL_law__3473 2 rfl ?_
          refine g_callV_vw [] (ci := 11) (T0 := TX12) (N := 27) B hS9 mf12_image wd_1725 (gw B wd_1726) wd_1724 (by decide) rfl (fun h => (gd_ne h).1) (c12_image X l a2 q_287) (by decide) (by decide) ⟨by show (337 + 4 * j) + 0 ≤ 601024; omega, by show (29787 + 24 * j) + 0 ≤ 7293034; omega⟩ rfl (by decide) dL_law__3474 rfl (fun q_288 => ?_)
          refine g_goto B 3518 dL_law__3477 (by decide) ?_
          refine g_sub (lv' := [(0, .ref b), (1, .ref a1), (2, .ref a2), (3, .ref a3), (4, .int x4)]) [0, 1, 2, 3, 4] rfl ?_
          refine g_widen (cells' := (337 + 4 * j + 4)) (slots' := (29787 + 24 * j + 24)) (by first | omega | exact Nat.add_le_add_left (Nat.le_of_ble_eq_true rfl) _) (by first | omega | exact Nat.add_le_add_left (Nat.le_of_ble_eq_true rfl) _) ?_
          exact gW_J3518 B hS9 hr hfl hXs hbl hbA hlo j (by omega) (pW_L23 xs L n) (fun a1 a2 a3 x4 M9 => ih (j + 1) (by omega) a1 a2 a3 x4 M9) a1 a2 a3 x4 q_288
        · refine g_aload_n B dL_law__3480 1 rfl ?_
          refine g_callV_iw [] (ci := 10) (T0 := TX11) (N := 18) B hS9 mf11_back wd_704 (gw B wd_705) wd_703 (by decide) rfl (fun h => (gd_ne h).1) (c11_back X l a1 M) (by decide) (by decide) ⟨by show (337 + 4 * j) + 0 ≤ 601024; omega, by show (29787 + 24 * j) + 0 ≤ 7293034; omega⟩ rfl (by decide) dL_law__3481 rfl (fun q_289 => ?_)
          refine g_aload_n B dL_law__3484 2 rfl ?_
          refine g_callV_iw [] (ci := 11) (T0 := TX12) (N := 27) B hS9 mf12_back wd_1729 (gw B wd_1730) wd_1728 (by decide) rfl (fun h => (gd_ne h).1) (c12_back X l a2 q_289.2) (by decide) (by decide) ⟨by show (337 + 4 * j) + 0 ≤ 601024; omega, by show (29787 + 24 * j) + 0 ≤ 7293034; omega⟩ rfl (Nat.le_of_ble_eq_true rfl) dL_law__3485 rfl (fun q_290 => ?_)
          refine g_icmp_eq B 3518 dL_law__3488 (by decide) ?_ ?_
          · refine g_sub (lv' := [(0, .ref b), (1, .ref a1), (2, .ref a2), (3, .ref a3), (4, .int x4)]) [0, 1, 2, 3, 4] rfl ?_
            refine g_widen (cells' := (337 + 4 * j + 4)) (slots' := (29787 + 24 * j + 24)) (by first | omega | exact Nat.add_le_add_left (Nat.le_of_ble_eq_true rfl) _) (by first | omega | exact Nat.add_le_add_left (Nat.le_of_ble_eq_true rfl) _) ?_
            exact gW_J3518 B hS9 hr hfl hXs hbl hbA hlo j (by omega) (pW_L23 xs L n) (fun a1 a2 a3 x4 M9 => ih (j + 1) (by omega) a1 a2 a3 x4 M9) a1 a2 a3 x4 q_290.2
          · refine g_iconst (v := 0) B dL_law__3491 (by decide) ?_
            exact g_lawret0 (by decide)
        · refine g_aload_n B dL_law__3493 1 rfl ?_
          refine g_aload_n B dL_law__3494 0 rfl ?_
          refine g_iload B dL_law__3495 4 rfl ?_
          refine g_iconst (v := 1) B dL_law__3497 (by decide) ?_
          refine g_iadd B dL_law__3498 ?_
          refine g_sld hXs hbl hbA B dL_law__3499 (fun v_291 => ?_)
          refine g_callV_ip [.int v_291] (ci := 10) (T0 := TX11) (N := 18) B hS9 mf11_count wd_708 (gw B wd_709) wd_707 (by decide) rfl (fun h => (gd_ne h).1) (c11_count X l a1 v_291 M) (by decide) (by decide) ⟨by show (337 + 4 * j) + 0 ≤ 601024; omega, by show (29787 + 24 * j) + 0 ≤ 7293034; omega⟩ rfl (by decide) dL_law__3500 rfl (fun v_292 => ?_)
          refine g_aload_n B dL_law__3503 2 rfl ?_
          refine g_aload_n B dL_law__3504 0 rfl ?_
          refine g_iload B dL_law__3505 4 rfl ?_
          refine g_iconst (v := 1) B dL_law__3507 (by decide) ?_
          refine g_iadd B dL_law__3508 ?_
          refine g_sld hXs hbl hbA B dL_law__3509 (fun v_293 => ?_)
          refine g_callV_iw [.int v_293] (ci := 11) (T0 := TX12) (N := 27) B hS9 mf12_count wd_2379 (gw B wd_2380) wd_2378 (by decide) rfl (fun h => (gd_ne h).1) (c12_count X l a2 v_293 M) (by decide) (by decide) ⟨by show (337 + 4 * j) + 0 ≤ 601024; omega, by show (29787 + 24 * j) + 0 ≤ 7293034; omega⟩ rfl (Nat.le_of_ble_eq_true rfl) dL_law__3510 rfl (fun q_294 => ?_)
          refine g_icmp_eq B 3518 dL_law__3513 (by decide) ?_ ?_
          · refine g_sub (lv' := [(0, .ref b), (1, .ref a1), (2, .ref a2), (3, .ref a3), (4, .int x4)]) [0, 1, 2, 3, 4] rfl ?_
            refine g_widen (cells' := (337 + 4 * j + 4)) (slots' := (29787 + 24 * j + 24)) (by first | omega | exact Nat.add_le_add_left (Nat.le_of_ble_eq_true rfl) _) (by first | omega | exact Nat.add_le_add_left (Nat.le_of_ble_eq_true rfl) _) ?_
            exact gW_J3518 B hS9 hr hfl hXs hbl hbA hlo j (by omega) (pW_L23 xs L n) (fun a1 a2 a3 x4 M9 => ih (j + 1) (by omega) a1 a2 a3 x4 M9) a1 a2 a3 x4 q_294.2
          · refine g_iconst (v := 0) B dL_law__3516 (by decide) ?_
            exact g_lawret0 (by decide)
set_option maxRecDepth 40000 in
set_option maxHeartbeats 8000000 in
theorem gW_entry {X : gX} {p : Program} {l : Launch} {e : Env} {s : State} {m : MethodId} {below : List Frame} {meth : Method} {c : Code} {b L : Nat} {xs : Nat → Int32} (B : gB X p room_1 s m #[Value.ref b] meth c RL cL_law_ 7 room_1) (hS9 : gS X s) (hr : meth.sig.returnType = some .boolean) (hfl : l.stackTraces = false) (hXs : va_X b L xs s s.heap) (hbl : b < s.heap.size) (hbA : ¬ gA X b) (hlo : X.1 = s.heap.size) (M : mMem) : GG X p l e room_1 s m #[Value.ref b] below meth c (lwPhi below b s) 7 0 0 0 [(0, .ref b)] [] M (pW xs L M) := by
  unfold pW
  refine g_new (ci := 10) (T0 := TX11) (N := 18) B (by decide) rfl in_10 tyX11 tyX11_ok df_10 wd_30 wd_31 wd_1 (by decide) dL_law__0 (fun n_1 => ?_)
  refine g_dup B dL_law__3 rfl ?_
  refine g_callI_vw [] B hS9 mf11_init rfl wd_33 wd_32 (c11_init X l n_1.1 n_1.2) (by decide) (by decide) (by decide) rfl (Nat.le_of_ble_eq_true rfl) dL_law__4 rfl (fun q_2 => ?_)
  refine g_astore_n (lv' := [(1, .ref n_1.1), (0, .ref b)]) B dL_law__7 (by decide) [0, 1] rfl ?_
  refine g_new (ci := 11) (T0 := TX12) (N := 27) B (by decide) rfl in_11 tyX12 tyX12_ok df_11 wd_1635 wd_1636 wd_13 (by decide) dL_law__8 (fun n_3 => ?_)
  refine g_dup B dL_law__11 rfl ?_
  refine g_callI_vw [] B hS9 mf12_init rfl wd_1638 wd_1637 (c12_init X l n_3.1 n_3.2) (by decide) (by decide) (by decide) rfl (Nat.le_of_ble_eq_true rfl) dL_law__12 rfl (fun q_4 => ?_)
  refine g_astore_n (lv' := [(2, .ref n_3.1), (1, .ref n_1.1), (0, .ref b)]) B dL_law__15 (by decide) [0, 1, 2] rfl ?_
  refine g_iconst (v := 1) B dL_law__16 (by decide) ?_
  refine g_newarrayL (N := 1) B wd_1723 (by decide +kernel) (by decide +kernel) (by decide +kernel) (by decide) dL_law__17 (fun n_5 => ?_)
  refine g_astore_n (lv' := [(3, .ref n_5.1), (2, .ref n_3.1), (1, .ref n_1.1), (0, .ref b)]) B dL_law__19 (by decide) [0, 1, 2, 3] rfl ?_
  refine g_iconst (v := 0) B dL_law__20 (by decide) ?_
  refine g_istore (lv' := [(4, .int 0), (3, .ref n_5.1), (2, .ref n_3.1), (1, .ref n_1.1), (0, .ref b)]) B dL_law__21 (by decide) [0, 1, 2, 3, 4] rfl ?_
  refine g_freeze ?_
  refine g_sub (lv' := [(0, .ref b), (1, .ref n_1.1), (2, .ref n_3.1), (3, .ref n_5.1), (4, .int 0)]) [4, 3, 2, 1, 0] rfl ?_
  refine g_widen (cells' := 337) (slots' := 29787) (by decide) (by decide) ?_
  exact (gW_L23 B hS9 hr hfl hXs hbl hbA hlo) 513 0 rfl n_1.1 n_3.1 n_5.1 0 (mF n_5.2)
