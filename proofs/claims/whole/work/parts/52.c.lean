theorem mfL_family : gMW yL_family cL_family 3 (some .int) [((0 : Nat), (8 : Nat), (11 : Nat), (13 : Nat)), ((0 : Nat), (8 : Nat), (14 : Nat), (15 : Nat))] 2 := ⟨wd_725, wd_0, ⟨by decide, by decide⟩, by decide +kernel⟩
set_option maxRecDepth 20000 in
set_option maxHeartbeats 2000000 in
theorem gL_family {X : gX} {p : Program} {l : Launch} {e : Env} {s : State} {m : MethodId} {args : Array Value} {below : List Frame} {meth : Method} {c : Code} (B : gB X p (rmL_family) s m args meth c RL cL_family 3 (rmL_family)) (hS9 : gS X s) (hr : meth.sig.returnType = some .int) (hfl : l.stackTraces = false) (hxt : c.exceptionTable.toList = tableOf [((0 : Nat), (8 : Nat), (11 : Nat), (13 : Nat)), ((0 : Nat), (8 : Nat), (14 : Nat), (15 : Nat))]) (a0 : Nat) (a1 : Nat) (M : mMem) : GG X p l e (rmL_family) s m args below meth c (gP X below args s 2 12 (fun r9 : (Int32 × mMem) => (some (.int r9.1), r9.2))) 3 0 0 0 [(0, .ref a0), (1, .ref a1)] [] M (pL_family a0 a1 M) := by
  unfold pL_family
  refine g_aload_n B dL_family_0 1 rfl ?_
  refine g_iconst (v := 0) B dL_family_1 (by decide) ?_
  refine g_aload_n B dL_family_2 0 rfl ?_
  refine g_xc_iw [] (ci := 10) (T0 := TX11) (N := 18) B hS9 mf11_family wd_729 (gw B wd_730) wd_728 (by decide) rfl (fun h => (gd_ne h).1) (c11_family X l hfl a0 M) (by decide) (by decide) (by decide) rfl (Nat.le_of_ble_eq_true rfl) dL_family_3 rfl (fun k9 M9 => ?_) (fun q_1 => ?_)
  · refine g_caught_if (fun _ => ?_) (fun _ => ?_)
    · refine g_caught B hS9 [] ⟨0, 8, 11, 13⟩ [⟨0, 8, 14, 15⟩] (by rw [hxt]; rfl) (fun z hz => absurd hz List.not_mem_nil) (by decide) (by decide) wd_726 (fun q9 => ?_)
      refine g_astore_n (lv' := [(2, .ref q9)]) B dL_family_11 (by decide) [0] rfl ?_
      refine g_iconst (v := 1) B dL_family_12 (by decide) ?_
      exact g_ireturn B hr rfl (by decide) (by decide) rfl dL_family_13
    · refine g_caught_if (fun _ => ?_) (fun _ => ?_)
      · refine g_caught B hS9 [(⟨0, 8, 11, 13⟩, 0)] ⟨0, 8, 14, 15⟩ [] (by rw [hxt]; rfl) (List.forall_mem_cons.mpr ⟨⟨by decide, by decide, by decide, wd_726⟩, fun z hz => absurd hz List.not_mem_nil⟩) (by decide) (by decide) wd_727 (fun q9 => ?_)
        refine g_astore_n (lv' := [(2, .ref q9)]) B dL_family_14 (by decide) [0] rfl ?_
        refine g_iconst (v := 2) B dL_family_15 (by decide) ?_
        exact g_ireturn B hr rfl (by decide) (by decide) rfl dL_family_16
      · exact g_caught_none
  refine g_i2l B dL_family_6 ?_
  refine g_lastore B dL_family_7 (fun M_2 => ?_)
  refine g_goto B 17 dL_family_8 (by decide) ?_
  refine g_iconst (v := 0) B dL_family_17 (by decide) ?_
  exact g_ireturn B hr rfl (by decide) (by decide) rfl dL_family_18
theorem oL_family (X : gX) (l : Launch) (hfl : l.stackTraces = false) (a0 : Nat) (a1 : Nat) (M : mMem) : wCon X l yL_family cL_family 3 (some .int) [((0 : Nat), (8 : Nat), (11 : Nat), (13 : Nat)), ((0 : Nat), (8 : Nat), (14 : Nat), (15 : Nat))] rmL_family (fun r9 : (Int32 × mMem) => (some (.int r9.1), r9.2)) [.ref a0, .ref a1] M (pL_family a0 a1 M) := g_wcon (own := RL) (by decide +kernel) rfl (Nat.le_of_ble_eq_true rfl) (fun p e s m args below meth c B hS9 hr hxt => gL_family B hS9 hr hfl hxt a0 a1 M)
theorem mfL_law : gMW yL_law cL_law 3 (some .int) [((0 : Nat), (8 : Nat), (11 : Nat), (13 : Nat))] 2 := ⟨wd_1062, wd_0, ⟨by decide, by decide⟩, by decide +kernel⟩
set_option maxRecDepth 20000 in
set_option maxHeartbeats 2000000 in
theorem gL_law {X : gX} {p : Program} {l : Launch} {e : Env} {s : State} {m : MethodId} {args : Array Value} {below : List Frame} {meth : Method} {c : Code} (B : gB X p (rmL_law) s m args meth c RL cL_law 3 (rmL_law)) (hS9 : gS X s) (hr : meth.sig.returnType = some .int) (hfl : l.stackTraces = false) (hxt : c.exceptionTable.toList = tableOf [((0 : Nat), (8 : Nat), (11 : Nat), (13 : Nat))]) (a0 : Nat) (a1 : Nat) (M : mMem) : GG X p l e (rmL_law) s m args below meth c (gP X below args s 1 6 (fun r9 : (Int32 × mMem) => (some (.int r9.1), r9.2))) 3 0 0 0 [(0, .ref a0), (1, .ref a1)] [] M (pL_law a0 a1 M) := by
  unfold pL_law
  refine g_aload_n B dL_law_0 1 rfl ?_
  refine g_iconst (v := 0) B dL_law_1 (by decide) ?_
  refine g_aload_n B dL_law_2 0 rfl ?_
  refine g_xc_iw [] (ci := 10) (T0 := TX11) (N := 18) B hS9 mf11_law wd_1064 (gw B wd_1065) wd_1063 (by decide) rfl (fun h => (gd_ne h).1) (c11_law X l hfl a0 M) (by decide) (by decide) (by decide) rfl (Nat.le_of_ble_eq_true rfl) dL_law_3 rfl (fun k9 M9 => ?_) (fun q_1 => ?_)
  · refine g_caught_if (fun _ => ?_) (fun _ => ?_)
    · refine g_caught B hS9 [] ⟨0, 8, 11, 13⟩ [] (by rw [hxt]; rfl) (fun z hz => absurd hz List.not_mem_nil) (by decide) (by decide) wd_726 (fun q9 => ?_)
      refine g_astore_n (lv' := [(2, .ref q9)]) B dL_law_11 (by decide) [0] rfl ?_
      refine g_iconst (v := 1) B dL_law_12 (by decide) ?_
      exact g_ireturn B hr rfl (by decide) (by decide) rfl dL_law_13
    · exact g_caught_none
  refine g_i2l B dL_law_6 ?_
  refine g_lastore B dL_law_7 (fun M_2 => ?_)
  refine g_goto B 14 dL_law_8 (by decide) ?_
  refine g_iconst (v := 0) B dL_law_14 (by decide) ?_
  exact g_ireturn B hr rfl (by decide) (by decide) rfl dL_law_15
theorem oL_law (X : gX) (l : Launch) (hfl : l.stackTraces = false) (a0 : Nat) (a1 : Nat) (M : mMem) : wCon X l yL_law cL_law 3 (some .int) [((0 : Nat), (8 : Nat), (11 : Nat), (13 : Nat))] rmL_law (fun r9 : (Int32 × mMem) => (some (.int r9.1), r9.2)) [.ref a0, .ref a1] M (pL_law a0 a1 M) := g_wcon (own := RL) (by decide +kernel) rfl (Nat.le_of_ble_eq_true rfl) (fun p e s m args below meth c B hS9 hr hxt => gL_law B hS9 hr hfl hxt a0 a1 M)
theorem mfL_person : gMW yL_person cL_person 5 (some .int) [((0 : Nat), (10 : Nat), (13 : Nat), (24 : Nat)), ((0 : Nat), (10 : Nat), (17 : Nat), (26 : Nat))] 4 := ⟨wd_1076, wd_0, ⟨by decide, by decide⟩, by decide +kernel⟩
set_option maxRecDepth 20000 in
set_option maxHeartbeats 2000000 in
theorem gL_person {X : gX} {p : Program} {l : Launch} {e : Env} {s : State} {m : MethodId} {args : Array Value} {below : List Frame} {meth : Method} {c : Code} (B : gB X p (rmL_person) s m args meth c RL cL_person 5 (rmL_person)) (hS9 : gS X s) (hr : meth.sig.returnType = some .int) (hfl : l.stackTraces = false) (hxt : c.exceptionTable.toList = tableOf [((0 : Nat), (10 : Nat), (13 : Nat), (24 : Nat)), ((0 : Nat), (10 : Nat), (17 : Nat), (26 : Nat))]) (a0 : Nat) (x1 : Int32) (x2 : Int32) (a3 : Nat) (M : mMem) : GG X p l e (rmL_person) s m args below meth c (gP X below args s 2 12 (fun r9 : (Int32 × mMem) => (some (.int r9.1), r9.2))) 5 0 0 0 [(0, .ref a0), (1, .int x1), (2, .int x2), (3, .ref a3)] [] M (pL_person a0 x1 x2 a3 M) := by
  unfold pL_person
  refine g_aload_n B dL_person_0 3 rfl ?_
  refine g_iconst (v := 0) B dL_person_1 (by decide) ?_
  refine g_aload_n B dL_person_2 0 rfl ?_
  refine g_iload_n B dL_person_3 1 rfl ?_
  refine g_iload_n B dL_person_4 2 rfl ?_
  refine g_xc_ip [.int x1, .int x2] (ci := 10) (T0 := TX11) (N := 18) B hS9 mf11_person wd_1080 (gw B wd_1081) wd_1079 (by decide) rfl (fun h => (gd_ne h).1) (c11_person X l hfl a0 x1 x2 M) (by decide) (by decide) (by decide) rfl (Nat.le_of_ble_eq_true rfl) dL_person_5 rfl (fun k9 M9 => ?_) (fun v_1 => ?_)
  · refine g_caught_if (fun _ => ?_) (fun _ => ?_)
    · refine g_caught B hS9 [] ⟨0, 10, 13, 24⟩ [⟨0, 10, 17, 26⟩] (by rw [hxt]; rfl) (fun z hz => absurd hz List.not_mem_nil) (by decide) (by decide) wd_1077 (fun q9 => ?_)
      refine g_astore (lv' := [(4, .ref q9)]) B dL_person_13 (by decide) [0] rfl ?_
      refine g_iconst (v := 1) B dL_person_15 (by decide) ?_
      exact g_ireturn B hr rfl (by decide) (by decide) rfl dL_person_16
    · refine g_caught_if (fun _ => ?_) (fun _ => ?_)
      · refine g_caught B hS9 [(⟨0, 10, 13, 24⟩, 2)] ⟨0, 10, 17, 26⟩ [] (by rw [hxt]; rfl) (List.forall_mem_cons.mpr ⟨⟨by decide, by decide, by decide, wd_1077⟩, fun z hz => absurd hz List.not_mem_nil⟩) (by decide) (by decide) wd_1078 (fun q9 => ?_)
        refine g_astore (lv' := [(4, .ref q9)]) B dL_person_17 (by decide) [0] rfl ?_
        refine g_iconst (v := 2) B dL_person_19 (by decide) ?_
        exact g_ireturn B hr rfl (by decide) (by decide) rfl dL_person_20
      · exact g_caught_none
  refine g_i2l B dL_person_8 ?_
  refine g_lastore B dL_person_9 (fun M_2 => ?_)
  refine g_goto B 21 dL_person_10 (by decide) ?_
  refine g_iconst (v := 0) B dL_person_21 (by decide) ?_
  exact g_ireturn B hr rfl (by decide) (by decide) rfl dL_person_22
theorem oL_person (X : gX) (l : Launch) (hfl : l.stackTraces = false) (a0 : Nat) (x1 : Int32) (x2 : Int32) (a3 : Nat) (M : mMem) : wCon X l yL_person cL_person 5 (some .int) [((0 : Nat), (10 : Nat), (13 : Nat), (24 : Nat)), ((0 : Nat), (10 : Nat), (17 : Nat), (26 : Nat))] rmL_person (fun r9 : (Int32 × mMem) => (some (.int r9.1), r9.2)) [.ref a0, .int x1, .int x2, .ref a3] M (pL_person a0 x1 x2 a3 M) := g_wcon (own := RL) (by decide +kernel) rfl (Nat.le_of_ble_eq_true rfl) (fun p e s m args below meth c B hS9 hr hxt => gL_person B hS9 hr hfl hxt a0 x1 x2 a3 M)
theorem mfL_lent : gMW yL_lent cL_lent 5 (some .int) [((0 : Nat), (10 : Nat), (13 : Nat), (24 : Nat)), ((0 : Nat), (10 : Nat), (17 : Nat), (13 : Nat))] 4 := ⟨wd_1134, wd_0, ⟨by decide, by decide⟩, by decide +kernel⟩
set_option maxRecDepth 20000 in
set_option maxHeartbeats 2000000 in
theorem gL_lent {X : gX} {p : Program} {l : Launch} {e : Env} {s : State} {m : MethodId} {args : Array Value} {below : List Frame} {meth : Method} {c : Code} (B : gB X p (rmL_lent) s m args meth c RL cL_lent 5 (rmL_lent)) (hS9 : gS X s) (hr : meth.sig.returnType = some .int) (hfl : l.stackTraces = false) (hxt : c.exceptionTable.toList = tableOf [((0 : Nat), (10 : Nat), (13 : Nat), (24 : Nat)), ((0 : Nat), (10 : Nat), (17 : Nat), (13 : Nat))]) (a0 : Nat) (x1 : Int32) (x2 : Int32) (a3 : Nat) (M : mMem) : GG X p l e (rmL_lent) s m args below meth c (gP X below args s 3 18 (fun r9 : (Int32 × mMem) => (some (.int r9.1), r9.2))) 5 0 0 0 [(0, .ref a0), (1, .int x1), (2, .int x2), (3, .ref a3)] [] M (pL_lent a0 x1 x2 a3 M) := by
  unfold pL_lent
  refine g_aload_n B dL_lent_0 3 rfl ?_
  refine g_iconst (v := 0) B dL_lent_1 (by decide) ?_
  refine g_aload_n B dL_lent_2 0 rfl ?_
  refine g_iload_n B dL_lent_3 1 rfl ?_
  refine g_iload_n B dL_lent_4 2 rfl ?_
  refine g_xc_ip [.int x1, .int x2] (ci := 10) (T0 := TX11) (N := 18) B hS9 mf11_lent wd_1136 (gw B wd_1137) wd_1135 (by decide) rfl (fun h => (gd_ne h).1) (c11_lent X l hfl a0 x1 x2 M) (by decide) (by decide) (by decide) rfl (Nat.le_of_ble_eq_true rfl) dL_lent_5 rfl (fun k9 M9 => ?_) (fun v_1 => ?_)
  · refine g_caught_if (fun _ => ?_) (fun _ => ?_)
    · refine g_caught B hS9 [] ⟨0, 10, 13, 24⟩ [⟨0, 10, 17, 13⟩] (by rw [hxt]; rfl) (fun z hz => absurd hz List.not_mem_nil) (by decide) (by decide) wd_1077 (fun q9 => ?_)
      refine g_astore (lv' := [(4, .ref q9)]) B dL_lent_13 (by decide) [0] rfl ?_
      refine g_iconst (v := 1) B dL_lent_15 (by decide) ?_
      exact g_ireturn B hr rfl (by decide) (by decide) rfl dL_lent_16
    · refine g_caught_if (fun _ => ?_) (fun _ => ?_)
      · refine g_caught B hS9 [(⟨0, 10, 13, 24⟩, 2)] ⟨0, 10, 17, 13⟩ [] (by rw [hxt]; rfl) (List.forall_mem_cons.mpr ⟨⟨by decide, by decide, by decide, wd_1077⟩, fun z hz => absurd hz List.not_mem_nil⟩) (by decide) (by decide) wd_726 (fun q9 => ?_)
        refine g_astore (lv' := [(4, .ref q9)]) B dL_lent_17 (by decide) [0] rfl ?_
        refine g_iconst (v := 2) B dL_lent_19 (by decide) ?_
        exact g_ireturn B hr rfl (by decide) (by decide) rfl dL_lent_20
      · exact g_caught_none
  refine g_i2l B dL_lent_8 ?_
  refine g_lastore B dL_lent_9 (fun M_2 => ?_)
  refine g_goto B 21 dL_lent_10 (by decide) ?_
  refine g_iconst (v := 0) B dL_lent_21 (by decide) ?_
  exact g_ireturn B hr rfl (by decide) (by decide) rfl dL_lent_22
theorem oL_lent (X : gX) (l : Launch) (hfl : l.stackTraces = false) (a0 : Nat) (x1 : Int32) (x2 : Int32) (a3 : Nat) (M : mMem) : wCon X l yL_lent cL_lent 5 (some .int) [((0 : Nat), (10 : Nat), (13 : Nat), (24 : Nat)), ((0 : Nat), (10 : Nat), (17 : Nat), (13 : Nat))] rmL_lent (fun r9 : (Int32 × mMem) => (some (.int r9.1), r9.2)) [.ref a0, .int x1, .int x2, .ref a3] M (pL_lent a0 x1 x2 a3 M) := g_wcon (own := RL) (by decide +kernel) rfl (Nat.le_of_ble_eq_true rfl) (fun p e s m args below meth c B hS9 hr hxt => gL_lent B hS9 hr hfl hxt a0 x1 x2 a3 M)
theorem mfL_weighs : gMW yL_weighs cL_weighs 6 (some .int) [((0 : Nat), (12 : Nat), (15 : Nat), (24 : Nat)), ((0 : Nat), (12 : Nat), (19 : Nat), (13 : Nat))] 5 := ⟨wd_1147, wd_0, ⟨by decide, by decide⟩, by decide +kernel⟩
set_option maxRecDepth 20000 in
set_option maxHeartbeats 2000000 in
theorem gL_weighs {X : gX} {p : Program} {l : Launch} {e : Env} {s : State} {m : MethodId} {args : Array Value} {below : List Frame} {meth : Method} {c : Code} (B : gB X p (rmL_weighs) s m args meth c RL cL_weighs 6 (rmL_weighs)) (hS9 : gS X s) (hr : meth.sig.returnType = some .int) (hfl : l.stackTraces = false) (hxt : c.exceptionTable.toList = tableOf [((0 : Nat), (12 : Nat), (15 : Nat), (24 : Nat)), ((0 : Nat), (12 : Nat), (19 : Nat), (13 : Nat))]) (a0 : Nat) (x1 : Int32) (x2 : Int32) (x3 : Int32) (a4 : Nat) (M : mMem) : GG X p l e (rmL_weighs) s m args below meth c (gP X below args s 3 18 (fun r9 : (Int32 × mMem) => (some (.int r9.1), r9.2))) 6 0 0 0 [(0, .ref a0), (1, .int x1), (2, .int x2), (3, .int x3), (4, .ref a4)] [] M (pL_weighs a0 x1 x2 x3 a4 M) := by
  unfold pL_weighs
  refine g_aload B dL_weighs_0 4 rfl ?_
  refine g_iconst (v := 0) B dL_weighs_2 (by decide) ?_
  refine g_aload_n B dL_weighs_3 0 rfl ?_
  refine g_iload_n B dL_weighs_4 1 rfl ?_
  refine g_iload_n B dL_weighs_5 2 rfl ?_
  refine g_iload_n B dL_weighs_6 3 rfl ?_
  refine g_xc_iw [.int x1, .int x2, .int x3] (ci := 10) (T0 := TX11) (N := 18) B hS9 mf11_weighs wd_1149 (gw B wd_1150) wd_1148 (by decide) rfl (fun h => (gd_ne h).1) (c11_weighs X l hfl a0 x1 x2 x3 M) (by decide) (by decide) (by decide) rfl (Nat.le_of_ble_eq_true rfl) dL_weighs_7 rfl (fun k9 M9 => ?_) (fun q_1 => ?_)
  · refine g_caught_if (fun _ => ?_) (fun _ => ?_)
    · refine g_caught B hS9 [] ⟨0, 12, 15, 24⟩ [⟨0, 12, 19, 13⟩] (by rw [hxt]; rfl) (fun z hz => absurd hz List.not_mem_nil) (by decide) (by decide) wd_1077 (fun q9 => ?_)
      refine g_astore (lv' := [(5, .ref q9)]) B dL_weighs_15 (by decide) [0] rfl ?_
      refine g_iconst (v := 1) B dL_weighs_17 (by decide) ?_
      exact g_ireturn B hr rfl (by decide) (by decide) rfl dL_weighs_18
    · refine g_caught_if (fun _ => ?_) (fun _ => ?_)
      · refine g_caught B hS9 [(⟨0, 12, 15, 24⟩, 2)] ⟨0, 12, 19, 13⟩ [] (by rw [hxt]; rfl) (List.forall_mem_cons.mpr ⟨⟨by decide, by decide, by decide, wd_1077⟩, fun z hz => absurd hz List.not_mem_nil⟩) (by decide) (by decide) wd_726 (fun q9 => ?_)
        refine g_astore (lv' := [(5, .ref q9)]) B dL_weighs_19 (by decide) [0] rfl ?_
        refine g_iconst (v := 2) B dL_weighs_21 (by decide) ?_
        exact g_ireturn B hr rfl (by decide) (by decide) rfl dL_weighs_22
      · exact g_caught_none
  refine g_i2l B dL_weighs_10 ?_
  refine g_lastore B dL_weighs_11 (fun M_2 => ?_)
  refine g_goto B 23 dL_weighs_12 (by decide) ?_
  refine g_iconst (v := 0) B dL_weighs_23 (by decide) ?_
  exact g_ireturn B hr rfl (by decide) (by decide) rfl dL_weighs_24
theorem oL_weighs (X : gX) (l : Launch) (hfl : l.stackTraces = false) (a0 : Nat) (x1 : Int32) (x2 : Int32) (x3 : Int32) (a4 : Nat) (M : mMem) : wCon X l yL_weighs cL_weighs 6 (some .int) [((0 : Nat), (12 : Nat), (15 : Nat), (24 : Nat)), ((0 : Nat), (12 : Nat), (19 : Nat), (13 : Nat))] rmL_weighs (fun r9 : (Int32 × mMem) => (some (.int r9.1), r9.2)) [.ref a0, .int x1, .int x2, .int x3, .ref a4] M (pL_weighs a0 x1 x2 x3 a4 M) := g_wcon (own := RL) (by decide +kernel) rfl (Nat.le_of_ble_eq_true rfl) (fun p e s m args below meth c B hS9 hr hxt => gL_weighs B hS9 hr hfl hxt a0 x1 x2 x3 a4 M)
theorem mfL_gap : gMW yL_gap cL_gap 5 (some .int) [((0 : Nat), (10 : Nat), (13 : Nat), (24 : Nat)), ((0 : Nat), (10 : Nat), (17 : Nat), (13 : Nat))] 4 := ⟨wd_1155, wd_0, ⟨by decide, by decide⟩, by decide +kernel⟩
set_option maxRecDepth 20000 in
set_option maxHeartbeats 2000000 in
theorem gL_gap {X : gX} {p : Program} {l : Launch} {e : Env} {s : State} {m : MethodId} {args : Array Value} {below : List Frame} {meth : Method} {c : Code} (B : gB X p (rmL_gap) s m args meth c RL cL_gap 5 (rmL_gap)) (hS9 : gS X s) (hr : meth.sig.returnType = some .int) (hfl : l.stackTraces = false) (hxt : c.exceptionTable.toList = tableOf [((0 : Nat), (10 : Nat), (13 : Nat), (24 : Nat)), ((0 : Nat), (10 : Nat), (17 : Nat), (13 : Nat))]) (a0 : Nat) (x1 : Int32) (x2 : Int32) (a3 : Nat) (M : mMem) : GG X p l e (rmL_gap) s m args below meth c (gP X below args s 3 18 (fun r9 : (Int32 × mMem) => (some (.int r9.1), r9.2))) 5 0 0 0 [(0, .ref a0), (1, .int x1), (2, .int x2), (3, .ref a3)] [] M (pL_gap a0 x1 x2 a3 M) := by
  unfold pL_gap
  refine g_aload_n B dL_gap_0 3 rfl ?_
  refine g_iconst (v := 0) B dL_gap_1 (by decide) ?_
  refine g_aload_n B dL_gap_2 0 rfl ?_
  refine g_iload_n B dL_gap_3 1 rfl ?_
  refine g_iload_n B dL_gap_4 2 rfl ?_
  refine g_xc_ip [.int x1, .int x2] (ci := 10) (T0 := TX11) (N := 18) B hS9 mf11_gap wd_1157 (gw B wd_1158) wd_1156 (by decide) rfl (fun h => (gd_ne h).1) (c11_gap X l hfl a0 x1 x2 M) (by decide) (by decide) (by decide) rfl (Nat.le_of_ble_eq_true rfl) dL_gap_5 rfl (fun k9 M9 => ?_) (fun v_1 => ?_)
  · refine g_caught_if (fun _ => ?_) (fun _ => ?_)
    · refine g_caught B hS9 [] ⟨0, 10, 13, 24⟩ [⟨0, 10, 17, 13⟩] (by rw [hxt]; rfl) (fun z hz => absurd hz List.not_mem_nil) (by decide) (by decide) wd_1077 (fun q9 => ?_)
      refine g_astore (lv' := [(4, .ref q9)]) B dL_gap_13 (by decide) [0] rfl ?_
      refine g_iconst (v := 1) B dL_gap_15 (by decide) ?_
      exact g_ireturn B hr rfl (by decide) (by decide) rfl dL_gap_16
    · refine g_caught_if (fun _ => ?_) (fun _ => ?_)
      · refine g_caught B hS9 [(⟨0, 10, 13, 24⟩, 2)] ⟨0, 10, 17, 13⟩ [] (by rw [hxt]; rfl) (List.forall_mem_cons.mpr ⟨⟨by decide, by decide, by decide, wd_1077⟩, fun z hz => absurd hz List.not_mem_nil⟩) (by decide) (by decide) wd_726 (fun q9 => ?_)
        refine g_astore (lv' := [(4, .ref q9)]) B dL_gap_17 (by decide) [0] rfl ?_
        refine g_iconst (v := 2) B dL_gap_19 (by decide) ?_
        exact g_ireturn B hr rfl (by decide) (by decide) rfl dL_gap_20
      · exact g_caught_none
  refine g_i2l B dL_gap_8 ?_
  refine g_lastore B dL_gap_9 (fun M_2 => ?_)
  refine g_goto B 21 dL_gap_10 (by decide) ?_
  refine g_iconst (v := 0) B dL_gap_21 (by decide) ?_
  exact g_ireturn B hr rfl (by decide) (by decide) rfl dL_gap_22
theorem oL_gap (X : gX) (l : Launch) (hfl : l.stackTraces = false) (a0 : Nat) (x1 : Int32) (x2 : Int32) (a3 : Nat) (M : mMem) : wCon X l yL_gap cL_gap 5 (some .int) [((0 : Nat), (10 : Nat), (13 : Nat), (24 : Nat)), ((0 : Nat), (10 : Nat), (17 : Nat), (13 : Nat))] rmL_gap (fun r9 : (Int32 × mMem) => (some (.int r9.1), r9.2)) [.ref a0, .int x1, .int x2, .ref a3] M (pL_gap a0 x1 x2 a3 M) := g_wcon (own := RL) (by decide +kernel) rfl (Nat.le_of_ble_eq_true rfl) (fun p e s m args below meth c B hS9 hr hxt => gL_gap B hS9 hr hfl hxt a0 x1 x2 a3 M)
theorem mfL_say : gMW yL_say cL_say 6 (some .int) [((0 : Nat), (12 : Nat), (15 : Nat), (24 : Nat)), ((0 : Nat), (12 : Nat), (19 : Nat), (41 : Nat))] 5 := ⟨wd_1163, wd_0, ⟨by decide, by decide⟩, by decide +kernel⟩
set_option maxRecDepth 20000 in
set_option maxHeartbeats 2000000 in
theorem gL_say {X : gX} {p : Program} {l : Launch} {e : Env} {s : State} {m : MethodId} {args : Array Value} {below : List Frame} {meth : Method} {c : Code} (B : gB X p (rmL_say) s m args meth c RL cL_say 6 (rmL_say)) (hS9 : gS X s) (hr : meth.sig.returnType = some .int) (hfl : l.stackTraces = false) (hxt : c.exceptionTable.toList = tableOf [((0 : Nat), (12 : Nat), (15 : Nat), (24 : Nat)), ((0 : Nat), (12 : Nat), (19 : Nat), (41 : Nat))]) (a0 : Nat) (x1 : Int32) (x2 : Int32) (x3 : Int32) (a4 : Nat) (M : mMem) : GG X p l e (rmL_say) s m args below meth c (gP X below args s 3 18 (fun r9 : (Int32 × mMem) => (some (.int r9.1), r9.2))) 6 0 0 0 [(0, .ref a0), (1, .int x1), (2, .int x2), (3, .int x3), (4, .ref a4)] [] M (pL_say a0 x1 x2 x3 a4 M) := by
  unfold pL_say
  refine g_aload B dL_say_0 4 rfl ?_
  refine g_iconst (v := 0) B dL_say_2 (by decide) ?_
  refine g_aload_n B dL_say_3 0 rfl ?_
  refine g_iload_n B dL_say_4 1 rfl ?_
  refine g_iload_n B dL_say_5 2 rfl ?_
  refine g_iload_n B dL_say_6 3 rfl ?_
  refine g_xc_iw [.int x1, .int x2, .int x3] (ci := 10) (T0 := TX11) (N := 18) B hS9 mf11_say wd_1166 (gw B wd_1167) wd_1165 (by decide) rfl (fun h => (gd_ne h).1) (c11_say X l hfl a0 x1 x2 x3 M) (by decide) (by decide) (by decide) rfl (Nat.le_of_ble_eq_true rfl) dL_say_7 rfl (fun k9 M9 => ?_) (fun q_1 => ?_)
  · refine g_caught_if (fun _ => ?_) (fun _ => ?_)
    · refine g_caught B hS9 [] ⟨0, 12, 15, 24⟩ [⟨0, 12, 19, 41⟩] (by rw [hxt]; rfl) (fun z hz => absurd hz List.not_mem_nil) (by decide) (by decide) wd_1077 (fun q9 => ?_)
      refine g_astore (lv' := [(5, .ref q9)]) B dL_say_15 (by decide) [0] rfl ?_
      refine g_iconst (v := 1) B dL_say_17 (by decide) ?_
      exact g_ireturn B hr rfl (by decide) (by decide) rfl dL_say_18
    · refine g_caught_if (fun _ => ?_) (fun _ => ?_)
      · refine g_caught B hS9 [(⟨0, 12, 15, 24⟩, 2)] ⟨0, 12, 19, 41⟩ [] (by rw [hxt]; rfl) (List.forall_mem_cons.mpr ⟨⟨by decide, by decide, by decide, wd_1077⟩, fun z hz => absurd hz List.not_mem_nil⟩) (by decide) (by decide) wd_1164 (fun q9 => ?_)
        refine g_astore (lv' := [(5, .ref q9)]) B dL_say_19 (by decide) [0] rfl ?_
        refine g_iconst (v := 2) B dL_say_21 (by decide) ?_
        exact g_ireturn B hr rfl (by decide) (by decide) rfl dL_say_22
      · exact g_caught_none
  refine g_i2l B dL_say_10 ?_
  refine g_lastore B dL_say_11 (fun M_2 => ?_)
  refine g_goto B 23 dL_say_12 (by decide) ?_
  refine g_iconst (v := 0) B dL_say_23 (by decide) ?_
  exact g_ireturn B hr rfl (by decide) (by decide) rfl dL_say_24
theorem oL_say (X : gX) (l : Launch) (hfl : l.stackTraces = false) (a0 : Nat) (x1 : Int32) (x2 : Int32) (x3 : Int32) (a4 : Nat) (M : mMem) : wCon X l yL_say cL_say 6 (some .int) [((0 : Nat), (12 : Nat), (15 : Nat), (24 : Nat)), ((0 : Nat), (12 : Nat), (19 : Nat), (41 : Nat))] rmL_say (fun r9 : (Int32 × mMem) => (some (.int r9.1), r9.2)) [.ref a0, .int x1, .int x2, .int x3, .ref a4] M (pL_say a0 x1 x2 x3 a4 M) := g_wcon (own := RL) (by decide +kernel) rfl (Nat.le_of_ble_eq_true rfl) (fun p e s m args below meth c B hS9 hr hxt => gL_say B hS9 hr hfl hxt a0 x1 x2 x3 a4 M)
theorem mfL_bear : gMW yL_bear cL_bear 5 (some .int) [((0 : Nat), (10 : Nat), (13 : Nat), (24 : Nat)), ((0 : Nat), (10 : Nat), (17 : Nat), (41 : Nat))] 4 := ⟨wd_1196, wd_0, ⟨by decide, by decide⟩, by decide +kernel⟩
set_option maxRecDepth 20000 in
set_option maxHeartbeats 2000000 in
theorem gL_bear {X : gX} {p : Program} {l : Launch} {e : Env} {s : State} {m : MethodId} {args : Array Value} {below : List Frame} {meth : Method} {c : Code} (B : gB X p (rmL_bear) s m args meth c RL cL_bear 5 (rmL_bear)) (hS9 : gS X s) (hr : meth.sig.returnType = some .int) (hfl : l.stackTraces = false) (hxt : c.exceptionTable.toList = tableOf [((0 : Nat), (10 : Nat), (13 : Nat), (24 : Nat)), ((0 : Nat), (10 : Nat), (17 : Nat), (41 : Nat))]) (a0 : Nat) (x1 : Int32) (x2 : Int32) (a3 : Nat) (M : mMem) : GG X p l e (rmL_bear) s m args below meth c (gP X below args s 2 12 (fun r9 : (Int32 × mMem) => (some (.int r9.1), r9.2))) 5 0 0 0 [(0, .ref a0), (1, .int x1), (2, .int x2), (3, .ref a3)] [] M (pL_bear a0 x1 x2 a3 M) := by
  unfold pL_bear
  refine g_aload_n B dL_bear_0 3 rfl ?_
  refine g_iconst (v := 0) B dL_bear_1 (by decide) ?_
  refine g_aload_n B dL_bear_2 0 rfl ?_
  refine g_iload_n B dL_bear_3 1 rfl ?_
  refine g_iload_n B dL_bear_4 2 rfl ?_
  refine g_xc_iw [.int x1, .int x2] (ci := 10) (T0 := TX11) (N := 18) B hS9 mf11_bear wd_1198 (gw B wd_1199) wd_1197 (by decide) rfl (fun h => (gd_ne h).1) (c11_bear X l hfl a0 x1 x2 M) (by decide) (by decide) (by decide) rfl (Nat.le_of_ble_eq_true rfl) dL_bear_5 rfl (fun k9 M9 => ?_) (fun q_1 => ?_)
  · refine g_caught_if (fun _ => ?_) (fun _ => ?_)
    · refine g_caught B hS9 [] ⟨0, 10, 13, 24⟩ [⟨0, 10, 17, 41⟩] (by rw [hxt]; rfl) (fun z hz => absurd hz List.not_mem_nil) (by decide) (by decide) wd_1077 (fun q9 => ?_)
      refine g_astore (lv' := [(4, .ref q9)]) B dL_bear_13 (by decide) [0] rfl ?_
      refine g_iconst (v := 1) B dL_bear_15 (by decide) ?_
      exact g_ireturn B hr rfl (by decide) (by decide) rfl dL_bear_16
    · refine g_caught_if (fun _ => ?_) (fun _ => ?_)
      · refine g_caught B hS9 [(⟨0, 10, 13, 24⟩, 2)] ⟨0, 10, 17, 41⟩ [] (by rw [hxt]; rfl) (List.forall_mem_cons.mpr ⟨⟨by decide, by decide, by decide, wd_1077⟩, fun z hz => absurd hz List.not_mem_nil⟩) (by decide) (by decide) wd_1164 (fun q9 => ?_)
        refine g_astore (lv' := [(4, .ref q9)]) B dL_bear_17 (by decide) [0] rfl ?_
        refine g_iconst (v := 2) B dL_bear_19 (by decide) ?_
        exact g_ireturn B hr rfl (by decide) (by decide) rfl dL_bear_20
      · exact g_caught_none
  refine g_i2l B dL_bear_8 ?_
  refine g_lastore B dL_bear_9 (fun M_2 => ?_)
  refine g_goto B 21 dL_bear_10 (by decide) ?_
  refine g_iconst (v := 0) B dL_bear_21 (by decide) ?_
  exact g_ireturn B hr rfl (by decide) (by decide) rfl dL_bear_22
theorem oL_bear (X : gX) (l : Launch) (hfl : l.stackTraces = false) (a0 : Nat) (x1 : Int32) (x2 : Int32) (a3 : Nat) (M : mMem) : wCon X l yL_bear cL_bear 5 (some .int) [((0 : Nat), (10 : Nat), (13 : Nat), (24 : Nat)), ((0 : Nat), (10 : Nat), (17 : Nat), (41 : Nat))] rmL_bear (fun r9 : (Int32 × mMem) => (some (.int r9.1), r9.2)) [.ref a0, .int x1, .int x2, .ref a3] M (pL_bear a0 x1 x2 a3 M) := g_wcon (own := RL) (by decide +kernel) rfl (Nat.le_of_ble_eq_true rfl) (fun p e s m args below meth c B hS9 hr hxt => gL_bear B hS9 hr hfl hxt a0 x1 x2 a3 M)
theorem mfL_wed : gMW yL_wed cL_wed 5 (some .int) [((0 : Nat), (10 : Nat), (13 : Nat), (24 : Nat)), ((0 : Nat), (10 : Nat), (17 : Nat), (13 : Nat)), ((0 : Nat), (10 : Nat), (21 : Nat), (41 : Nat))] 4 := ⟨wd_1205, wd_0, ⟨by decide, by decide⟩, by decide +kernel⟩
set_option maxRecDepth 20000 in
set_option maxHeartbeats 2000000 in
theorem gL_wed {X : gX} {p : Program} {l : Launch} {e : Env} {s : State} {m : MethodId} {args : Array Value} {below : List Frame} {meth : Method} {c : Code} (B : gB X p (rmL_wed) s m args meth c RL cL_wed 5 (rmL_wed)) (hS9 : gS X s) (hr : meth.sig.returnType = some .int) (hfl : l.stackTraces = false) (hxt : c.exceptionTable.toList = tableOf [((0 : Nat), (10 : Nat), (13 : Nat), (24 : Nat)), ((0 : Nat), (10 : Nat), (17 : Nat), (13 : Nat)), ((0 : Nat), (10 : Nat), (21 : Nat), (41 : Nat))]) (a0 : Nat) (x1 : Int32) (x2 : Int32) (a3 : Nat) (M : mMem) : GG X p l e (rmL_wed) s m args below meth c (gP X below args s 4 24 (fun r9 : (Int32 × mMem) => (some (.int r9.1), r9.2))) 5 0 0 0 [(0, .ref a0), (1, .int x1), (2, .int x2), (3, .ref a3)] [] M (pL_wed a0 x1 x2 a3 M) := by
  unfold pL_wed
  refine g_aload_n B dL_wed_0 3 rfl ?_
  refine g_iconst (v := 0) B dL_wed_1 (by decide) ?_
  refine g_aload_n B dL_wed_2 0 rfl ?_
  refine g_iload_n B dL_wed_3 1 rfl ?_
  refine g_iload_n B dL_wed_4 2 rfl ?_
  refine g_xc_iw [.int x1, .int x2] (ci := 10) (T0 := TX11) (N := 18) B hS9 mf11_wed wd_1207 (gw B wd_1208) wd_1206 (by decide) rfl (fun h => (gd_ne h).1) (c11_wed X l hfl a0 x1 x2 M) (by decide) (by decide) (by decide) rfl (Nat.le_of_ble_eq_true rfl) dL_wed_5 rfl (fun k9 M9 => ?_) (fun q_1 => ?_)
  · refine g_caught_if (fun _ => ?_) (fun _ => ?_)
    · refine g_caught B hS9 [] ⟨0, 10, 13, 24⟩ [⟨0, 10, 17, 13⟩, ⟨0, 10, 21, 41⟩] (by rw [hxt]; rfl) (fun z hz => absurd hz List.not_mem_nil) (by decide) (by decide) wd_1077 (fun q9 => ?_)
      refine g_astore (lv' := [(4, .ref q9)]) B dL_wed_13 (by decide) [0] rfl ?_
      refine g_iconst (v := 1) B dL_wed_15 (by decide) ?_
      exact g_ireturn B hr rfl (by decide) (by decide) rfl dL_wed_16
    · refine g_caught_if (fun _ => ?_) (fun _ => ?_)
      · refine g_caught B hS9 [(⟨0, 10, 13, 24⟩, 2)] ⟨0, 10, 17, 13⟩ [⟨0, 10, 21, 41⟩] (by rw [hxt]; rfl) (List.forall_mem_cons.mpr ⟨⟨by decide, by decide, by decide, wd_1077⟩, fun z hz => absurd hz List.not_mem_nil⟩) (by decide) (by decide) wd_726 (fun q9 => ?_)
        refine g_astore (lv' := [(4, .ref q9)]) B dL_wed_17 (by decide) [0] rfl ?_
        refine g_iconst (v := 2) B dL_wed_19 (by decide) ?_
        exact g_ireturn B hr rfl (by decide) (by decide) rfl dL_wed_20
      · refine g_caught_if (fun _ => ?_) (fun _ => ?_)
        · refine g_caught B hS9 [(⟨0, 10, 13, 24⟩, 2), (⟨0, 10, 17, 13⟩, 0)] ⟨0, 10, 21, 41⟩ [] (by rw [hxt]; rfl) (List.forall_mem_cons.mpr ⟨⟨by decide, by decide, by decide, wd_1077⟩, List.forall_mem_cons.mpr ⟨⟨by decide, by decide, by decide, wd_726⟩, fun z hz => absurd hz List.not_mem_nil⟩⟩) (by decide) (by decide) wd_1164 (fun q9 => ?_)
          refine g_astore (lv' := [(4, .ref q9)]) B dL_wed_21 (by decide) [0] rfl ?_
          refine g_iconst (v := 3) B dL_wed_23 (by decide) ?_
          exact g_ireturn B hr rfl (by decide) (by decide) rfl dL_wed_24
        · exact g_caught_none
  refine g_i2l B dL_wed_8 ?_
  refine g_lastore B dL_wed_9 (fun M_2 => ?_)
  refine g_goto B 25 dL_wed_10 (by decide) ?_
  refine g_iconst (v := 0) B dL_wed_25 (by decide) ?_
  exact g_ireturn B hr rfl (by decide) (by decide) rfl dL_wed_26
theorem oL_wed (X : gX) (l : Launch) (hfl : l.stackTraces = false) (a0 : Nat) (x1 : Int32) (x2 : Int32) (a3 : Nat) (M : mMem) : wCon X l yL_wed cL_wed 5 (some .int) [((0 : Nat), (10 : Nat), (13 : Nat), (24 : Nat)), ((0 : Nat), (10 : Nat), (17 : Nat), (13 : Nat)), ((0 : Nat), (10 : Nat), (21 : Nat), (41 : Nat))] rmL_wed (fun r9 : (Int32 × mMem) => (some (.int r9.1), r9.2)) [.ref a0, .int x1, .int x2, .ref a3] M (pL_wed a0 x1 x2 a3 M) := g_wcon (own := RL) (by decide +kernel) rfl (Nat.le_of_ble_eq_true rfl) (fun p e s m args below meth c B hS9 hr hxt => gL_wed B hS9 hr hfl hxt a0 x1 x2 a3 M)
theorem mfL_part : gMW yL_part cL_part 4 (some .int) [((0 : Nat), (9 : Nat), (12 : Nat), (24 : Nat)), ((0 : Nat), (9 : Nat), (15 : Nat), (41 : Nat))] 3 := ⟨wd_1214, wd_0, ⟨by decide, by decide⟩, by decide +kernel⟩
set_option maxRecDepth 20000 in
set_option maxHeartbeats 2000000 in
theorem gL_part {X : gX} {p : Program} {l : Launch} {e : Env} {s : State} {m : MethodId} {args : Array Value} {below : List Frame} {meth : Method} {c : Code} (B : gB X p (rmL_part) s m args meth c RL cL_part 4 (rmL_part)) (hS9 : gS X s) (hr : meth.sig.returnType = some .int) (hfl : l.stackTraces = false) (hxt : c.exceptionTable.toList = tableOf [((0 : Nat), (9 : Nat), (12 : Nat), (24 : Nat)), ((0 : Nat), (9 : Nat), (15 : Nat), (41 : Nat))]) (a0 : Nat) (x1 : Int32) (a2 : Nat) (M : mMem) : GG X p l e (rmL_part) s m args below meth c (gP X below args s 2 12 (fun r9 : (Int32 × mMem) => (some (.int r9.1), r9.2))) 4 0 0 0 [(0, .ref a0), (1, .int x1), (2, .ref a2)] [] M (pL_part a0 x1 a2 M) := by
  unfold pL_part
  refine g_aload_n B dL_part_0 2 rfl ?_
  refine g_iconst (v := 0) B dL_part_1 (by decide) ?_
  refine g_aload_n B dL_part_2 0 rfl ?_
  refine g_iload_n B dL_part_3 1 rfl ?_
  refine g_xc_iw [.int x1] (ci := 10) (T0 := TX11) (N := 18) B hS9 mf11_part wd_1216 (gw B wd_1217) wd_1215 (by decide) rfl (fun h => (gd_ne h).1) (c11_part X l hfl a0 x1 M) (by decide) (by decide) (by decide) rfl (Nat.le_of_ble_eq_true rfl) dL_part_4 rfl (fun k9 M9 => ?_) (fun q_1 => ?_)
  · refine g_caught_if (fun _ => ?_) (fun _ => ?_)
    · refine g_caught B hS9 [] ⟨0, 9, 12, 24⟩ [⟨0, 9, 15, 41⟩] (by rw [hxt]; rfl) (fun z hz => absurd hz List.not_mem_nil) (by decide) (by decide) wd_1077 (fun q9 => ?_)
      refine g_astore_n (lv' := [(3, .ref q9)]) B dL_part_12 (by decide) [0] rfl ?_
      refine g_iconst (v := 1) B dL_part_13 (by decide) ?_
      exact g_ireturn B hr rfl (by decide) (by decide) rfl dL_part_14
    · refine g_caught_if (fun _ => ?_) (fun _ => ?_)
      · refine g_caught B hS9 [(⟨0, 9, 12, 24⟩, 2)] ⟨0, 9, 15, 41⟩ [] (by rw [hxt]; rfl) (List.forall_mem_cons.mpr ⟨⟨by decide, by decide, by decide, wd_1077⟩, fun z hz => absurd hz List.not_mem_nil⟩) (by decide) (by decide) wd_1164 (fun q9 => ?_)
        refine g_astore_n (lv' := [(3, .ref q9)]) B dL_part_15 (by decide) [0] rfl ?_
        refine g_iconst (v := 2) B dL_part_16 (by decide) ?_
        exact g_ireturn B hr rfl (by decide) (by decide) rfl dL_part_17
      · exact g_caught_none
  refine g_i2l B dL_part_7 ?_
  refine g_lastore B dL_part_8 (fun M_2 => ?_)
  refine g_goto B 18 dL_part_9 (by decide) ?_
  refine g_iconst (v := 0) B dL_part_18 (by decide) ?_
  exact g_ireturn B hr rfl (by decide) (by decide) rfl dL_part_19
theorem oL_part (X : gX) (l : Launch) (hfl : l.stackTraces = false) (a0 : Nat) (x1 : Int32) (a2 : Nat) (M : mMem) : wCon X l yL_part cL_part 4 (some .int) [((0 : Nat), (9 : Nat), (12 : Nat), (24 : Nat)), ((0 : Nat), (9 : Nat), (15 : Nat), (41 : Nat))] rmL_part (fun r9 : (Int32 × mMem) => (some (.int r9.1), r9.2)) [.ref a0, .int x1, .ref a2] M (pL_part a0 x1 a2 M) := g_wcon (own := RL) (by decide +kernel) rfl (Nat.le_of_ble_eq_true rfl) (fun p e s m args below meth c B hS9 hr hxt => gL_part B hS9 hr hfl hxt a0 x1 a2 M)
theorem mfL_lend : gMW yL_lend cL_lend 5 (some .int) [((0 : Nat), (10 : Nat), (13 : Nat), (24 : Nat)), ((0 : Nat), (10 : Nat), (17 : Nat), (13 : Nat)), ((0 : Nat), (10 : Nat), (21 : Nat), (41 : Nat))] 4 := ⟨wd_1221, wd_0, ⟨by decide, by decide⟩, by decide +kernel⟩
set_option maxRecDepth 20000 in
set_option maxHeartbeats 2000000 in
theorem gL_lend {X : gX} {p : Program} {l : Launch} {e : Env} {s : State} {m : MethodId} {args : Array Value} {below : List Frame} {meth : Method} {c : Code} (B : gB X p (rmL_lend) s m args meth c RL cL_lend 5 (rmL_lend)) (hS9 : gS X s) (hr : meth.sig.returnType = some .int) (hfl : l.stackTraces = false) (hxt : c.exceptionTable.toList = tableOf [((0 : Nat), (10 : Nat), (13 : Nat), (24 : Nat)), ((0 : Nat), (10 : Nat), (17 : Nat), (13 : Nat)), ((0 : Nat), (10 : Nat), (21 : Nat), (41 : Nat))]) (a0 : Nat) (x1 : Int32) (x2 : Int32) (a3 : Nat) (M : mMem) : GG X p l e (rmL_lend) s m args below meth c (gP X below args s 4 24 (fun r9 : (Int32 × mMem) => (some (.int r9.1), r9.2))) 5 0 0 0 [(0, .ref a0), (1, .int x1), (2, .int x2), (3, .ref a3)] [] M (pL_lend a0 x1 x2 a3 M) := by
  unfold pL_lend
  refine g_aload_n B dL_lend_0 3 rfl ?_
  refine g_iconst (v := 0) B dL_lend_1 (by decide) ?_
  refine g_aload_n B dL_lend_2 0 rfl ?_
  refine g_iload_n B dL_lend_3 1 rfl ?_
  refine g_iload_n B dL_lend_4 2 rfl ?_
  refine g_xc_iw [.int x1, .int x2] (ci := 10) (T0 := TX11) (N := 18) B hS9 mf11_lend wd_1223 (gw B wd_1224) wd_1222 (by decide) rfl (fun h => (gd_ne h).1) (c11_lend X l hfl a0 x1 x2 M) (by decide) (by decide) (by decide) rfl (Nat.le_of_ble_eq_true rfl) dL_lend_5 rfl (fun k9 M9 => ?_) (fun q_1 => ?_)
  · refine g_caught_if (fun _ => ?_) (fun _ => ?_)
    · refine g_caught B hS9 [] ⟨0, 10, 13, 24⟩ [⟨0, 10, 17, 13⟩, ⟨0, 10, 21, 41⟩] (by rw [hxt]; rfl) (fun z hz => absurd hz List.not_mem_nil) (by decide) (by decide) wd_1077 (fun q9 => ?_)
      refine g_astore (lv' := [(4, .ref q9)]) B dL_lend_13 (by decide) [0] rfl ?_
      refine g_iconst (v := 1) B dL_lend_15 (by decide) ?_
      exact g_ireturn B hr rfl (by decide) (by decide) rfl dL_lend_16
    · refine g_caught_if (fun _ => ?_) (fun _ => ?_)
      · refine g_caught B hS9 [(⟨0, 10, 13, 24⟩, 2)] ⟨0, 10, 17, 13⟩ [⟨0, 10, 21, 41⟩] (by rw [hxt]; rfl) (List.forall_mem_cons.mpr ⟨⟨by decide, by decide, by decide, wd_1077⟩, fun z hz => absurd hz List.not_mem_nil⟩) (by decide) (by decide) wd_726 (fun q9 => ?_)
        refine g_astore (lv' := [(4, .ref q9)]) B dL_lend_17 (by decide) [0] rfl ?_
        refine g_iconst (v := 2) B dL_lend_19 (by decide) ?_
        exact g_ireturn B hr rfl (by decide) (by decide) rfl dL_lend_20
      · refine g_caught_if (fun _ => ?_) (fun _ => ?_)
        · refine g_caught B hS9 [(⟨0, 10, 13, 24⟩, 2), (⟨0, 10, 17, 13⟩, 0)] ⟨0, 10, 21, 41⟩ [] (by rw [hxt]; rfl) (List.forall_mem_cons.mpr ⟨⟨by decide, by decide, by decide, wd_1077⟩, List.forall_mem_cons.mpr ⟨⟨by decide, by decide, by decide, wd_726⟩, fun z hz => absurd hz List.not_mem_nil⟩⟩) (by decide) (by decide) wd_1164 (fun q9 => ?_)
          refine g_astore (lv' := [(4, .ref q9)]) B dL_lend_21 (by decide) [0] rfl ?_
          refine g_iconst (v := 3) B dL_lend_23 (by decide) ?_
          exact g_ireturn B hr rfl (by decide) (by decide) rfl dL_lend_24
        · exact g_caught_none
  refine g_i2l B dL_lend_8 ?_
  refine g_lastore B dL_lend_9 (fun M_2 => ?_)
  refine g_goto B 25 dL_lend_10 (by decide) ?_
  refine g_iconst (v := 0) B dL_lend_25 (by decide) ?_
  exact g_ireturn B hr rfl (by decide) (by decide) rfl dL_lend_26
theorem oL_lend (X : gX) (l : Launch) (hfl : l.stackTraces = false) (a0 : Nat) (x1 : Int32) (x2 : Int32) (a3 : Nat) (M : mMem) : wCon X l yL_lend cL_lend 5 (some .int) [((0 : Nat), (10 : Nat), (13 : Nat), (24 : Nat)), ((0 : Nat), (10 : Nat), (17 : Nat), (13 : Nat)), ((0 : Nat), (10 : Nat), (21 : Nat), (41 : Nat))] rmL_lend (fun r9 : (Int32 × mMem) => (some (.int r9.1), r9.2)) [.ref a0, .int x1, .int x2, .ref a3] M (pL_lend a0 x1 x2 a3 M) := g_wcon (own := RL) (by decide +kernel) rfl (Nat.le_of_ble_eq_true rfl) (fun p e s m args below meth c B hS9 hr hxt => gL_lend B hS9 hr hfl hxt a0 x1 x2 a3 M)
theorem mfL_use : gMW yL_use cL_use 4 (some .int) [((0 : Nat), (9 : Nat), (12 : Nat), (24 : Nat)), ((0 : Nat), (9 : Nat), (15 : Nat), (41 : Nat))] 3 := ⟨wd_1232, wd_0, ⟨by decide, by decide⟩, by decide +kernel⟩
set_option maxRecDepth 20000 in
set_option maxHeartbeats 2000000 in
theorem gL_use {X : gX} {p : Program} {l : Launch} {e : Env} {s : State} {m : MethodId} {args : Array Value} {below : List Frame} {meth : Method} {c : Code} (B : gB X p (rmL_use) s m args meth c RL cL_use 4 (rmL_use)) (hS9 : gS X s) (hr : meth.sig.returnType = some .int) (hfl : l.stackTraces = false) (hxt : c.exceptionTable.toList = tableOf [((0 : Nat), (9 : Nat), (12 : Nat), (24 : Nat)), ((0 : Nat), (9 : Nat), (15 : Nat), (41 : Nat))]) (a0 : Nat) (x1 : Int32) (a2 : Nat) (M : mMem) : GG X p l e (rmL_use) s m args below meth c (gP X below args s 2 12 (fun r9 : (Int32 × mMem) => (some (.int r9.1), r9.2))) 4 0 0 0 [(0, .ref a0), (1, .int x1), (2, .ref a2)] [] M (pL_use a0 x1 a2 M) := by
  unfold pL_use
  refine g_aload_n B dL_use_0 2 rfl ?_
  refine g_iconst (v := 0) B dL_use_1 (by decide) ?_
  refine g_aload_n B dL_use_2 0 rfl ?_
  refine g_iload_n B dL_use_3 1 rfl ?_
  refine g_xc_iw [.int x1] (ci := 10) (T0 := TX11) (N := 18) B hS9 mf11_use wd_1234 (gw B wd_1235) wd_1233 (by decide) rfl (fun h => (gd_ne h).1) (c11_use X l hfl a0 x1 M) (by decide) (by decide) (by decide) rfl (Nat.le_of_ble_eq_true rfl) dL_use_4 rfl (fun k9 M9 => ?_) (fun q_1 => ?_)
  · refine g_caught_if (fun _ => ?_) (fun _ => ?_)
    · refine g_caught B hS9 [] ⟨0, 9, 12, 24⟩ [⟨0, 9, 15, 41⟩] (by rw [hxt]; rfl) (fun z hz => absurd hz List.not_mem_nil) (by decide) (by decide) wd_1077 (fun q9 => ?_)
      refine g_astore_n (lv' := [(3, .ref q9)]) B dL_use_12 (by decide) [0] rfl ?_
      refine g_iconst (v := 1) B dL_use_13 (by decide) ?_
      exact g_ireturn B hr rfl (by decide) (by decide) rfl dL_use_14
    · refine g_caught_if (fun _ => ?_) (fun _ => ?_)
      · refine g_caught B hS9 [(⟨0, 9, 12, 24⟩, 2)] ⟨0, 9, 15, 41⟩ [] (by rw [hxt]; rfl) (List.forall_mem_cons.mpr ⟨⟨by decide, by decide, by decide, wd_1077⟩, fun z hz => absurd hz List.not_mem_nil⟩) (by decide) (by decide) wd_1164 (fun q9 => ?_)
        refine g_astore_n (lv' := [(3, .ref q9)]) B dL_use_15 (by decide) [0] rfl ?_
        refine g_iconst (v := 2) B dL_use_16 (by decide) ?_
        exact g_ireturn B hr rfl (by decide) (by decide) rfl dL_use_17
      · exact g_caught_none
  refine g_i2l B dL_use_7 ?_
  refine g_lastore B dL_use_8 (fun M_2 => ?_)
  refine g_goto B 18 dL_use_9 (by decide) ?_
  refine g_iconst (v := 0) B dL_use_18 (by decide) ?_
  exact g_ireturn B hr rfl (by decide) (by decide) rfl dL_use_19
theorem oL_use (X : gX) (l : Launch) (hfl : l.stackTraces = false) (a0 : Nat) (x1 : Int32) (a2 : Nat) (M : mMem) : wCon X l yL_use cL_use 4 (some .int) [((0 : Nat), (9 : Nat), (12 : Nat), (24 : Nat)), ((0 : Nat), (9 : Nat), (15 : Nat), (41 : Nat))] rmL_use (fun r9 : (Int32 × mMem) => (some (.int r9.1), r9.2)) [.ref a0, .int x1, .ref a2] M (pL_use a0 x1 a2 M) := g_wcon (own := RL) (by decide +kernel) rfl (Nat.le_of_ble_eq_true rfl) (fun p e s m args below meth c B hS9 hr hxt => gL_use B hS9 hr hfl hxt a0 x1 a2 M)
theorem mfL_govern : gMW yL_govern cL_govern 6 (some .int) [((0 : Nat), (19 : Nat), (22 : Nat), (24 : Nat)), ((0 : Nat), (19 : Nat), (26 : Nat), (13 : Nat))] 5 := ⟨wd_1240, wd_0, ⟨by decide, by decide⟩, by decide +kernel⟩
set_option maxRecDepth 20000 in
set_option maxHeartbeats 2000000 in
theorem gL_govern_J18 {X : gX} {p : Program} {l : Launch} {e : Env} {s : State} {m : MethodId} {args : Array Value} {below : List Frame} {meth : Method} {c : Code} (B : gB X p (rmL_govern) s m args meth c RL cL_govern 6 (rmL_govern)) (hS9 : gS X s) (hr : meth.sig.returnType = some .int) (hfl : l.stackTraces = false) (hxt : c.exceptionTable.toList = tableOf [((0 : Nat), (19 : Nat), (22 : Nat), (24 : Nat)), ((0 : Nat), (19 : Nat), (26 : Nat), (13 : Nat))]) (b0 : Nat) (u1 : Int32) (w2 : Int64) (M : mMem) : GG X p l e (rmL_govern) s m args below meth c (gP X below args s 3 18 (fun r9 : (Int32 × mMem) => (some (.int r9.1), r9.2))) 6 3 18 18 [] [.long w2, .int u1, .ref b0] M (pL_govern_J18 b0 u1 w2 M) := by
  unfold pL_govern_J18
  refine g_lastore B dL_govern_18 (fun M_1 => ?_)
  refine g_goto B 30 dL_govern_19 (by decide) ?_
  refine g_iconst (v := 0) B dL_govern_30 (by decide) ?_
  exact g_ireturn B hr rfl (by decide) (by decide) rfl dL_govern_31
set_option maxRecDepth 20000 in
set_option maxHeartbeats 2000000 in
theorem gL_govern {X : gX} {p : Program} {l : Launch} {e : Env} {s : State} {m : MethodId} {args : Array Value} {below : List Frame} {meth : Method} {c : Code} (B : gB X p (rmL_govern) s m args meth c RL cL_govern 6 (rmL_govern)) (hS9 : gS X s) (hr : meth.sig.returnType = some .int) (hfl : l.stackTraces = false) (hxt : c.exceptionTable.toList = tableOf [((0 : Nat), (19 : Nat), (22 : Nat), (24 : Nat)), ((0 : Nat), (19 : Nat), (26 : Nat), (13 : Nat))]) (a0 : Nat) (x1 : Int32) (x2 : Int32) (x3 : Int32) (a4 : Nat) (M : mMem) : GG X p l e (rmL_govern) s m args below meth c (gP X below args s 3 18 (fun r9 : (Int32 × mMem) => (some (.int r9.1), r9.2))) 6 0 0 0 [(0, .ref a0), (1, .int x1), (2, .int x2), (3, .int x3), (4, .ref a4)] [] M (pL_govern a0 x1 x2 x3 a4 M) := by
  unfold pL_govern
  refine g_aload B dL_govern_0 4 rfl ?_
  refine g_iconst (v := 0) B dL_govern_2 (by decide) ?_
  refine g_aload_n B dL_govern_3 0 rfl ?_
  refine g_iload_n B dL_govern_4 1 rfl ?_
  refine g_iload_n B dL_govern_5 2 rfl ?_
  refine g_iload_n B dL_govern_6 3 rfl ?_
  refine g_xc_iw [.int x1, .int x2, .int x3] (ci := 10) (T0 := TX11) (N := 18) B hS9 mf11_govern wd_1242 (gw B wd_1243) wd_1241 (by decide) rfl (fun h => (gd_ne h).1) (c11_govern X l hfl a0 x1 x2 x3 M) (by decide) (by decide) (by decide) rfl (Nat.le_of_ble_eq_true rfl) dL_govern_7 rfl (fun k9 M9 => ?_) (fun q_1 => ?_)
  · refine g_caught_if (fun _ => ?_) (fun _ => ?_)
    · refine g_caught B hS9 [] ⟨0, 19, 22, 24⟩ [⟨0, 19, 26, 13⟩] (by rw [hxt]; rfl) (fun z hz => absurd hz List.not_mem_nil) (by decide) (by decide) wd_1077 (fun q9 => ?_)
      refine g_astore (lv' := [(5, .ref q9)]) B dL_govern_22 (by decide) [0] rfl ?_
      refine g_iconst (v := 1) B dL_govern_24 (by decide) ?_
      exact g_ireturn B hr rfl (by decide) (by decide) rfl dL_govern_25
    · refine g_caught_if (fun _ => ?_) (fun _ => ?_)
      · refine g_caught B hS9 [(⟨0, 19, 22, 24⟩, 2)] ⟨0, 19, 26, 13⟩ [] (by rw [hxt]; rfl) (List.forall_mem_cons.mpr ⟨⟨by decide, by decide, by decide, wd_1077⟩, fun z hz => absurd hz List.not_mem_nil⟩) (by decide) (by decide) wd_726 (fun q9 => ?_)
        refine g_astore (lv' := [(5, .ref q9)]) B dL_govern_26 (by decide) [0] rfl ?_
        refine g_iconst (v := 2) B dL_govern_28 (by decide) ?_
        exact g_ireturn B hr rfl (by decide) (by decide) rfl dL_govern_29
      · exact g_caught_none
  refine g_if_eq B 17 dL_govern_10 (by decide) ?_ ?_
  · refine g_lconst (v := 0) B dL_govern_17 (by decide) ?_
    refine g_sub (lv' := []) [] rfl ?_
    exact gL_govern_J18 B hS9 hr hfl hxt a4 0 0 q_1.2
  · refine g_lconst (v := 1) B dL_govern_13 (by decide) ?_
    refine g_goto B 18 dL_govern_14 (by decide) ?_
    refine g_sub (lv' := []) [] rfl ?_
    exact gL_govern_J18 B hS9 hr hfl hxt a4 0 1 q_1.2
theorem oL_govern (X : gX) (l : Launch) (hfl : l.stackTraces = false) (a0 : Nat) (x1 : Int32) (x2 : Int32) (x3 : Int32) (a4 : Nat) (M : mMem) : wCon X l yL_govern cL_govern 6 (some .int) [((0 : Nat), (19 : Nat), (22 : Nat), (24 : Nat)), ((0 : Nat), (19 : Nat), (26 : Nat), (13 : Nat))] rmL_govern (fun r9 : (Int32 × mMem) => (some (.int r9.1), r9.2)) [.ref a0, .int x1, .int x2, .int x3, .ref a4] M (pL_govern a0 x1 x2 x3 a4 M) := g_wcon (own := RL) (by decide +kernel) rfl (Nat.le_of_ble_eq_true rfl) (fun p e s m args below meth c B hS9 hr hxt => gL_govern B hS9 hr hfl hxt a0 x1 x2 x3 a4 M)
theorem mfL_stern : gMW yL_stern cL_stern 5 (some .int) [((0 : Nat), (10 : Nat), (13 : Nat), (24 : Nat)), ((0 : Nat), (10 : Nat), (17 : Nat), (13 : Nat))] 4 := ⟨wd_1247, wd_0, ⟨by decide, by decide⟩, by decide +kernel⟩
set_option maxRecDepth 20000 in
set_option maxHeartbeats 2000000 in
theorem gL_stern {X : gX} {p : Program} {l : Launch} {e : Env} {s : State} {m : MethodId} {args : Array Value} {below : List Frame} {meth : Method} {c : Code} (B : gB X p (rmL_stern) s m args meth c RL cL_stern 5 (rmL_stern)) (hS9 : gS X s) (hr : meth.sig.returnType = some .int) (hfl : l.stackTraces = false) (hxt : c.exceptionTable.toList = tableOf [((0 : Nat), (10 : Nat), (13 : Nat), (24 : Nat)), ((0 : Nat), (10 : Nat), (17 : Nat), (13 : Nat))]) (a0 : Nat) (x1 : Int32) (x2 : Int32) (a3 : Nat) (M : mMem) : GG X p l e (rmL_stern) s m args below meth c (gP X below args s 2 12 (fun r9 : (Int32 × mMem) => (some (.int r9.1), r9.2))) 5 0 0 0 [(0, .ref a0), (1, .int x1), (2, .int x2), (3, .ref a3)] [] M (pL_stern a0 x1 x2 a3 M) := by
  unfold pL_stern
  refine g_aload_n B dL_stern_0 3 rfl ?_
  refine g_iconst (v := 0) B dL_stern_1 (by decide) ?_
  refine g_aload_n B dL_stern_2 0 rfl ?_
  refine g_iload_n B dL_stern_3 1 rfl ?_
  refine g_iload_n B dL_stern_4 2 rfl ?_
  refine g_xc_iw [.int x1, .int x2] (ci := 10) (T0 := TX11) (N := 18) B hS9 mf11_stern wd_1249 (gw B wd_1250) wd_1248 (by decide) rfl (fun h => (gd_ne h).1) (c11_stern X l hfl a0 x1 x2 M) (by decide) (by decide) (by decide) rfl (Nat.le_of_ble_eq_true rfl) dL_stern_5 rfl (fun k9 M9 => ?_) (fun q_1 => ?_)
  · refine g_caught_if (fun _ => ?_) (fun _ => ?_)
    · refine g_caught B hS9 [] ⟨0, 10, 13, 24⟩ [⟨0, 10, 17, 13⟩] (by rw [hxt]; rfl) (fun z hz => absurd hz List.not_mem_nil) (by decide) (by decide) wd_1077 (fun q9 => ?_)
      refine g_astore (lv' := [(4, .ref q9)]) B dL_stern_13 (by decide) [0] rfl ?_
      refine g_iconst (v := 1) B dL_stern_15 (by decide) ?_
      exact g_ireturn B hr rfl (by decide) (by decide) rfl dL_stern_16
    · refine g_caught_if (fun _ => ?_) (fun _ => ?_)
      · refine g_caught B hS9 [(⟨0, 10, 13, 24⟩, 2)] ⟨0, 10, 17, 13⟩ [] (by rw [hxt]; rfl) (List.forall_mem_cons.mpr ⟨⟨by decide, by decide, by decide, wd_1077⟩, fun z hz => absurd hz List.not_mem_nil⟩) (by decide) (by decide) wd_726 (fun q9 => ?_)
        refine g_astore (lv' := [(4, .ref q9)]) B dL_stern_17 (by decide) [0] rfl ?_
        refine g_iconst (v := 2) B dL_stern_19 (by decide) ?_
        exact g_ireturn B hr rfl (by decide) (by decide) rfl dL_stern_20
      · exact g_caught_none
  refine g_i2l B dL_stern_8 ?_
  refine g_lastore B dL_stern_9 (fun M_2 => ?_)
  refine g_goto B 21 dL_stern_10 (by decide) ?_
  refine g_iconst (v := 0) B dL_stern_21 (by decide) ?_
  exact g_ireturn B hr rfl (by decide) (by decide) rfl dL_stern_22
theorem oL_stern (X : gX) (l : Launch) (hfl : l.stackTraces = false) (a0 : Nat) (x1 : Int32) (x2 : Int32) (a3 : Nat) (M : mMem) : wCon X l yL_stern cL_stern 5 (some .int) [((0 : Nat), (10 : Nat), (13 : Nat), (24 : Nat)), ((0 : Nat), (10 : Nat), (17 : Nat), (13 : Nat))] rmL_stern (fun r9 : (Int32 × mMem) => (some (.int r9.1), r9.2)) [.ref a0, .int x1, .int x2, .ref a3] M (pL_stern a0 x1 x2 a3 M) := g_wcon (own := RL) (by decide +kernel) rfl (Nat.le_of_ble_eq_true rfl) (fun p e s m args below meth c B hS9 hr hxt => gL_stern B hS9 hr hfl hxt a0 x1 x2 a3 M)
theorem mfL_days : gMW yL_days cL_days 4 (some .int) [((0 : Nat), (9 : Nat), (12 : Nat), (13 : Nat))] 3 := ⟨wd_1258, wd_0, ⟨by decide, by decide⟩, by decide +kernel⟩
set_option maxRecDepth 20000 in
set_option maxHeartbeats 2000000 in
theorem gL_days {X : gX} {p : Program} {l : Launch} {e : Env} {s : State} {m : MethodId} {args : Array Value} {below : List Frame} {meth : Method} {c : Code} (B : gB X p (rmL_days) s m args meth c RL cL_days 4 (rmL_days)) (hS9 : gS X s) (hr : meth.sig.returnType = some .int) (hfl : l.stackTraces = false) (hxt : c.exceptionTable.toList = tableOf [((0 : Nat), (9 : Nat), (12 : Nat), (13 : Nat))]) (a0 : Nat) (x1 : Int32) (a2 : Nat) (M : mMem) : GG X p l e (rmL_days) s m args below meth c (gP X below args s 1 6 (fun r9 : (Int32 × mMem) => (some (.int r9.1), r9.2))) 4 0 0 0 [(0, .ref a0), (1, .int x1), (2, .ref a2)] [] M (pL_days a0 x1 a2 M) := by
  unfold pL_days
  refine g_aload_n B dL_days_0 2 rfl ?_
  refine g_iconst (v := 0) B dL_days_1 (by decide) ?_
  refine g_aload_n B dL_days_2 0 rfl ?_
  refine g_iload_n B dL_days_3 1 rfl ?_
  refine g_xc_iw [.int x1] (ci := 10) (T0 := TX11) (N := 18) B hS9 mf11_days wd_1260 (gw B wd_1261) wd_1259 (by decide) rfl (fun h => (gd_ne h).1) (c11_days X l hfl a0 x1 M) (by decide) (by decide) (by decide) rfl (Nat.le_of_ble_eq_true rfl) dL_days_4 rfl (fun k9 M9 => ?_) (fun q_1 => ?_)
  · refine g_caught_if (fun _ => ?_) (fun _ => ?_)
    · refine g_caught B hS9 [] ⟨0, 9, 12, 13⟩ [] (by rw [hxt]; rfl) (fun z hz => absurd hz List.not_mem_nil) (by decide) (by decide) wd_726 (fun q9 => ?_)
      refine g_astore_n (lv' := [(3, .ref q9)]) B dL_days_12 (by decide) [0] rfl ?_
      refine g_iconst (v := 1) B dL_days_13 (by decide) ?_
      exact g_ireturn B hr rfl (by decide) (by decide) rfl dL_days_14
    · exact g_caught_none
  refine g_i2l B dL_days_7 ?_
  refine g_lastore B dL_days_8 (fun M_2 => ?_)
  refine g_goto B 15 dL_days_9 (by decide) ?_
  refine g_iconst (v := 0) B dL_days_15 (by decide) ?_
  exact g_ireturn B hr rfl (by decide) (by decide) rfl dL_days_16
theorem oL_days (X : gX) (l : Launch) (hfl : l.stackTraces = false) (a0 : Nat) (x1 : Int32) (a2 : Nat) (M : mMem) : wCon X l yL_days cL_days 4 (some .int) [((0 : Nat), (9 : Nat), (12 : Nat), (13 : Nat))] rmL_days (fun r9 : (Int32 × mMem) => (some (.int r9.1), r9.2)) [.ref a0, .int x1, .ref a2] M (pL_days a0 x1 a2 M) := g_wcon (own := RL) (by decide +kernel) rfl (Nat.le_of_ble_eq_true rfl) (fun p e s m args below meth c B hS9 hr hxt => gL_days B hS9 hr hfl hxt a0 x1 a2 M)
theorem mfL_would : gMW yL_would cL_would 6 (some .int) [((0 : Nat), (12 : Nat), (15 : Nat), (24 : Nat)), ((0 : Nat), (12 : Nat), (19 : Nat), (13 : Nat))] 5 := ⟨wd_1284, wd_0, ⟨by decide, by decide⟩, by decide +kernel⟩
set_option maxRecDepth 20000 in
set_option maxHeartbeats 2000000 in
theorem gL_would {X : gX} {p : Program} {l : Launch} {e : Env} {s : State} {m : MethodId} {args : Array Value} {below : List Frame} {meth : Method} {c : Code} (B : gB X p (rmL_would) s m args meth c RL cL_would 6 (rmL_would)) (hS9 : gS X s) (hr : meth.sig.returnType = some .int) (hfl : l.stackTraces = false) (hxt : c.exceptionTable.toList = tableOf [((0 : Nat), (12 : Nat), (15 : Nat), (24 : Nat)), ((0 : Nat), (12 : Nat), (19 : Nat), (13 : Nat))]) (a0 : Nat) (x1 : Int32) (x2 : Int32) (x3 : Int32) (a4 : Nat) (M : mMem) : GG X p l e (rmL_would) s m args below meth c (gP X below args s 3 18 (fun r9 : (Int32 × mMem) => (some (.int r9.1), r9.2))) 6 0 0 0 [(0, .ref a0), (1, .int x1), (2, .int x2), (3, .int x3), (4, .ref a4)] [] M (pL_would a0 x1 x2 x3 a4 M) := by
  unfold pL_would
  refine g_aload B dL_would_0 4 rfl ?_
  refine g_iconst (v := 0) B dL_would_2 (by decide) ?_
  refine g_aload_n B dL_would_3 0 rfl ?_
  refine g_iload_n B dL_would_4 1 rfl ?_
  refine g_iload_n B dL_would_5 2 rfl ?_
  refine g_iload_n B dL_would_6 3 rfl ?_
  refine g_xc_iw [.int x1, .int x2, .int x3] (ci := 10) (T0 := TX11) (N := 18) B hS9 mf11_would wd_1286 (gw B wd_1287) wd_1285 (by decide) rfl (fun h => (gd_ne h).1) (c11_would X l hfl a0 x1 x2 x3 M) (by decide) (by decide) (by decide) rfl (Nat.le_of_ble_eq_true rfl) dL_would_7 rfl (fun k9 M9 => ?_) (fun q_1 => ?_)
  · refine g_caught_if (fun _ => ?_) (fun _ => ?_)
    · refine g_caught B hS9 [] ⟨0, 12, 15, 24⟩ [⟨0, 12, 19, 13⟩] (by rw [hxt]; rfl) (fun z hz => absurd hz List.not_mem_nil) (by decide) (by decide) wd_1077 (fun q9 => ?_)
      refine g_astore (lv' := [(5, .ref q9)]) B dL_would_15 (by decide) [0] rfl ?_
      refine g_iconst (v := 1) B dL_would_17 (by decide) ?_
      exact g_ireturn B hr rfl (by decide) (by decide) rfl dL_would_18
    · refine g_caught_if (fun _ => ?_) (fun _ => ?_)
      · refine g_caught B hS9 [(⟨0, 12, 15, 24⟩, 2)] ⟨0, 12, 19, 13⟩ [] (by rw [hxt]; rfl) (List.forall_mem_cons.mpr ⟨⟨by decide, by decide, by decide, wd_1077⟩, fun z hz => absurd hz List.not_mem_nil⟩) (by decide) (by decide) wd_726 (fun q9 => ?_)
        refine g_astore (lv' := [(5, .ref q9)]) B dL_would_19 (by decide) [0] rfl ?_
        refine g_iconst (v := 2) B dL_would_21 (by decide) ?_
        exact g_ireturn B hr rfl (by decide) (by decide) rfl dL_would_22
      · exact g_caught_none
  refine g_i2l B dL_would_10 ?_
  refine g_lastore B dL_would_11 (fun M_2 => ?_)
  refine g_goto B 23 dL_would_12 (by decide) ?_
  refine g_iconst (v := 0) B dL_would_23 (by decide) ?_
  exact g_ireturn B hr rfl (by decide) (by decide) rfl dL_would_24
theorem oL_would (X : gX) (l : Launch) (hfl : l.stackTraces = false) (a0 : Nat) (x1 : Int32) (x2 : Int32) (x3 : Int32) (a4 : Nat) (M : mMem) : wCon X l yL_would cL_would 6 (some .int) [((0 : Nat), (12 : Nat), (15 : Nat), (24 : Nat)), ((0 : Nat), (12 : Nat), (19 : Nat), (13 : Nat))] rmL_would (fun r9 : (Int32 × mMem) => (some (.int r9.1), r9.2)) [.ref a0, .int x1, .int x2, .int x3, .ref a4] M (pL_would a0 x1 x2 x3 a4 M) := g_wcon (own := RL) (by decide +kernel) rfl (Nat.le_of_ble_eq_true rfl) (fun p e s m args below meth c B hS9 hr hxt => gL_would B hS9 hr hfl hxt a0 x1 x2 x3 a4 M)
theorem mfL_fewest : gMW yL_fewest cL_fewest 5 (some .int) [((0 : Nat), (10 : Nat), (13 : Nat), (24 : Nat)), ((0 : Nat), (10 : Nat), (17 : Nat), (13 : Nat))] 4 := ⟨wd_1292, wd_0, ⟨by decide, by decide⟩, by decide +kernel⟩
set_option maxRecDepth 20000 in
set_option maxHeartbeats 2000000 in
theorem gL_fewest {X : gX} {p : Program} {l : Launch} {e : Env} {s : State} {m : MethodId} {args : Array Value} {below : List Frame} {meth : Method} {c : Code} (B : gB X p (rmL_fewest) s m args meth c RL cL_fewest 5 (rmL_fewest)) (hS9 : gS X s) (hr : meth.sig.returnType = some .int) (hfl : l.stackTraces = false) (hxt : c.exceptionTable.toList = tableOf [((0 : Nat), (10 : Nat), (13 : Nat), (24 : Nat)), ((0 : Nat), (10 : Nat), (17 : Nat), (13 : Nat))]) (a0 : Nat) (x1 : Int32) (x2 : Int32) (a3 : Nat) (M : mMem) : GG X p l e (rmL_fewest) s m args below meth c (gP X below args s 2 12 (fun r9 : (Int32 × mMem) => (some (.int r9.1), r9.2))) 5 0 0 0 [(0, .ref a0), (1, .int x1), (2, .int x2), (3, .ref a3)] [] M (pL_fewest a0 x1 x2 a3 M) := by
  unfold pL_fewest
  refine g_aload_n B dL_fewest_0 3 rfl ?_
  refine g_iconst (v := 0) B dL_fewest_1 (by decide) ?_
  refine g_aload_n B dL_fewest_2 0 rfl ?_
  refine g_iload_n B dL_fewest_3 1 rfl ?_
  refine g_iload_n B dL_fewest_4 2 rfl ?_
  refine g_xc_iw [.int x1, .int x2] (ci := 10) (T0 := TX11) (N := 18) B hS9 mf11_fewest wd_1294 (gw B wd_1295) wd_1293 (by decide) rfl (fun h => (gd_ne h).1) (c11_fewest X l hfl a0 x1 x2 M) (by decide) (by decide) (by decide) rfl (Nat.le_of_ble_eq_true rfl) dL_fewest_5 rfl (fun k9 M9 => ?_) (fun q_1 => ?_)
  · refine g_caught_if (fun _ => ?_) (fun _ => ?_)
    · refine g_caught B hS9 [] ⟨0, 10, 13, 24⟩ [⟨0, 10, 17, 13⟩] (by rw [hxt]; rfl) (fun z hz => absurd hz List.not_mem_nil) (by decide) (by decide) wd_1077 (fun q9 => ?_)
      refine g_astore (lv' := [(4, .ref q9)]) B dL_fewest_13 (by decide) [0] rfl ?_
      refine g_iconst (v := 1) B dL_fewest_15 (by decide) ?_
      exact g_ireturn B hr rfl (by decide) (by decide) rfl dL_fewest_16
    · refine g_caught_if (fun _ => ?_) (fun _ => ?_)
      · refine g_caught B hS9 [(⟨0, 10, 13, 24⟩, 2)] ⟨0, 10, 17, 13⟩ [] (by rw [hxt]; rfl) (List.forall_mem_cons.mpr ⟨⟨by decide, by decide, by decide, wd_1077⟩, fun z hz => absurd hz List.not_mem_nil⟩) (by decide) (by decide) wd_726 (fun q9 => ?_)
        refine g_astore (lv' := [(4, .ref q9)]) B dL_fewest_17 (by decide) [0] rfl ?_
        refine g_iconst (v := 2) B dL_fewest_19 (by decide) ?_
        exact g_ireturn B hr rfl (by decide) (by decide) rfl dL_fewest_20
      · exact g_caught_none
  refine g_i2l B dL_fewest_8 ?_
  refine g_lastore B dL_fewest_9 (fun M_2 => ?_)
  refine g_goto B 21 dL_fewest_10 (by decide) ?_
  refine g_iconst (v := 0) B dL_fewest_21 (by decide) ?_
  exact g_ireturn B hr rfl (by decide) (by decide) rfl dL_fewest_22
theorem oL_fewest (X : gX) (l : Launch) (hfl : l.stackTraces = false) (a0 : Nat) (x1 : Int32) (x2 : Int32) (a3 : Nat) (M : mMem) : wCon X l yL_fewest cL_fewest 5 (some .int) [((0 : Nat), (10 : Nat), (13 : Nat), (24 : Nat)), ((0 : Nat), (10 : Nat), (17 : Nat), (13 : Nat))] rmL_fewest (fun r9 : (Int32 × mMem) => (some (.int r9.1), r9.2)) [.ref a0, .int x1, .int x2, .ref a3] M (pL_fewest a0 x1 x2 a3 M) := g_wcon (own := RL) (by decide +kernel) rfl (Nat.le_of_ble_eq_true rfl) (fun p e s m args below meth c B hS9 hr hxt => gL_fewest B hS9 hr hfl hxt a0 x1 x2 a3 M)
theorem mfL_first : gMW yL_first cL_first 5 (some .int) [((0 : Nat), (10 : Nat), (13 : Nat), (24 : Nat)), ((0 : Nat), (10 : Nat), (17 : Nat), (13 : Nat))] 4 := ⟨wd_1329, wd_0, ⟨by decide, by decide⟩, by decide +kernel⟩
set_option maxRecDepth 20000 in
set_option maxHeartbeats 2000000 in
theorem gL_first {X : gX} {p : Program} {l : Launch} {e : Env} {s : State} {m : MethodId} {args : Array Value} {below : List Frame} {meth : Method} {c : Code} (B : gB X p (rmL_first) s m args meth c RL cL_first 5 (rmL_first)) (hS9 : gS X s) (hr : meth.sig.returnType = some .int) (hfl : l.stackTraces = false) (hxt : c.exceptionTable.toList = tableOf [((0 : Nat), (10 : Nat), (13 : Nat), (24 : Nat)), ((0 : Nat), (10 : Nat), (17 : Nat), (13 : Nat))]) (a0 : Nat) (x1 : Int32) (x2 : Int32) (a3 : Nat) (M : mMem) : GG X p l e (rmL_first) s m args below meth c (gP X below args s 2 12 (fun r9 : (Int32 × mMem) => (some (.int r9.1), r9.2))) 5 0 0 0 [(0, .ref a0), (1, .int x1), (2, .int x2), (3, .ref a3)] [] M (pL_first a0 x1 x2 a3 M) := by
  unfold pL_first
  refine g_aload_n B dL_first_0 3 rfl ?_
  refine g_iconst (v := 0) B dL_first_1 (by decide) ?_
  refine g_aload_n B dL_first_2 0 rfl ?_
  refine g_iload_n B dL_first_3 1 rfl ?_
  refine g_iload_n B dL_first_4 2 rfl ?_
  refine g_xc_iw [.int x1, .int x2] (ci := 10) (T0 := TX11) (N := 18) B hS9 mf11_first wd_1331 (gw B wd_1332) wd_1330 (by decide) rfl (fun h => (gd_ne h).1) (c11_first X l hfl a0 x1 x2 M) (by decide) (by decide) (by decide) rfl (Nat.le_of_ble_eq_true rfl) dL_first_5 rfl (fun k9 M9 => ?_) (fun q_1 => ?_)
  · refine g_caught_if (fun _ => ?_) (fun _ => ?_)
    · refine g_caught B hS9 [] ⟨0, 10, 13, 24⟩ [⟨0, 10, 17, 13⟩] (by rw [hxt]; rfl) (fun z hz => absurd hz List.not_mem_nil) (by decide) (by decide) wd_1077 (fun q9 => ?_)
      refine g_astore (lv' := [(4, .ref q9)]) B dL_first_13 (by decide) [0] rfl ?_
      refine g_iconst (v := 1) B dL_first_15 (by decide) ?_
      exact g_ireturn B hr rfl (by decide) (by decide) rfl dL_first_16
    · refine g_caught_if (fun _ => ?_) (fun _ => ?_)
      · refine g_caught B hS9 [(⟨0, 10, 13, 24⟩, 2)] ⟨0, 10, 17, 13⟩ [] (by rw [hxt]; rfl) (List.forall_mem_cons.mpr ⟨⟨by decide, by decide, by decide, wd_1077⟩, fun z hz => absurd hz List.not_mem_nil⟩) (by decide) (by decide) wd_726 (fun q9 => ?_)
        refine g_astore (lv' := [(4, .ref q9)]) B dL_first_17 (by decide) [0] rfl ?_
        refine g_iconst (v := 2) B dL_first_19 (by decide) ?_
        exact g_ireturn B hr rfl (by decide) (by decide) rfl dL_first_20
      · exact g_caught_none
  refine g_i2l B dL_first_8 ?_
  refine g_lastore B dL_first_9 (fun M_2 => ?_)
  refine g_goto B 21 dL_first_10 (by decide) ?_
  refine g_iconst (v := 0) B dL_first_21 (by decide) ?_
  exact g_ireturn B hr rfl (by decide) (by decide) rfl dL_first_22
theorem oL_first (X : gX) (l : Launch) (hfl : l.stackTraces = false) (a0 : Nat) (x1 : Int32) (x2 : Int32) (a3 : Nat) (M : mMem) : wCon X l yL_first cL_first 5 (some .int) [((0 : Nat), (10 : Nat), (13 : Nat), (24 : Nat)), ((0 : Nat), (10 : Nat), (17 : Nat), (13 : Nat))] rmL_first (fun r9 : (Int32 × mMem) => (some (.int r9.1), r9.2)) [.ref a0, .int x1, .int x2, .ref a3] M (pL_first a0 x1 x2 a3 M) := g_wcon (own := RL) (by decide +kernel) rfl (Nat.le_of_ble_eq_true rfl) (fun p e s m args below meth c B hS9 hr hxt => gL_first B hS9 hr hfl hxt a0 x1 x2 a3 M)
theorem mfL_can : gMW yL_can cL_can 5 (some .int) [((0 : Nat), (10 : Nat), (13 : Nat), (24 : Nat)), ((0 : Nat), (10 : Nat), (17 : Nat), (13 : Nat))] 4 := ⟨wd_1340, wd_0, ⟨by decide, by decide⟩, by decide +kernel⟩
set_option maxRecDepth 20000 in
set_option maxHeartbeats 2000000 in
theorem gL_can {X : gX} {p : Program} {l : Launch} {e : Env} {s : State} {m : MethodId} {args : Array Value} {below : List Frame} {meth : Method} {c : Code} (B : gB X p (rmL_can) s m args meth c RL cL_can 5 (rmL_can)) (hS9 : gS X s) (hr : meth.sig.returnType = some .int) (hfl : l.stackTraces = false) (hxt : c.exceptionTable.toList = tableOf [((0 : Nat), (10 : Nat), (13 : Nat), (24 : Nat)), ((0 : Nat), (10 : Nat), (17 : Nat), (13 : Nat))]) (a0 : Nat) (x1 : Int32) (x2 : Int32) (a3 : Nat) (M : mMem) : GG X p l e (rmL_can) s m args below meth c (gP X below args s 2 12 (fun r9 : (Int32 × mMem) => (some (.int r9.1), r9.2))) 5 0 0 0 [(0, .ref a0), (1, .int x1), (2, .int x2), (3, .ref a3)] [] M (pL_can a0 x1 x2 a3 M) := by
  unfold pL_can
  refine g_aload_n B dL_can_0 3 rfl ?_
  refine g_iconst (v := 0) B dL_can_1 (by decide) ?_
  refine g_aload_n B dL_can_2 0 rfl ?_
  refine g_iload_n B dL_can_3 1 rfl ?_
  refine g_iload_n B dL_can_4 2 rfl ?_
  refine g_xc_iw [.int x1, .int x2] (ci := 10) (T0 := TX11) (N := 18) B hS9 mf11_can wd_1342 (gw B wd_1343) wd_1341 (by decide) rfl (fun h => (gd_ne h).1) (c11_can X l hfl a0 x1 x2 M) (by decide) (by decide) (by decide) rfl (Nat.le_of_ble_eq_true rfl) dL_can_5 rfl (fun k9 M9 => ?_) (fun q_1 => ?_)
  · refine g_caught_if (fun _ => ?_) (fun _ => ?_)
    · refine g_caught B hS9 [] ⟨0, 10, 13, 24⟩ [⟨0, 10, 17, 13⟩] (by rw [hxt]; rfl) (fun z hz => absurd hz List.not_mem_nil) (by decide) (by decide) wd_1077 (fun q9 => ?_)
      refine g_astore (lv' := [(4, .ref q9)]) B dL_can_13 (by decide) [0] rfl ?_
      refine g_iconst (v := 1) B dL_can_15 (by decide) ?_
      exact g_ireturn B hr rfl (by decide) (by decide) rfl dL_can_16
    · refine g_caught_if (fun _ => ?_) (fun _ => ?_)
      · refine g_caught B hS9 [(⟨0, 10, 13, 24⟩, 2)] ⟨0, 10, 17, 13⟩ [] (by rw [hxt]; rfl) (List.forall_mem_cons.mpr ⟨⟨by decide, by decide, by decide, wd_1077⟩, fun z hz => absurd hz List.not_mem_nil⟩) (by decide) (by decide) wd_726 (fun q9 => ?_)
        refine g_astore (lv' := [(4, .ref q9)]) B dL_can_17 (by decide) [0] rfl ?_
        refine g_iconst (v := 2) B dL_can_19 (by decide) ?_
        exact g_ireturn B hr rfl (by decide) (by decide) rfl dL_can_20
      · exact g_caught_none
  refine g_i2l B dL_can_8 ?_
  refine g_lastore B dL_can_9 (fun M_2 => ?_)
  refine g_goto B 21 dL_can_10 (by decide) ?_
  refine g_iconst (v := 0) B dL_can_21 (by decide) ?_
  exact g_ireturn B hr rfl (by decide) (by decide) rfl dL_can_22
theorem oL_can (X : gX) (l : Launch) (hfl : l.stackTraces = false) (a0 : Nat) (x1 : Int32) (x2 : Int32) (a3 : Nat) (M : mMem) : wCon X l yL_can cL_can 5 (some .int) [((0 : Nat), (10 : Nat), (13 : Nat), (24 : Nat)), ((0 : Nat), (10 : Nat), (17 : Nat), (13 : Nat))] rmL_can (fun r9 : (Int32 × mMem) => (some (.int r9.1), r9.2)) [.ref a0, .int x1, .int x2, .ref a3] M (pL_can a0 x1 x2 a3 M) := g_wcon (own := RL) (by decide +kernel) rfl (Nat.le_of_ble_eq_true rfl) (fun p e s m args below meth c B hS9 hr hxt => gL_can B hS9 hr hfl hxt a0 x1 x2 a3 M)
theorem mfL_harsh : gMW yL_harsh cL_harsh 4 (some .int) [((0 : Nat), (9 : Nat), (12 : Nat), (24 : Nat))] 3 := ⟨wd_1351, wd_0, ⟨by decide, by decide⟩, by decide +kernel⟩
set_option maxRecDepth 20000 in
set_option maxHeartbeats 2000000 in
theorem gL_harsh {X : gX} {p : Program} {l : Launch} {e : Env} {s : State} {m : MethodId} {args : Array Value} {below : List Frame} {meth : Method} {c : Code} (B : gB X p (rmL_harsh) s m args meth c RL cL_harsh 4 (rmL_harsh)) (hS9 : gS X s) (hr : meth.sig.returnType = some .int) (hfl : l.stackTraces = false) (hxt : c.exceptionTable.toList = tableOf [((0 : Nat), (9 : Nat), (12 : Nat), (24 : Nat))]) (a0 : Nat) (x1 : Int32) (a2 : Nat) (M : mMem) : GG X p l e (rmL_harsh) s m args below meth c (gP X below args s 1 6 (fun r9 : (Int32 × mMem) => (some (.int r9.1), r9.2))) 4 0 0 0 [(0, .ref a0), (1, .int x1), (2, .ref a2)] [] M (pL_harsh a0 x1 a2 M) := by
  unfold pL_harsh
  refine g_aload_n B dL_harsh_0 2 rfl ?_
  refine g_iconst (v := 0) B dL_harsh_1 (by decide) ?_
  refine g_aload_n B dL_harsh_2 0 rfl ?_
  refine g_iload_n B dL_harsh_3 1 rfl ?_
  refine g_xc_iw [.int x1] (ci := 10) (T0 := TX11) (N := 18) B hS9 mf11_harsh wd_1353 (gw B wd_1354) wd_1352 (by decide) rfl (fun h => (gd_ne h).1) (c11_harsh X l hfl a0 x1 M) (by decide) (by decide) (by decide) rfl (Nat.le_of_ble_eq_true rfl) dL_harsh_4 rfl (fun k9 M9 => ?_) (fun q_1 => ?_)
  · refine g_caught_if (fun _ => ?_) (fun _ => ?_)
    · refine g_caught B hS9 [] ⟨0, 9, 12, 24⟩ [] (by rw [hxt]; rfl) (fun z hz => absurd hz List.not_mem_nil) (by decide) (by decide) wd_1077 (fun q9 => ?_)
      refine g_astore_n (lv' := [(3, .ref q9)]) B dL_harsh_12 (by decide) [0] rfl ?_
      refine g_iconst (v := 1) B dL_harsh_13 (by decide) ?_
      exact g_ireturn B hr rfl (by decide) (by decide) rfl dL_harsh_14
    · exact g_caught_none
  refine g_i2l B dL_harsh_7 ?_
  refine g_lastore B dL_harsh_8 (fun M_2 => ?_)
  refine g_goto B 15 dL_harsh_9 (by decide) ?_
  refine g_iconst (v := 0) B dL_harsh_15 (by decide) ?_
  exact g_ireturn B hr rfl (by decide) (by decide) rfl dL_harsh_16
theorem oL_harsh (X : gX) (l : Launch) (hfl : l.stackTraces = false) (a0 : Nat) (x1 : Int32) (a2 : Nat) (M : mMem) : wCon X l yL_harsh cL_harsh 4 (some .int) [((0 : Nat), (9 : Nat), (12 : Nat), (24 : Nat))] rmL_harsh (fun r9 : (Int32 × mMem) => (some (.int r9.1), r9.2)) [.ref a0, .int x1, .ref a2] M (pL_harsh a0 x1 a2 M) := g_wcon (own := RL) (by decide +kernel) rfl (Nat.le_of_ble_eq_true rfl) (fun p e s m args below meth c B hS9 hr hxt => gL_harsh B hS9 hr hfl hxt a0 x1 a2 M)
theorem mfL_kind : gMW yL_kind cL_kind 4 (some .int) [((0 : Nat), (9 : Nat), (12 : Nat), (24 : Nat))] 3 := ⟨wd_1362, wd_0, ⟨by decide, by decide⟩, by decide +kernel⟩
set_option maxRecDepth 20000 in
set_option maxHeartbeats 2000000 in
theorem gL_kind {X : gX} {p : Program} {l : Launch} {e : Env} {s : State} {m : MethodId} {args : Array Value} {below : List Frame} {meth : Method} {c : Code} (B : gB X p (rmL_kind) s m args meth c RL cL_kind 4 (rmL_kind)) (hS9 : gS X s) (hr : meth.sig.returnType = some .int) (hfl : l.stackTraces = false) (hxt : c.exceptionTable.toList = tableOf [((0 : Nat), (9 : Nat), (12 : Nat), (24 : Nat))]) (a0 : Nat) (x1 : Int32) (a2 : Nat) (M : mMem) : GG X p l e (rmL_kind) s m args below meth c (gP X below args s 1 6 (fun r9 : (Int32 × mMem) => (some (.int r9.1), r9.2))) 4 0 0 0 [(0, .ref a0), (1, .int x1), (2, .ref a2)] [] M (pL_kind a0 x1 a2 M) := by
  unfold pL_kind
  refine g_aload_n B dL_kind_0 2 rfl ?_
  refine g_iconst (v := 0) B dL_kind_1 (by decide) ?_
  refine g_aload_n B dL_kind_2 0 rfl ?_
  refine g_iload_n B dL_kind_3 1 rfl ?_
  refine g_xc_iw [.int x1] (ci := 10) (T0 := TX11) (N := 18) B hS9 mf11_kind wd_1364 (gw B wd_1365) wd_1363 (by decide) rfl (fun h => (gd_ne h).1) (c11_kind X l hfl a0 x1 M) (by decide) (by decide) (by decide) rfl (Nat.le_of_ble_eq_true rfl) dL_kind_4 rfl (fun k9 M9 => ?_) (fun q_1 => ?_)
  · refine g_caught_if (fun _ => ?_) (fun _ => ?_)
    · refine g_caught B hS9 [] ⟨0, 9, 12, 24⟩ [] (by rw [hxt]; rfl) (fun z hz => absurd hz List.not_mem_nil) (by decide) (by decide) wd_1077 (fun q9 => ?_)
      refine g_astore_n (lv' := [(3, .ref q9)]) B dL_kind_12 (by decide) [0] rfl ?_
      refine g_iconst (v := 1) B dL_kind_13 (by decide) ?_
      exact g_ireturn B hr rfl (by decide) (by decide) rfl dL_kind_14
    · exact g_caught_none
  refine g_i2l B dL_kind_7 ?_
  refine g_lastore B dL_kind_8 (fun M_2 => ?_)
  refine g_goto B 15 dL_kind_9 (by decide) ?_
  refine g_iconst (v := 0) B dL_kind_15 (by decide) ?_
  exact g_ireturn B hr rfl (by decide) (by decide) rfl dL_kind_16
theorem oL_kind (X : gX) (l : Launch) (hfl : l.stackTraces = false) (a0 : Nat) (x1 : Int32) (a2 : Nat) (M : mMem) : wCon X l yL_kind cL_kind 4 (some .int) [((0 : Nat), (9 : Nat), (12 : Nat), (24 : Nat))] rmL_kind (fun r9 : (Int32 × mMem) => (some (.int r9.1), r9.2)) [.ref a0, .int x1, .ref a2] M (pL_kind a0 x1 a2 M) := g_wcon (own := RL) (by decide +kernel) rfl (Nat.le_of_ble_eq_true rfl) (fun p e s m args below meth c B hS9 hr hxt => gL_kind B hS9 hr hfl hxt a0 x1 a2 M)
theorem mfL_over : gMW yL_over cL_over 4 (some .int) [((0 : Nat), (9 : Nat), (12 : Nat), (24 : Nat))] 3 := ⟨wd_1369, wd_0, ⟨by decide, by decide⟩, by decide +kernel⟩
set_option maxRecDepth 20000 in
set_option maxHeartbeats 2000000 in
theorem gL_over {X : gX} {p : Program} {l : Launch} {e : Env} {s : State} {m : MethodId} {args : Array Value} {below : List Frame} {meth : Method} {c : Code} (B : gB X p (rmL_over) s m args meth c RL cL_over 4 (rmL_over)) (hS9 : gS X s) (hr : meth.sig.returnType = some .int) (hfl : l.stackTraces = false) (hxt : c.exceptionTable.toList = tableOf [((0 : Nat), (9 : Nat), (12 : Nat), (24 : Nat))]) (a0 : Nat) (x1 : Int32) (a2 : Nat) (M : mMem) : GG X p l e (rmL_over) s m args below meth c (gP X below args s 1 6 (fun r9 : (Int32 × mMem) => (some (.int r9.1), r9.2))) 4 0 0 0 [(0, .ref a0), (1, .int x1), (2, .ref a2)] [] M (pL_over a0 x1 a2 M) := by
  unfold pL_over
  refine g_aload_n B dL_over_0 2 rfl ?_
  refine g_iconst (v := 0) B dL_over_1 (by decide) ?_
  refine g_aload_n B dL_over_2 0 rfl ?_
  refine g_iload_n B dL_over_3 1 rfl ?_
  refine g_xc_iw [.int x1] (ci := 10) (T0 := TX11) (N := 18) B hS9 mf11_over wd_1371 (gw B wd_1372) wd_1370 (by decide) rfl (fun h => (gd_ne h).1) (c11_over X l hfl a0 x1 M) (by decide) (by decide) (by decide) rfl (Nat.le_of_ble_eq_true rfl) dL_over_4 rfl (fun k9 M9 => ?_) (fun q_1 => ?_)
  · refine g_caught_if (fun _ => ?_) (fun _ => ?_)
    · refine g_caught B hS9 [] ⟨0, 9, 12, 24⟩ [] (by rw [hxt]; rfl) (fun z hz => absurd hz List.not_mem_nil) (by decide) (by decide) wd_1077 (fun q9 => ?_)
      refine g_astore_n (lv' := [(3, .ref q9)]) B dL_over_12 (by decide) [0] rfl ?_
      refine g_iconst (v := 1) B dL_over_13 (by decide) ?_
      exact g_ireturn B hr rfl (by decide) (by decide) rfl dL_over_14
    · exact g_caught_none
  refine g_i2l B dL_over_7 ?_
  refine g_lastore B dL_over_8 (fun M_2 => ?_)
  refine g_goto B 15 dL_over_9 (by decide) ?_
  refine g_iconst (v := 0) B dL_over_15 (by decide) ?_
  exact g_ireturn B hr rfl (by decide) (by decide) rfl dL_over_16
theorem oL_over (X : gX) (l : Launch) (hfl : l.stackTraces = false) (a0 : Nat) (x1 : Int32) (a2 : Nat) (M : mMem) : wCon X l yL_over cL_over 4 (some .int) [((0 : Nat), (9 : Nat), (12 : Nat), (24 : Nat))] rmL_over (fun r9 : (Int32 × mMem) => (some (.int r9.1), r9.2)) [.ref a0, .int x1, .ref a2] M (pL_over a0 x1 a2 M) := g_wcon (own := RL) (by decide +kernel) rfl (Nat.le_of_ble_eq_true rfl) (fun p e s m args below meth c B hS9 hr hxt => gL_over B hS9 hr hfl hxt a0 x1 a2 M)
theorem mfL_said : gMW yL_said cL_said 4 (some .int) [((0 : Nat), (9 : Nat), (12 : Nat), (24 : Nat)), ((0 : Nat), (9 : Nat), (15 : Nat), (13 : Nat))] 3 := ⟨wd_1380, wd_0, ⟨by decide, by decide⟩, by decide +kernel⟩
set_option maxRecDepth 20000 in
set_option maxHeartbeats 2000000 in
theorem gL_said {X : gX} {p : Program} {l : Launch} {e : Env} {s : State} {m : MethodId} {args : Array Value} {below : List Frame} {meth : Method} {c : Code} (B : gB X p (rmL_said) s m args meth c RL cL_said 4 (rmL_said)) (hS9 : gS X s) (hr : meth.sig.returnType = some .int) (hfl : l.stackTraces = false) (hxt : c.exceptionTable.toList = tableOf [((0 : Nat), (9 : Nat), (12 : Nat), (24 : Nat)), ((0 : Nat), (9 : Nat), (15 : Nat), (13 : Nat))]) (a0 : Nat) (x1 : Int32) (a2 : Nat) (M : mMem) : GG X p l e (rmL_said) s m args below meth c (gP X below args s 2 12 (fun r9 : (Int32 × mMem) => (some (.int r9.1), r9.2))) 4 0 0 0 [(0, .ref a0), (1, .int x1), (2, .ref a2)] [] M (pL_said a0 x1 a2 M) := by
  unfold pL_said
  refine g_aload_n B dL_said_0 2 rfl ?_
  refine g_iconst (v := 0) B dL_said_1 (by decide) ?_
  refine g_aload_n B dL_said_2 0 rfl ?_
  refine g_iload_n B dL_said_3 1 rfl ?_
  refine g_xc_iw [.int x1] (ci := 10) (T0 := TX11) (N := 18) B hS9 mf11_said wd_1382 (gw B wd_1383) wd_1381 (by decide) rfl (fun h => (gd_ne h).1) (c11_said X l hfl a0 x1 M) (by decide) (by decide) (by decide) rfl (Nat.le_of_ble_eq_true rfl) dL_said_4 rfl (fun k9 M9 => ?_) (fun q_1 => ?_)
  · refine g_caught_if (fun _ => ?_) (fun _ => ?_)
    · refine g_caught B hS9 [] ⟨0, 9, 12, 24⟩ [⟨0, 9, 15, 13⟩] (by rw [hxt]; rfl) (fun z hz => absurd hz List.not_mem_nil) (by decide) (by decide) wd_1077 (fun q9 => ?_)
      refine g_astore_n (lv' := [(3, .ref q9)]) B dL_said_12 (by decide) [0] rfl ?_
      refine g_iconst (v := 1) B dL_said_13 (by decide) ?_
      exact g_ireturn B hr rfl (by decide) (by decide) rfl dL_said_14
    · refine g_caught_if (fun _ => ?_) (fun _ => ?_)
      · refine g_caught B hS9 [(⟨0, 9, 12, 24⟩, 2)] ⟨0, 9, 15, 13⟩ [] (by rw [hxt]; rfl) (List.forall_mem_cons.mpr ⟨⟨by decide, by decide, by decide, wd_1077⟩, fun z hz => absurd hz List.not_mem_nil⟩) (by decide) (by decide) wd_726 (fun q9 => ?_)
        refine g_astore_n (lv' := [(3, .ref q9)]) B dL_said_15 (by decide) [0] rfl ?_
        refine g_iconst (v := 2) B dL_said_16 (by decide) ?_
        exact g_ireturn B hr rfl (by decide) (by decide) rfl dL_said_17
      · exact g_caught_none
  refine g_i2l B dL_said_7 ?_
  refine g_lastore B dL_said_8 (fun M_2 => ?_)
  refine g_goto B 18 dL_said_9 (by decide) ?_
  refine g_iconst (v := 0) B dL_said_18 (by decide) ?_
  exact g_ireturn B hr rfl (by decide) (by decide) rfl dL_said_19
theorem oL_said (X : gX) (l : Launch) (hfl : l.stackTraces = false) (a0 : Nat) (x1 : Int32) (a2 : Nat) (M : mMem) : wCon X l yL_said cL_said 4 (some .int) [((0 : Nat), (9 : Nat), (12 : Nat), (24 : Nat)), ((0 : Nat), (9 : Nat), (15 : Nat), (13 : Nat))] rmL_said (fun r9 : (Int32 × mMem) => (some (.int r9.1), r9.2)) [.ref a0, .int x1, .ref a2] M (pL_said a0 x1 a2 M) := g_wcon (own := RL) (by decide +kernel) rfl (Nat.le_of_ble_eq_true rfl) (fun p e s m args below meth c B hS9 hr hxt => gL_said B hS9 hr hfl hxt a0 x1 a2 M)
theorem mfL_ask : gMW yL_ask cL_ask 4 (some .int) [((0 : Nat), (9 : Nat), (12 : Nat), (24 : Nat)), ((0 : Nat), (9 : Nat), (15 : Nat), (13 : Nat))] 3 := ⟨wd_1400, wd_0, ⟨by decide, by decide⟩, by decide +kernel⟩
set_option maxRecDepth 20000 in
set_option maxHeartbeats 2000000 in
theorem gL_ask {X : gX} {p : Program} {l : Launch} {e : Env} {s : State} {m : MethodId} {args : Array Value} {below : List Frame} {meth : Method} {c : Code} (B : gB X p (rmL_ask) s m args meth c RL cL_ask 4 (rmL_ask)) (hS9 : gS X s) (hr : meth.sig.returnType = some .int) (hfl : l.stackTraces = false) (hxt : c.exceptionTable.toList = tableOf [((0 : Nat), (9 : Nat), (12 : Nat), (24 : Nat)), ((0 : Nat), (9 : Nat), (15 : Nat), (13 : Nat))]) (a0 : Nat) (x1 : Int32) (a2 : Nat) (M : mMem) : GG X p l e (rmL_ask) s m args below meth c (gP X below args s 2 12 (fun r9 : (Int32 × mMem) => (some (.int r9.1), r9.2))) 4 0 0 0 [(0, .ref a0), (1, .int x1), (2, .ref a2)] [] M (pL_ask a0 x1 a2 M) := by
  unfold pL_ask
  refine g_aload_n B dL_ask_0 2 rfl ?_
  refine g_iconst (v := 0) B dL_ask_1 (by decide) ?_
  refine g_aload_n B dL_ask_2 0 rfl ?_
  refine g_iload_n B dL_ask_3 1 rfl ?_
  refine g_xc_iw [.int x1] (ci := 10) (T0 := TX11) (N := 18) B hS9 mf11_ask wd_1402 (gw B wd_1403) wd_1401 (by decide) rfl (fun h => (gd_ne h).1) (c11_ask X l hfl a0 x1 M) (by decide) (by decide) (by decide) rfl (Nat.le_of_ble_eq_true rfl) dL_ask_4 rfl (fun k9 M9 => ?_) (fun q_1 => ?_)
  · refine g_caught_if (fun _ => ?_) (fun _ => ?_)
    · refine g_caught B hS9 [] ⟨0, 9, 12, 24⟩ [⟨0, 9, 15, 13⟩] (by rw [hxt]; rfl) (fun z hz => absurd hz List.not_mem_nil) (by decide) (by decide) wd_1077 (fun q9 => ?_)
      refine g_astore_n (lv' := [(3, .ref q9)]) B dL_ask_12 (by decide) [0] rfl ?_
      refine g_iconst (v := 1) B dL_ask_13 (by decide) ?_
      exact g_ireturn B hr rfl (by decide) (by decide) rfl dL_ask_14
    · refine g_caught_if (fun _ => ?_) (fun _ => ?_)
      · refine g_caught B hS9 [(⟨0, 9, 12, 24⟩, 2)] ⟨0, 9, 15, 13⟩ [] (by rw [hxt]; rfl) (List.forall_mem_cons.mpr ⟨⟨by decide, by decide, by decide, wd_1077⟩, fun z hz => absurd hz List.not_mem_nil⟩) (by decide) (by decide) wd_726 (fun q9 => ?_)
        refine g_astore_n (lv' := [(3, .ref q9)]) B dL_ask_15 (by decide) [0] rfl ?_
        refine g_iconst (v := 2) B dL_ask_16 (by decide) ?_
        exact g_ireturn B hr rfl (by decide) (by decide) rfl dL_ask_17
      · exact g_caught_none
  refine g_i2l B dL_ask_7 ?_
  refine g_lastore B dL_ask_8 (fun M_2 => ?_)
  refine g_goto B 18 dL_ask_9 (by decide) ?_
  refine g_iconst (v := 0) B dL_ask_18 (by decide) ?_
  exact g_ireturn B hr rfl (by decide) (by decide) rfl dL_ask_19
theorem oL_ask (X : gX) (l : Launch) (hfl : l.stackTraces = false) (a0 : Nat) (x1 : Int32) (a2 : Nat) (M : mMem) : wCon X l yL_ask cL_ask 4 (some .int) [((0 : Nat), (9 : Nat), (12 : Nat), (24 : Nat)), ((0 : Nat), (9 : Nat), (15 : Nat), (13 : Nat))] rmL_ask (fun r9 : (Int32 × mMem) => (some (.int r9.1), r9.2)) [.ref a0, .int x1, .ref a2] M (pL_ask a0 x1 a2 M) := g_wcon (own := RL) (by decide +kernel) rfl (Nat.le_of_ble_eq_true rfl) (fun p e s m args below meth c B hS9 hr hxt => gL_ask B hS9 hr hfl hxt a0 x1 a2 M)
theorem mfL_mate : gMW yL_mate cL_mate 4 (some .int) [((0 : Nat), (9 : Nat), (12 : Nat), (24 : Nat))] 3 := ⟨wd_1418, wd_0, ⟨by decide, by decide⟩, by decide +kernel⟩
set_option maxRecDepth 20000 in
set_option maxHeartbeats 2000000 in
theorem gL_mate {X : gX} {p : Program} {l : Launch} {e : Env} {s : State} {m : MethodId} {args : Array Value} {below : List Frame} {meth : Method} {c : Code} (B : gB X p (rmL_mate) s m args meth c RL cL_mate 4 (rmL_mate)) (hS9 : gS X s) (hr : meth.sig.returnType = some .int) (hfl : l.stackTraces = false) (hxt : c.exceptionTable.toList = tableOf [((0 : Nat), (9 : Nat), (12 : Nat), (24 : Nat))]) (a0 : Nat) (x1 : Int32) (a2 : Nat) (M : mMem) : GG X p l e (rmL_mate) s m args below meth c (gP X below args s 1 6 (fun r9 : (Int32 × mMem) => (some (.int r9.1), r9.2))) 4 0 0 0 [(0, .ref a0), (1, .int x1), (2, .ref a2)] [] M (pL_mate a0 x1 a2 M) := by
  unfold pL_mate
  refine g_aload_n B dL_mate_0 2 rfl ?_
  refine g_iconst (v := 0) B dL_mate_1 (by decide) ?_
  refine g_aload_n B dL_mate_2 0 rfl ?_
  refine g_iload_n B dL_mate_3 1 rfl ?_
  refine g_xc_iw [.int x1] (ci := 10) (T0 := TX11) (N := 18) B hS9 mf11_mate wd_1420 (gw B wd_1421) wd_1419 (by decide) rfl (fun h => (gd_ne h).1) (c11_mate X l hfl a0 x1 M) (by decide) (by decide) (by decide) rfl (Nat.le_of_ble_eq_true rfl) dL_mate_4 rfl (fun k9 M9 => ?_) (fun q_1 => ?_)
  · refine g_caught_if (fun _ => ?_) (fun _ => ?_)
    · refine g_caught B hS9 [] ⟨0, 9, 12, 24⟩ [] (by rw [hxt]; rfl) (fun z hz => absurd hz List.not_mem_nil) (by decide) (by decide) wd_1077 (fun q9 => ?_)
      refine g_astore_n (lv' := [(3, .ref q9)]) B dL_mate_12 (by decide) [0] rfl ?_
      refine g_iconst (v := 1) B dL_mate_13 (by decide) ?_
      exact g_ireturn B hr rfl (by decide) (by decide) rfl dL_mate_14
    · exact g_caught_none
  refine g_i2l B dL_mate_7 ?_
  refine g_lastore B dL_mate_8 (fun M_2 => ?_)
  refine g_goto B 15 dL_mate_9 (by decide) ?_
  refine g_iconst (v := 0) B dL_mate_15 (by decide) ?_
  exact g_ireturn B hr rfl (by decide) (by decide) rfl dL_mate_16
theorem oL_mate (X : gX) (l : Launch) (hfl : l.stackTraces = false) (a0 : Nat) (x1 : Int32) (a2 : Nat) (M : mMem) : wCon X l yL_mate cL_mate 4 (some .int) [((0 : Nat), (9 : Nat), (12 : Nat), (24 : Nat))] rmL_mate (fun r9 : (Int32 × mMem) => (some (.int r9.1), r9.2)) [.ref a0, .int x1, .ref a2] M (pL_mate a0 x1 a2 M) := g_wcon (own := RL) (by decide +kernel) rfl (Nat.le_of_ble_eq_true rfl) (fun p e s m args below meth c B hS9 hr hxt => gL_mate B hS9 hr hfl hxt a0 x1 a2 M)
theorem mfL_stable : gMW yL_stable cL_stable 4 (some .int) [((0 : Nat), (9 : Nat), (12 : Nat), (24 : Nat))] 3 := ⟨wd_1429, wd_0, ⟨by decide, by decide⟩, by decide +kernel⟩
set_option maxRecDepth 20000 in
set_option maxHeartbeats 2000000 in
theorem gL_stable {X : gX} {p : Program} {l : Launch} {e : Env} {s : State} {m : MethodId} {args : Array Value} {below : List Frame} {meth : Method} {c : Code} (B : gB X p (rmL_stable) s m args meth c RL cL_stable 4 (rmL_stable)) (hS9 : gS X s) (hr : meth.sig.returnType = some .int) (hfl : l.stackTraces = false) (hxt : c.exceptionTable.toList = tableOf [((0 : Nat), (9 : Nat), (12 : Nat), (24 : Nat))]) (a0 : Nat) (x1 : Int32) (a2 : Nat) (M : mMem) : GG X p l e (rmL_stable) s m args below meth c (gP X below args s 1 6 (fun r9 : (Int32 × mMem) => (some (.int r9.1), r9.2))) 4 0 0 0 [(0, .ref a0), (1, .int x1), (2, .ref a2)] [] M (pL_stable a0 x1 a2 M) := by
  unfold pL_stable
  refine g_aload_n B dL_stable_0 2 rfl ?_
  refine g_iconst (v := 0) B dL_stable_1 (by decide) ?_
  refine g_aload_n B dL_stable_2 0 rfl ?_
  refine g_iload_n B dL_stable_3 1 rfl ?_
  refine g_xc_iw [.int x1] (ci := 10) (T0 := TX11) (N := 18) B hS9 mf11_stable wd_1431 (gw B wd_1432) wd_1430 (by decide) rfl (fun h => (gd_ne h).1) (c11_stable X l hfl a0 x1 M) (by decide) (by decide) (by decide) rfl (Nat.le_of_ble_eq_true rfl) dL_stable_4 rfl (fun k9 M9 => ?_) (fun q_1 => ?_)
  · refine g_caught_if (fun _ => ?_) (fun _ => ?_)
    · refine g_caught B hS9 [] ⟨0, 9, 12, 24⟩ [] (by rw [hxt]; rfl) (fun z hz => absurd hz List.not_mem_nil) (by decide) (by decide) wd_1077 (fun q9 => ?_)
      refine g_astore_n (lv' := [(3, .ref q9)]) B dL_stable_12 (by decide) [0] rfl ?_
      refine g_iconst (v := 1) B dL_stable_13 (by decide) ?_
      exact g_ireturn B hr rfl (by decide) (by decide) rfl dL_stable_14
    · exact g_caught_none
  refine g_i2l B dL_stable_7 ?_
  refine g_lastore B dL_stable_8 (fun M_2 => ?_)
  refine g_goto B 15 dL_stable_9 (by decide) ?_
  refine g_iconst (v := 0) B dL_stable_15 (by decide) ?_
  exact g_ireturn B hr rfl (by decide) (by decide) rfl dL_stable_16
theorem oL_stable (X : gX) (l : Launch) (hfl : l.stackTraces = false) (a0 : Nat) (x1 : Int32) (a2 : Nat) (M : mMem) : wCon X l yL_stable cL_stable 4 (some .int) [((0 : Nat), (9 : Nat), (12 : Nat), (24 : Nat))] rmL_stable (fun r9 : (Int32 × mMem) => (some (.int r9.1), r9.2)) [.ref a0, .int x1, .ref a2] M (pL_stable a0 x1 a2 M) := g_wcon (own := RL) (by decide +kernel) rfl (Nat.le_of_ble_eq_true rfl) (fun p e s m args below meth c B hS9 hr hxt => gL_stable B hS9 hr hfl hxt a0 x1 a2 M)
theorem mfL_owes : gMW yL_owes cL_owes 5 (some .int) [((0 : Nat), (10 : Nat), (13 : Nat), (24 : Nat)), ((0 : Nat), (10 : Nat), (17 : Nat), (13 : Nat))] 4 := ⟨wd_1456, wd_0, ⟨by decide, by decide⟩, by decide +kernel⟩
set_option maxRecDepth 20000 in
set_option maxHeartbeats 2000000 in
theorem gL_owes {X : gX} {p : Program} {l : Launch} {e : Env} {s : State} {m : MethodId} {args : Array Value} {below : List Frame} {meth : Method} {c : Code} (B : gB X p (rmL_owes) s m args meth c RL cL_owes 5 (rmL_owes)) (hS9 : gS X s) (hr : meth.sig.returnType = some .int) (hfl : l.stackTraces = false) (hxt : c.exceptionTable.toList = tableOf [((0 : Nat), (10 : Nat), (13 : Nat), (24 : Nat)), ((0 : Nat), (10 : Nat), (17 : Nat), (13 : Nat))]) (a0 : Nat) (x1 : Int32) (x2 : Int32) (a3 : Nat) (M : mMem) : GG X p l e (rmL_owes) s m args below meth c (gP X below args s 3 18 (fun r9 : (Int32 × mMem) => (some (.int r9.1), r9.2))) 5 0 0 0 [(0, .ref a0), (1, .int x1), (2, .int x2), (3, .ref a3)] [] M (pL_owes a0 x1 x2 a3 M) := by
  unfold pL_owes
  refine g_aload_n B dL_owes_0 3 rfl ?_
  refine g_iconst (v := 0) B dL_owes_1 (by decide) ?_
  refine g_aload_n B dL_owes_2 0 rfl ?_
  refine g_iload_n B dL_owes_3 1 rfl ?_
  refine g_iload_n B dL_owes_4 2 rfl ?_
  refine g_xc_ip [.int x1, .int x2] (ci := 10) (T0 := TX11) (N := 18) B hS9 mf11_owes wd_1458 (gw B wd_1459) wd_1457 (by decide) rfl (fun h => (gd_ne h).1) (c11_owes X l hfl a0 x1 x2 M) (by decide) (by decide) (by decide) rfl (Nat.le_of_ble_eq_true rfl) dL_owes_5 rfl (fun k9 M9 => ?_) (fun v_1 => ?_)
  · refine g_caught_if (fun _ => ?_) (fun _ => ?_)
    · refine g_caught B hS9 [] ⟨0, 10, 13, 24⟩ [⟨0, 10, 17, 13⟩] (by rw [hxt]; rfl) (fun z hz => absurd hz List.not_mem_nil) (by decide) (by decide) wd_1077 (fun q9 => ?_)
      refine g_astore (lv' := [(4, .ref q9)]) B dL_owes_13 (by decide) [0] rfl ?_
      refine g_iconst (v := 1) B dL_owes_15 (by decide) ?_
      exact g_ireturn B hr rfl (by decide) (by decide) rfl dL_owes_16
    · refine g_caught_if (fun _ => ?_) (fun _ => ?_)
      · refine g_caught B hS9 [(⟨0, 10, 13, 24⟩, 2)] ⟨0, 10, 17, 13⟩ [] (by rw [hxt]; rfl) (List.forall_mem_cons.mpr ⟨⟨by decide, by decide, by decide, wd_1077⟩, fun z hz => absurd hz List.not_mem_nil⟩) (by decide) (by decide) wd_726 (fun q9 => ?_)
        refine g_astore (lv' := [(4, .ref q9)]) B dL_owes_17 (by decide) [0] rfl ?_
        refine g_iconst (v := 2) B dL_owes_19 (by decide) ?_
        exact g_ireturn B hr rfl (by decide) (by decide) rfl dL_owes_20
      · exact g_caught_none
  refine g_i2l B dL_owes_8 ?_
  refine g_lastore B dL_owes_9 (fun M_2 => ?_)
  refine g_goto B 21 dL_owes_10 (by decide) ?_
  refine g_iconst (v := 0) B dL_owes_21 (by decide) ?_
  exact g_ireturn B hr rfl (by decide) (by decide) rfl dL_owes_22
theorem oL_owes (X : gX) (l : Launch) (hfl : l.stackTraces = false) (a0 : Nat) (x1 : Int32) (x2 : Int32) (a3 : Nat) (M : mMem) : wCon X l yL_owes cL_owes 5 (some .int) [((0 : Nat), (10 : Nat), (13 : Nat), (24 : Nat)), ((0 : Nat), (10 : Nat), (17 : Nat), (13 : Nat))] rmL_owes (fun r9 : (Int32 × mMem) => (some (.int r9.1), r9.2)) [.ref a0, .int x1, .int x2, .ref a3] M (pL_owes a0 x1 x2 a3 M) := g_wcon (own := RL) (by decide +kernel) rfl (Nat.le_of_ble_eq_true rfl) (fun p e s m args below meth c B hS9 hr hxt => gL_owes B hS9 hr hfl hxt a0 x1 x2 a3 M)
theorem mfL_ring : gMW yL_ring cL_ring 4 (some .int) [((0 : Nat), (16 : Nat), (19 : Nat), (24 : Nat))] 3 := ⟨wd_1463, wd_0, ⟨by decide, by decide⟩, by decide +kernel⟩
set_option maxRecDepth 20000 in
set_option maxHeartbeats 2000000 in
theorem gL_ring_J15 {X : gX} {p : Program} {l : Launch} {e : Env} {s : State} {m : MethodId} {args : Array Value} {below : List Frame} {meth : Method} {c : Code} (B : gB X p (rmL_ring) s m args meth c RL cL_ring 4 (rmL_ring)) (hS9 : gS X s) (hr : meth.sig.returnType = some .int) (hfl : l.stackTraces = false) (hxt : c.exceptionTable.toList = tableOf [((0 : Nat), (16 : Nat), (19 : Nat), (24 : Nat))]) (b0 : Nat) (u1 : Int32) (w2 : Int64) (M : mMem) : GG X p l e (rmL_ring) s m args below meth c (gP X below args s 1 6 (fun r9 : (Int32 × mMem) => (some (.int r9.1), r9.2))) 4 1 6 15 [] [.long w2, .int u1, .ref b0] M (pL_ring_J15 b0 u1 w2 M) := by
  unfold pL_ring_J15
  refine g_lastore B dL_ring_15 (fun M_1 => ?_)
  refine g_goto B 22 dL_ring_16 (by decide) ?_
  refine g_iconst (v := 0) B dL_ring_22 (by decide) ?_
  exact g_ireturn B hr rfl (by decide) (by decide) rfl dL_ring_23
set_option maxRecDepth 20000 in
set_option maxHeartbeats 2000000 in
theorem gL_ring {X : gX} {p : Program} {l : Launch} {e : Env} {s : State} {m : MethodId} {args : Array Value} {below : List Frame} {meth : Method} {c : Code} (B : gB X p (rmL_ring) s m args meth c RL cL_ring 4 (rmL_ring)) (hS9 : gS X s) (hr : meth.sig.returnType = some .int) (hfl : l.stackTraces = false) (hxt : c.exceptionTable.toList = tableOf [((0 : Nat), (16 : Nat), (19 : Nat), (24 : Nat))]) (a0 : Nat) (x1 : Int32) (a2 : Nat) (M : mMem) : GG X p l e (rmL_ring) s m args below meth c (gP X below args s 1 6 (fun r9 : (Int32 × mMem) => (some (.int r9.1), r9.2))) 4 0 0 0 [(0, .ref a0), (1, .int x1), (2, .ref a2)] [] M (pL_ring a0 x1 a2 M) := by
  unfold pL_ring
  refine g_aload_n B dL_ring_0 2 rfl ?_
  refine g_iconst (v := 0) B dL_ring_1 (by decide) ?_
  refine g_aload_n B dL_ring_2 0 rfl ?_
  refine g_iload_n B dL_ring_3 1 rfl ?_
  refine g_xc_ip [.int x1] (ci := 10) (T0 := TX11) (N := 18) B hS9 mf11_ring wd_1465 (gw B wd_1466) wd_1464 (by decide) rfl (fun h => (gd_ne h).1) (c11_ring X l hfl a0 x1 M) (by decide) (by decide) (by decide) rfl (Nat.le_of_ble_eq_true rfl) dL_ring_4 rfl (fun k9 M9 => ?_) (fun v_1 => ?_)
  · refine g_caught_if (fun _ => ?_) (fun _ => ?_)
    · refine g_caught B hS9 [] ⟨0, 16, 19, 24⟩ [] (by rw [hxt]; rfl) (fun z hz => absurd hz List.not_mem_nil) (by decide) (by decide) wd_1077 (fun q9 => ?_)
      refine g_astore_n (lv' := [(3, .ref q9)]) B dL_ring_19 (by decide) [0] rfl ?_
      refine g_iconst (v := 1) B dL_ring_20 (by decide) ?_
      exact g_ireturn B hr rfl (by decide) (by decide) rfl dL_ring_21
    · exact g_caught_none
  refine g_if_eq B 14 dL_ring_7 (by decide) ?_ ?_
  · refine g_lconst (v := 0) B dL_ring_14 (by decide) ?_
    refine g_sub (lv' := []) [] rfl ?_
    exact gL_ring_J15 B hS9 hr hfl hxt a2 0 0 M
  · refine g_lconst (v := 1) B dL_ring_10 (by decide) ?_
    refine g_goto B 15 dL_ring_11 (by decide) ?_
    refine g_sub (lv' := []) [] rfl ?_
    exact gL_ring_J15 B hS9 hr hfl hxt a2 0 1 M
theorem oL_ring (X : gX) (l : Launch) (hfl : l.stackTraces = false) (a0 : Nat) (x1 : Int32) (a2 : Nat) (M : mMem) : wCon X l yL_ring cL_ring 4 (some .int) [((0 : Nat), (16 : Nat), (19 : Nat), (24 : Nat))] rmL_ring (fun r9 : (Int32 × mMem) => (some (.int r9.1), r9.2)) [.ref a0, .int x1, .ref a2] M (pL_ring a0 x1 a2 M) := g_wcon (own := RL) (by decide +kernel) rfl (Nat.le_of_ble_eq_true rfl) (fun p e s m args below meth c B hS9 hr hxt => gL_ring B hS9 hr hfl hxt a0 x1 a2 M)
theorem mfL_rests : gMW yL_rests cL_rests 5 (some .int) [((0 : Nat), (10 : Nat), (13 : Nat), (24 : Nat)), ((0 : Nat), (10 : Nat), (17 : Nat), (13 : Nat)), ((0 : Nat), (10 : Nat), (21 : Nat), (41 : Nat))] 4 := ⟨wd_1479, wd_0, ⟨by decide, by decide⟩, by decide +kernel⟩
set_option maxRecDepth 20000 in
set_option maxHeartbeats 2000000 in
theorem gL_rests {X : gX} {p : Program} {l : Launch} {e : Env} {s : State} {m : MethodId} {args : Array Value} {below : List Frame} {meth : Method} {c : Code} (B : gB X p (rmL_rests) s m args meth c RL cL_rests 5 (rmL_rests)) (hS9 : gS X s) (hr : meth.sig.returnType = some .int) (hfl : l.stackTraces = false) (hxt : c.exceptionTable.toList = tableOf [((0 : Nat), (10 : Nat), (13 : Nat), (24 : Nat)), ((0 : Nat), (10 : Nat), (17 : Nat), (13 : Nat)), ((0 : Nat), (10 : Nat), (21 : Nat), (41 : Nat))]) (a0 : Nat) (x1 : Int32) (x2 : Int32) (a3 : Nat) (M : mMem) : GG X p l e (rmL_rests) s m args below meth c (gP X below args s 4 24 (fun r9 : (Int32 × mMem) => (some (.int r9.1), r9.2))) 5 0 0 0 [(0, .ref a0), (1, .int x1), (2, .int x2), (3, .ref a3)] [] M (pL_rests a0 x1 x2 a3 M) := by
  unfold pL_rests
  refine g_aload_n B dL_rests_0 3 rfl ?_
  refine g_iconst (v := 0) B dL_rests_1 (by decide) ?_
  refine g_aload_n B dL_rests_2 0 rfl ?_
  refine g_iload_n B dL_rests_3 1 rfl ?_
  refine g_iload_n B dL_rests_4 2 rfl ?_
  refine g_xc_iw [.int x1, .int x2] (ci := 10) (T0 := TX11) (N := 18) B hS9 mf11_rests wd_1481 (gw B wd_1482) wd_1480 (by decide) rfl (fun h => (gd_ne h).1) (c11_rests X l hfl a0 x1 x2 M) (by decide) (by decide) (by decide) rfl (Nat.le_of_ble_eq_true rfl) dL_rests_5 rfl (fun k9 M9 => ?_) (fun q_1 => ?_)
  · refine g_caught_if (fun _ => ?_) (fun _ => ?_)
    · refine g_caught B hS9 [] ⟨0, 10, 13, 24⟩ [⟨0, 10, 17, 13⟩, ⟨0, 10, 21, 41⟩] (by rw [hxt]; rfl) (fun z hz => absurd hz List.not_mem_nil) (by decide) (by decide) wd_1077 (fun q9 => ?_)
      refine g_astore (lv' := [(4, .ref q9)]) B dL_rests_13 (by decide) [0] rfl ?_
      refine g_iconst (v := 1) B dL_rests_15 (by decide) ?_
      exact g_ireturn B hr rfl (by decide) (by decide) rfl dL_rests_16
    · refine g_caught_if (fun _ => ?_) (fun _ => ?_)
      · refine g_caught B hS9 [(⟨0, 10, 13, 24⟩, 2)] ⟨0, 10, 17, 13⟩ [⟨0, 10, 21, 41⟩] (by rw [hxt]; rfl) (List.forall_mem_cons.mpr ⟨⟨by decide, by decide, by decide, wd_1077⟩, fun z hz => absurd hz List.not_mem_nil⟩) (by decide) (by decide) wd_726 (fun q9 => ?_)
        refine g_astore (lv' := [(4, .ref q9)]) B dL_rests_17 (by decide) [0] rfl ?_
        refine g_iconst (v := 2) B dL_rests_19 (by decide) ?_
        exact g_ireturn B hr rfl (by decide) (by decide) rfl dL_rests_20
      · refine g_caught_if (fun _ => ?_) (fun _ => ?_)
        · refine g_caught B hS9 [(⟨0, 10, 13, 24⟩, 2), (⟨0, 10, 17, 13⟩, 0)] ⟨0, 10, 21, 41⟩ [] (by rw [hxt]; rfl) (List.forall_mem_cons.mpr ⟨⟨by decide, by decide, by decide, wd_1077⟩, List.forall_mem_cons.mpr ⟨⟨by decide, by decide, by decide, wd_726⟩, fun z hz => absurd hz List.not_mem_nil⟩⟩) (by decide) (by decide) wd_1164 (fun q9 => ?_)
          refine g_astore (lv' := [(4, .ref q9)]) B dL_rests_21 (by decide) [0] rfl ?_
          refine g_iconst (v := 3) B dL_rests_23 (by decide) ?_
          exact g_ireturn B hr rfl (by decide) (by decide) rfl dL_rests_24
        · exact g_caught_none
  refine g_i2l B dL_rests_8 ?_
  refine g_lastore B dL_rests_9 (fun M_2 => ?_)
  refine g_goto B 25 dL_rests_10 (by decide) ?_
  refine g_iconst (v := 0) B dL_rests_25 (by decide) ?_
  exact g_ireturn B hr rfl (by decide) (by decide) rfl dL_rests_26
theorem oL_rests (X : gX) (l : Launch) (hfl : l.stackTraces = false) (a0 : Nat) (x1 : Int32) (x2 : Int32) (a3 : Nat) (M : mMem) : wCon X l yL_rests cL_rests 5 (some .int) [((0 : Nat), (10 : Nat), (13 : Nat), (24 : Nat)), ((0 : Nat), (10 : Nat), (17 : Nat), (13 : Nat)), ((0 : Nat), (10 : Nat), (21 : Nat), (41 : Nat))] rmL_rests (fun r9 : (Int32 × mMem) => (some (.int r9.1), r9.2)) [.ref a0, .int x1, .int x2, .ref a3] M (pL_rests a0 x1 x2 a3 M) := g_wcon (own := RL) (by decide +kernel) rfl (Nat.le_of_ble_eq_true rfl) (fun p e s m args below meth c B hS9 hr hxt => gL_rests B hS9 hr hfl hxt a0 x1 x2 a3 M)
theorem mfL_mild : gMW yL_mild cL_mild 4 (some .int) [((0 : Nat), (9 : Nat), (12 : Nat), (13 : Nat))] 3 := ⟨wd_1496, wd_0, ⟨by decide, by decide⟩, by decide +kernel⟩
set_option maxRecDepth 20000 in
set_option maxHeartbeats 2000000 in
theorem gL_mild {X : gX} {p : Program} {l : Launch} {e : Env} {s : State} {m : MethodId} {args : Array Value} {below : List Frame} {meth : Method} {c : Code} (B : gB X p (rmL_mild) s m args meth c RL cL_mild 4 (rmL_mild)) (hS9 : gS X s) (hr : meth.sig.returnType = some .int) (hfl : l.stackTraces = false) (hxt : c.exceptionTable.toList = tableOf [((0 : Nat), (9 : Nat), (12 : Nat), (13 : Nat))]) (a0 : Nat) (x1 : Int32) (a2 : Nat) (M : mMem) : GG X p l e (rmL_mild) s m args below meth c (gP X below args s 1 6 (fun r9 : (Int32 × mMem) => (some (.int r9.1), r9.2))) 4 0 0 0 [(0, .ref a0), (1, .int x1), (2, .ref a2)] [] M (pL_mild a0 x1 a2 M) := by
  unfold pL_mild
  refine g_aload_n B dL_mild_0 2 rfl ?_
  refine g_iconst (v := 0) B dL_mild_1 (by decide) ?_
  refine g_aload_n B dL_mild_2 0 rfl ?_
  refine g_iload_n B dL_mild_3 1 rfl ?_
  refine g_xc_iw [.int x1] (ci := 10) (T0 := TX11) (N := 18) B hS9 mf11_mild wd_1498 (gw B wd_1499) wd_1497 (by decide) rfl (fun h => (gd_ne h).1) (c11_mild X l hfl a0 x1 M) (by decide) (by decide) (by decide) rfl (Nat.le_of_ble_eq_true rfl) dL_mild_4 rfl (fun k9 M9 => ?_) (fun q_1 => ?_)
  · refine g_caught_if (fun _ => ?_) (fun _ => ?_)
    · refine g_caught B hS9 [] ⟨0, 9, 12, 13⟩ [] (by rw [hxt]; rfl) (fun z hz => absurd hz List.not_mem_nil) (by decide) (by decide) wd_726 (fun q9 => ?_)
      refine g_astore_n (lv' := [(3, .ref q9)]) B dL_mild_12 (by decide) [0] rfl ?_
      refine g_iconst (v := 1) B dL_mild_13 (by decide) ?_
      exact g_ireturn B hr rfl (by decide) (by decide) rfl dL_mild_14
    · exact g_caught_none
  refine g_i2l B dL_mild_7 ?_
  refine g_lastore B dL_mild_8 (fun M_2 => ?_)
  refine g_goto B 15 dL_mild_9 (by decide) ?_
  refine g_iconst (v := 0) B dL_mild_15 (by decide) ?_
  exact g_ireturn B hr rfl (by decide) (by decide) rfl dL_mild_16
theorem oL_mild (X : gX) (l : Launch) (hfl : l.stackTraces = false) (a0 : Nat) (x1 : Int32) (a2 : Nat) (M : mMem) : wCon X l yL_mild cL_mild 4 (some .int) [((0 : Nat), (9 : Nat), (12 : Nat), (13 : Nat))] rmL_mild (fun r9 : (Int32 × mMem) => (some (.int r9.1), r9.2)) [.ref a0, .int x1, .ref a2] M (pL_mild a0 x1 a2 M) := g_wcon (own := RL) (by decide +kernel) rfl (Nat.le_of_ble_eq_true rfl) (fun p e s m args below meth c B hS9 hr hxt => gL_mild B hS9 hr hfl hxt a0 x1 a2 M)
theorem mfL_branch : gMW yL_branch cL_branch 4 (some .int) [((0 : Nat), (9 : Nat), (12 : Nat), (24 : Nat))] 3 := ⟨wd_1511, wd_0, ⟨by decide, by decide⟩, by decide +kernel⟩
set_option maxRecDepth 20000 in
set_option maxHeartbeats 2000000 in
theorem gL_branch {X : gX} {p : Program} {l : Launch} {e : Env} {s : State} {m : MethodId} {args : Array Value} {below : List Frame} {meth : Method} {c : Code} (B : gB X p (rmL_branch) s m args meth c RL cL_branch 4 (rmL_branch)) (hS9 : gS X s) (hr : meth.sig.returnType = some .int) (hfl : l.stackTraces = false) (hxt : c.exceptionTable.toList = tableOf [((0 : Nat), (9 : Nat), (12 : Nat), (24 : Nat))]) (a0 : Nat) (x1 : Int32) (a2 : Nat) (M : mMem) : GG X p l e (rmL_branch) s m args below meth c (gP X below args s 1 6 (fun r9 : (Int32 × mMem) => (some (.int r9.1), r9.2))) 4 0 0 0 [(0, .ref a0), (1, .int x1), (2, .ref a2)] [] M (pL_branch a0 x1 a2 M) := by
  unfold pL_branch
  refine g_aload_n B dL_branch_0 2 rfl ?_
  refine g_iconst (v := 0) B dL_branch_1 (by decide) ?_
  refine g_aload_n B dL_branch_2 0 rfl ?_
  refine g_iload_n B dL_branch_3 1 rfl ?_
  refine g_xc_ip [.int x1] (ci := 10) (T0 := TX11) (N := 18) B hS9 mf11_branch wd_1513 (gw B wd_1514) wd_1512 (by decide) rfl (fun h => (gd_ne h).1) (c11_branch X l hfl a0 x1 M) (by decide) (by decide) (by decide) rfl (Nat.le_of_ble_eq_true rfl) dL_branch_4 rfl (fun k9 M9 => ?_) (fun v_1 => ?_)
  · refine g_caught_if (fun _ => ?_) (fun _ => ?_)
    · refine g_caught B hS9 [] ⟨0, 9, 12, 24⟩ [] (by rw [hxt]; rfl) (fun z hz => absurd hz List.not_mem_nil) (by decide) (by decide) wd_1077 (fun q9 => ?_)
      refine g_astore_n (lv' := [(3, .ref q9)]) B dL_branch_12 (by decide) [0] rfl ?_
      refine g_iconst (v := 1) B dL_branch_13 (by decide) ?_
      exact g_ireturn B hr rfl (by decide) (by decide) rfl dL_branch_14
    · exact g_caught_none
  refine g_i2l B dL_branch_7 ?_
  refine g_lastore B dL_branch_8 (fun M_2 => ?_)
  refine g_goto B 15 dL_branch_9 (by decide) ?_
  refine g_iconst (v := 0) B dL_branch_15 (by decide) ?_
  exact g_ireturn B hr rfl (by decide) (by decide) rfl dL_branch_16
theorem oL_branch (X : gX) (l : Launch) (hfl : l.stackTraces = false) (a0 : Nat) (x1 : Int32) (a2 : Nat) (M : mMem) : wCon X l yL_branch cL_branch 4 (some .int) [((0 : Nat), (9 : Nat), (12 : Nat), (24 : Nat))] rmL_branch (fun r9 : (Int32 × mMem) => (some (.int r9.1), r9.2)) [.ref a0, .int x1, .ref a2] M (pL_branch a0 x1 a2 M) := g_wcon (own := RL) (by decide +kernel) rfl (Nat.le_of_ble_eq_true rfl) (fun p e s m args below meth c B hS9 hr hxt => gL_branch B hS9 hr hfl hxt a0 x1 a2 M)
theorem mfL_kin : gMW yL_kin cL_kin 5 (some .int) [((0 : Nat), (10 : Nat), (13 : Nat), (24 : Nat)), ((0 : Nat), (10 : Nat), (17 : Nat), (13 : Nat))] 4 := ⟨wd_1519, wd_0, ⟨by decide, by decide⟩, by decide +kernel⟩
set_option maxRecDepth 20000 in
set_option maxHeartbeats 2000000 in
theorem gL_kin {X : gX} {p : Program} {l : Launch} {e : Env} {s : State} {m : MethodId} {args : Array Value} {below : List Frame} {meth : Method} {c : Code} (B : gB X p (rmL_kin) s m args meth c RL cL_kin 5 (rmL_kin)) (hS9 : gS X s) (hr : meth.sig.returnType = some .int) (hfl : l.stackTraces = false) (hxt : c.exceptionTable.toList = tableOf [((0 : Nat), (10 : Nat), (13 : Nat), (24 : Nat)), ((0 : Nat), (10 : Nat), (17 : Nat), (13 : Nat))]) (a0 : Nat) (x1 : Int32) (x2 : Int32) (a3 : Nat) (M : mMem) : GG X p l e (rmL_kin) s m args below meth c (gP X below args s 3 18 (fun r9 : (Int32 × mMem) => (some (.int r9.1), r9.2))) 5 0 0 0 [(0, .ref a0), (1, .int x1), (2, .int x2), (3, .ref a3)] [] M (pL_kin a0 x1 x2 a3 M) := by
  unfold pL_kin
  refine g_aload_n B dL_kin_0 3 rfl ?_
  refine g_iconst (v := 0) B dL_kin_1 (by decide) ?_
  refine g_aload_n B dL_kin_2 0 rfl ?_
  refine g_iload_n B dL_kin_3 1 rfl ?_
  refine g_iload_n B dL_kin_4 2 rfl ?_
  refine g_xc_ip [.int x1, .int x2] (ci := 10) (T0 := TX11) (N := 18) B hS9 mf11_kin wd_1521 (gw B wd_1522) wd_1520 (by decide) rfl (fun h => (gd_ne h).1) (c11_kin X l hfl a0 x1 x2 M) (by decide) (by decide) (by decide) rfl (Nat.le_of_ble_eq_true rfl) dL_kin_5 rfl (fun k9 M9 => ?_) (fun v_1 => ?_)
  · refine g_caught_if (fun _ => ?_) (fun _ => ?_)
    · refine g_caught B hS9 [] ⟨0, 10, 13, 24⟩ [⟨0, 10, 17, 13⟩] (by rw [hxt]; rfl) (fun z hz => absurd hz List.not_mem_nil) (by decide) (by decide) wd_1077 (fun q9 => ?_)
      refine g_astore (lv' := [(4, .ref q9)]) B dL_kin_13 (by decide) [0] rfl ?_
      refine g_iconst (v := 1) B dL_kin_15 (by decide) ?_
      exact g_ireturn B hr rfl (by decide) (by decide) rfl dL_kin_16
    · refine g_caught_if (fun _ => ?_) (fun _ => ?_)
      · refine g_caught B hS9 [(⟨0, 10, 13, 24⟩, 2)] ⟨0, 10, 17, 13⟩ [] (by rw [hxt]; rfl) (List.forall_mem_cons.mpr ⟨⟨by decide, by decide, by decide, wd_1077⟩, fun z hz => absurd hz List.not_mem_nil⟩) (by decide) (by decide) wd_726 (fun q9 => ?_)
        refine g_astore (lv' := [(4, .ref q9)]) B dL_kin_17 (by decide) [0] rfl ?_
        refine g_iconst (v := 2) B dL_kin_19 (by decide) ?_
        exact g_ireturn B hr rfl (by decide) (by decide) rfl dL_kin_20
      · exact g_caught_none
  refine g_i2l B dL_kin_8 ?_
  refine g_lastore B dL_kin_9 (fun M_2 => ?_)
  refine g_goto B 21 dL_kin_10 (by decide) ?_
  refine g_iconst (v := 0) B dL_kin_21 (by decide) ?_
  exact g_ireturn B hr rfl (by decide) (by decide) rfl dL_kin_22
theorem oL_kin (X : gX) (l : Launch) (hfl : l.stackTraces = false) (a0 : Nat) (x1 : Int32) (x2 : Int32) (a3 : Nat) (M : mMem) : wCon X l yL_kin cL_kin 5 (some .int) [((0 : Nat), (10 : Nat), (13 : Nat), (24 : Nat)), ((0 : Nat), (10 : Nat), (17 : Nat), (13 : Nat))] rmL_kin (fun r9 : (Int32 × mMem) => (some (.int r9.1), r9.2)) [.ref a0, .int x1, .int x2, .ref a3] M (pL_kin a0 x1 x2 a3 M) := g_wcon (own := RL) (by decide +kernel) rfl (Nat.le_of_ble_eq_true rfl) (fun p e s m args below meth c B hS9 hr hxt => gL_kin B hS9 hr hfl hxt a0 x1 x2 a3 M)
theorem mfL_cousins : gMW yL_cousins cL_cousins 4 (some .int) [((0 : Nat), (9 : Nat), (12 : Nat), (24 : Nat))] 3 := ⟨wd_1534, wd_0, ⟨by decide, by decide⟩, by decide +kernel⟩
set_option maxRecDepth 20000 in
set_option maxHeartbeats 2000000 in
theorem gL_cousins {X : gX} {p : Program} {l : Launch} {e : Env} {s : State} {m : MethodId} {args : Array Value} {below : List Frame} {meth : Method} {c : Code} (B : gB X p (rmL_cousins) s m args meth c RL cL_cousins 4 (rmL_cousins)) (hS9 : gS X s) (hr : meth.sig.returnType = some .int) (hfl : l.stackTraces = false) (hxt : c.exceptionTable.toList = tableOf [((0 : Nat), (9 : Nat), (12 : Nat), (24 : Nat))]) (a0 : Nat) (x1 : Int32) (a2 : Nat) (M : mMem) : GG X p l e (rmL_cousins) s m args below meth c (gP X below args s 1 6 (fun r9 : (Int32 × mMem) => (some (.int r9.1), r9.2))) 4 0 0 0 [(0, .ref a0), (1, .int x1), (2, .ref a2)] [] M (pL_cousins a0 x1 a2 M) := by
  unfold pL_cousins
  refine g_aload_n B dL_cousins_0 2 rfl ?_
  refine g_iconst (v := 0) B dL_cousins_1 (by decide) ?_
  refine g_aload_n B dL_cousins_2 0 rfl ?_
  refine g_iload_n B dL_cousins_3 1 rfl ?_
  refine g_xc_ip [.int x1] (ci := 10) (T0 := TX11) (N := 18) B hS9 mf11_cousins wd_1536 (gw B wd_1537) wd_1535 (by decide) rfl (fun h => (gd_ne h).1) (c11_cousins X l hfl a0 x1 M) (by decide) (by decide) (by decide) rfl (Nat.le_of_ble_eq_true rfl) dL_cousins_4 rfl (fun k9 M9 => ?_) (fun v_1 => ?_)
  · refine g_caught_if (fun _ => ?_) (fun _ => ?_)
    · refine g_caught B hS9 [] ⟨0, 9, 12, 24⟩ [] (by rw [hxt]; rfl) (fun z hz => absurd hz List.not_mem_nil) (by decide) (by decide) wd_1077 (fun q9 => ?_)
      refine g_astore_n (lv' := [(3, .ref q9)]) B dL_cousins_12 (by decide) [0] rfl ?_
      refine g_iconst (v := 1) B dL_cousins_13 (by decide) ?_
      exact g_ireturn B hr rfl (by decide) (by decide) rfl dL_cousins_14
    · exact g_caught_none
  refine g_i2l B dL_cousins_7 ?_
  refine g_lastore B dL_cousins_8 (fun M_2 => ?_)
  refine g_goto B 15 dL_cousins_9 (by decide) ?_
  refine g_iconst (v := 0) B dL_cousins_15 (by decide) ?_
  exact g_ireturn B hr rfl (by decide) (by decide) rfl dL_cousins_16
theorem oL_cousins (X : gX) (l : Launch) (hfl : l.stackTraces = false) (a0 : Nat) (x1 : Int32) (a2 : Nat) (M : mMem) : wCon X l yL_cousins cL_cousins 4 (some .int) [((0 : Nat), (9 : Nat), (12 : Nat), (24 : Nat))] rmL_cousins (fun r9 : (Int32 × mMem) => (some (.int r9.1), r9.2)) [.ref a0, .int x1, .ref a2] M (pL_cousins a0 x1 a2 M) := g_wcon (own := RL) (by decide +kernel) rfl (Nat.le_of_ble_eq_true rfl) (fun p e s m args below meth c B hS9 hr hxt => gL_cousins B hS9 hr hfl hxt a0 x1 a2 M)
theorem mfL_under : gMW yL_under cL_under 4 (some .int) [((0 : Nat), (9 : Nat), (12 : Nat), (24 : Nat))] 3 := ⟨wd_1549, wd_0, ⟨by decide, by decide⟩, by decide +kernel⟩
set_option maxRecDepth 20000 in
set_option maxHeartbeats 2000000 in
theorem gL_under {X : gX} {p : Program} {l : Launch} {e : Env} {s : State} {m : MethodId} {args : Array Value} {below : List Frame} {meth : Method} {c : Code} (B : gB X p (rmL_under) s m args meth c RL cL_under 4 (rmL_under)) (hS9 : gS X s) (hr : meth.sig.returnType = some .int) (hfl : l.stackTraces = false) (hxt : c.exceptionTable.toList = tableOf [((0 : Nat), (9 : Nat), (12 : Nat), (24 : Nat))]) (a0 : Nat) (x1 : Int32) (a2 : Nat) (M : mMem) : GG X p l e (rmL_under) s m args below meth c (gP X below args s 1 6 (fun r9 : (Int32 × mMem) => (some (.int r9.1), r9.2))) 4 0 0 0 [(0, .ref a0), (1, .int x1), (2, .ref a2)] [] M (pL_under a0 x1 a2 M) := by
  unfold pL_under
  refine g_aload_n B dL_under_0 2 rfl ?_
  refine g_iconst (v := 0) B dL_under_1 (by decide) ?_
  refine g_aload_n B dL_under_2 0 rfl ?_
  refine g_iload_n B dL_under_3 1 rfl ?_
  refine g_xc_ip [.int x1] (ci := 10) (T0 := TX11) (N := 18) B hS9 mf11_under wd_1551 (gw B wd_1552) wd_1550 (by decide) rfl (fun h => (gd_ne h).1) (c11_under X l hfl a0 x1 M) (by decide) (by decide) (by decide) rfl (Nat.le_of_ble_eq_true rfl) dL_under_4 rfl (fun k9 M9 => ?_) (fun v_1 => ?_)
  · refine g_caught_if (fun _ => ?_) (fun _ => ?_)
    · refine g_caught B hS9 [] ⟨0, 9, 12, 24⟩ [] (by rw [hxt]; rfl) (fun z hz => absurd hz List.not_mem_nil) (by decide) (by decide) wd_1077 (fun q9 => ?_)
      refine g_astore_n (lv' := [(3, .ref q9)]) B dL_under_12 (by decide) [0] rfl ?_
      refine g_iconst (v := 1) B dL_under_13 (by decide) ?_
      exact g_ireturn B hr rfl (by decide) (by decide) rfl dL_under_14
    · exact g_caught_none
  refine g_i2l B dL_under_7 ?_
  refine g_lastore B dL_under_8 (fun M_2 => ?_)
  refine g_goto B 15 dL_under_9 (by decide) ?_
  refine g_iconst (v := 0) B dL_under_15 (by decide) ?_
  exact g_ireturn B hr rfl (by decide) (by decide) rfl dL_under_16
theorem oL_under (X : gX) (l : Launch) (hfl : l.stackTraces = false) (a0 : Nat) (x1 : Int32) (a2 : Nat) (M : mMem) : wCon X l yL_under cL_under 4 (some .int) [((0 : Nat), (9 : Nat), (12 : Nat), (24 : Nat))] rmL_under (fun r9 : (Int32 × mMem) => (some (.int r9.1), r9.2)) [.ref a0, .int x1, .ref a2] M (pL_under a0 x1 a2 M) := g_wcon (own := RL) (by decide +kernel) rfl (Nat.le_of_ble_eq_true rfl) (fun p e s m args below meth c B hS9 hr hxt => gL_under B hS9 hr hfl hxt a0 x1 a2 M)
theorem mfL_odds : gMW yL_odds cL_odds 6 (some .int) [((0 : Nat), (12 : Nat), (15 : Nat), (24 : Nat)), ((0 : Nat), (12 : Nat), (19 : Nat), (13 : Nat))] 5 := ⟨wd_1556, wd_0, ⟨by decide, by decide⟩, by decide +kernel⟩
set_option maxRecDepth 20000 in
set_option maxHeartbeats 2000000 in
theorem gL_odds {X : gX} {p : Program} {l : Launch} {e : Env} {s : State} {m : MethodId} {args : Array Value} {below : List Frame} {meth : Method} {c : Code} (B : gB X p (rmL_odds) s m args meth c RL cL_odds 6 (rmL_odds)) (hS9 : gS X s) (hr : meth.sig.returnType = some .int) (hfl : l.stackTraces = false) (hxt : c.exceptionTable.toList = tableOf [((0 : Nat), (12 : Nat), (15 : Nat), (24 : Nat)), ((0 : Nat), (12 : Nat), (19 : Nat), (13 : Nat))]) (a0 : Nat) (x1 : Int32) (x2 : Int32) (x3 : Int32) (a4 : Nat) (M : mMem) : GG X p l e (rmL_odds) s m args below meth c (gP X below args s 3 18 (fun r9 : (Int32 × mMem) => (some (.int r9.1), r9.2))) 6 0 0 0 [(0, .ref a0), (1, .int x1), (2, .int x2), (3, .int x3), (4, .ref a4)] [] M (pL_odds a0 x1 x2 x3 a4 M) := by
  unfold pL_odds
  refine g_aload B dL_odds_0 4 rfl ?_
  refine g_iconst (v := 0) B dL_odds_2 (by decide) ?_
  refine g_aload_n B dL_odds_3 0 rfl ?_
  refine g_iload_n B dL_odds_4 1 rfl ?_
  refine g_iload_n B dL_odds_5 2 rfl ?_
  refine g_iload_n B dL_odds_6 3 rfl ?_
  refine g_xc_ip [.int x1, .int x2, .int x3] (ci := 10) (T0 := TX11) (N := 18) B hS9 mf11_odds wd_1558 (gw B wd_1559) wd_1557 (by decide) rfl (fun h => (gd_ne h).1) (c11_odds X l hfl a0 x1 x2 x3 M) (by decide) (by decide) (by decide) rfl (Nat.le_of_ble_eq_true rfl) dL_odds_7 rfl (fun k9 M9 => ?_) (fun v_1 => ?_)
  · refine g_caught_if (fun _ => ?_) (fun _ => ?_)
    · refine g_caught B hS9 [] ⟨0, 12, 15, 24⟩ [⟨0, 12, 19, 13⟩] (by rw [hxt]; rfl) (fun z hz => absurd hz List.not_mem_nil) (by decide) (by decide) wd_1077 (fun q9 => ?_)
      refine g_astore (lv' := [(5, .ref q9)]) B dL_odds_15 (by decide) [0] rfl ?_
      refine g_iconst (v := 1) B dL_odds_17 (by decide) ?_
      exact g_ireturn B hr rfl (by decide) (by decide) rfl dL_odds_18
    · refine g_caught_if (fun _ => ?_) (fun _ => ?_)
      · refine g_caught B hS9 [(⟨0, 12, 15, 24⟩, 2)] ⟨0, 12, 19, 13⟩ [] (by rw [hxt]; rfl) (List.forall_mem_cons.mpr ⟨⟨by decide, by decide, by decide, wd_1077⟩, fun z hz => absurd hz List.not_mem_nil⟩) (by decide) (by decide) wd_726 (fun q9 => ?_)
        refine g_astore (lv' := [(5, .ref q9)]) B dL_odds_19 (by decide) [0] rfl ?_
        refine g_iconst (v := 2) B dL_odds_21 (by decide) ?_
        exact g_ireturn B hr rfl (by decide) (by decide) rfl dL_odds_22
      · exact g_caught_none
  refine g_i2l B dL_odds_10 ?_
  refine g_lastore B dL_odds_11 (fun M_2 => ?_)
  refine g_goto B 23 dL_odds_12 (by decide) ?_
  refine g_iconst (v := 0) B dL_odds_23 (by decide) ?_
  exact g_ireturn B hr rfl (by decide) (by decide) rfl dL_odds_24
theorem oL_odds (X : gX) (l : Launch) (hfl : l.stackTraces = false) (a0 : Nat) (x1 : Int32) (x2 : Int32) (x3 : Int32) (a4 : Nat) (M : mMem) : wCon X l yL_odds cL_odds 6 (some .int) [((0 : Nat), (12 : Nat), (15 : Nat), (24 : Nat)), ((0 : Nat), (12 : Nat), (19 : Nat), (13 : Nat))] rmL_odds (fun r9 : (Int32 × mMem) => (some (.int r9.1), r9.2)) [.ref a0, .int x1, .int x2, .int x3, .ref a4] M (pL_odds a0 x1 x2 x3 a4 M) := g_wcon (own := RL) (by decide +kernel) rfl (Nat.le_of_ble_eq_true rfl) (fun p e s m args below meth c B hS9 hr hxt => gL_odds B hS9 hr hfl hxt a0 x1 x2 x3 a4 M)
theorem mfL_ahead : gMW yL_ahead cL_ahead 6 (some .int) [((0 : Nat), (12 : Nat), (15 : Nat), (24 : Nat)), ((0 : Nat), (12 : Nat), (19 : Nat), (13 : Nat))] 5 := ⟨wd_1575, wd_0, ⟨by decide, by decide⟩, by decide +kernel⟩
set_option maxRecDepth 20000 in
set_option maxHeartbeats 2000000 in
theorem gL_ahead {X : gX} {p : Program} {l : Launch} {e : Env} {s : State} {m : MethodId} {args : Array Value} {below : List Frame} {meth : Method} {c : Code} (B : gB X p (rmL_ahead) s m args meth c RL cL_ahead 6 (rmL_ahead)) (hS9 : gS X s) (hr : meth.sig.returnType = some .int) (hfl : l.stackTraces = false) (hxt : c.exceptionTable.toList = tableOf [((0 : Nat), (12 : Nat), (15 : Nat), (24 : Nat)), ((0 : Nat), (12 : Nat), (19 : Nat), (13 : Nat))]) (a0 : Nat) (x1 : Int32) (x2 : Int32) (x3 : Int32) (a4 : Nat) (M : mMem) : GG X p l e (rmL_ahead) s m args below meth c (gP X below args s 2 12 (fun r9 : (Int32 × mMem) => (some (.int r9.1), r9.2))) 6 0 0 0 [(0, .ref a0), (1, .int x1), (2, .int x2), (3, .int x3), (4, .ref a4)] [] M (pL_ahead a0 x1 x2 x3 a4 M) := by
  unfold pL_ahead
  refine g_aload B dL_ahead_0 4 rfl ?_
  refine g_iconst (v := 0) B dL_ahead_2 (by decide) ?_
  refine g_aload_n B dL_ahead_3 0 rfl ?_
  refine g_iload_n B dL_ahead_4 1 rfl ?_
  refine g_iload_n B dL_ahead_5 2 rfl ?_
  refine g_iload_n B dL_ahead_6 3 rfl ?_
  refine g_xc_iw [.int x1, .int x2, .int x3] (ci := 10) (T0 := TX11) (N := 18) B hS9 mf11_ahead wd_1577 (gw B wd_1578) wd_1576 (by decide) rfl (fun h => (gd_ne h).1) (c11_ahead X l hfl a0 x1 x2 x3 M) (by decide) (by decide) (by decide) rfl (Nat.le_of_ble_eq_true rfl) dL_ahead_7 rfl (fun k9 M9 => ?_) (fun q_1 => ?_)
  · refine g_caught_if (fun _ => ?_) (fun _ => ?_)
    · refine g_caught B hS9 [] ⟨0, 12, 15, 24⟩ [⟨0, 12, 19, 13⟩] (by rw [hxt]; rfl) (fun z hz => absurd hz List.not_mem_nil) (by decide) (by decide) wd_1077 (fun q9 => ?_)
      refine g_astore (lv' := [(5, .ref q9)]) B dL_ahead_15 (by decide) [0] rfl ?_
      refine g_iconst (v := 1) B dL_ahead_17 (by decide) ?_
      exact g_ireturn B hr rfl (by decide) (by decide) rfl dL_ahead_18
    · refine g_caught_if (fun _ => ?_) (fun _ => ?_)
      · refine g_caught B hS9 [(⟨0, 12, 15, 24⟩, 2)] ⟨0, 12, 19, 13⟩ [] (by rw [hxt]; rfl) (List.forall_mem_cons.mpr ⟨⟨by decide, by decide, by decide, wd_1077⟩, fun z hz => absurd hz List.not_mem_nil⟩) (by decide) (by decide) wd_726 (fun q9 => ?_)
        refine g_astore (lv' := [(5, .ref q9)]) B dL_ahead_19 (by decide) [0] rfl ?_
        refine g_iconst (v := 2) B dL_ahead_21 (by decide) ?_
        exact g_ireturn B hr rfl (by decide) (by decide) rfl dL_ahead_22
      · exact g_caught_none
  refine g_i2l B dL_ahead_10 ?_
  refine g_lastore B dL_ahead_11 (fun M_2 => ?_)
  refine g_goto B 23 dL_ahead_12 (by decide) ?_
  refine g_iconst (v := 0) B dL_ahead_23 (by decide) ?_
  exact g_ireturn B hr rfl (by decide) (by decide) rfl dL_ahead_24
theorem oL_ahead (X : gX) (l : Launch) (hfl : l.stackTraces = false) (a0 : Nat) (x1 : Int32) (x2 : Int32) (x3 : Int32) (a4 : Nat) (M : mMem) : wCon X l yL_ahead cL_ahead 6 (some .int) [((0 : Nat), (12 : Nat), (15 : Nat), (24 : Nat)), ((0 : Nat), (12 : Nat), (19 : Nat), (13 : Nat))] rmL_ahead (fun r9 : (Int32 × mMem) => (some (.int r9.1), r9.2)) [.ref a0, .int x1, .int x2, .int x3, .ref a4] M (pL_ahead a0 x1 x2 x3 a4 M) := g_wcon (own := RL) (by decide +kernel) rfl (Nat.le_of_ble_eq_true rfl) (fun p e s m args below meth c B hS9 hr hxt => gL_ahead B hS9 hr hfl hxt a0 x1 x2 x3 a4 M)
theorem mfL_trial : gMW yL_trial cL_trial 5 (some .int) [((0 : Nat), (10 : Nat), (13 : Nat), (13 : Nat))] 4 := ⟨wd_1586, wd_0, ⟨by decide, by decide⟩, by decide +kernel⟩
set_option maxRecDepth 20000 in
set_option maxHeartbeats 2000000 in
theorem gL_trial {X : gX} {p : Program} {l : Launch} {e : Env} {s : State} {m : MethodId} {args : Array Value} {below : List Frame} {meth : Method} {c : Code} (B : gB X p (rmL_trial) s m args meth c RL cL_trial 5 (rmL_trial)) (hS9 : gS X s) (hr : meth.sig.returnType = some .int) (hfl : l.stackTraces = false) (hxt : c.exceptionTable.toList = tableOf [((0 : Nat), (10 : Nat), (13 : Nat), (13 : Nat))]) (a0 : Nat) (x1 : Int32) (x2 : Int32) (a3 : Nat) (M : mMem) : GG X p l e (rmL_trial) s m args below meth c (gP X below args s 1 6 (fun r9 : (Int32 × mMem) => (some (.int r9.1), r9.2))) 5 0 0 0 [(0, .ref a0), (1, .int x1), (2, .int x2), (3, .ref a3)] [] M (pL_trial a0 x1 x2 a3 M) := by
  unfold pL_trial
  refine g_aload_n B dL_trial_0 3 rfl ?_
  refine g_iconst (v := 0) B dL_trial_1 (by decide) ?_
  refine g_aload_n B dL_trial_2 0 rfl ?_
  refine g_iload_n B dL_trial_3 1 rfl ?_
  refine g_iload_n B dL_trial_4 2 rfl ?_
  refine g_xc_iw [.int x1, .int x2] (ci := 10) (T0 := TX11) (N := 18) B hS9 mf11_trial wd_1588 (gw B wd_1589) wd_1587 (by decide) rfl (fun h => (gd_ne h).1) (c11_trial X l hfl a0 x1 x2 M) (by decide) (by decide) (by decide) rfl (Nat.le_of_ble_eq_true rfl) dL_trial_5 rfl (fun k9 M9 => ?_) (fun q_1 => ?_)
  · refine g_caught_if (fun _ => ?_) (fun _ => ?_)
    · refine g_caught B hS9 [] ⟨0, 10, 13, 13⟩ [] (by rw [hxt]; rfl) (fun z hz => absurd hz List.not_mem_nil) (by decide) (by decide) wd_726 (fun q9 => ?_)
      refine g_astore (lv' := [(4, .ref q9)]) B dL_trial_13 (by decide) [0] rfl ?_
      refine g_iconst (v := 1) B dL_trial_15 (by decide) ?_
      exact g_ireturn B hr rfl (by decide) (by decide) rfl dL_trial_16
    · exact g_caught_none
  refine g_i2l B dL_trial_8 ?_
  refine g_lastore B dL_trial_9 (fun M_2 => ?_)
  refine g_goto B 17 dL_trial_10 (by decide) ?_
  refine g_iconst (v := 0) B dL_trial_17 (by decide) ?_
  exact g_ireturn B hr rfl (by decide) (by decide) rfl dL_trial_18
theorem oL_trial (X : gX) (l : Launch) (hfl : l.stackTraces = false) (a0 : Nat) (x1 : Int32) (x2 : Int32) (a3 : Nat) (M : mMem) : wCon X l yL_trial cL_trial 5 (some .int) [((0 : Nat), (10 : Nat), (13 : Nat), (13 : Nat))] rmL_trial (fun r9 : (Int32 × mMem) => (some (.int r9.1), r9.2)) [.ref a0, .int x1, .int x2, .ref a3] M (pL_trial a0 x1 x2 a3 M) := g_wcon (own := RL) (by decide +kernel) rfl (Nat.le_of_ble_eq_true rfl) (fun p e s m args below meth c B hS9 hr hxt => gL_trial B hS9 hr hfl hxt a0 x1 x2 a3 M)
theorem mfL_span : gMW yL_span cL_span 5 (some .int) [((0 : Nat), (10 : Nat), (13 : Nat), (13 : Nat))] 4 := ⟨wd_1599, wd_0, ⟨by decide, by decide⟩, by decide +kernel⟩
set_option maxRecDepth 20000 in
set_option maxHeartbeats 2000000 in
theorem gL_span {X : gX} {p : Program} {l : Launch} {e : Env} {s : State} {m : MethodId} {args : Array Value} {below : List Frame} {meth : Method} {c : Code} (B : gB X p (rmL_span) s m args meth c RL cL_span 5 (rmL_span)) (hS9 : gS X s) (hr : meth.sig.returnType = some .int) (hfl : l.stackTraces = false) (hxt : c.exceptionTable.toList = tableOf [((0 : Nat), (10 : Nat), (13 : Nat), (13 : Nat))]) (a0 : Nat) (x1 : Int32) (x2 : Int32) (a3 : Nat) (M : mMem) : GG X p l e (rmL_span) s m args below meth c (gP X below args s 1 6 (fun r9 : (Int32 × mMem) => (some (.int r9.1), r9.2))) 5 0 0 0 [(0, .ref a0), (1, .int x1), (2, .int x2), (3, .ref a3)] [] M (pL_span a0 x1 x2 a3 M) := by
  unfold pL_span
  refine g_aload_n B dL_span_0 3 rfl ?_
  refine g_iconst (v := 0) B dL_span_1 (by decide) ?_
  refine g_aload_n B dL_span_2 0 rfl ?_
  refine g_iload_n B dL_span_3 1 rfl ?_
  refine g_iload_n B dL_span_4 2 rfl ?_
  refine g_xc_iw [.int x1, .int x2] (ci := 10) (T0 := TX11) (N := 18) B hS9 mf11_span wd_1601 (gw B wd_1602) wd_1600 (by decide) rfl (fun h => (gd_ne h).1) (c11_span X l hfl a0 x1 x2 M) (by decide) (by decide) (by decide) rfl (Nat.le_of_ble_eq_true rfl) dL_span_5 rfl (fun k9 M9 => ?_) (fun q_1 => ?_)
  · refine g_caught_if (fun _ => ?_) (fun _ => ?_)
    · refine g_caught B hS9 [] ⟨0, 10, 13, 13⟩ [] (by rw [hxt]; rfl) (fun z hz => absurd hz List.not_mem_nil) (by decide) (by decide) wd_726 (fun q9 => ?_)
      refine g_astore (lv' := [(4, .ref q9)]) B dL_span_13 (by decide) [0] rfl ?_
      refine g_iconst (v := 1) B dL_span_15 (by decide) ?_
      exact g_ireturn B hr rfl (by decide) (by decide) rfl dL_span_16
    · exact g_caught_none
  refine g_i2l B dL_span_8 ?_
  refine g_lastore B dL_span_9 (fun M_2 => ?_)
  refine g_goto B 17 dL_span_10 (by decide) ?_
  refine g_iconst (v := 0) B dL_span_17 (by decide) ?_
  exact g_ireturn B hr rfl (by decide) (by decide) rfl dL_span_18
theorem oL_span (X : gX) (l : Launch) (hfl : l.stackTraces = false) (a0 : Nat) (x1 : Int32) (x2 : Int32) (a3 : Nat) (M : mMem) : wCon X l yL_span cL_span 5 (some .int) [((0 : Nat), (10 : Nat), (13 : Nat), (13 : Nat))] rmL_span (fun r9 : (Int32 × mMem) => (some (.int r9.1), r9.2)) [.ref a0, .int x1, .int x2, .ref a3] M (pL_span a0 x1 x2 a3 M) := g_wcon (own := RL) (by decide +kernel) rfl (Nat.le_of_ble_eq_true rfl) (fun p e s m args below meth c B hS9 hr hxt => gL_span B hS9 hr hfl hxt a0 x1 x2 a3 M)
theorem mfL_led : gMW yL_led cL_led 5 (some .int) [((0 : Nat), (10 : Nat), (13 : Nat), (24 : Nat))] 4 := ⟨wd_1610, wd_0, ⟨by decide, by decide⟩, by decide +kernel⟩
set_option maxRecDepth 20000 in
set_option maxHeartbeats 2000000 in
theorem gL_led {X : gX} {p : Program} {l : Launch} {e : Env} {s : State} {m : MethodId} {args : Array Value} {below : List Frame} {meth : Method} {c : Code} (B : gB X p (rmL_led) s m args meth c RL cL_led 5 (rmL_led)) (hS9 : gS X s) (hr : meth.sig.returnType = some .int) (hfl : l.stackTraces = false) (hxt : c.exceptionTable.toList = tableOf [((0 : Nat), (10 : Nat), (13 : Nat), (24 : Nat))]) (a0 : Nat) (x1 : Int32) (x2 : Int32) (a3 : Nat) (M : mMem) : GG X p l e (rmL_led) s m args below meth c (gP X below args s 1 6 (fun r9 : (Int32 × mMem) => (some (.int r9.1), r9.2))) 5 0 0 0 [(0, .ref a0), (1, .int x1), (2, .int x2), (3, .ref a3)] [] M (pL_led a0 x1 x2 a3 M) := by
  unfold pL_led
  refine g_aload_n B dL_led_0 3 rfl ?_
  refine g_iconst (v := 0) B dL_led_1 (by decide) ?_
  refine g_aload_n B dL_led_2 0 rfl ?_
  refine g_iload_n B dL_led_3 1 rfl ?_
  refine g_iload_n B dL_led_4 2 rfl ?_
  refine g_xc_ip [.int x1, .int x2] (ci := 10) (T0 := TX11) (N := 18) B hS9 mf11_led wd_1612 (gw B wd_1613) wd_1611 (by decide) rfl (fun h => (gd_ne h).1) (c11_led X l hfl a0 x1 x2 M) (by decide) (by decide) (by decide) rfl (Nat.le_of_ble_eq_true rfl) dL_led_5 rfl (fun k9 M9 => ?_) (fun v_1 => ?_)
  · refine g_caught_if (fun _ => ?_) (fun _ => ?_)
    · refine g_caught B hS9 [] ⟨0, 10, 13, 24⟩ [] (by rw [hxt]; rfl) (fun z hz => absurd hz List.not_mem_nil) (by decide) (by decide) wd_1077 (fun q9 => ?_)
      refine g_astore (lv' := [(4, .ref q9)]) B dL_led_13 (by decide) [0] rfl ?_
      refine g_iconst (v := 1) B dL_led_15 (by decide) ?_
      exact g_ireturn B hr rfl (by decide) (by decide) rfl dL_led_16
    · exact g_caught_none
  refine g_i2l B dL_led_8 ?_
  refine g_lastore B dL_led_9 (fun M_2 => ?_)
  refine g_goto B 17 dL_led_10 (by decide) ?_
  refine g_iconst (v := 0) B dL_led_17 (by decide) ?_
  exact g_ireturn B hr rfl (by decide) (by decide) rfl dL_led_18
theorem oL_led (X : gX) (l : Launch) (hfl : l.stackTraces = false) (a0 : Nat) (x1 : Int32) (x2 : Int32) (a3 : Nat) (M : mMem) : wCon X l yL_led cL_led 5 (some .int) [((0 : Nat), (10 : Nat), (13 : Nat), (24 : Nat))] rmL_led (fun r9 : (Int32 × mMem) => (some (.int r9.1), r9.2)) [.ref a0, .int x1, .int x2, .ref a3] M (pL_led a0 x1 x2 a3 M) := g_wcon (own := RL) (by decide +kernel) rfl (Nat.le_of_ble_eq_true rfl) (fun p e s m args below meth c B hS9 hr hxt => gL_led B hS9 hr hfl hxt a0 x1 x2 a3 M)
theorem mfL_log : gMW yL_log cL_log 5 (some .int) [((0 : Nat), (10 : Nat), (13 : Nat), (26 : Nat))] 4 := ⟨wd_1625, wd_0, ⟨by decide, by decide⟩, by decide +kernel⟩
set_option maxRecDepth 20000 in
set_option maxHeartbeats 2000000 in
theorem gL_log {X : gX} {p : Program} {l : Launch} {e : Env} {s : State} {m : MethodId} {args : Array Value} {below : List Frame} {meth : Method} {c : Code} (B : gB X p (rmL_log) s m args meth c RL cL_log 5 (rmL_log)) (hS9 : gS X s) (hr : meth.sig.returnType = some .int) (hfl : l.stackTraces = false) (hxt : c.exceptionTable.toList = tableOf [((0 : Nat), (10 : Nat), (13 : Nat), (26 : Nat))]) (a0 : Nat) (x1 : Int32) (x2 : Int32) (a3 : Nat) (M : mMem) : GG X p l e (rmL_log) s m args below meth c (gP X below args s 1 6 (fun r9 : (Int32 × mMem) => (some (.int r9.1), r9.2))) 5 0 0 0 [(0, .ref a0), (1, .int x1), (2, .int x2), (3, .ref a3)] [] M (pL_log a0 x1 x2 a3 M) := by
  unfold pL_log
  refine g_aload_n B dL_log_0 3 rfl ?_
  refine g_iconst (v := 0) B dL_log_1 (by decide) ?_
  refine g_aload_n B dL_log_2 0 rfl ?_
  refine g_iload_n B dL_log_3 1 rfl ?_
  refine g_iload_n B dL_log_4 2 rfl ?_
  refine g_xc_ip [.int x1, .int x2] (ci := 10) (T0 := TX11) (N := 18) B hS9 mf11_log wd_1627 (gw B wd_1628) wd_1626 (by decide) rfl (fun h => (gd_ne h).1) (c11_log X l hfl a0 x1 x2 M) (by decide) (by decide) (by decide) rfl (Nat.le_of_ble_eq_true rfl) dL_log_5 rfl (fun k9 M9 => ?_) (fun v_1 => ?_)
  · refine g_caught_if (fun _ => ?_) (fun _ => ?_)
    · refine g_caught B hS9 [] ⟨0, 10, 13, 26⟩ [] (by rw [hxt]; rfl) (fun z hz => absurd hz List.not_mem_nil) (by decide) (by decide) wd_1078 (fun q9 => ?_)
      refine g_astore (lv' := [(4, .ref q9)]) B dL_log_13 (by decide) [0] rfl ?_
      refine g_iconst (v := 1) B dL_log_15 (by decide) ?_
      exact g_ireturn B hr rfl (by decide) (by decide) rfl dL_log_16
    · exact g_caught_none
  refine g_i2l B dL_log_8 ?_
  refine g_lastore B dL_log_9 (fun M_2 => ?_)
  refine g_goto B 17 dL_log_10 (by decide) ?_
  refine g_iconst (v := 0) B dL_log_17 (by decide) ?_
  exact g_ireturn B hr rfl (by decide) (by decide) rfl dL_log_18
theorem oL_log (X : gX) (l : Launch) (hfl : l.stackTraces = false) (a0 : Nat) (x1 : Int32) (x2 : Int32) (a3 : Nat) (M : mMem) : wCon X l yL_log cL_log 5 (some .int) [((0 : Nat), (10 : Nat), (13 : Nat), (26 : Nat))] rmL_log (fun r9 : (Int32 × mMem) => (some (.int r9.1), r9.2)) [.ref a0, .int x1, .int x2, .ref a3] M (pL_log a0 x1 x2 a3 M) := g_wcon (own := RL) (by decide +kernel) rfl (Nat.le_of_ble_eq_true rfl) (fun p e s m args below meth c B hS9 hr hxt => gL_log B hS9 hr hfl hxt a0 x1 x2 a3 M)
