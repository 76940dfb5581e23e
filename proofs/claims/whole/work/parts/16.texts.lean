/-! the String constants: length and signs -/
def sLen (s : Nat) : Option Int32 := if s < gsN then some (Int32.ofNat (gsLen.getD s 0)) else none
def sAt (s : Nat) (j : Int32) : Option Int32 := if s < gsN ∧ 0 ≤ j ∧ j.toNatClampNeg < gsLen.getD s 0 then some ((gsByt.getD s []).getD j.toNatClampNeg 0) else none
def bindC (v : Int32) : Option Int32 := if narrow .char (.int v) = .int v then some v else none
section GT
variable {X : gX} {p : Program} {l : Launch} {e : Env} {R : Room} {s : State} {m : MethodId} {args : Array Value} {below : List Frame} {meth : Method} {c : Code} {α : Type} {Φ : Option α → State → Prop} {nL cells slots pc : Nat} {lv : List (Nat × Value)} {st : List Value} {M : mMem} {own : String} {cc : ByteArray} {rm : Room}
theorem g_ldc_w {index : Nat} {v : Int32} {T : Option α} (B : gB X p R s m args meth c own cc nL rm) (hd : decode cc pc = .ok (.ldc_w index, 3)) (hw : Cond.constant own index v ∈ gTbl) (kk : GG X p l e R s m args below meth c Φ nL cells slots (pc + 3) lv (.int v :: st) M T) : GG X p l e R s m args below meth c Φ nL cells slots pc lv st M T := fun hT H locs ls hH hS hl => lv_ldcw B.1 B.2.1 B.2.2.2.1 (gw B hw) hd (kk hT H locs ls hH hS hl)
theorem g_ldcwS0 {T : State} {locs : List Loc} (X0 : Stand p l e R s m args below meth c T locs cells slots) (hexec : p.tables.exec = Jvm.exec) {text : String} {index : Nat} {a : Addr} (hown : s.vm.findClass own = some m.cls)
    (hconst : (Cond.stringRef own index text).before #[] s = true) (hev : (Term.string own index).eval #[] s none [] s = some (.ref a)) {g : JFrame} (hg : g.method = m) (hdg : decode c.code g.pc = .ok (.ldc_w index, 3)) :
    ∀ target, Steps p.tables e below (T.setTop { g with pc := g.pc + 3, stack := .ref a :: g.stack }) target → Steps p.tables e below (T.setTop g) target := by
  obtain ⟨k, cf, i, a', hk, hcf, hcp, -, hr, hev'⟩ := Cond.stringRef_spec hown hconst
  cases hev.symm.trans hev'
  obtain ⟨k', hk', he⟩ := X0.warmed.alike.2.2 _ _ hk
  have hr' : k'.resolved[index]? = some (some (.string a)) := by
    rcases X0.warmed.entry hk hk' index with h | ⟨h, -⟩
    · rw [h]; exact hr
    · rw [hr] at h; cases h
  intro target hrest
  subst hg
  jvm_step X0.here [hexec, hdg, ldc_w.wp_string (e := e) (s := T) (f := g) X0.here.top hk' (by rw [he]; exact hcf) hcp hr']
  exact hrest
theorem g_ldc_wS {index : Nat} {tx : String} {i : Nat} {T : Option α} (B : gB X p R s m args meth c own cc nL rm) (hS9 : gS X s) (hd : decode cc pc = .ok (.ldc_w index, 3)) (hq : (own, index, tx, i) ∈ gsCon) (kk : GG X p l e R s m args below meth c Φ nL cells slots (pc + 3) lv (.ref (X.2.2.2.1 i) :: st) M T) : GG X p l e R s m args below meth c Φ nL cells slots pc lv st M T := by
  intro hT H locs ls hH hS hl T0 hT0 X0
  obtain ⟨t, a1, b1⟩ := kk hT H locs ls hH hS hl T0 hT0 X0
  have hq2 := hS9.2.1 _ hq
  exact ⟨t, g_ldcwS0 X0 B.1 (text := tx) (a := X.2.2.2.1 i) B.2.2.2.1 hq2.1 hq2.2 (g := F0 m pc ls st) rfl (by rw [B.2.1]; exact hd) t a1, b1⟩
theorem g_eqT' {T T' : Option α} (h : T' = T) (kk : GG X p l e R s m args below meth c Φ nL cells slots pc lv st M T') : GG X p l e R s m args below meth c Φ nL cells slots pc lv st M T := h ▸ kk
theorem g_sval {i index : Nat} {T : Option α} (B : gB X p R s m args meth c own cc nL rm) (hS9 : gS X s) (hi : i < gsN) (hl0 : Cond.fieldLink own index "java/lang/String" "value" "[B" ∈ gTbl) (hd : decode cc pc = .ok (.getfield index, 3)) (kk : GG X p l e R s m args below meth c Φ nL cells slots (pc + 3) lv (.ref (X.2.2.2.2 i) :: st) M T) : GG X p l e R s m args below meth c Φ nL cells slots pc lv (.ref (X.2.2.2.1 i) :: st) M T := fun hT H locs ls hH hS hl => vk_getf B.1 B.2.1 (hS9.1.1 i hi).2.2.1 hS B.2.2.2.1 (gw B hl0) (fun _ h => h) hd (kk hT H locs ls hH hS hl)
theorem g_scod {i index : Nat} {T : Option α} (B : gB X p R s m args meth c own cc nL rm) (hS9 : gS X s) (hi : i < gsN) (hl0 : Cond.fieldLink own index "java/lang/String" "coder" "B" ∈ gTbl) (hd : decode cc pc = .ok (.getfield index, 3)) (kk : GG X p l e R s m args below meth c Φ nL cells slots (pc + 3) lv (.int 0 :: st) M T) : GG X p l e R s m args below meth c Φ nL cells slots pc lv (.ref (X.2.2.2.1 i) :: st) M T := fun hT H locs ls hH hS hl => vk_getf B.1 B.2.1 (hS9.1.1 i hi).2.1 hS B.2.2.2.1 (gw B hl0) (fun _ h => h) hd (kk hT H locs ls hH hS hl)
theorem g_scomp {index : Nat} {T : Option α} (B : gB X p R s m args meth c own cc nL rm) (hS9 : gS X s) (hl0 : Cond.fieldLink own index "java/lang/String" "COMPACT_STRINGS" "Z" ∈ gTbl) (hd : decode cc pc = .ok (.getstatic index, 3)) (kk : GG X p l e R s m args below meth c Φ nL cells slots (pc + 3) lv (.int 1 :: st) M T) : GG X p l e R s m args below meth c Φ nL cells slots pc lv st M T := fun hT H locs ls hH hS hl => va_gets B.1 B.2.1 hS9.2.2.2.2.2.2.2.1 hS B.2.2.2.1 (gw B hl0) (fun _ h => h) hd (kk hT H locs ls hH hS hl)
theorem g_sfmt {index : Nat} {T : Option α} (B : gB X p R s m args meth c own cc nL rm) (hS9 : gS X s) (hl0 : Cond.fieldLink own index "jdk/internal/util/Preconditions" "SIOOBE_FORMATTER" "Ljava/util/function/BiFunction;" ∈ gTbl) (hd : decode cc pc = .ok (.getstatic index, 3)) (kk : ∀ v : Value, (v = .null ∨ ∃ t, v = .ref t) → GG X p l e R s m args below meth c Φ nL cells slots (pc + 3) lv (v :: st) M T) : GG X p l e R s m args below meth c Φ nL cells slots pc lv st M T := fun hT H locs ls hH hS hl => by
  rcases hS9.2.2.2.2.2.2.2.2.1 with h | ⟨t, h⟩
  · exact va_gets B.1 B.2.1 h hS B.2.2.2.1 (gw B hl0) (fun _ h => h) hd (kk .null (Or.inl rfl) hT H locs ls hH hS hl)
  · exact va_gets B.1 B.2.1 h hS B.2.2.2.1 (gw B hl0) (fun _ h => h) hd (kk (.ref t) (Or.inr ⟨t, rfl⟩) hT H locs ls hH hS hl)
theorem g_salen {i : Nat} {T : Option α} (B : gB X p R s m args meth c own cc nL rm) (hS9 : gS X s) (hi : i < gsN) (hd : decode cc pc = .ok (.arraylength, 1)) (kk : GG X p l e R s m args below meth c Φ nL cells slots (pc + 1) lv (.int (Int32.ofNat (gsLen.getD i 0)) :: st) M T) : GG X p l e R s m args below meth c Φ nL cells slots pc lv (.ref (X.2.2.2.2 i) :: st) M T := fun hT H locs ls hH hS hl => va_tlen B.1 B.2.1 (hS9.1.1 i hi).2.2.2 hS rfl hd (kk hT H locs ls hH hS hl)
theorem g_sabld {i : Nat} {j : Int32} {T : Option α} (B : gB X p R s m args meth c own cc nL rm) (hS9 : gS X s) (hi : i < gsN) (hj : 0 ≤ j ∧ j.toNatClampNeg < gsLen.getD i 0) (hd : decode cc pc = .ok (.baload, 1)) (kk : GG X p l e R s m args below meth c Φ nL cells slots (pc + 1) lv (.int ((gsByt.getD i []).getD j.toNatClampNeg 0) :: st) M T) : GG X p l e R s m args below meth c Φ nL cells slots pc lv (.int j :: .ref (X.2.2.2.2 i) :: st) M T := fun hT H locs ls hH hS hl => va_tb B.1 B.2.1 (hS9.1.1 i hi).2.2.2 hS (g_in hj) rfl hd (kk hT H locs ls hH hS hl)
/-- a call on a String constant -/
theorem g_callT {β : Type} {rb : β → Option Value × mMem} {P : Option β} {t : β → Option α} {y : MethodName} {cb : ByteArray} {maxL n index : Nat} {rt : Option FieldType} {rmC : Room} (As : List Value) {i : Nat} (B : gB X p R s m args meth c own cc nL rm) (hS9 : gS X s) (mf : gMF y cb maxL rt n) (hin : Cond.instanceMethod y ∈ gTbl) (hse : Cond.selects "java/lang/String" y y ∈ gTbl) (hl : Cond.methodLink own index y ∈ gTbl) (hk : P ≠ none → i < gsN) (con : Con X l y cb maxL rt rmC rb (.ref (X.2.2.2.1 i) :: As) M P) (hf : rmC.frames + 1 ≤ rm.frames) (hlo : 8 + (maxL + 11) + rmC.locals ≤ rm.locals) (h0 : rmC.cells = 0 ∧ rmC.slots = 0) (hcs : cells ≤ rm.cells ∧ slots ≤ rm.slots) (hn : As.length = n) (hw : (st.map fun v => v.category).sum ≤ 8) (hd : decode cc pc = .ok (.invokevirtual index, 3)) {st0 : List Value} (hst0 : st0 = As.reverse ++ .ref (X.2.2.2.1 i) :: st)
    (kk : ∀ r, GG X p l e R s m args below meth c Φ nL cells slots (pc + 3) lv ((rb r).1.toList ++ st) (rb r).2 (t r)) : GG X p l e R s m args below meth c Φ nL cells slots pc lv st0 M (P.bind t) := by
  refine g_run (mc := 0) (ms := 0) (a := (Value.ref (X.2.2.2.1 i) :: As).toArray) (fun hP H locs ls hH hS hl9 => ?_) kk
  have hb := B.2.2.2.2.2.2.2.1
  have hp := g_pre B hS9 hH hS (.ref (X.2.2.2.1 i) :: As)
  have hc := con hP
  have hcb := g_callB (rmC := rmC) B mf hl hf hlo
  rw [h0.1, h0.2] at hc hcb
  exact va_runV (gB_fix B) hc ⟨hcb, gw B hin, gw B hse⟩ ⟨hp.1, vk_recv hS9.1 (hk hP) hS, hp.2⟩ rfl hn hl9.1 hst0 (lv_room hw) hd ⟨Nat.le_trans hcs.1 hb.2.1, Nat.le_trans hcs.2 hb.2.2.1⟩
end GT
theorem con_if {X : gX} {l : Launch} {y : MethodName} {cb : ByteArray} {maxL : Nat} {rt : Option FieldType} {rmC : Room} {β : Type} {rb : β → Option Value × mMem} {As : List Value} {M : mMem} {v : β} {q : Prop} [Decidable q] (h : q → Con X l y cb maxL rt rmC rb As M (some v)) : Con X l y cb maxL rt rmC rb As M (if q then some v else none) := by
  by_cases hq : q
  · rw [if_pos hq]; exact h hq
  · rw [if_neg hq]; exact fun z => absurd rfl z
theorem gs_chr : ∀ i, i < gsN → ∀ j, j < gsLen.getD i 0 → i2c (((gsByt.getD i []).getD j 0) &&& 255) = (gsByt.getD i []).getD j 0 ∧ narrow .char (.int ((gsByt.getD i []).getD j 0)) = .int ((gsByt.getD i []).getD j 0) := by decide +kernel
theorem gs_len : ∀ i, i < gsN → Int32.ofNat (gsLen.getD i 0) >>> ((0 : Int32) &&& 31) = Int32.ofNat (gsLen.getD i 0) ∧ gsLen.getD i 0 < 100 := by decide +kernel
abbrev rmT0 : Room := { frames := 0, cells := 0, slots := 0, locals := 0 }
abbrev rmT1 : Room := { frames := 1, cells := 0, slots := 0, locals := 40 }
abbrev rmT2 : Room := { frames := 2, cells := 0, slots := 0, locals := 80 }
abbrev rmT3 : Room := { frames := 3, cells := 0, slots := 0, locals := 120 }
theorem mfT_coder : gMF yJ0_coder_7d493 cJ0_coder_7d493 1 (some .byte) 0 := ⟨wd_776, wd_16, ⟨by decide, by decide⟩, by decide +kernel⟩
theorem mfT_isLatin1 : gMF yJ0_isLatin1_aae02 cJ0_isLatin1_aae02 1 (some .boolean) 0 := ⟨wd_786, wd_16, ⟨by decide, by decide⟩, by decide +kernel⟩
theorem mfT_length : gMF yJ0_length_8abf5 cJ0_length_8abf5 1 (some .int) 0 := ⟨wd_772, wd_16, ⟨by decide, by decide⟩, by decide +kernel⟩
theorem mfT_charAt : gMF yJ0_charAt_5068e cJ0_charAt_5068e 2 (some .char) 1 := ⟨wd_782, wd_16, ⟨by decide, by decide⟩, by decide +kernel⟩
theorem mfT_checkIndex : gMF yJ0_checkIndex_df160 cJ0_checkIndex_df160 2 none 2 := ⟨wd_792, wd_16, ⟨by decide, by decide⟩, by decide +kernel⟩
theorem mfT_lcharAt : gMF yJ1_charAt_3b067 cJ1_charAt_3b067 2 (some .char) 2 := ⟨wd_789, wd_17, ⟨by decide, by decide⟩, by decide +kernel⟩
theorem mfT_pre : gMF yJ3_checkIndex_8e157 cJ3_checkIndex_8e157 3 (some .int) 3 := ⟨wd_797, wd_18, ⟨by decide, by decide⟩, by decide +kernel⟩
theorem cT_coder (X : gX) (l : Launch) (i : Nat) (M : mMem) : Con X l yJ0_coder_7d493 cJ0_coder_7d493 1 (some .byte) rmT0 (fun r : Int32 => (some (.int r), M)) [.ref (X.2.2.2.1 i)] M (if i < gsN then some 0 else none) := con_if fun hi => g_con (own := RJ0) (by decide +kernel) rfl (Nat.le_of_ble_eq_true rfl) (fun p e s m args below meth c B hS9 hr hn => by
  refine g_scomp B hS9 wd_777 dJ0_coder_7d493_0 ?_
  refine g_eqT' (T' := if (1 : Int32) = 0 then none else some 0) (if_neg (by decide)) ?_
  refine g_if_eq B 13 dJ0_coder_7d493_3 (by decide) g_none ?_
  refine g_aload_n B dJ0_coder_7d493_6 0 rfl ?_
  refine g_scod B hS9 hi wd_2410 dJ0_coder_7d493_7 ?_
  refine g_goto B 14 dJ0_coder_7d493_10 (by decide) ?_
  exact g_ireturn B hr rfl (by decide) (by decide) rfl dJ0_coder_7d493_14)
theorem cT_isLatin1 (X : gX) (l : Launch) (i : Nat) (M : mMem) : Con X l yJ0_isLatin1_aae02 cJ0_isLatin1_aae02 1 (some .boolean) rmT0 (fun r : Int32 => (some (.int r), M)) [.ref (X.2.2.2.1 i)] M (if i < gsN then some 1 else none) := con_if fun hi => g_con (own := RJ0) (by decide +kernel) rfl (Nat.le_of_ble_eq_true rfl) (fun p e s m args below meth c B hS9 hr hn => by
  refine g_scomp B hS9 wd_777 dJ0_isLatin1_aae02_0 ?_
  refine g_eqT' (T' := if (1 : Int32) = 0 then none else some 1) (if_neg (by decide)) ?_
  refine g_if_eq B 17 dJ0_isLatin1_aae02_3 (by decide) g_none ?_
  refine g_aload_n B dJ0_isLatin1_aae02_6 0 rfl ?_
  refine g_scod B hS9 hi wd_2410 dJ0_isLatin1_aae02_7 ?_
  refine g_eqT' (T' := if (0 : Int32) = 0 then some 1 else none) (if_pos rfl) ?_
  refine g_if_ne B 17 dJ0_isLatin1_aae02_10 (by decide) ?_ g_none
  refine g_iconst (v := 1) B dJ0_isLatin1_aae02_13 (by decide) ?_
  refine g_goto B 18 dJ0_isLatin1_aae02_14 (by decide) ?_
  exact g_ireturn B hr rfl (by decide) (by decide) rfl dJ0_isLatin1_aae02_18)
theorem cT_length (X : gX) (l : Launch) (i : Nat) (M : mMem) : Con X l yJ0_length_8abf5 cJ0_length_8abf5 1 (some .int) rmT1 (fun r : Int32 => (some (.int r), M)) [.ref (X.2.2.2.1 i)] M (sLen i) := con_if fun hi => g_con (own := RJ0) (by decide +kernel) rfl (Nat.le_of_ble_eq_true rfl) (fun p e s m args below meth c B hS9 hr hn => by
  refine g_aload_n B dJ0_length_8abf5_0 0 rfl ?_
  refine g_sval B hS9 hi wd_2409 dJ0_length_8abf5_1 ?_
  refine g_salen B hS9 hi dJ0_length_8abf5_4 ?_
  refine g_aload_n B dJ0_length_8abf5_5 0 rfl ?_
  refine g_eqT' (T' := (if i < gsN then some (0 : Int32) else none).bind fun v => some (Int32.ofNat (gsLen.getD i 0) >>> (v &&& 31))) (by rw [if_pos hi, Option.bind_some, (gs_len i hi).1]) ?_
  refine g_callT [] B hS9 mfT_coder wd_774 wd_775 wd_773 (fun _ => hi) (cT_coder X l i M) (by decide) (by decide) ⟨rfl, rfl⟩ (by decide) rfl (Nat.le_of_ble_eq_true rfl) dJ0_length_8abf5_6 rfl (fun v => ?_)
  refine g_ishr (x := Int32.ofNat (gsLen.getD i 0)) (y := v) B dJ0_length_8abf5_9 ?_
  exact g_ireturn B hr rfl (by decide) (by decide) rfl dJ0_length_8abf5_10)
theorem cT_pre (X : gX) (l : Launch) (j n : Int32) (v : Value) (hv : v = .null ∨ ∃ t, v = .ref t) (M : mMem) : Con X l yJ3_checkIndex_8e157 cJ3_checkIndex_8e157 3 (some .int) rmT0 (fun r : Int32 => (some (.int r), M)) [.int j, .int n, v] M (if 0 ≤ j ∧ j < n then some j else none) := con_if fun hj => g_con (own := RJ3) (by decide +kernel) rfl (by rcases hv with rfl | ⟨t, rfl⟩ <;> exact Nat.le_of_ble_eq_true rfl) (fun p e s m args below meth c B hS9 hr hn => by
  refine g_sub (lv' := [(0, .int j), (1, .int n)]) [0, 1] (by rcases hv with rfl | ⟨t, rfl⟩ <;> rfl) ?_
  refine g_iload_n B dJ3_checkIndex_8e157_0 0 rfl ?_
  refine g_eqT' (T' := if j < 0 then none else some j) (if_neg (Int32.not_lt.mpr hj.1)) ?_
  refine g_if_lt B 9 dJ3_checkIndex_8e157_1 (by decide) g_none ?_
  refine g_iload_n B dJ3_checkIndex_8e157_4 0 rfl ?_
  refine g_iload_n B dJ3_checkIndex_8e157_5 1 rfl ?_
  refine g_eqT' (T' := if j < n then some j else none) (if_pos hj.2) ?_
  refine g_icmp_lt B 16 dJ3_checkIndex_8e157_6 (by decide) ?_ g_none
  refine g_iload_n B dJ3_checkIndex_8e157_16 0 rfl ?_
  exact g_ireturn B hr rfl (by decide) (by decide) rfl dJ3_checkIndex_8e157_17)
theorem cT_checkIndex (X : gX) (l : Launch) (j n : Int32) (M : mMem) : Con X l yJ0_checkIndex_df160 cJ0_checkIndex_df160 2 none rmT1 (fun _ : Unit => (none, M)) [.int j, .int n] M (if 0 ≤ j ∧ j < n then some () else none) := con_if fun hj => g_con (own := RJ0) (by decide +kernel) rfl (Nat.le_of_ble_eq_true rfl) (fun p e s m args below meth c B hS9 hr hn => by
  refine g_iload_n B dJ0_checkIndex_df160_0 0 rfl ?_
  refine g_iload_n B dJ0_checkIndex_df160_1 1 rfl ?_
  refine g_sfmt B hS9 wd_793 dJ0_checkIndex_df160_2 (fun v hv => ?_)
  refine g_eqT' (T' := (if 0 ≤ j ∧ j < n then some j else none).bind fun _ => some ()) (by rw [if_pos hj, Option.bind_some]) ?_
  refine g_callS_ip [.int j, .int n, v] B hS9 mfT_pre wd_796 wd_795 (cT_pre X l j n v hv M) (by decide) (by decide) (by decide) rfl (Nat.le_of_ble_eq_true rfl) dJ0_checkIndex_df160_5 rfl (fun v2 => ?_)
  refine g_pop B dJ0_checkIndex_df160_8 rfl ?_
  exact g_vreturn B hr (by decide) (by decide) rfl dJ0_checkIndex_df160_9)
theorem cT_lcharAt (X : gX) (l : Launch) (i : Nat) (j : Int32) (M : mMem) : Con X l yJ1_charAt_3b067 cJ1_charAt_3b067 2 (some .char) rmT2 (fun r : Int32 => (some (.int r), M)) [.ref (X.2.2.2.2 i), .int j] M (sAt i j) := con_if fun hj => g_con (own := RJ1) (by decide +kernel) rfl (Nat.le_of_ble_eq_true rfl) (fun p e s m args below meth c B hS9 hr hn => by
  have hj3 : 0 ≤ j ∧ j < Int32.ofNat (gsLen.getD i 0) := by
    refine ⟨hj.2.1, Int32.lt_iff_toInt_lt.mpr ?_⟩
    have h1 := (gs_len i hj.1).2
    have h2 := hj.2.2
    have h3 : (0 : Int) ≤ j.toInt := by simpa using Int32.le_iff_toInt_le.mp hj.2.1
    have h4 : (Int32.ofNat (gsLen.getD i 0)).toInt = (gsLen.getD i 0 : Int) := Int32.toInt_ofNat_of_lt (by omega)
    rw [h4]
    have h5 : j.toNatClampNeg = j.toInt.toNat := rfl
    omega
  refine g_iload_n B dJ1_charAt_3b067_0 1 rfl ?_
  refine g_aload_n B dJ1_charAt_3b067_1 0 rfl ?_
  refine g_salen B hS9 hj.1 dJ1_charAt_3b067_2 ?_
  refine g_eqT' (T' := (if 0 ≤ j ∧ j < Int32.ofNat (gsLen.getD i 0) then some () else none).bind fun _ => some ((gsByt.getD i []).getD j.toNatClampNeg 0)) (by rw [if_pos hj3, Option.bind_some]) ?_
  refine g_callS_vp [.int j, .int (Int32.ofNat (gsLen.getD i 0))] B hS9 mfT_checkIndex wd_791 wd_790 (cT_checkIndex X l j _ M) (by decide) (by decide) (by decide) rfl (Nat.le_of_ble_eq_true rfl) dJ1_charAt_3b067_3 rfl (fun _ => ?_)
  refine g_aload_n B dJ1_charAt_3b067_6 0 rfl ?_
  refine g_iload_n B dJ1_charAt_3b067_7 1 rfl ?_
  refine g_sabld B hS9 hj.1 hj.2 dJ1_charAt_3b067_8 ?_
  refine g_sipush (v := 255) B dJ1_charAt_3b067_9 (by decide) ?_
  refine g_iand B dJ1_charAt_3b067_12 ?_
  refine g_i2c B dJ1_charAt_3b067_13 ?_
  rw [(gs_chr i hj.1 _ hj.2.2).1]
  exact g_ireturn B hr (gs_chr i hj.1 _ hj.2.2).2 (by decide) (by decide) rfl dJ1_charAt_3b067_14)
theorem cT_charAt (X : gX) (l : Launch) (i : Nat) (j : Int32) (M : mMem) : Con X l yJ0_charAt_5068e cJ0_charAt_5068e 2 (some .char) rmT3 (fun r : Int32 => (some (.int r), M)) [.ref (X.2.2.2.1 i), .int j] M (sAt i j) := con_if fun hj => g_con (own := RJ0) (by decide +kernel) rfl (Nat.le_of_ble_eq_true rfl) (fun p e s m args below meth c B hS9 hr hn => by
  refine g_aload_n B dJ0_charAt_5068e_0 0 rfl ?_
  refine g_eqT' (T' := (if i < gsN then some (1 : Int32) else none).bind fun v => if v = 0 then none else some ((gsByt.getD i []).getD j.toNatClampNeg 0)) (by rw [if_pos hj.1, Option.bind_some, if_neg (by decide)]) ?_
  refine g_callT [] B hS9 mfT_isLatin1 wd_784 wd_785 wd_783 (fun _ => hj.1) (cT_isLatin1 X l i M) (by decide) (by decide) ⟨rfl, rfl⟩ (by decide) rfl (Nat.le_of_ble_eq_true rfl) dJ0_charAt_5068e_1 rfl (fun v => ?_)
  refine g_if_eq (x := v) B 16 dJ0_charAt_5068e_4 (by decide) g_none ?_
  refine g_aload_n B dJ0_charAt_5068e_7 0 rfl ?_
  refine g_sval B hS9 hj.1 wd_2409 dJ0_charAt_5068e_8 ?_
  refine g_iload_n B dJ0_charAt_5068e_11 1 rfl ?_
  refine g_eqT' (T' := (sAt i j).bind fun v => bindC v) (by unfold sAt; rw [if_pos hj, Option.bind_some]; exact if_pos (gs_chr i hj.1 _ hj.2.2).2) ?_
  refine g_callS_ip [.ref (X.2.2.2.2 i), .int j] B hS9 mfT_lcharAt wd_788 wd_787 (cT_lcharAt X l i j M) (by decide) (by decide) (by decide) rfl (Nat.le_of_ble_eq_true rfl) dJ0_charAt_5068e_12 rfl (fun v2 => ?_)
  unfold bindC
  by_cases hn2 : narrow .char (.int v2) = .int v2
  · rw [if_pos hn2]
    exact g_ireturn B hr hn2 (by decide) (by decide) rfl dJ0_charAt_5068e_15
  · rw [if_neg hn2]
    exact g_none)
section GT2
variable {X : gX} {p : Program} {l : Launch} {e : Env} {R : Room} {s : State} {m : MethodId} {args : Array Value} {below : List Frame} {meth : Method} {c : Code} {α : Type} {Φ : Option α → State → Prop} {nL cells slots pc : Nat} {lv : List (Nat × Value)} {st : List Value} {M : mMem} {own : String} {cc : ByteArray} {rm : Room}
theorem g_slen {i index : Nat} {t : Int32 → Option α} (B : gB X p R s m args meth c own cc nL rm) (hS9 : gS X s) (hl : Cond.methodLink own index yJ0_length_8abf5 ∈ gTbl) (hf : 3 ≤ rm.frames) (hlo : 120 ≤ rm.locals) (hcs : cells ≤ rm.cells ∧ slots ≤ rm.slots) (hw : (st.map fun v => v.category).sum ≤ 8) (hd : decode cc pc = .ok (.invokevirtual index, 3)) (kk : ∀ v, GG X p l e R s m args below meth c Φ nL cells slots (pc + 3) lv (.int v :: st) M (t v)) : GG X p l e R s m args below meth c Φ nL cells slots pc lv (.ref (X.2.2.2.1 i) :: st) M ((sLen i).bind t) :=
  g_callT (rmC := rmT1) [] B hS9 mfT_length wd_770 wd_771 hl (fun h => by unfold sLen at h; by_cases q : i < gsN; exact q; rw [if_neg q] at h; exact absurd rfl h) (cT_length X l i M) (Nat.le_trans (by decide) hf) (Nat.le_trans (by decide) hlo) ⟨rfl, rfl⟩ hcs rfl hw hd rfl kk
theorem g_sat {i index : Nat} {j : Int32} {t : Int32 → Option α} (B : gB X p R s m args meth c own cc nL rm) (hS9 : gS X s) (hl : Cond.methodLink own index yJ0_charAt_5068e ∈ gTbl) (hf : 6 ≤ rm.frames) (hlo : 240 ≤ rm.locals) (hcs : cells ≤ rm.cells ∧ slots ≤ rm.slots) (hw : (st.map fun v => v.category).sum ≤ 8) (hd : decode cc pc = .ok (.invokevirtual index, 3)) (kk : ∀ v, GG X p l e R s m args below meth c Φ nL cells slots (pc + 3) lv (.int v :: st) M (t v)) : GG X p l e R s m args below meth c Φ nL cells slots pc lv (.int j :: .ref (X.2.2.2.1 i) :: st) M ((sAt i j).bind t) :=
  g_callT (rmC := rmT3) [.int j] B hS9 mfT_charAt wd_780 wd_781 hl (fun h => by unfold sAt at h; by_cases q : i < gsN ∧ 0 ≤ j ∧ j.toNatClampNeg < gsLen.getD i 0; exact q.1; rw [if_neg q] at h; exact absurd rfl h) (cT_charAt X l i j M) (Nat.le_trans (by decide) hf) (Nat.le_trans (by decide) hlo) ⟨rfl, rfl⟩ hcs rfl hw hd rfl kk
end GT2
