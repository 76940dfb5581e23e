/-! the start of the law: what the tables and the premises say of the machine -/
def tmO : List (String × Nat) := [("CribLine$Reader", 100), ("CribLine$Reader", 106), ("CribLine$Reader", 108), ("CribLine$Reader", 110), ("CribLine$Reader", 112), ("CribLine$Reader", 114), ("CribLine$Reader", 116), ("CribLine$Reader", 118), ("CribLine$Reader", 120), ("CribLine$Reader", 122), ("CribLine$Reader", 124), ("CribLine$Reader", 126), ("CribLine$Reader", 128), ("CribLine$Reader", 130), ("CribLine$Reader", 132), ("CribLine$Reader", 134), ("CribLine$Reader", 136), ("CribLine$Reader", 138), ("CribLine$Reader", 140), ("CribLine$Reader", 142), ("CribLine$Reader", 144), ("CribLine$Reader", 146), ("CribLine$Reader", 148), ("CribLine$Reader", 150), ("CribLine$Reader", 152), ("CribLine$Reader", 154), ("CribLine$Reader", 156), ("CribLine", 122), ("CribLine", 132), ("CribLine", 150), ("CribLine", 213), ("CribLine", 156), ("CribLine", 162), ("CribLine", 158), ("CribLine", 321)]
def tmS (i : Nat) : Term := Term.string (tmO.getD i ("", 0)).1 (tmO.getD i ("", 0)).2
def nrL : List Cond := flatC (Cond.and given_1 narrow_1)
def nrX : List Nat := [127, 137, 144, 152, 159, 165, 174, 183, 194, 205, 212, 221, 229, 237, 244, 250, 257, 265, 271, 277, 284, 291, 298, 306, 313, 321, 330, 339, 360, 382, 409, 434, 450, 466, 488]
def nrF (i : Nat) : Term := Term.field (tmS i) "java/lang/String" "value" "[B"
set_option maxRecDepth 100000 in
theorem nr_1 : (List.range 35).all (fun i => decide (nrL[nrX.getD i 0]? = some (Cond.exactly (tmS i) "java/lang/String"))) = true := by decide +kernel
set_option maxRecDepth 100000 in
theorem nr_2 : (List.range 35).all (fun i => decide (nrL[nrX.getD i 0 + 1]? = some (Cond.eq (.field (tmS i) "java/lang/String" "coder" "B") (.int 0)))) = true := by decide +kernel
set_option maxRecDepth 100000 in
theorem nr_3 : (List.range 35).all (fun i => decide (nrL[nrX.getD i 0 + 2]? = some (Cond.arrayOf (nrF i) .byte))) = true := by decide +kernel
set_option maxRecDepth 100000 in
theorem nr_4 : (List.range 35).all (fun i => decide (nrL[nrX.getD i 0 + 3]? = some (Cond.eq (.length (nrF i)) (.int (Int32.ofNat (gsLen.getD i 0)))))) = true := by decide +kernel
set_option maxRecDepth 100000 in
theorem nr_5 : (List.range 35).all (fun i => (List.range (gsLen.getD i 0)).all (fun j => decide (nrL[nrX.getD i 0 + 4 + j]? = some (Cond.eq (.elem (nrF i) (.int (Int32.ofNat j))) (.int ((gsByt.getD i []).getD j 0)))))) = true := by decide +kernel
theorem nr_6 : ∀ i < 35, gsLen.getD i 0 < 2 ^ 31 := by decide +kernel
theorem nr_7 : ∀ i < 35, ∀ j < 35, gsLen.getD i 0 = gsLen.getD j 0 → (∀ k < gsLen.getD i 0, (gsByt.getD i []).getD k 0 = (gsByt.getD j []).getD k 0) → i = j := by decide +kernel
theorem nr_at {f : Nat → Cond} {x : Nat → Nat} (h : (List.range 35).all (fun i => decide (nrL[x i]? = some (f i))) = true) {i : Nat} (hi : i < 35) : f i ∈ nrL :=
  List.mem_of_getElem? (of_decide_eq_true (List.all_eq_true.mp h i (List.mem_range.mpr hi)))
theorem mtk {w : Cond} {L : List Cond} (hk : ∀ w ∈ L, w ∈ tables_1) (i : Nat) (h : L[i]? = some w) : w ∈ lw_tbl := List.mem_append_right _ (hk w (List.mem_of_getElem? h))
/-- the same address: the same text -/
theorem vk_apart {adK adV : Nat → Nat} {A : Nat → Prop} {U : State} {H : Heap} (h : ∀ i : Nat, i < 35 → va_O "java/lang/String" (adK i) A U H ∧ va_OF "java/lang/String" "coder" "B" (.int 0) (adK i) A U H ∧ va_OF "java/lang/String" "value" "[B" (.ref (adV i)) (adK i) A U H ∧ va_T .byte (adV i) (gsLen.getD i 0) (fun j => .int ((gsByt.getD i []).getD j 0)) A U H) {i j : Nat} (hi : i < 35) (hj : j < 35) (e : adK i = adK j) : i = j := by
  obtain ⟨-, -, ⟨cf, k, q, f, cell, f1, -, f3, -, f5, -⟩, ⟨t, t1, -, -, -, t5, t6, -⟩⟩ := h i hi
  obtain ⟨-, -, ⟨cf', k', q', f', cell', g1, -, g3, -, g5, -⟩, ⟨t', t1', -, -, -, t5', t6', -⟩⟩ := h j hj
  rw [f1] at g1
  cases g1
  rw [e, g3] at f3
  cases f3
  rw [f5] at g5
  have ev : adV i = adV j := by
    simp only [Option.some.injEq, Value.ref.injEq] at g5
    first | exact g5 | exact g5.symm
  rw [ev, t1'] at t1
  cases t1
  have el : gsLen.getD i 0 = gsLen.getD j 0 := (i_eq (nr_6 i hi) (nr_6 j hj)).mp (t5.symm.trans t5')
  refine nr_7 i hi j hj el fun n hn => ?_
  have h1 := t6 n hn
  have h2 := t6' n (by rw [← el]; exact hn)
  rw [h1] at h2
  simp only [Option.some.injEq, Value.int.injEq] at h2
  first | exact h2 | exact h2.symm
theorem gs_strs {b : Nat} {s : State} (hs : ∀ w ∈ nrL, w.before #[Value.ref b] s = true) {A : Nat → Prop} (hA : ∀ a : Nat, a < s.heap.size → ¬ A a) : ∃ adK adV : Nat → Nat, vk_S gsN gsLen gsByt adK adV A s s.heap ∧ ∀ i : Nat, i < 35 → (tmS i).eval #[Value.ref b] s none [] s = some (.ref (adK i)) := by
  have h0 : ∀ i : Nat, ∃ q : Nat × Nat, i < 35 → (va_O "java/lang/String" q.1 A s s.heap ∧ va_OF "java/lang/String" "coder" "B" (.int 0) q.1 A s s.heap ∧ va_OF "java/lang/String" "value" "[B" (.ref q.2) q.1 A s s.heap ∧ va_T .byte q.2 (gsLen.getD i 0) (fun j => .int ((gsByt.getD i []).getD j 0)) A s s.heap) ∧ (tmS i).eval #[Value.ref b] s none [] s = some (.ref q.1) := by
    intro i
    by_cases hi : i < 35
    · obtain ⟨k, v, h1, h2⟩ := vk_Sof (args := #[Value.ref b]) (s := s) (N := 1) (tm := fun _ => tmS i) (len := [gsLen.getD i 0]) (byt := [gsByt.getD i []]) (A := A)
        (fun j hj => by obtain rfl : j = 0 := by omega
                        exact nr_6 i hi)
        (fun j hj => hs _ (nr_at (f := fun i => Cond.exactly (tmS i) "java/lang/String") (x := fun i => nrX.getD i 0) nr_1 hi))
        (fun j hj => hs _ (nr_at (f := fun i => Cond.eq (.field (tmS i) "java/lang/String" "coder" "B") (.int 0)) (x := fun i => nrX.getD i 0 + 1) nr_2 hi))
        (fun j hj => hs _ (nr_at (f := fun i => Cond.arrayOf (nrF i) .byte) (x := fun i => nrX.getD i 0 + 2) nr_3 hi))
        (fun j hj => by obtain rfl : j = 0 := by omega
                        exact hs _ (nr_at (f := fun i => Cond.eq (.length (nrF i)) (.int (Int32.ofNat (gsLen.getD i 0)))) (x := fun i => nrX.getD i 0 + 3) nr_4 hi))
        (fun j hj n hn => by obtain rfl : j = 0 := by omega
                             exact hs _ (List.mem_of_getElem? (of_decide_eq_true (List.all_eq_true.mp (List.all_eq_true.mp nr_5 i (List.mem_range.mpr hi)) n (List.mem_range.mpr hn)))))
        (fun i j hi hj h => absurd (by omega) h) hA
      exact ⟨(k 0, v 0), fun _ => ⟨h1.1 0 (by decide), h2 0 (by decide)⟩⟩
    · exact ⟨(0, 0), fun h => absurd h hi⟩
  obtain ⟨ad, had⟩ := Classical.axiomOfChoice h0
  exact ⟨fun i => (ad i).1, fun i => (ad i).2, ⟨fun i hi => (had i hi).1, fun i j hi hj e => vk_apart (fun i hi => (had i hi).1) hi hj e⟩, fun i hi => (had i hi).2⟩
theorem arr_of {args : Array Value} {s : State} {ty : FieldType} (h : (Cond.arrayClass ty).before args s = true) (hno : ∀ C, ty ≠ .object C) : ∃ c : ClassId, ArrOfT s c ty ∧ va_RA s c ty := by
  obtain ⟨c, k, comp, h1, h2, h3⟩ := Cond.arrayClass_spec (args := args) (first := s) (o := none) (s := s) (idx := []) (type := ty) h
  refine ⟨c, fun n z => ⟨fun k' h => absurd h (by cases ty <;> first | exact absurd rfl (hno _) | (intro h; cases h)), k, h2, comp, h3⟩, ?_⟩
  cases ty with
  | object C => exact absurd rfl (hno C)
  | _ => exact h1
theorem arr_ov {args : Array Value} {s : State} {C : String} (h : (Cond.arrayOver (.object C)).before args s = true) : ∃ c : ClassId, ArrOfT s c (.object C) ∧ va_RA s c (.object C) := by
  obtain ⟨comp, c, k, h1, -, h2, h3, h4⟩ := Cond.arrayOver_spec (args := args) (first := s) (o := none) (s := s) (idx := []) (n := C) h
  exact ⟨c, fun n z => ⟨(fun k h => (by cases h)), k, h2, comp, h3⟩, k, comp, h2, h3, h1, h4⟩
theorem gs_con0 {b : Nat} {s : State} (hts : ∀ w ∈ lw_tbl, w.before #[Value.ref b] s = true) (hs : ∀ w ∈ nrL, w.before #[Value.ref b] s = true) {adK : Nat → Nat} (hev : ∀ i : Nat, i < 35 → (tmS i).eval #[Value.ref b] s none [] s = some (.ref (adK i))) : ∀ q ∈ ([("CribLine$Reader", 100, "person", 0), ("CribLine$Reader", 106, "boy", 1), ("CribLine$Reader", 108, "girl", 2), ("CribLine$Reader", 110, "age", 3), ("CribLine$Reader", 112, "of", 4), ("CribLine$Reader", 114, "wants", 5), ("CribLine$Reader", 116, "stern", 6), ("CribLine$Reader", 118, "permits", 7)] : List (String × Nat × String × Nat)), vk_R q.1 q.2.1 q.2.2.1 (adK q.2.2.2) s :=
  List.forall_mem_cons.mpr ⟨vk_R.of (hts _ (mtk tk_4 45 rfl)) (hev 0 (by decide)), List.forall_mem_cons.mpr ⟨vk_R.of (hts _ (mtk tk_4 97 rfl)) (hev 1 (by decide)), List.forall_mem_cons.mpr ⟨vk_R.of (hts _ (mtk tk_4 98 rfl)) (hev 2 (by decide)), List.forall_mem_cons.mpr ⟨vk_R.of (hts _ (mtk tk_4 99 rfl)) (hev 3 (by decide)), List.forall_mem_cons.mpr ⟨vk_R.of (hts _ (mtk tk_4 100 rfl)) (hev 4 (by decide)), List.forall_mem_cons.mpr ⟨vk_R.of (hts _ (mtk tk_4 101 rfl)) (hev 5 (by decide)), List.forall_mem_cons.mpr ⟨vk_R.of (hts _ (mtk tk_4 102 rfl)) (hev 6 (by decide)), List.forall_mem_cons.mpr ⟨vk_R.of (hts _ (mtk tk_4 103 rfl)) (hev 7 (by decide)), List.forall_mem_nil _⟩⟩⟩⟩⟩⟩⟩⟩
theorem gs_con1 {b : Nat} {s : State} (hts : ∀ w ∈ lw_tbl, w.before #[Value.ref b] s = true) (hs : ∀ w ∈ nrL, w.before #[Value.ref b] s = true) {adK : Nat → Nat} (hev : ∀ i : Nat, i < 35 → (tmS i).eval #[Value.ref b] s none [] s = some (.ref (adK i))) : ∀ q ∈ ([("CribLine$Reader", 120, "governs", 8), ("CribLine$Reader", 122, "wed", 9), ("CribLine$Reader", 124, "round", 10), ("CribLine$Reader", 126, "ripe", 11), ("CribLine$Reader", 128, "step", 12), ("CribLine$Reader", 130, "day", 13), ("CribLine$Reader", 132, "no", 14), ("CribLine$Reader", 134, "yes", 15)] : List (String × Nat × String × Nat)), vk_R q.1 q.2.1 q.2.2.1 (adK q.2.2.2) s :=
  List.forall_mem_cons.mpr ⟨vk_R.of (hts _ (mtk tk_4 104 rfl)) (hev 8 (by decide)), List.forall_mem_cons.mpr ⟨vk_R.of (hts _ (mtk tk_4 105 rfl)) (hev 9 (by decide)), List.forall_mem_cons.mpr ⟨vk_R.of (hts _ (mtk tk_4 106 rfl)) (hev 10 (by decide)), List.forall_mem_cons.mpr ⟨vk_R.of (hts _ (mtk tk_4 107 rfl)) (hev 11 (by decide)), List.forall_mem_cons.mpr ⟨vk_R.of (hts _ (mtk tk_4 108 rfl)) (hev 12 (by decide)), List.forall_mem_cons.mpr ⟨vk_R.of (hts _ (mtk tk_4 109 rfl)) (hev 13 (by decide)), List.forall_mem_cons.mpr ⟨vk_R.of (hts _ (mtk tk_4 110 rfl)) (hev 14 (by decide)), List.forall_mem_cons.mpr ⟨vk_R.of (hts _ (mtk tk_4 111 rfl)) (hev 15 (by decide)), List.forall_mem_nil _⟩⟩⟩⟩⟩⟩⟩⟩
theorem gs_con2 {b : Nat} {s : State} (hts : ∀ w ∈ lw_tbl, w.before #[Value.ref b] s = true) (hs : ∀ w ∈ nrL, w.before #[Value.ref b] s = true) {adK : Nat → Nat} (hev : ∀ i : Nat, i < 35 → (tmS i).eval #[Value.ref b] s none [] s = some (.ref (adK i))) : ∀ q ∈ ([("CribLine$Reader", 136, "calm", 16), ("CribLine$Reader", 138, "if", 17), ("CribLine$Reader", 140, "or", 18), ("CribLine$Reader", 142, "and", 19), ("CribLine$Reader", 144, "not", 20), ("CribLine$Reader", 146, "kin", 21), ("CribLine$Reader", 148, "crib", 22), ("CribLine$Reader", 150, "who", 23)] : List (String × Nat × String × Nat)), vk_R q.1 q.2.1 q.2.2.1 (adK q.2.2.2) s :=
  List.forall_mem_cons.mpr ⟨vk_R.of (hts _ (mtk tk_4 112 rfl)) (hev 16 (by decide)), List.forall_mem_cons.mpr ⟨vk_R.of (hts _ (mtk tk_4 113 rfl)) (hev 17 (by decide)), List.forall_mem_cons.mpr ⟨vk_R.of (hts _ (mtk tk_4 114 rfl)) (hev 18 (by decide)), List.forall_mem_cons.mpr ⟨vk_R.of (hts _ (mtk tk_4 115 rfl)) (hev 19 (by decide)), List.forall_mem_cons.mpr ⟨vk_R.of (hts _ (mtk tk_4 116 rfl)) (hev 20 (by decide)), List.forall_mem_cons.mpr ⟨vk_R.of (hts _ (mtk tk_4 117 rfl)) (hev 21 (by decide)), List.forall_mem_cons.mpr ⟨vk_R.of (hts _ (mtk tk_4 118 rfl)) (hev 22 (by decide)), List.forall_mem_cons.mpr ⟨vk_R.of (hts _ (mtk tk_4 119 rfl)) (hev 23 (by decide)), List.forall_mem_nil _⟩⟩⟩⟩⟩⟩⟩⟩
theorem gs_con3 {b : Nat} {s : State} (hts : ∀ w ∈ lw_tbl, w.before #[Value.ref b] s = true) (hs : ∀ w ∈ nrL, w.before #[Value.ref b] s = true) {adK : Nat → Nat} (hev : ∀ i : Nat, i < 35 → (tmS i).eval #[Value.ref b] s none [] s = some (.ref (adK i))) : ∀ q ∈ ([("CribLine$Reader", 152, "whom", 24), ("CribLine$Reader", 154, "elder", 25), ("CribLine$Reader", 156, "turns", 26), ("CribLineModel", 185, "person", 0), ("CribLineModel", 138, "boy", 1), ("CribLineModel", 140, "girl", 2), ("CribLineModel", 142, "age", 3), ("CribLineModel", 148, "of", 4)] : List (String × Nat × String × Nat)), vk_R q.1 q.2.1 q.2.2.1 (adK q.2.2.2) s :=
  List.forall_mem_cons.mpr ⟨vk_R.of (hts _ (mtk tk_4 120 rfl)) (hev 24 (by decide)), List.forall_mem_cons.mpr ⟨vk_R.of (hts _ (mtk tk_4 121 rfl)) (hev 25 (by decide)), List.forall_mem_cons.mpr ⟨vk_R.of (hts _ (mtk tk_4 122 rfl)) (hev 26 (by decide)), List.forall_mem_cons.mpr ⟨vk_R.of (hts _ (mtk tk_8 100 rfl)) (va_eqR (t := Term.string "CribLine$Reader" 100) (u := Term.string "CribLineModel" 185) (hs _ (by decide +kernel)) (hev 0 (by decide))), List.forall_mem_cons.mpr ⟨vk_R.of (hts _ (mtk tk_8 115 rfl)) (va_eqR (t := Term.string "CribLine$Reader" 106) (u := Term.string "CribLineModel" 138) (hs _ (by decide +kernel)) (hev 1 (by decide))), List.forall_mem_cons.mpr ⟨vk_R.of (hts _ (mtk tk_8 116 rfl)) (va_eqR (t := Term.string "CribLine$Reader" 108) (u := Term.string "CribLineModel" 140) (hs _ (by decide +kernel)) (hev 2 (by decide))), List.forall_mem_cons.mpr ⟨vk_R.of (hts _ (mtk tk_8 117 rfl)) (va_eqR (t := Term.string "CribLine$Reader" 110) (u := Term.string "CribLineModel" 142) (hs _ (by decide +kernel)) (hev 3 (by decide))), List.forall_mem_cons.mpr ⟨vk_R.of (hts _ (mtk tk_8 126 rfl)) (va_eqR (t := Term.string "CribLine$Reader" 112) (u := Term.string "CribLineModel" 148) (hs _ (by decide +kernel)) (hev 4 (by decide))), List.forall_mem_nil _⟩⟩⟩⟩⟩⟩⟩⟩
theorem gs_con4 {b : Nat} {s : State} (hts : ∀ w ∈ lw_tbl, w.before #[Value.ref b] s = true) (hs : ∀ w ∈ nrL, w.before #[Value.ref b] s = true) {adK : Nat → Nat} (hev : ∀ i : Nat, i < 35 → (tmS i).eval #[Value.ref b] s none [] s = some (.ref (adK i))) : ∀ q ∈ ([("CribLineModel", 153, "wants", 5), ("CribLineModel", 155, "stern", 6), ("CribLineModel", 157, "permits", 7), ("CribLineModel", 191, "governs", 8), ("CribLineModel", 196, "wed", 9), ("CribLineModel", 201, "round", 10), ("CribLineModel", 209, "ripe", 11), ("CribLineModel", 211, "step", 12)] : List (String × Nat × String × Nat)), vk_R q.1 q.2.1 q.2.2.1 (adK q.2.2.2) s :=
  List.forall_mem_cons.mpr ⟨vk_R.of (hts _ (mtk tk_8 136 rfl)) (va_eqR (t := Term.string "CribLine$Reader" 114) (u := Term.string "CribLineModel" 153) (hs _ (by decide +kernel)) (hev 5 (by decide))), List.forall_mem_cons.mpr ⟨vk_R.of (hts _ (mtk tk_8 137 rfl)) (va_eqR (t := Term.string "CribLine$Reader" 116) (u := Term.string "CribLineModel" 155) (hs _ (by decide +kernel)) (hev 6 (by decide))), List.forall_mem_cons.mpr ⟨vk_R.of (hts _ (mtk tk_8 138 rfl)) (va_eqR (t := Term.string "CribLine$Reader" 118) (u := Term.string "CribLineModel" 157) (hs _ (by decide +kernel)) (hev 7 (by decide))), List.forall_mem_cons.mpr ⟨vk_R.of (hts _ (mtk tk_8 146 rfl)) (va_eqR (t := Term.string "CribLine$Reader" 120) (u := Term.string "CribLineModel" 191) (hs _ (by decide +kernel)) (hev 8 (by decide))), List.forall_mem_cons.mpr ⟨vk_R.of (hts _ (mtk tk_8 155 rfl)) (va_eqR (t := Term.string "CribLine$Reader" 122) (u := Term.string "CribLineModel" 196) (hs _ (by decide +kernel)) (hev 9 (by decide))), List.forall_mem_cons.mpr ⟨vk_R.of (hts _ (mtk tk_8 184 rfl)) (va_eqR (t := Term.string "CribLine$Reader" 124) (u := Term.string "CribLineModel" 201) (hs _ (by decide +kernel)) (hev 10 (by decide))), List.forall_mem_cons.mpr ⟨vk_R.of (hts _ (mtk tk_8 194 rfl)) (va_eqR (t := Term.string "CribLine$Reader" 126) (u := Term.string "CribLineModel" 209) (hs _ (by decide +kernel)) (hev 11 (by decide))), List.forall_mem_cons.mpr ⟨vk_R.of (hts _ (mtk tk_8 195 rfl)) (va_eqR (t := Term.string "CribLine$Reader" 128) (u := Term.string "CribLineModel" 211) (hs _ (by decide +kernel)) (hev 12 (by decide))), List.forall_mem_nil _⟩⟩⟩⟩⟩⟩⟩⟩
theorem gs_con5 {b : Nat} {s : State} (hts : ∀ w ∈ lw_tbl, w.before #[Value.ref b] s = true) (hs : ∀ w ∈ nrL, w.before #[Value.ref b] s = true) {adK : Nat → Nat} (hev : ∀ i : Nat, i < 35 → (tmS i).eval #[Value.ref b] s none [] s = some (.ref (adK i))) : ∀ q ∈ ([("CribLineModel", 213, "day", 13), ("CribLineModel", 266, "no", 14), ("CribLineModel", 268, "yes", 15), ("CribLineModel", 270, "calm", 16), ("CribLineModel", 272, "if", 17), ("CribLineModel", 248, "not", 20), ("CribLineModel", 238, "kin", 21), ("CribLineModel", 240, "crib", 22)] : List (String × Nat × String × Nat)), vk_R q.1 q.2.1 q.2.2.1 (adK q.2.2.2) s :=
  List.forall_mem_cons.mpr ⟨vk_R.of (hts _ (mtk tk_8 196 rfl)) (va_eqR (t := Term.string "CribLine$Reader" 130) (u := Term.string "CribLineModel" 213) (hs _ (by decide +kernel)) (hev 13 (by decide))), List.forall_mem_cons.mpr ⟨vk_R.of (hts _ (mtk tk_8 201 rfl)) (va_eqR (t := Term.string "CribLine$Reader" 132) (u := Term.string "CribLineModel" 266) (hs _ (by decide +kernel)) (hev 14 (by decide))), List.forall_mem_cons.mpr ⟨vk_R.of (hts _ (mtk tk_8 202 rfl)) (va_eqR (t := Term.string "CribLine$Reader" 134) (u := Term.string "CribLineModel" 268) (hs _ (by decide +kernel)) (hev 15 (by decide))), List.forall_mem_cons.mpr ⟨vk_R.of (hts _ (mtk tk_8 203 rfl)) (va_eqR (t := Term.string "CribLine$Reader" 136) (u := Term.string "CribLineModel" 270) (hs _ (by decide +kernel)) (hev 16 (by decide))), List.forall_mem_cons.mpr ⟨vk_R.of (hts _ (mtk tk_8 204 rfl)) (va_eqR (t := Term.string "CribLine$Reader" 138) (u := Term.string "CribLineModel" 272) (hs _ (by decide +kernel)) (hev 17 (by decide))), List.forall_mem_cons.mpr ⟨vk_R.of (hts _ (mtk tk_8 221 rfl)) (va_eqR (t := Term.string "CribLine$Reader" 144) (u := Term.string "CribLineModel" 248) (hs _ (by decide +kernel)) (hev 20 (by decide))), List.forall_mem_cons.mpr ⟨vk_R.of (hts _ (mtk tk_8 230 rfl)) (va_eqR (t := Term.string "CribLine$Reader" 146) (u := Term.string "CribLineModel" 238) (hs _ (by decide +kernel)) (hev 21 (by decide))), List.forall_mem_cons.mpr ⟨vk_R.of (hts _ (mtk tk_8 231 rfl)) (va_eqR (t := Term.string "CribLine$Reader" 148) (u := Term.string "CribLineModel" 240) (hs _ (by decide +kernel)) (hev 22 (by decide))), List.forall_mem_nil _⟩⟩⟩⟩⟩⟩⟩⟩
theorem gs_con6 {b : Nat} {s : State} (hts : ∀ w ∈ lw_tbl, w.before #[Value.ref b] s = true) (hs : ∀ w ∈ nrL, w.before #[Value.ref b] s = true) {adK : Nat → Nat} (hev : ∀ i : Nat, i < 35 → (tmS i).eval #[Value.ref b] s none [] s = some (.ref (adK i))) : ∀ q ∈ ([("CribLineModel", 218, "who", 23), ("CribLineModel", 220, "whom", 24), ("CribLineModel", 222, "elder", 25), ("CribLineModel", 224, "turns", 26), ("CribLineModel", 259, "and", 19), ("CribLineModel", 264, "or", 18), ("CribLine", 122, "the text is wrong", 27), ("CribLine", 132, "there are 12 texts", 28)] : List (String × Nat × String × Nat)), vk_R q.1 q.2.1 q.2.2.1 (adK q.2.2.2) s :=
  List.forall_mem_cons.mpr ⟨vk_R.of (hts _ (mtk tk_9 4 rfl)) (va_eqR (t := Term.string "CribLine$Reader" 150) (u := Term.string "CribLineModel" 218) (hs _ (by decide +kernel)) (hev 23 (by decide))), List.forall_mem_cons.mpr ⟨vk_R.of (hts _ (mtk tk_9 5 rfl)) (va_eqR (t := Term.string "CribLine$Reader" 152) (u := Term.string "CribLineModel" 220) (hs _ (by decide +kernel)) (hev 24 (by decide))), List.forall_mem_cons.mpr ⟨vk_R.of (hts _ (mtk tk_9 6 rfl)) (va_eqR (t := Term.string "CribLine$Reader" 154) (u := Term.string "CribLineModel" 222) (hs _ (by decide +kernel)) (hev 25 (by decide))), List.forall_mem_cons.mpr ⟨vk_R.of (hts _ (mtk tk_9 7 rfl)) (va_eqR (t := Term.string "CribLine$Reader" 156) (u := Term.string "CribLineModel" 224) (hs _ (by decide +kernel)) (hev 26 (by decide))), List.forall_mem_cons.mpr ⟨vk_R.of (hts _ (mtk tk_9 8 rfl)) (va_eqR (t := Term.string "CribLine$Reader" 142) (u := Term.string "CribLineModel" 259) (hs _ (by decide +kernel)) (hev 19 (by decide))), List.forall_mem_cons.mpr ⟨vk_R.of (hts _ (mtk tk_9 9 rfl)) (va_eqR (t := Term.string "CribLine$Reader" 140) (u := Term.string "CribLineModel" 264) (hs _ (by decide +kernel)) (hev 18 (by decide))), List.forall_mem_cons.mpr ⟨vk_R.of (hts _ (mtk tk_5 57 rfl)) (hev 27 (by decide)), List.forall_mem_cons.mpr ⟨vk_R.of (hts _ (mtk tk_5 93 rfl)) (hev 28 (by decide)), List.forall_mem_nil _⟩⟩⟩⟩⟩⟩⟩⟩
theorem gs_con7 {b : Nat} {s : State} (hts : ∀ w ∈ lw_tbl, w.before #[Value.ref b] s = true) (hs : ∀ w ∈ nrL, w.before #[Value.ref b] s = true) {adK : Nat → Nat} (hev : ∀ i : Nat, i < 35 → (tmS i).eval #[Value.ref b] s none [] s = some (.ref (adK i))) : ∀ q ∈ ([("CribLine", 150, "there is no such PERSON", 29), ("CribLine", 213, "there is no such what", 30), ("CribLine", 156, "both are one", 31), ("CribLine", 162, "it cannot be", 32), ("CribLine", 158, "the number is none", 33), ("CribLine", 321, "the TAPE is not that", 34)] : List (String × Nat × String × Nat)), vk_R q.1 q.2.1 q.2.2.1 (adK q.2.2.2) s :=
  List.forall_mem_cons.mpr ⟨vk_R.of (hts _ (mtk tk_5 137 rfl)) (hev 29 (by decide)), List.forall_mem_cons.mpr ⟨vk_R.of (hts _ (mtk tk_5 165 rfl)) (hev 30 (by decide)), List.forall_mem_cons.mpr ⟨vk_R.of (hts _ (mtk tk_5 183 rfl)) (hev 31 (by decide)), List.forall_mem_cons.mpr ⟨vk_R.of (hts _ (mtk tk_5 222 rfl)) (hev 32 (by decide)), List.forall_mem_cons.mpr ⟨vk_R.of (hts _ (mtk tk_6 55 rfl)) (hev 33 (by decide)), List.forall_mem_cons.mpr ⟨vk_R.of (hts _ (mtk tk_6 189 rfl)) (hev 34 (by decide)), List.forall_mem_nil _⟩⟩⟩⟩⟩⟩
theorem gs_conA {b : Nat} {s : State} (hts : ∀ w ∈ lw_tbl, w.before #[Value.ref b] s = true) (hs : ∀ w ∈ nrL, w.before #[Value.ref b] s = true) {adK : Nat → Nat} (hev : ∀ i : Nat, i < 35 → (tmS i).eval #[Value.ref b] s none [] s = some (.ref (adK i))) : ∀ q ∈ gsCon, vk_R q.1 q.2.1 q.2.2.1 (adK q.2.2.2) s := by
  intro q hq
  have hq : q ∈ ([("CribLine$Reader", 100, "person", 0), ("CribLine$Reader", 106, "boy", 1), ("CribLine$Reader", 108, "girl", 2), ("CribLine$Reader", 110, "age", 3), ("CribLine$Reader", 112, "of", 4), ("CribLine$Reader", 114, "wants", 5), ("CribLine$Reader", 116, "stern", 6), ("CribLine$Reader", 118, "permits", 7)] : List (String × Nat × String × Nat)) ++ (([("CribLine$Reader", 120, "governs", 8), ("CribLine$Reader", 122, "wed", 9), ("CribLine$Reader", 124, "round", 10), ("CribLine$Reader", 126, "ripe", 11), ("CribLine$Reader", 128, "step", 12), ("CribLine$Reader", 130, "day", 13), ("CribLine$Reader", 132, "no", 14), ("CribLine$Reader", 134, "yes", 15)] : List (String × Nat × String × Nat)) ++ (([("CribLine$Reader", 136, "calm", 16), ("CribLine$Reader", 138, "if", 17), ("CribLine$Reader", 140, "or", 18), ("CribLine$Reader", 142, "and", 19), ("CribLine$Reader", 144, "not", 20), ("CribLine$Reader", 146, "kin", 21), ("CribLine$Reader", 148, "crib", 22), ("CribLine$Reader", 150, "who", 23)] : List (String × Nat × String × Nat)) ++ (([("CribLine$Reader", 152, "whom", 24), ("CribLine$Reader", 154, "elder", 25), ("CribLine$Reader", 156, "turns", 26), ("CribLineModel", 185, "person", 0), ("CribLineModel", 138, "boy", 1), ("CribLineModel", 140, "girl", 2), ("CribLineModel", 142, "age", 3), ("CribLineModel", 148, "of", 4)] : List (String × Nat × String × Nat)) ++ (([("CribLineModel", 153, "wants", 5), ("CribLineModel", 155, "stern", 6), ("CribLineModel", 157, "permits", 7), ("CribLineModel", 191, "governs", 8), ("CribLineModel", 196, "wed", 9), ("CribLineModel", 201, "round", 10), ("CribLineModel", 209, "ripe", 11), ("CribLineModel", 211, "step", 12)] : List (String × Nat × String × Nat)) ++ (([("CribLineModel", 213, "day", 13), ("CribLineModel", 266, "no", 14), ("CribLineModel", 268, "yes", 15), ("CribLineModel", 270, "calm", 16), ("CribLineModel", 272, "if", 17), ("CribLineModel", 248, "not", 20), ("CribLineModel", 238, "kin", 21), ("CribLineModel", 240, "crib", 22)] : List (String × Nat × String × Nat)) ++ (([("CribLineModel", 218, "who", 23), ("CribLineModel", 220, "whom", 24), ("CribLineModel", 222, "elder", 25), ("CribLineModel", 224, "turns", 26), ("CribLineModel", 259, "and", 19), ("CribLineModel", 264, "or", 18), ("CribLine", 122, "the text is wrong", 27), ("CribLine", 132, "there are 12 texts", 28)] : List (String × Nat × String × Nat)) ++ (([("CribLine", 150, "there is no such PERSON", 29), ("CribLine", 213, "there is no such what", 30), ("CribLine", 156, "both are one", 31), ("CribLine", 162, "it cannot be", 32), ("CribLine", 158, "the number is none", 33), ("CribLine", 321, "the TAPE is not that", 34)] : List (String × Nat × String × Nat))))))))) := hq
  simp only [List.mem_append] at hq
  rcases hq with h | h | h | h | h | h | h | h
  · exact gs_con0 hts hs hev q h
  · exact gs_con1 hts hs hev q h
  · exact gs_con2 hts hs hev q h
  · exact gs_con3 hts hs hev q h
  · exact gs_con4 hts hs hev q h
  · exact gs_con5 hts hs hev q h
  · exact gs_con6 hts hs hev q h
  · exact gs_con7 hts hs hev q h
theorem va_NwD {x : MethodName} {A : Array Value} {U : State} (h : (Cond.declares x).before A U = true) : va_Nw (.declares x) U := h
theorem va_NwC {x y : String} {A : Array Value} {U : State} (h : (Cond.castable x y).before A U = true) : va_Nw (.castable x y) U := h
theorem gs_dec {b : Nat} {s : State} (hts : ∀ w ∈ lw_tbl, w.before #[Value.ref b] s = true) : ∀ x ∈ gsDec, va_Nw (.declares x) s := by
  unfold gsDec
  exact List.forall_mem_cons.mpr ⟨va_NwD (hts _ (mtk tk_4 18 rfl)), List.forall_mem_cons.mpr ⟨va_NwD (hts _ (mtk tk_4 136 rfl)), List.forall_mem_cons.mpr ⟨va_NwD (hts _ (mtk tk_4 143 rfl)), List.forall_mem_cons.mpr ⟨va_NwD (hts _ (mtk tk_4 151 rfl)), List.forall_mem_cons.mpr ⟨va_NwD (hts _ (mtk tk_4 157 rfl)), List.forall_mem_cons.mpr ⟨va_NwD (hts _ (mtk tk_5 3 rfl)), List.forall_mem_cons.mpr ⟨va_NwD (hts _ (mtk tk_5 17 rfl)), List.forall_mem_cons.mpr ⟨va_NwD (hts _ (mtk tk_5 18 rfl)), List.forall_mem_cons.mpr ⟨va_NwD (hts _ (mtk tk_5 19 rfl)), List.forall_mem_cons.mpr ⟨va_NwD (hts _ (mtk tk_5 20 rfl)), List.forall_mem_cons.mpr ⟨va_NwD (hts _ (mtk tk_5 21 rfl)), List.forall_mem_cons.mpr ⟨va_NwD (hts _ (mtk tk_5 22 rfl)), List.forall_mem_nil _⟩⟩⟩⟩⟩⟩⟩⟩⟩⟩⟩⟩
theorem gs_cst {b : Nat} {s : State} (hts : ∀ w ∈ lw_tbl, w.before #[Value.ref b] s = true) : ∀ q ∈ gsCst, va_Nw (.castable q.1 q.2) s := by
  unfold gsCst
  exact List.forall_mem_cons.mpr ⟨va_NwC (hts _ (mtk tk_5 16 rfl)), List.forall_mem_cons.mpr ⟨va_NwC (hts _ (mtk tk_5 86 rfl)), List.forall_mem_cons.mpr ⟨va_NwC (hts _ (mtk tk_5 130 rfl)), List.forall_mem_cons.mpr ⟨va_NwC (hts _ (mtk tk_5 158 rfl)), List.forall_mem_cons.mpr ⟨va_NwC (hts _ (mtk tk_5 215 rfl)), List.forall_mem_cons.mpr ⟨va_NwC (hts _ (mtk tk_10 230 rfl)), List.forall_mem_cons.mpr ⟨va_NwC (hts _ (mtk tk_10 231 rfl)), List.forall_mem_cons.mpr ⟨va_NwC (hts _ (mtk tk_10 232 rfl)), List.forall_mem_cons.mpr ⟨va_NwC (hts _ (mtk tk_10 233 rfl)), List.forall_mem_cons.mpr ⟨va_NwC (hts _ (mtk tk_10 234 rfl)), List.forall_mem_cons.mpr ⟨va_NwC (hts _ (mtk tk_10 235 rfl)), List.forall_mem_cons.mpr ⟨va_NwC (hts _ (mtk tk_10 236 rfl)), List.forall_mem_cons.mpr ⟨va_NwC (hts _ (mtk tk_10 237 rfl)), List.forall_mem_cons.mpr ⟨va_NwC (hts _ (mtk tk_10 238 rfl)), List.forall_mem_cons.mpr ⟨va_NwC (hts _ (mtk tk_10 239 rfl)), List.forall_mem_cons.mpr ⟨va_NwC (hts _ (mtk tk_11 0 rfl)), List.forall_mem_cons.mpr ⟨va_NwC (hts _ (mtk tk_11 1 rfl)), List.forall_mem_cons.mpr ⟨va_NwC (hts _ (mtk tk_11 2 rfl)), List.forall_mem_cons.mpr ⟨va_NwC (hts _ (mtk tk_11 3 rfl)), List.forall_mem_cons.mpr ⟨va_NwC (hts _ (mtk tk_11 4 rfl)), List.forall_mem_cons.mpr ⟨va_NwC (hts _ (mtk tk_11 5 rfl)), List.forall_mem_cons.mpr ⟨va_NwC (hts _ (mtk tk_11 6 rfl)), List.forall_mem_cons.mpr ⟨va_NwC (hts _ (mtk tk_11 7 rfl)), List.forall_mem_cons.mpr ⟨va_NwC (hts _ (mtk tk_11 8 rfl)), List.forall_mem_nil _⟩⟩⟩⟩⟩⟩⟩⟩⟩⟩⟩⟩⟩⟩⟩⟩⟩⟩⟩⟩⟩⟩⟩⟩
theorem gs_nca {b : Nat} {s : State} (hs : ∀ w ∈ nrL, w.before #[Value.ref b] s = true) : ∀ q ∈ gsNca, va_Nc q.1 q.2 s := by
  unfold gsNca
  exact List.forall_mem_cons.mpr ⟨va_Nc.of (args := #[Value.ref b]) (hs _ (by decide +kernel)), List.forall_mem_cons.mpr ⟨va_Nc.of (args := #[Value.ref b]) (hs _ (by decide +kernel)), List.forall_mem_cons.mpr ⟨va_Nc.of (args := #[Value.ref b]) (hs _ (by decide +kernel)), List.forall_mem_cons.mpr ⟨va_Nc.of (args := #[Value.ref b]) (hs _ (by decide +kernel)), List.forall_mem_cons.mpr ⟨va_Nc.of (args := #[Value.ref b]) (hs _ (by decide +kernel)), List.forall_mem_cons.mpr ⟨va_Nc.of (args := #[Value.ref b]) (hs _ (by decide +kernel)), List.forall_mem_cons.mpr ⟨va_Nc.of (args := #[Value.ref b]) (hs _ (by decide +kernel)), List.forall_mem_cons.mpr ⟨va_Nc.of (args := #[Value.ref b]) (hs _ (by decide +kernel)), List.forall_mem_cons.mpr ⟨va_Nc.of (args := #[Value.ref b]) (hs _ (by decide +kernel)), List.forall_mem_cons.mpr ⟨va_Nc.of (args := #[Value.ref b]) (hs _ (by decide +kernel)), List.forall_mem_cons.mpr ⟨va_Nc.of (args := #[Value.ref b]) (hs _ (by decide +kernel)), List.forall_mem_cons.mpr ⟨va_Nc.of (args := #[Value.ref b]) (hs _ (by decide +kernel)), List.forall_mem_cons.mpr ⟨va_Nc.of (args := #[Value.ref b]) (hs _ (by decide +kernel)), List.forall_mem_cons.mpr ⟨va_Nc.of (args := #[Value.ref b]) (hs _ (by decide +kernel)), List.forall_mem_cons.mpr ⟨va_Nc.of (args := #[Value.ref b]) (hs _ (by decide +kernel)), List.forall_mem_cons.mpr ⟨va_Nc.of (args := #[Value.ref b]) (hs _ (by decide +kernel)), List.forall_mem_cons.mpr ⟨va_Nc.of (args := #[Value.ref b]) (hs _ (by decide +kernel)), List.forall_mem_cons.mpr ⟨va_Nc.of (args := #[Value.ref b]) (hs _ (by decide +kernel)), List.forall_mem_cons.mpr ⟨va_Nc.of (args := #[Value.ref b]) (hs _ (by decide +kernel)), List.forall_mem_cons.mpr ⟨va_Nc.of (args := #[Value.ref b]) (hs _ (by decide +kernel)), List.forall_mem_nil _⟩⟩⟩⟩⟩⟩⟩⟩⟩⟩⟩⟩⟩⟩⟩⟩⟩⟩⟩⟩
set_option maxHeartbeats 4000000 in
theorem gs_knw {b : Nat} {s : State} (hts : ∀ w ∈ gTbl, w.before #[Value.ref b] s = true) : ∃ (dC : Nat → ClassId) (dI : Nat → Nat → Nat), ∀ (k : Nat) (q : vw_C), vwCl[k]? = some q → u_Kn s q.1 q.2.1 q.2.2 (dC k) (dI k) := by
  obtain ⟨c0, i0, K0⟩ := u_known (C := RX0) (T := TX0) (N := 8) (n := 8) hts in_0 (hts _ wd_313)
  obtain ⟨c1, i1, K1⟩ := u_known (C := RX1) (T := TX1) (N := 3) (n := 3) hts in_1 (hts _ wd_295)
  obtain ⟨c2, i2, K2⟩ := u_known (C := RX2) (T := TX2) (N := 11) (n := 11) hts in_2 (hts _ wd_39)
  obtain ⟨c3, i3, K3⟩ := u_known (C := RX3) (T := TX3) (N := 9) (n := 9) hts in_3 (hts _ wd_231)
  obtain ⟨c4, i4, K4⟩ := u_known (C := RX4) (T := TX4) (N := 10) (n := 10) hts in_4 (hts _ wd_192)
  obtain ⟨c5, i5, K5⟩ := u_known (C := RX5) (T := TX5) (N := 9) (n := 9) hts in_5 (hts _ wd_276)
  obtain ⟨c6, i6, K6⟩ := u_known (C := RX6) (T := TX6) (N := 3) (n := 3) hts in_6 (hts _ wd_118)
  obtain ⟨c7, i7, K7⟩ := u_known (C := RX7) (T := TX7) (N := 6) (n := 6) hts in_7 (hts _ wd_346)
  obtain ⟨c8, i8, K8⟩ := u_known (C := RX8) (T := TX8) (N := 9) (n := 9) hts in_8 (hts _ wd_46)
  obtain ⟨c9, i9, K9⟩ := u_known (C := RX10) (T := TX10) (N := 1) (n := 1) hts in_9 (hts _ wd_373)
  obtain ⟨c10, i10, K10⟩ := u_known (C := RX11) (T := TX11) (N := 18) (n := 18) hts in_10 (hts _ wd_31)
  obtain ⟨c11, i11, K11⟩ := u_known (C := RX12) (T := TX12) (N := 27) (n := 27) hts in_11 (hts _ wd_1636)
  refine ⟨fun k => if k = 0 then c0 else if k = 1 then c1 else if k = 2 then c2 else if k = 3 then c3 else if k = 4 then c4 else if k = 5 then c5 else if k = 6 then c6 else if k = 7 then c7 else if k = 8 then c8 else if k = 9 then c9 else if k = 10 then c10 else c11, fun k => if k = 0 then i0 else if k = 1 then i1 else if k = 2 then i2 else if k = 3 then i3 else if k = 4 then i4 else if k = 5 then i5 else if k = 6 then i6 else if k = 7 then i7 else if k = 8 then i8 else if k = 9 then i9 else if k = 10 then i10 else i11, ?_⟩
  intro k q hq
  match k, hq with
  | 0, hq => cases hq; exact K0
  | 1, hq => cases hq; exact K1
  | 2, hq => cases hq; exact K2
  | 3, hq => cases hq; exact K3
  | 4, hq => cases hq; exact K4
  | 5, hq => cases hq; exact K5
  | 6, hq => cases hq; exact K6
  | 7, hq => cases hq; exact K7
  | 8, hq => cases hq; exact K8
  | 9, hq => cases hq; exact K9
  | 10, hq => cases hq; exact K10
  | 11, hq => cases hq; exact K11
  | k + 12, hq => simp [vwCl] at hq
theorem gs_arr {b : Nat} {s : State} (hts : ∀ w ∈ lw_tbl, w.before #[Value.ref b] s = true) : ∃ aC : Nat → ClassId, ∀ (k : Nat) (q : ClassId × FieldType), ([(aC 20, .int), (aC 21, .byte), (aC 22, .long), (aC 23, .object "CribLine$Family"), (aC 24, .object "CribLine$Person")] : List (ClassId × FieldType))[k]? = some q → ArrOfT s q.1 q.2 ∧ va_RA s q.1 q.2 := by
  obtain ⟨a0, A0⟩ := arr_of (hts _ (mtk tk_1 116 rfl)) (fun C h => by cases h)
  obtain ⟨a1, A1⟩ := arr_of (hts _ (mtk tk_5 83 rfl)) (fun C h => by cases h)
  obtain ⟨a2, A2⟩ := arr_of (hts _ (mtk tk_8 43 rfl)) (fun C h => by cases h)
  obtain ⟨a3, A3⟩ := arr_ov (hts _ (mtk tk_2 53 rfl))
  obtain ⟨a4, A4⟩ := arr_ov (hts _ (mtk tk_1 45 rfl))
  refine ⟨fun k => if k = 20 then a0 else if k = 21 then a1 else if k = 22 then a2 else if k = 23 then a3 else a4, ?_⟩
  intro k q hq
  match k, hq with
  | 0, hq => cases hq; exact A0
  | 1, hq => cases hq; exact A1
  | 2, hq => cases hq; exact A2
  | 3, hq => cases hq; exact A3
  | 4, hq => cases hq; exact A4
  | k + 5, hq => simp at hq
theorem gs_priv {b : Nat} {s : State} (hts : ∀ w ∈ lw_tbl, w.before #[Value.ref b] s = true) : ∀ w ∈ gPriv, w.before #[Value.ref b] s = true := by
  unfold gPriv
  exact List.forall_mem_cons.mpr ⟨sel_priv (y0 := ({ cls := "CribLine$Reader", name := "next", desc := "()I" } : MethodName)) rfl ⟨by decide, by decide⟩ (hts _ (mtk tk_4 132 rfl)) (hts _ (mtk tk_4 24 rfl)) (hts _ (mtk tk_4 25 rfl)), List.forall_mem_cons.mpr ⟨sel_priv (y0 := ({ cls := "CribLine$Reader", name := "next", desc := "()I" } : MethodName)) rfl ⟨by decide, by decide⟩ (hts _ (mtk tk_4 132 rfl)) (hts _ (mtk tk_4 28 rfl)) (hts _ (mtk tk_4 29 rfl)), List.forall_mem_cons.mpr ⟨sel_priv (y0 := ({ cls := "CribLine$Reader", name := "next", desc := "()I" } : MethodName)) rfl ⟨by decide, by decide⟩ (hts _ (mtk tk_4 132 rfl)) (hts _ (mtk tk_4 39 rfl)) (hts _ (mtk tk_4 40 rfl)), List.forall_mem_cons.mpr ⟨sel_priv (y0 := ({ cls := "CribLine$Reader", name := "next", desc := "()I" } : MethodName)) rfl ⟨by decide, by decide⟩ (hts _ (mtk tk_4 132 rfl)) (hts _ (mtk tk_5 10 rfl)) (hts _ (mtk tk_5 11 rfl)), List.forall_mem_cons.mpr ⟨sel_priv (y0 := ({ cls := "CribLine$Reader", name := "next", desc := "()I" } : MethodName)) rfl ⟨by decide, by decide⟩ (hts _ (mtk tk_4 133 rfl)) (hts _ (mtk tk_4 24 rfl)) (hts _ (mtk tk_4 25 rfl)), List.forall_mem_cons.mpr ⟨sel_priv (y0 := ({ cls := "CribLine$Reader", name := "next", desc := "()I" } : MethodName)) rfl ⟨by decide, by decide⟩ (hts _ (mtk tk_4 133 rfl)) (hts _ (mtk tk_4 28 rfl)) (hts _ (mtk tk_4 29 rfl)), List.forall_mem_cons.mpr ⟨sel_priv (y0 := ({ cls := "CribLine$Reader", name := "next", desc := "()I" } : MethodName)) rfl ⟨by decide, by decide⟩ (hts _ (mtk tk_4 133 rfl)) (hts _ (mtk tk_4 39 rfl)) (hts _ (mtk tk_4 40 rfl)), List.forall_mem_cons.mpr ⟨sel_priv (y0 := ({ cls := "CribLine$Reader", name := "next", desc := "()I" } : MethodName)) rfl ⟨by decide, by decide⟩ (hts _ (mtk tk_4 133 rfl)) (hts _ (mtk tk_5 10 rfl)) (hts _ (mtk tk_5 11 rfl)), List.forall_mem_nil _⟩⟩⟩⟩⟩⟩⟩⟩
set_option maxHeartbeats 4000000 in
theorem whole_start {p : Program} {e : Env} {s : State} {m : MethodId} {below : List Frame} {meth : Method} {c : Code} (l : Launch) (hflags : l.flags = flags0) {b L : Nat} {xs : Nat → Int32} (hpure : ∀ g : Nat, pW xs L (ofL g []) = some 1) (C0 : lw_At p s m meth c b L xs) : W p l e room_1 s m #[Value.ref b] below meth c s.heap [] 0 0 (lw_Z below #[Value.ref b] s) (entryFrame m ([Value.ref b] : List Value).toArray 7) := by
  obtain ⟨hx, hb, hr, hml, hown, hts, hX, hbl, hlocks, hgv⟩ := id C0
  have hs : ∀ w ∈ nrL, w.before #[Value.ref b] s = true := flat_of_before _ hgv
  have htg : ∀ w ∈ gTbl, w.before #[Value.ref b] s = true := fun w hw => (List.mem_append.mp hw).elim (fun h => gs_priv hts w h) (fun h => hts w (List.mem_filter.mp h).1)
  have hA : ∀ a : Nat, a < s.heap.size → ¬ s.heap.size ≤ a := fun a h => Nat.not_le.mpr h
  obtain ⟨dC, dI, hKc⟩ := gs_knw htg
  obtain ⟨aC, hAr⟩ := gs_arr hts
  obtain ⟨adK, adV, hStr, hev⟩ := gs_strs (A := fun q => s.heap.size ≤ q) hs hA
  obtain ⟨X, hXe⟩ : ∃ X : gX, X = (s.heap.size, (dC, dI), aC, adK, adV) := ⟨_, rfl⟩
  have hS9 : gS X s := by
    subst hXe
    exact ⟨hStr, gs_conA hts hs hev, va_AO.of (hts _ (mtk tk_2 53 rfl)), va_AO.of (hts _ (mtk tk_1 45 rfl)), gs_dec hts, gs_cst hts, gs_nca hs,
      va_Zof (hts _ (mtk tk_4 58 rfl)) (hts _ (mtk tk_1 16 rfl)) (va_eqt (hs _ (by decide +kernel))) hA,
      va_Zqof (hts _ (mtk tk_4 74 rfl)) (hts _ (mtk tk_1 18 rfl)) (hs _ (by decide +kernel)) hA,
      vx_Zqof (hts _ (mtk tk_5 41 rfl)) (hts _ (mtk tk_1 20 rfl)) (hs _ (by decide +kernel)) hA,
      vx_Zqof (hts _ (mtk tk_5 43 rfl)) (hts _ (mtk tk_1 20 rfl)) (hs _ (by decide +kernel)) hA⟩
  have hK : va_K X.2.1 vwCl (gT X) s := by
    subst hXe
    exact ⟨hKc, hAr⟩
  have hlo : X.1 = s.heap.size := by rw [hXe]
  have hB : gB X p room_1 s m #[Value.ref b] meth c RL cL_law_ 7 room_1 := ⟨hx, hb, hml, hown, htg, hlocks, hK, ⟨Nat.le_refl _, Nat.le_refl _, Nat.le_refl _, Nat.le_refl _⟩, by rw [hlo]; exact Nat.le_refl _⟩
  have hfl : l.stackTraces = false := by
    show (!l.flags.contains noTraceFlag) = false
    rw [hflags]
    decide +kernel
  have hbA : ¬ gA X b := by
    show ¬ X.1 ≤ b
    rw [hlo]
    exact Nat.not_le.mpr hbl
  have hM : mX (ofL (s.heap.size - 1) []) = s.heap.size := by
    show s.heap.size - 1 + 1 + 0 = s.heap.size
    omega
  have hk0 : ∀ a, mK (ofL (s.heap.size - 1) []) a = 0 := by
    intro a
    show (if a ≤ s.heap.size - 1 then 0 else 0) = 0
    by_cases h : a ≤ s.heap.size - 1 <;> simp [h]
  have hH : gHold X (ofL (s.heap.size - 1) []) s.heap := ⟨[], fun a => ⟨fun h => absurd h (by simp), fun h => absurd (hk0 a) h⟩, fun k q h => by simp [va_pl] at h, ⟨fun i j p q h => by simp [va_pl] at h, fun k q h => by simp [va_pl] at h⟩, fun _ => hM.symm⟩
  have hl := lv_entry ([.ref b]) (n := 7) (Nat.le_of_ble_eq_true rfl)
  have hp := hpure (s.heap.size - 1)
  rw [lg_entry_eq]
  generalize (lg_sl ([.ref b]) ++ List.replicate (7 - (lg_sl ([.ref b])).length) Slot.unset).toArray = ls at hl ⊢
  have hl : lv_has ls 7 [(0, .ref b)] := hl
  have hrun := gW_entry (below := below) (e := e) hB hS9 hr hfl hX hbl hbA hlo (ofL (s.heap.size - 1) []) (by rw [hp]; exact Option.some_ne_none _) s.heap [] ls hH va_S.rf hl
  intro T hT X0
  obtain ⟨t, a1, b1⟩ := hrun T hT X0
  exact ⟨t, a1, b1 hp⟩
