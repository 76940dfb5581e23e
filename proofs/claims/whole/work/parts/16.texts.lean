/-! the String constants: length and signs -/
def sLen (s : Nat) : Option Int32 := if s < gsN then some (Int32.ofNat (gsLen.getD s 0)) else none
def sAt (s : Nat) (j : Int32) : Option Int32 := if s < gsN ∧ 0 ≤ j ∧ j.toNatClampNeg < gsLen.getD s 0 then some ((gsByt.getD s []).getD j.toNatClampNeg 0) else none
section GT
variable {X : gX} {p : Program} {l : Launch} {e : Env} {R : Room} {s : State} {m : MethodId} {args : Array Value} {below : List Frame} {meth : Method} {c : Code} {α : Type} {Φ : Option α → State → Prop} {nL cells slots pc : Nat} {lv : List (Nat × Value)} {st : List Value} {M : mMem} {own : String} {cc : ByteArray} {rm : Room}
theorem g_slen {i index : Nat} {t : Int32 → Option α} (B : gB X p R s m args meth c own cc nL rm) (hS9 : gS X s) (hl : Cond.methodLink own index yJ0_length_8abf5 ∈ gTbl) (hf : 3 ≤ rm.frames) (hlo : 120 ≤ rm.locals) (hd : decode cc pc = .ok (.invokevirtual index, 3)) (kk : ∀ v, GG X p l e R s m args below meth c Φ nL cells slots (pc + 3) lv (.int v :: st) M (t v)) : GG X p l e R s m args below meth c Φ nL cells slots pc lv (.ref (X.2.2.2.1 i) :: st) M ((sLen i).bind t) := sorry
theorem g_sat {i index : Nat} {j : Int32} {t : Int32 → Option α} (B : gB X p R s m args meth c own cc nL rm) (hS9 : gS X s) (hl : Cond.methodLink own index yJ0_charAt_5068e ∈ gTbl) (hf : 6 ≤ rm.frames) (hlo : 240 ≤ rm.locals) (hd : decode cc pc = .ok (.invokevirtual index, 3)) (kk : ∀ v, GG X p l e R s m args below meth c Φ nL cells slots (pc + 3) lv (.int v :: st) M (t v)) : GG X p l e R s m args below meth c Φ nL cells slots pc lv (.int j :: .ref (X.2.2.2.1 i) :: st) M ((sAt i j).bind t) := sorry
theorem g_ldc_w {index : Nat} {v : Int32} {T : Option α} (B : gB X p R s m args meth c own cc nL rm) (hd : decode cc pc = .ok (.ldc_w index, 3)) (hw : Cond.constant own index v ∈ gTbl) (kk : GG X p l e R s m args below meth c Φ nL cells slots (pc + 3) lv (.int v :: st) M T) : GG X p l e R s m args below meth c Φ nL cells slots pc lv st M T := fun hT H locs ls hH hS hl => lv_ldcw B.1 B.2.1 B.2.2.2.1 (gw B hw) hd (kk hT H locs ls hH hS hl)
theorem g_ldcwS0 {T : State} {locs : List Loc} (X0 : Stand p l e R s m args below meth c T locs cells slots) (hexec : p.tables.exec = Jvm.exec) {text : String} {index : Nat} {a : Addr} (hown : s.vm.findClass own = some m.cls)
    (hconst : (Cond.stringRef own index text).before #[] s = true) (hev : (Term.string own index).eval #[] s none [] s = some (.ref a)) {g : JFrame} (hg : g.method = m) (hdg : decode c.code g.pc = .ok (.ldc_w index, 3)) :
    ∀ target, Steps p.tables e below (T.setTop { g with pc := g.pc + 3, stack := .ref a :: g.stack }) target → Steps p.tables e below (T.setTop g) target := by
  obtain ⟨k, cf, i, a', hk, hcf, hcp, -, hr, hev'⟩ := Cond.stringRef_spec hown hconst
  cases hev.symm.trans hev'
  obtain ⟨k', hk', he⟩ := X0.warmed.alike.2.2 _ _ hk
  have hr' : k'.resolved[index]? = some (some (.string a)) := by
    rcases X0.warmed.entry hk hk' index with h | ⟨h, -⟩
    · rw [h]; exact hr
    · rw [hr] at h; cases h
  intro target hrest
  subst hg
  jvm_step X0.here [hexec, hdg, ldc_w.wp_string (e := e) (s := T) (f := g) X0.here.top hk' (by rw [he]; exact hcf) hcp hr']
  exact hrest
theorem g_ldc_wS {index : Nat} {tx : String} {i : Nat} {T : Option α} (B : gB X p R s m args meth c own cc nL rm) (hS9 : gS X s) (hd : decode cc pc = .ok (.ldc_w index, 3)) (hq : (own, index, tx, i) ∈ gsCon) (kk : GG X p l e R s m args below meth c Φ nL cells slots (pc + 3) lv (.ref (X.2.2.2.1 i) :: st) M T) : GG X p l e R s m args below meth c Φ nL cells slots pc lv st M T := by
  intro hT H locs ls hH hS hl T0 hT0 X0
  obtain ⟨t, a1, b1⟩ := kk hT H locs ls hH hS hl T0 hT0 X0
  have hq2 := hS9.2.1 _ hq
  exact ⟨t, g_ldcwS0 X0 B.1 (text := tx) (a := X.2.2.2.1 i) B.2.2.2.1 hq2.1 hq2.2 (g := F0 m pc ls st) rfl (by rw [B.2.1]; exact hd) t a1, b1⟩
end GT
