/-! MORE ROWS: calls without an answer that only read; what a throw needs of the tables and of Throwable's statics -/
section CV
variable {p : Program} {l : Launch} {e : Env} {R : Room} {s : State} {m : MethodId} {args : Array Value} {below : List Frame} {meth : Method} {c : Code} {H : Heap} {locs : List Loc} {cells slots : Nat} {Q : State → Prop}
variable {cc : ByteArray} {pc : Nat} {ls : Array Slot} {rest : List Value} {D : va_G} {cl : List vw_C} {A : Nat → Prop} {a : Nat} {tys : List (ClassId × FieldType)} {ws : va_W} {H0 : Heap}
theorem cw_callRv {y : MethodName} {bytes : ByteArray} {maxL nL n index : Nat} {ret : Option FieldType} {wy : List Cond} {rm : Room} {Ts : List Cond} {own C : String} {As st0 : List Value} {ci : Nat} {q : vw_C} {fs : List Value}
    (S : CallFix p m c cc nL s args Ts own) (hM : Met l y wy rm (va_Pc (.ref a :: As) (fun U => va_P D cl ws U.heap ∧ va_K D cl tys U)) (va_Sv (fun _ => True)) 0 0 (fun _ => False)) (cw : CallW R s args own C index y bytes maxL ret wy rm 0 0 n)
    (hK : va_K D cl tys s) (hP : va_P D cl ws H) (q0 : Nat) (he : ws[q0]? = some (a, .inr (ci, fs))) (hc : cl[ci]? = some q) (hC : q.1 = C) (hn : As.length = n) (hsz : ls.size = nL) (hst : st0 = As.reverse ++ .ref a :: rest) (hW : (rest.map fun v => v.category).sum ≤ 8)
    (hdg : decode cc pc = .ok (.invokevirtual index, 3)) (hf : cells + 0 ≤ R.cells ∧ slots + 0 ≤ R.slots) (kk : W p l e R s m args below meth c H locs cells slots Q (F0 m (pc + 3) ls rest)) : W p l e R s m args below meth c H locs cells slots Q (F0 m pc ls st0) := by
  subst hC
  exact va_csv (W.runV S hM cw ⟨fun a U g mk q => ⟨q.1, q.2.1, va_K.moved (u := U) (U := U.calling g mk a) (Vm.Alike.refl U.vm) q.2.2⟩, va_recv hK hP hc he, fun U hU hW => ⟨rfl, by rw [hU]; exact hP, va_K.moved hW.alike hK⟩⟩ rfl hn hsz hst (lv_room hW) hdg hf) (fun _ => kk)
theorem cw_callSv {y : MethodName} {bytes : ByteArray} {maxL nL n index : Nat} {ret : Option FieldType} {wy : List Cond} {rm : Room} {Ts : List Cond} {own : String} {As st0 : List Value}
    (S : CallFix p m c cc nL s args Ts own) (hM : Met l y wy rm (va_Pc As (fun _ => True)) (va_Sv (fun _ => True)) 0 0 (fun _ => False)) (cw : CallB R s args own index y bytes maxL ret wy rm 0 0 n ∧ (Cond.static y).before args s = true)
    (hn : As.length = n) (hsz : ls.size = nL) (hst : st0 = As.reverse ++ rest) (hW : (rest.map fun v => v.category).sum ≤ 8)
    (hdg : decode cc pc = .ok (.invokestatic index, 3)) (hf : cells + 0 ≤ R.cells ∧ slots + 0 ≤ R.slots) (kk : W p l e R s m args below meth c H locs cells slots Q (F0 m (pc + 3) ls rest)) : W p l e R s m args below meth c H locs cells slots Q (F0 m pc ls st0) :=
  va_csv (W.runS S hM cw ⟨fun a U g mk q => ⟨q.1, trivial⟩, fun U hU hW => ⟨rfl, trivial⟩⟩ rfl hn hsz hst (lv_room hW) hdg hf) (fun _ => kk)
theorem cw_callSr {y : MethodName} {bytes : ByteArray} {maxL nL n index : Nat} {ret : Option FieldType} {wy : List Cond} {rm : Room} {r : Int32} {Ts : List Cond} {own : String} {As st0 : List Value}
    (S : CallFix p m c cc nL s args Ts own) (hM : Met l y wy rm (va_Pc As (fun _ => True)) (QcRead r) 0 0 (fun _ => False)) (cw : CallB R s args own index y bytes maxL ret wy rm 0 0 n ∧ (Cond.static y).before args s = true)
    (hn : As.length = n) (hsz : ls.size = nL) (hst : st0 = As.reverse ++ rest) (hW : (rest.map fun v => v.category).sum ≤ 8)
    (hdg : decode cc pc = .ok (.invokestatic index, 3)) (hf : cells + 0 ≤ R.cells ∧ slots + 0 ≤ R.slots) (kk : W p l e R s m args below meth c H locs cells slots Q (F0 m (pc + 3) ls (.int r :: rest))) : W p l e R s m args below meth c H locs cells slots Q (F0 m pc ls st0) :=
  W.callR (W.runS S hM cw ⟨fun a U g mk q => ⟨q.1, trivial⟩, fun U hU hW => ⟨rfl, trivial⟩⟩ rfl hn hsz hst (lv_room hW) hdg hf) kk
end CV
abbrev xIA : String := "java/lang/IllegalArgumentException"
abbrev xIO : String := "java/lang/IndexOutOfBoundsException"
abbrev xUp : List String := ["java/lang/RuntimeException", "java/lang/Exception"]
abbrev xU1 : Cond := .laysStatic "java/lang/Throwable" "UNASSIGNED_STACK" "[Ljava/lang/StackTraceElement;"
abbrev xU2 : Cond := .laysStatic "java/lang/Throwable" "SUPPRESSED_SENTINEL" "Ljava/util/List;"
abbrev xV1 : Cond := .isRef (.static "java/lang/Throwable" "UNASSIGNED_STACK" "[Ljava/lang/StackTraceElement;")
abbrev xV2 : Cond := .isRef (.static "java/lang/Throwable" "SUPPRESSED_SENTINEL" "Ljava/util/List;")
abbrev xD1 : Cond := .declares ⟨"java/lang/RuntimeException", "<init>", "()V"⟩
abbrev xD2 : Cond := .declares ⟨"java/lang/Exception", "<init>", "()V"⟩
abbrev xD3 : Cond := .declares ⟨"java/lang/Throwable", "<init>", "()V"⟩
/-- what a throw needs beside the words that every state keeps -/
def xt_S (U : State) : Prop := (va_Nw (.castable xIA xIA) U ∧ va_Nw (.castable xIO xIO) U ∧ va_Nc xIO xIA U) ∧ (va_Nw xD1 U ∧ va_Nw xD2 U ∧ va_Nw xD3 U) ∧ (∀ A : Array Value, xU1.before A U = true) ∧ (∀ A : Array Value, xU2.before A U = true) ∧ (∀ A : Array Value, xV1.before A U = true) ∧ ∀ A : Array Value, xV2.before A U = true
theorem xt_lays {C n d : String} {s U : State} (hvm : s.vm.Alike U.vm) (hq : ∀ q : Nat, q < s.heap.size → U.heap[q]? = s.heap[q]?) (h : ∀ A : Array Value, (Cond.laysStatic C n d).before A s = true) (A : Array Value) : (Cond.laysStatic C n d).before A U = true := by
  obtain ⟨c, k, i, f, a, cell, h1, h2, h3, h4, h5, h6, h7, h8, h9⟩ := Cond.laysStatic_spec (h A)
  obtain ⟨k', hi', he⟩ := State.fieldFound?_setVm hvm h2
  show (Cond.laysStatic C n d).holds A U none U [] = true
  exact Cond.laysStatic_of (by rw [hvm.findClass]; exact h1) hi' h3 (by rw [he]; exact h4) (by rw [hq a (Array.getElem?_eq_some_iff.mp h5).1]; exact h5) h6 h7 h8 (by rw [he]; exact h9)
theorem xt_isRef {C n d : String} {s U : State} (hvm : s.vm.Alike U.vm) (hq : ∀ q : Nat, q < s.heap.size → U.heap[q]? = s.heap[q]?) (hl : ∀ A : Array Value, (Cond.laysStatic C n d).before A s = true) (h : ∀ A : Array Value, (Cond.isRef (.static C n d)).before A s = true) (A : Array Value) : (Cond.isRef (.static C n d)).before A U = true := by
  obtain ⟨c, k, i, f, a, cell, h1, h2, h3, h4, h5, h6, h7, h8, h9⟩ := Cond.laysStatic_spec (hl A)
  obtain ⟨k', hi', he⟩ := State.fieldFound?_setVm hvm h2
  have hi2 : U.fieldFound? C n d = some (c, k', i, f) := hi'
  have h4' : k'.statics = some a := by rw [he]; exact h4
  have h5' : U.heap[a]? = some cell := by rw [hq a (Array.getElem?_eq_some_iff.mp h5).1]; exact h5
  have e1 : (Term.static C n d).eval A s none [] s = cell.slots[f.slot]? := by simp [Term.eval, State.fieldNamed?, h2, h3, h4, h5, h6]
  have e2 : (Term.static C n d).eval A U none [] U = cell.slots[f.slot]? := by simp [Term.eval, State.fieldNamed?, hi2, h3, h4', h5', h6]
  have h0 := h A
  simp only [Cond.before, Cond.holds, Cond.value, e1] at h0
  simp only [Cond.before, Cond.holds, Cond.value, e2]
  exact h0
theorem xt_S_to {s U : State} (h : xt_S s) (hW : s.WarmedH U.vm) (hq : ∀ q : Nat, q < s.heap.size → U.heap[q]? = s.heap[q]?) : xt_S U := by
  obtain ⟨⟨c1, c2, c3⟩, ⟨d1, d2, d3⟩, u1, u2, v1, v2⟩ := h
  exact ⟨⟨va_Nw.warmC hW c1, va_Nw.warmC hW c2, va_Nc.moved hW.alike c3⟩, ⟨va_Nw.warmD hW d1, va_Nw.warmD hW d2, va_Nw.warmD hW d3⟩, xt_lays hW.alike hq u1, xt_lays hW.alike hq u2, xt_isRef hW.alike hq u1 v1, xt_isRef hW.alike hq u2 v2⟩
theorem xt_S_call {U : State} {g : JFrame} {mk : MethodId} {a : Array Value} (h : xt_S U) : xt_S (U.calling g mk a) := xt_S_to h (State.WarmedH.refl U) (fun _ _ => rfl)
def xtB : List Cond := [.castable xIA xIA, .castable xIO xIO, xD1, xD2, xD3, xU1, xU2, xV1, xV2]
theorem xtB_of {s : State} (h : xt_S s) (A : Array Value) : ∀ w ∈ xtB, w.before A s = true := by
  obtain ⟨⟨c1, c2, c3⟩, ⟨d1, d2, d3⟩, u1, u2, v1, v2⟩ := h
  intro w hw
  simp only [xtB, List.mem_cons, List.not_mem_nil, or_false] at hw
  rcases hw with rfl | rfl | rfl | rfl | rfl | rfl | rfl | rfl | rfl
  · exact va_Nw.use rfl c1
  · exact va_Nw.use rfl c2
  · exact va_Nw.use rfl d1
  · exact va_Nw.use rfl d2
  · exact va_Nw.use rfl d3
  · exact u1 A
  · exact u2 A
  · exact v1 A
  · exact v2 A
set_option maxRecDepth 20000 in
theorem xt_inA : ∀ w ∈ Bundle.ownAtoms0 RX0 47 xIA xUp, w ∈ tW ∨ w ∈ xtB := by decide +kernel
set_option maxRecDepth 20000 in
theorem xt_inO : ∀ w ∈ Bundle.ownAtoms0 RX0 95 xIO xUp, w ∈ tW ∨ w ∈ xtB := by decide +kernel
theorem xt_ownA {s : State} {args : Array Value} {c0 : Cond} (hts : ∀ w ∈ c0 :: tW, w.before args s = true) (h : xt_S s) : ∀ w ∈ Bundle.ownAtoms0 RX0 47 xIA xUp, w.before args s = true := fun w hw => (xt_inA w hw).elim (fun z => hts w (List.mem_cons_of_mem _ z)) (fun z => xtB_of h args w z)
theorem xt_ownO {s : State} {args : Array Value} {c0 : Cond} (hts : ∀ w ∈ c0 :: tW, w.before args s = true) (h : xt_S s) : ∀ w ∈ Bundle.ownAtoms0 RX0 95 xIO xUp, w.before args s = true := fun w hw => (xt_inO w hw).elim (fun z => hts w (List.mem_cons_of_mem _ z)) (fun z => xtB_of h args w z)
/-- a throwing callee's start on one of the world's objects -/
theorem xt_preV {D : va_G} {cl : List vw_C} {tys : List (ClassId × FieldType)} {ws : va_W} {s : State} {H : Heap} {C : String} {a : Nat} {As : List Value} {q0 ci : Nat} {q : vw_C} {fs : List Value} (hK : va_K D cl tys s) (hP : va_P D cl ws H) (hS : xt_S s) (hq : ∀ q : Nat, q < s.heap.size → H[q]? = s.heap[q]?) (he : ws[q0]? = some (a, .inr (ci, fs))) (hc : cl[ci]? = some q) (hC : q.1 = C) :
    PreV s H C a (va_Pc (.ref a :: As) (fun U => va_P D cl ws U.heap ∧ va_K D cl tys U ∧ xt_S U)) As := by
  subst hC
  exact ⟨fun a U g mk q => ⟨q.1, q.2.1, va_K.moved (u := U) (U := U.calling g mk a) (Vm.Alike.refl U.vm) q.2.2.1, xt_S_call q.2.2.2⟩, va_recv hK hP hc he, fun U hU hW => ⟨rfl, by rw [hU]; exact hP, va_K.moved hW.alike hK, xt_S_to hS hW (fun q h => by rw [hU]; exact hq q h)⟩⟩
theorem xt_preS {s : State} {H : Heap} {As : List Value} (hS : xt_S s) (hq : ∀ q : Nat, q < s.heap.size → H[q]? = s.heap[q]?) : PreS s H (va_Pc As (fun U => xt_S U)) As :=
  ⟨fun a U g mk q => ⟨q.1, xt_S_call q.2⟩, fun U hU hW => ⟨rfl, xt_S_to hS hW (fun q h => by rw [hU]; exact hq q h)⟩⟩
