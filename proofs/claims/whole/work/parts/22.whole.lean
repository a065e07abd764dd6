/-! THE CLAIM OUT OF ONE WALK OF THE LAW'S BODY. Your part is whole_start (and what it stands on); all else here is the same for every law, but numbers. -/
def R_law : String := "CausalDeskLaw"
def lw_P (b : Addr) (xs : List Int32) (args : Array Value) (s : State) : Prop := args = #[.ref b] ∧ s.IntsAt b xs ∧ xs.length ≤ 1536 ∧ (Jvm.Cond.and given_1 narrow_1).before args s = true
def lw_Q (_ : Array Value) (s : State) (o : Outcome) (t : State) : Prop := o = .returned (some (.int 1)) ∧ Framed s o t [] 1046 11262
def lw_Z (below : List Frame) (a : Array Value) (s : State) : State → Prop := fun t => ∃ o, t.status = .running ∧ Ended t below o ∧ lw_Q a s o t
/-- the law's own end, with 1 on the stack, nothing written that was there before, its room as the claim has it -/
theorem lw_ret {p : Program} {l : Launch} {e : Env} {s : State} {m : MethodId} {below : List Frame} {meth : Method} {c : Code} {b : Nat} (hx : p.tables.exec = Jvm.exec) (hb : c.code = code) (hr : meth.sig.returnType = ret) (hlocks : meth.locks = false) {pc : Nat} {H : Heap} {ls : Array Slot} (hdg : decode code pc = .ok (.ireturn, 1)) : W p l e room_1 s m #[Value.ref b] below meth c H [] 1046 11262 (lw_Z below #[Value.ref b] s) (F0 m pc ls [.int 1]) := by
  intro T hT X
  obtain ⟨fs, hret, hrun, hended, hW, hframe⟩ := X.leave (v := some (.int 1)) (hlocks := hlocks) (fun h => by rw [hr] at h; cases h)
  have hmeth' : T.vm.method? m = some meth := X.method'
  refine ⟨T.setFrames fs, ?_, .returned (some (.int 1)), hrun, hended, rfl, ⟨_, rfl⟩, hW, hframe⟩
  jvm_step X.here [X.here.top, hx, hb, hdg, hmeth', hr, ret, narrow_b1]
  (try refine ⟨rfl, ?_⟩); (try refine ⟨rfl, ?_⟩)
  first | (intro acts; rw [hret _ acts rfl rfl rfl]) | rw [hret _ _ rfl rfl rfl]
  exact Steps.refl _
/-- what holds at the law's entry: the machine, the code, the tables' words (any of lw_tbl by 'hts w (by decide +kernel)'), the script of L ints xs at the cell b, what the Statement gives of the start (any of its parts by flat_of_before) -/
def lw_At (p : Program) (s : State) (m : MethodId) (meth : Method) (c : Code) (b L : Nat) (xs : Nat → Int32) : Prop :=
  p.tables.exec = Jvm.exec ∧ c.code = code ∧ meth.sig.returnType = ret ∧ c.maxLocals = 7 ∧ s.vm.findClass R_law = some m.cls ∧ (∀ w ∈ lw_tbl, w.before #[Value.ref b] s = true) ∧ va_X b L xs s s.heap ∧ b < s.heap.size ∧ meth.locks = false ∧ (Jvm.Cond.and given_1 narrow_1).before #[Value.ref b] s = true
set_option maxHeartbeats 4000000 in
set_option maxRecDepth 100000 in
/-- the law's loop: from any round on, to its end with true -/
theorem lw_loop {p : Program} {l : Launch} {e : Env} {s : State} {m : MethodId} {below : List Frame} {meth : Method} {c : Code} {D : va_G} {cI cZ cJ : ClassId} {h a1 a2 a3 a4 a5 ad hm b1 b2 b3 b4 b5 b6 b7 b L : Nat} {xs : Nat → Int32} {A : Nat → Prop} {c0 : Cond} (hx : p.tables.exec = Jvm.exec) (hb : c.code = cL_law) (hml : c.maxLocals = 7) (hown : s.vm.findClass RL = some m.cls) (hts : ∀ w ∈ c0 :: tW, w.before #[Value.ref b] s = true) (hlt : l.stackTraces = false) (hXS : xt_S s) (hK : va_K D cdCl (lwT cI cZ cJ) s) (hX : va_X b L xs s s.heap) (hbl : b < s.heap.size) (hbA : ¬ A b) (hA : ∀ q, s.heap.size ≤ q → A q) (hA2 : ∀ q, q < s.heap.size → ¬ A q) (hret : meth.sig.returnType = ret) (hlocks : meth.locks = false) (hL : L ≤ 1536) : ∀ (N i : Nat) (H : Heap) (locs : List Loc) (ls : Array Slot), L ≤ 3 * i + N → 3 * i ≤ L → lwI D cI cZ cJ h a1 a2 a3 a4 a5 ad hm b1 b2 b3 b4 b5 b6 b7 A s.heap H locs → lv_has ls 7 [(4, .int (nI (3 * i))), (3, .ref ad), (2, .ref hm), (1, .ref h), (0, .ref b)] → W p l e room_1 s m #[Value.ref b] below meth c H locs (15 + i) (3028 + 6 * i) (lw_Z below #[Value.ref b] s) (F0 m 23 ls []) := by
  intro N
  induction N with
  | zero =>
    intro i H locs ls hN h3 hI hl
    have hS : va_S A s.heap H locs := by
      obtain ⟨pr, se, rk, ck, cu, g, er, mo, mf, mt, ma, mc, ms, mq, o, f, sd, c₀, n, hP, hD, hS, -⟩ := hI
      exact hS
    refine lv_iload hx hb dL_law_23 (lv_at hl 0 rfl) ?_
    refine lv_aload_n hx hb dL_law_25 rfl (lv_at hl 4 rfl) ?_
    refine va_slen hx hb hX hbl hbA hS dL_law_26 ?_
    refine cw_topi (y := nI L) rfl ?_
    refine lv_iconst (v := nI 3) hx hb dL_law_27 (by decide) ?_
    refine lv_isub hx hb dL_law_28 ?_
    refine lv_icmp_gt (tgt := 743) hx hb dL_law_29 (by decide) (fun hc => ?_) (fun hc => ?_)
    · refine lv_iconst (v := 1) hx hb dL_law_743 (by decide) ?_
      refine va_forget (fun q hq => Nat.le_of_not_lt (fun z => hA2 _ z (hS.2.2 q hq))) ?_
      refine W.widen (k := 1046) (n := 11262) (by omega) (by omega) ?_
      exact lw_ret hx hb hret hlocks dL_law_744
    · have hi : 3 * i + 3 ≤ L := by
        rw [Int32.lt_iff_toInt_lt, pk_sub_toInt (by omega) (by omega), nI_toInt (by omega)] at hc
        omega
      omega
  | succ N ih =>
    intro i H locs ls hN h3 hI hl
    have hS : va_S A s.heap H locs := by
      obtain ⟨pr, se, rk, ck, cu, g, er, mo, mf, mt, ma, mc, ms, mq, o, f, sd, c₀, n, hP, hD, hS, -⟩ := hI
      exact hS
    refine lv_iload hx hb dL_law_23 (lv_at hl 0 rfl) ?_
    refine lv_aload_n hx hb dL_law_25 rfl (lv_at hl 4 rfl) ?_
    refine va_slen hx hb hX hbl hbA hS dL_law_26 ?_
    refine cw_topi (y := nI L) rfl ?_
    refine lv_iconst (v := nI 3) hx hb dL_law_27 (by decide) ?_
    refine lv_isub hx hb dL_law_28 ?_
    refine lv_icmp_gt (tgt := 743) hx hb dL_law_29 (by decide) (fun hc => ?_) (fun hc => ?_)
    · refine lv_iconst (v := 1) hx hb dL_law_743 (by decide) ?_
      refine va_forget (fun q hq => Nat.le_of_not_lt (fun z => hA2 _ z (hS.2.2 q hq))) ?_
      refine W.widen (k := 1046) (n := 11262) (by omega) (by omega) ?_
      exact lw_ret hx hb hret hlocks dL_law_744
    · have hi : 3 * i + 3 ≤ L := by
        rw [Int32.lt_iff_toInt_lt, pk_sub_toInt (by omega) (by omega), nI_toInt (by omega)] at hc
        omega
      have step : ∀ (H : Heap) (locs : List Loc) (ls : Array Slot), lwI D cI cZ cJ h a1 a2 a3 a4 a5 ad hm b1 b2 b3 b4 b5 b6 b7 A s.heap H locs → lv_has ls 7 [(4, .int (nI (3 * i))), (3, .ref ad), (2, .ref hm), (1, .ref h), (0, .ref b)] → W p l e room_1 s m #[Value.ref b] below meth c H locs (15 + i + 1) (3028 + 6 * i + 6) (lw_Z below #[Value.ref b] s) (F0 m 737 ls []) := by
        intro H locs ls hI hl
        refine lv_iinc (k := 0) (v := nI (3 * (i + 1))) hx hb dL_law_737 hl rfl (by rw [show Int32.ofInt 3 = nI 3 by decide, nI_add]; exact congrArg nI (by omega)) (by decide) rfl (fun ls hl => ?_)
        have hl : lv_has ls 7 [(4, .int (nI (3 * (i + 1)))), (3, .ref ad), (2, .ref hm), (1, .ref h), (0, .ref b)] := hl
        refine lv_goto (tgt := 23) hx hb dL_law_740 (by decide) ?_
        exact ih (i + 1) H locs ls (by omega) (by omega) hI hl
      obtain ⟨x, hx0⟩ : ∃ x, xs (3 * i) = x := ⟨_, rfl⟩
      refine lv_aload_n hx hb dL_law_32 rfl (lv_at hl 4 rfl) ?_
      refine lv_iload hx hb dL_law_33 (lv_at hl 0 rfl) ?_
      refine lr_scr hx hb hX hbl hbA hS (k := 3 * i) (v := x) (by omega) hL hx0 dL_law_35 ?_
      refine lv_bipush (v := nI 15) hx hb dL_law_36 (by decide) ?_
      refine lv_iand hx hb dL_law_38 ?_
      obtain ⟨j, hj, hjx⟩ := pk_andE x (m := nI 15) 4 (by decide)
      refine cw_topi (y := nI j) hjx ?_
      rcases (show j = 0 ∨ j = 1 ∨ j = 2 ∨ j = 3 ∨ j = 4 ∨ j = 5 ∨ j = 6 ∨ j = 7 ∨ j = 8 ∨ j = 9 ∨ j = 10 ∨ j = 11 ∨ j = 12 ∨ 12 < j by omega) with rfl | rfl | rfl | rfl | rfl | rfl | rfl | rfl | rfl | rfl | rfl | rfl | rfl | hj2
      · refine lv_tableIn (x := nI 0) (off := 65) (tgt := 104) hx hb dL_law_39 (by decide) (by decide) (by decide) (by decide) ?_
        exact lw_c0 hx hb hml hown hts hlt hXS hK hX hbl hbA hA hA2 hL i hi (15 + i) (3028 + 6 * i) (by omega) (by omega) hI hl step
      · refine lv_tableIn (x := nI 1) (off := 121) (tgt := 160) hx hb dL_law_39 (by decide) (by decide) (by decide) (by decide) ?_
        exact lw_c1 hx hb hml hown hts hlt hXS hK hX hbl hbA hA hA2 hL i hi (15 + i) (3028 + 6 * i) (by omega) (by omega) hI hl step
      · refine lv_tableIn (x := nI 2) (off := 177) (tgt := 216) hx hb dL_law_39 (by decide) (by decide) (by decide) (by decide) ?_
        exact lw_c2 hx hb hml hown hts hlt hXS hK hX hbl hbA hA hA2 hL i hi (15 + i) (3028 + 6 * i) (by omega) (by omega) hI hl step
      · refine lv_tableIn (x := nI 3) (off := 245) (tgt := 284) hx hb dL_law_39 (by decide) (by decide) (by decide) (by decide) ?_
        exact lw_c3 hx hb hml hown hts hlt hXS hK hX hbl hbA hA hA2 hL i hi (15 + i) (3028 + 6 * i) (by omega) (by omega) hI hl step
      · refine lv_tableIn (x := nI 4) (off := 281) (tgt := 320) hx hb dL_law_39 (by decide) (by decide) (by decide) (by decide) ?_
        exact lw_c4 hx hb hml hown hts hlt hXS hK hX hbl hbA hA hA2 hL i hi (15 + i) (3028 + 6 * i) (by omega) (by omega) hI hl step
      · refine lv_tableIn (x := nI 5) (off := 356) (tgt := 395) hx hb dL_law_39 (by decide) (by decide) (by decide) (by decide) ?_
        exact lw_c5 hx hb hml hown hts hlt hXS hK hX hbl hbA hA hA2 hL i hi (15 + i) (3028 + 6 * i) (by omega) (by omega) hI hl step
      · refine lv_tableIn (x := nI 6) (off := 431) (tgt := 470) hx hb dL_law_39 (by decide) (by decide) (by decide) (by decide) ?_
        exact lw_c6 hx hb hml hown hts hlt hXS hK hX hbl hbA hA hA2 hL i hi (15 + i) (3028 + 6 * i) (by omega) (by omega) hI hl step
      · refine lv_tableIn (x := nI 7) (off := 487) (tgt := 526) hx hb dL_law_39 (by decide) (by decide) (by decide) (by decide) ?_
        exact lw_c7 hx hb hml hown hts hlt hXS hK hX hbl hbA hA hA2 hL i hi (15 + i) (3028 + 6 * i) (by omega) (by omega) hI hl step
      · refine lv_tableIn (x := nI 8) (off := 555) (tgt := 594) hx hb dL_law_39 (by decide) (by decide) (by decide) (by decide) ?_
        exact lw_c8 hx hb hml hown hts hlt hXS hK hX hbl hbA hA hA2 hL i hi (15 + i) (3028 + 6 * i) (by omega) (by omega) hI hl step
      · refine lv_tableIn (x := nI 9) (off := 603) (tgt := 642) hx hb dL_law_39 (by decide) (by decide) (by decide) (by decide) ?_
        exact lw_c9 hx hb hml hown hts hlt hXS hK hX hbl hbA hA hA2 hL i hi (15 + i) (3028 + 6 * i) (by omega) (by omega) hI hl step
      · refine lv_tableIn (x := nI 10) (off := 616) (tgt := 655) hx hb dL_law_39 (by decide) (by decide) (by decide) (by decide) ?_
        exact lw_c10 hx hb hml hown hts hlt hXS hK hX hbl hbA hA hA2 hL i hi (15 + i) (3028 + 6 * i) (by omega) (by omega) hI hl step
      · refine lv_tableIn (x := nI 11) (off := 629) (tgt := 668) hx hb dL_law_39 (by decide) (by decide) (by decide) (by decide) ?_
        exact lw_c11 hx hb hml hown hts hlt hXS hK hX hbl hbA hA hA2 hL i hi (15 + i) (3028 + 6 * i) (by omega) (by omega) hI hl step
      · refine lv_tableIn (x := nI 12) (off := 642) (tgt := 681) hx hb dL_law_39 (by decide) (by decide) (by decide) (by decide) ?_
        exact lw_c12 hx hb hml hown hts hlt hXS hK hX hbl hbA hA hA2 hL i hi (15 + i) (3028 + 6 * i) (by omega) (by omega) hI hl step
      · refine lv_tableOut (x := nI j) (tgt := 737) hx hb dL_law_39 (Or.inr (by rw [nI_toInt (by omega)]; omega)) (by decide) ?_
        refine W.widen (k := 15 + i + 1) (n := 3028 + 6 * i + 6) (by omega) (by omega) ?_
        exact step H locs ls hI hl
theorem xt_lays1 {C n d : String} {s : State} {A0 : Array Value} (h : (Cond.laysStatic C n d).before A0 s = true) (A : Array Value) : (Cond.laysStatic C n d).before A s = true := by
  obtain ⟨c, k, i, f, a, cell, h1, h2, h3, h4, h5, h6, h7, h8, h9⟩ := Cond.laysStatic_spec h
  show (Cond.laysStatic C n d).holds A s none s [] = true
  exact Cond.laysStatic_of h1 h2 h3 h4 h5 h6 h7 h8 h9
theorem xt_isRef1 {C n d : String} {s : State} {A0 : Array Value} (h : (Cond.isRef (.static C n d)).before A0 s = true) (A : Array Value) : (Cond.isRef (.static C n d)).before A s = true := by
  simp only [Cond.before, Cond.holds, Cond.value, Term.eval] at h ⊢
  exact h
theorem lw_xt {s : State} {b : Nat} (hts : ∀ w ∈ lw_tbl, w.before #[Value.ref b] s = true) (hg : (Jvm.Cond.and given_1 narrow_1).before #[Value.ref b] s = true) : xt_S s := by
  have hf := flat_of_before _ hg
  refine ⟨⟨va_Nw.of rfl (hts (.castable xIA xIA) (by decide +kernel)), va_Nw.of rfl (hts (.castable xIO xIO) (by decide +kernel)), va_Nc.of (hf (.not (.castable xIO xIA)) (by decide +kernel))⟩, ⟨va_Nw.of rfl (hts xD1 (by decide +kernel)), va_Nw.of rfl (hts xD2 (by decide +kernel)), va_Nw.of rfl (hts xD3 (by decide +kernel))⟩, xt_lays1 (hts xU1 (by decide +kernel)), xt_lays1 (hts xU2 (by decide +kernel)), xt_isRef1 (hf xV1 (by decide +kernel)), xt_isRef1 (hf xV2 (by decide +kernel))⟩
theorem lw_dk0 : cd_dk (fun _ => 0) (fun _ => 0) (fun _ => false) (fun _ => 0) 0 lz lz lz lz lz :=
  ⟨by omega, fun k hk => absurd hk (Nat.not_lt_zero _), fun p hp => Nat.zero_le _, fun k hk => absurd hk (Nat.not_lt_zero _), fun k hk => absurd hk (Nat.not_lt_zero _), fun k hk => absurd hk (Nat.not_lt_zero _), fun k p hk => absurd hk (Nat.not_lt_zero _), fun p hp => nI_0.symm⟩
theorem lw_md0 : cd_md (fun _ => 0) (fun _ => 0) (fun _ => false) (fun _ => 0) 0 lz lz lz lz := ⟨by omega, fun k hk => absurd hk (Nat.not_lt_zero _), fun p hp => Nat.zero_le _, fun k hk => absurd hk (Nat.not_lt_zero _), fun k hk => absurd hk (Nat.not_lt_zero _), fun k hk => absurd hk (Nat.not_lt_zero _), fun p hp => nI_0.symm⟩
set_option maxHeartbeats 4000000 in
set_option maxRecDepth 100000 in
/-- from the entry, for every script of at most 1536 ints, the law comes to its end with true -/
theorem whole_start {p : Program} {e : Env} {s : State} {m : MethodId} {below : List Frame} {meth : Method} {c : Code} (l : Launch) (hlt : l.stackTraces = false) {b L : Nat} {xs : Nat → Int32} (hL : L ≤ 1536) (C0 : lw_At p s m meth c b L xs) : W p l e room_1 s m #[Value.ref b] below meth c s.heap [] 0 0 (lw_Z below #[Value.ref b] s) (entryFrame m ([Value.ref b] : List Value).toArray 7) := by
  obtain ⟨hx, hb, hret, hml, hown, htsT, hX, hbl, hlocks, hgv⟩ := C0
  have hXS := lw_xt htsT hgv
  have hb : c.code = cL_law := hb
  have hown : s.vm.findClass RL = some m.cls := hown
  have hts : ∀ w ∈ Cond.initialized "CausalDeskLaw" :: tW, w.before #[Value.ref b] s = true := fun w hw => htsT w (by
    rcases List.mem_cons.mp hw with rfl | h
    · exact (List.mem_filter.mp tm_0).1
    · exact (List.mem_filter.mp h).1)
  obtain ⟨k0, i0, hk0⟩ := u_known (n := 6) hts inX0 (hts _ (List.mem_cons_of_mem _ tm_10))
  obtain ⟨k1, i1, hk1⟩ := u_known (n := 9) hts inX1 (hts _ (List.mem_cons_of_mem _ tm_277))
  obtain ⟨cI, hcI, hnI⟩ := lr_arr (hts _ (List.mem_cons_of_mem _ tm_36))
  obtain ⟨cZ, hcZ, hnZ⟩ := lr_arr (hts _ (List.mem_cons_of_mem _ tm_37))
  obtain ⟨cJ, hcJ, hnJ⟩ := lr_arr (hts _ (List.mem_cons_of_mem _ tm_416))
  obtain ⟨D, hD1, hD2⟩ : ∃ D : va_G, u_Kn s RX0 TX0 6 (D.1 0) (D.2 0) ∧ u_Kn s RX1 TX1 9 (D.1 1) (D.2 1) := ⟨(fun k => if k = 0 then k0 else k1, fun k => if k = 0 then i0 else i1), hk0, hk1⟩
  have hK : va_K D cdCl (lwT cI cZ cJ) s := by
    refine ⟨fun c9 q hq => ?_, fun k q hq => ?_⟩
    · match c9, hq with
      | 0, hq => cases hq; exact hD1
      | 1, hq => cases hq; exact hD2
      | k + 2, hq => cases hq
    · match k, hq with
      | 0, hq => cases hq; exact ⟨hcI, hnI⟩
      | 1, hq => cases hq; exact ⟨hcZ, hnZ⟩
      | 2, hq => cases hq; exact ⟨hcJ, hnJ⟩
      | k + 3, hq => cases hq
  have hK2 : va_K D cdCl (dkT cI cZ) s := hK.sub [0, 1] rfl
  obtain ⟨A, hA, hA2⟩ : ∃ A : Nat → Prop, (∀ q, s.heap.size ≤ q → A q) ∧ (∀ q, q < s.heap.size → ¬ A q) := ⟨fun q => s.heap.size ≤ q, fun _ h => h, fun _ h z => Nat.not_lt.mpr z h⟩
  have hbA : ¬ A b := hA2 b hbl
  have hS : va_S A s.heap s.heap [] := va_S.rf
  have hP : va_P D cdCl [] s.heap := fun k q hq => by cases hq
  have hD : va_D A [] := ⟨fun i j x y hx9 => (by cases hx9), fun k q hq => (by cases hq)⟩
  have hl := lv_entry ([.ref b]) (n := 7) (Nat.le_of_ble_eq_true rfl)
  rw [lg_entry_eq]
  generalize (lg_sl ([.ref b]) ++ List.replicate (7 - (lg_sl ([.ref b])).length) Slot.unset).toArray = ls at hl ⊢
  have hl : lv_has ls 7 [(0, .ref b)] := hl
  refine va_new (ci := 0) (fs := [.null, .null, .null, .null, .null, .int 0]) (C := RX0) (T := TX0) (N := 6) hx hb hts inX0 tyX0 tyX0_ok hown (hts _ (List.mem_cons_of_mem _ tm_9)) (hts _ (List.mem_cons_of_mem _ tm_10)) (hts _ (List.mem_cons_of_mem _ tm_1)) hK hP hD hS hA rfl (fun j hj => by rcases (show j = 0 ∨ j = 1 ∨ j = 2 ∨ j = 3 ∨ j = 4 ∨ j = 5 by omega) with rfl | rfl | rfl | rfl | rfl | rfl <;> rfl) (by show _ ≤ 1046; omega) (by show _ ≤ 11262; omega) dL_law_0 (fun h H hP hD hS => ?_)
  have hP : va_P D cdCl ([(h, .inr (0, [.null, .null, .null, .null, .null, .int 0]))]) H := hP
  have hD : va_D A ([(h, .inr (0, [.null, .null, .null, .null, .null, .int 0]))]) := hD
  refine W.widen (k := 1) (n := 6) (by omega) (by omega) ?_
  refine lv_dup hx hb dL_law_3 rfl ?_
  have hPc := hP.sub (ws' := [(h, .inr (0, [.null, .null, .null, .null, .null, .int 0]))]) [0] rfl
  have hDc := hD.sub (ws' := [(h, .inr (0, [.null, .null, .null, .null, .null, .int 0]))]) [0] (by decide) rfl
  have hFc := va_free (wc := [(h, .inr (0, [.null, .null, .null, .null, .null, .int 0]))]) hD hS hA [0] rfl
  refine va_callv (va_runI (As := []) (rest := [.ref h]) ⟨hx, hb, hml, hown, hts⟩ (c_X0_init l D cI cZ h H.size) (kL_X0_init hts 1 5 1806 30 ⟨by decide, by decide⟩) ⟨fun a U g mk q => ⟨q.1, q.2.1, q.2.2.1, va_K.moved (u := U) (U := U.calling g mk a) (Vm.Alike.refl U.vm) q.2.2.2.1, q.2.2.2.2⟩, fun U hU hW => ⟨rfl, by rw [hU], by rw [hU]; exact hPc, va_K.moved hW.alike hK2, hDc.weaken (fun _ _ _ _ => trivial)⟩⟩ rfl rfl hl.1 rfl (lv_room (Nat.le_of_ble_eq_true rfl)) dL_law_4 ⟨by show _ ≤ 1046; omega, by show _ ≤ 11262; omega⟩) hS (fun q _ h => hFc q h) hFc (fun u t H1 locs ht hvm hu hB hz1 hk1 hS => ?_)
  obtain ⟨a1, a2, a3, a4, a5⟩ := u
  obtain ⟨hP1, hDD⟩ := hB
  rw [ht] at hP1
  obtain ⟨hP, hD⟩ := va_join (wr := ([] : va_W)) (w1 := (dkW h a1 a2 a3 a4 a5 cI cZ lz lz lz lz lz 0)) hP hD [0] [] rfl rfl (by decide) (by decide) hk1 hFc hP1 hDD
  generalize H1 = H at hP hS ⊢
  refine W.widen (k := 6) (n := 1812) (by omega) (by omega) ?_
  have hP : va_P D cdCl (dkW h a1 a2 a3 a4 a5 cI cZ lz lz lz lz lz 0) H := hP
  have hD : va_D A (dkW h a1 a2 a3 a4 a5 cI cZ lz lz lz lz lz 0) := hD
  refine lv_astore_n hx hb dL_law_7 rfl hl (by decide) rfl (fun ls hl => ?_)
  have hl : lv_has ls 7 [(1, .ref h), (0, .ref b)] := hl
  refine va_new (ci := 1) (fs := [.int 0, .null, .null, .null, .null, .null, .null, .null, .int 0]) (C := RX1) (T := TX1) (N := 9) hx hb hts inX1 tyX1 tyX1_ok hown (hts _ (List.mem_cons_of_mem _ tm_276)) (hts _ (List.mem_cons_of_mem _ tm_277)) (hts _ (List.mem_cons_of_mem _ tm_2)) hK hP hD hS hA rfl (fun j hj => by rcases (show j = 0 ∨ j = 1 ∨ j = 2 ∨ j = 3 ∨ j = 4 ∨ j = 5 ∨ j = 6 ∨ j = 7 ∨ j = 8 by omega) with rfl | rfl | rfl | rfl | rfl | rfl | rfl | rfl | rfl <;> rfl) (by show _ ≤ 1046; omega) (by show _ ≤ 11262; omega) dL_law_8 (fun hm H hP hD hS => ?_)
  have hP : va_P D cdCl ((dkW h a1 a2 a3 a4 a5 cI cZ lz lz lz lz lz 0) ++ [(hm, .inr (1, [.int 0, .null, .null, .null, .null, .null, .null, .null, .int 0]))]) H := hP
  have hD : va_D A ((dkW h a1 a2 a3 a4 a5 cI cZ lz lz lz lz lz 0) ++ [(hm, .inr (1, [.int 0, .null, .null, .null, .null, .null, .null, .null, .int 0]))]) := hD
  refine W.widen (k := 7) (n := 1821) (by omega) (by omega) ?_
  refine lv_dup hx hb dL_law_11 rfl ?_
  have hPc := hP.sub (ws' := [(hm, .inr (1, [.int 0, .null, .null, .null, .null, .null, .null, .null, .int 0]))]) [6] rfl
  have hDc := hD.sub (ws' := [(hm, .inr (1, [.int 0, .null, .null, .null, .null, .null, .null, .null, .int 0]))]) [6] (by decide) rfl
  have hFc := va_free (wc := [(hm, .inr (1, [.int 0, .null, .null, .null, .null, .null, .null, .null, .int 0]))]) hD hS hA [6] rfl
  refine va_callv (va_runI (As := []) (rest := [.ref hm]) ⟨hx, hb, hml, hown, hts⟩ (c_X1_init l D cI cZ hm H.size) (kL_X1_init hts 1 7 1206 30 ⟨by decide, by decide⟩) ⟨fun a U g mk q => ⟨q.1, q.2.1, q.2.2.1, va_K.moved (u := U) (U := U.calling g mk a) (Vm.Alike.refl U.vm) q.2.2.2.1, q.2.2.2.2⟩, fun U hU hW => ⟨rfl, by rw [hU], by rw [hU]; exact hPc, va_K.moved hW.alike hK2, hDc.weaken (fun _ _ _ _ => trivial)⟩⟩ rfl rfl hl.1 rfl (lv_room (Nat.le_of_ble_eq_true rfl)) dL_law_12 ⟨by show _ ≤ 1046; omega, by show _ ≤ 11262; omega⟩) hS (fun q _ h => hFc q h) hFc (fun u t H1 locs ht hvm hu hB hz1 hk1 hS => ?_)
  obtain ⟨b1, b2, b3, b4, b5, b6, b7⟩ := u
  obtain ⟨hP1, hDD⟩ := hB
  rw [ht] at hP1
  obtain ⟨hP, hD⟩ := va_join (wr := (dkW h a1 a2 a3 a4 a5 cI cZ lz lz lz lz lz 0)) (w1 := (mdW hm b1 b2 b3 b4 b5 b6 b7 cI cZ 0 lz lz lz lz lz lz lz 0)) hP hD [6] [0, 1, 2, 3, 4, 5] rfl rfl (by decide) (by decide) hk1 hFc hP1 hDD
  generalize H1 = H at hP hS ⊢
  refine W.widen (k := 14) (n := 3027) (by omega) (by omega) ?_
  have hP : va_P D cdCl ((dkW h a1 a2 a3 a4 a5 cI cZ lz lz lz lz lz 0) ++ (mdW hm b1 b2 b3 b4 b5 b6 b7 cI cZ 0 lz lz lz lz lz lz lz 0)) H := hP
  have hD : va_D A ((dkW h a1 a2 a3 a4 a5 cI cZ lz lz lz lz lz 0) ++ (mdW hm b1 b2 b3 b4 b5 b6 b7 cI cZ 0 lz lz lz lz lz lz lz 0)) := hD
  refine lv_astore_n hx hb dL_law_15 rfl hl (by decide) rfl (fun ls hl => ?_)
  have hl : lv_has ls 7 [(2, .ref hm), (1, .ref h), (0, .ref b)] := hl
  refine lv_iconst (v := nI 1) hx hb dL_law_16 (by decide) ?_
  refine lr_newJ hx hb (hts _ (List.mem_cons_of_mem _ tm_416)) hK hP hD hS hA 2 rfl (N := 1) (by decide) (by show _ ≤ 1046; omega) (by show _ ≤ 11262; omega) dL_law_17 (fun ad H hP hD hS => ?_)
  have hP := hP.sub (ws' := lwH h a1 a2 a3 a4 a5 cI cZ cJ ad lz lz lz lz lz 0 (fun _ => 0) ++ (mdW hm b1 b2 b3 b4 b5 b6 b7 cI cZ 0 lz lz lz lz lz lz lz 0)) [0, 1, 2, 3, 4, 5, 14, 6, 7, 8, 9, 10, 11, 12, 13] rfl
  have hD := hD.sub (ws' := lwH h a1 a2 a3 a4 a5 cI cZ cJ ad lz lz lz lz lz 0 (fun _ => 0) ++ (mdW hm b1 b2 b3 b4 b5 b6 b7 cI cZ 0 lz lz lz lz lz lz lz 0)) [0, 1, 2, 3, 4, 5, 14, 6, 7, 8, 9, 10, 11, 12, 13] (by decide) rfl
  refine W.widen (k := 15) (n := 3028) (by omega) (by omega) ?_
  refine lv_astore_n hx hb dL_law_19 rfl hl (by decide) rfl (fun ls hl => ?_)
  have hl : lv_has ls 7 [(3, .ref ad), (2, .ref hm), (1, .ref h), (0, .ref b)] := hl
  refine lv_iconst (v := nI 0) hx hb dL_law_20 (by decide) ?_
  refine lv_istore hx hb dL_law_21 hl (by decide) rfl (fun ls hl => ?_)
  have hl : lv_has ls 7 [(4, .int (nI 0)), (3, .ref ad), (2, .ref hm), (1, .ref h), (0, .ref b)] := hl
  exact lw_loop (A := A) hx hb hml hown hts hlt hXS hK hX hbl hbA hA hA2 hret hlocks hL L 0 H _ ls (by omega) (by omega) ⟨lz, lz, lz, lz, lz, (fun _ => 0), 0, lz, lz, lz, lz, lz, lz, lz, (fun _ => 0), (fun _ => 0), (fun _ => false), (fun _ => 0), 0, hP, hD, hS, lw_dk0, lw_md0, fun p hp => Nat.zero_le _⟩ (lv_sub hl [0, 1, 2, 3, 4] rfl)
set_option maxHeartbeats 4000000 in
theorem lw_walk (l : Launch) (hlt : l.stackTraces = false) (b : Addr) (xs : List Int32) : MetFree l x (headSpec (Jvm.Cond.code x code maxLocals ret :: tables_1) room_1) (lw_P b xs) (fun _ _ _ _ _ => True) lw_Q := by
  refine MetFree.of_bodyS (code := code) (maxLocals := maxLocals) (ret := ret) (by decide) ?_ ?_
  · intro args s m h hn
    obtain ⟨meth, c, h1, h2, h3, h4, h5, h6, -, -⟩ := Cond.code_spec hn (atoms_spec (ws := Jvm.Cond.code x code maxLocals ret :: tables_1) h _ List.mem_cons_self)
    exact ⟨meth, c, h1, h2, h3, h4, h5, h6⟩
  · intro p e s m args below meth c s₁ B hml0 hP _
    obtain ⟨rfl, hx, hbd, hgv⟩ := hP
    obtain ⟨scr, harrAt, hlist, hof, hsmall⟩ := hx
    obtain ⟨hcb, hkn, -, -⟩ := State.arrayAt?_spec harrAt
    have hown : s.vm.findClass R_law = some m.cls := findClass_of_methodNamed B.named
    have hts0 : ∀ c ∈ (Jvm.Cond.code x code maxLocals ret :: tables_1), c.before #[Value.ref b] s = true := atoms_spec (ws := Jvm.Cond.code x code maxLocals ret :: tables_1) B.pre
    have hts : ∀ w ∈ lw_tbl, w.before #[Value.ref b] s = true := k2_hts_sels lw_privs (fun w hw => hts0 w (List.mem_cons_of_mem _ hw)) lw_privs_ok
    have hml : c.maxLocals = 7 := B.maxLocals_eq (hts0 _ List.mem_cons_self)
    have X₀ : Stand p l e room_1 s m #[Value.ref b] below meth c s₁ [] 0 0 := Stand.of_body B
    have hh0 : s₁.heap = s.heap := by rw [B.state]; rfl
    have hsz : scr.slots.size = xs.length := by rw [← Array.length_toList, hlist, List.length_map]
    have hval : ∀ j : Nat, j < xs.length → scr.slots[j]? = some (.int (xs.getD j 0)) := fun j hj => by
      rw [← Array.getElem?_toList, hlist]
      simp [hj]
    have hbl : b < s.heap.size := (Array.getElem?_eq_some_iff.mp hcb).1
    have hX : va_X b xs.length (fun j => xs.getD j 0) s s.heap := ⟨scr, hcb, hof, hkn, hsz, hval⟩
    have K : W p l e room_1 s m #[Value.ref b] below meth c s₁.heap [] 0 0 (lw_Z below #[Value.ref b] s) (entryFrame m ([Value.ref b] : List Value).toArray 7) := by
      rw [hh0]
      exact whole_start l hlt hbd ⟨B.exec, B.bytes, B.returns, hml, hown, hts, hX, hbl, B.notSynchronized, hgv⟩
    obtain ⟨t, a1, o, b1, b2, b3⟩ := K s₁ rfl X₀
    exact ⟨t, o, a1, b1, b2, b3⟩
theorem lw_pre_spec {args : Array Value} {s : State} (h : (Jvm.Cond.and given_1 narrow_1).before args s = true) (hr : rest_1_c.before args s = true) : ∃ (b : Addr) (xs : List Int32), lw_P b xs args s := by
  have hs := flat_of_before _ h
  have hq := flat_of_before _ hr
  have hc : (Cond.count 1).before args s = true := hs _ (by decide +kernel)
  have harr : (Cond.arrayOf (.arg 0) .int).before args s = true := hs _ (by decide +kernel)
  have hle : (Cond.le (.length (.arg 0)) (.int 1536)).before args s = true := hs _ (by decide +kernel)
  have hlen : (Cond.isInt (.length (.arg 0))).before args s = true := hq _ (by decide +kernel)
  have hall : (Cond.all (.arg 0) (.isInt (.elem (.arg 0) (.index 0)))).before args s = true := hq _ (by decide +kernel)
  obtain ⟨b, xs, hb, hx⟩ := State.ints_of_pre rfl harr hlen hall
  have hsm : xs.length < 2 ^ 31 := hx.choose_spec.2.2.2
  have hev : (Term.length (.arg 0)).eval args s none [] s = some (.int xs.length.toInt32) := hx.length_eval hb
  have hv := Cond.le_ints hev (show (Term.int 1536).eval args s none [] s = some (.int 1536) from rfl)
  have hd : xs.length.toInt32 ≤ 1536 := by
    simpa [Cond.before, Cond.holds, hv] using hle
  have hN : xs.length ≤ 1536 := (Int32.ofNat_le_ofNat hsm (by decide)).mp (show Int32.ofNat xs.length ≤ Int32.ofNat 1536 from hd)
  exact ⟨b, xs, Cond.one_arg hc (show args[0]? = some (.ref b) from hb), hx, hN, h⟩
theorem lw_comes (l : Launch) (hlt : l.stackTraces = false) : Comes l x (Jvm.Cond.code x code maxLocals ret :: tables_1) room_1 (fun tb e args s => Calls_1 tb e args s ∧ rest_1 tb e args s ∧ Pre_1 tb e args s)
    (fun _ _ args s o t => lw_Q args s o t) := by
  intro p e ha hc hk s m args below hf hfit hheap happ hpre
  obtain ⟨b, xs, hP⟩ := lw_pre_spec hpre.2.2 hpre.2.1
  obtain ⟨k, o, h1, h2, h3, hQ⟩ := lw_walk l hlt b xs p e ha hc hk s m args below hf ((Spec.applies_iff_loose hf).mp happ).1 hP trivial
  exact ⟨k, o, h1, h2, h3, hQ⟩
theorem lw_frame {s t : State} {o : Outcome} {args : Array Value} (h : Framed s o t [] 1046 11262) :
    Framed s o t (fieldLocs frame_1_writes args s ++ arrayLocs frame_1_arrays args s ++ staticLocs frame_1_statics s) 1046 11262 := h
theorem lw_limb (L : Cond) (hL : ∀ (args : Array Value) (s t : State), L.after args s (.returned (some (.int 1))) t = true) :
    ArmFor flags0 classFile x code maxLocals ret World_1 tables_1 room_1 Calls_1 rest_1 Pre_1
      (fun tb e a s o t => postC L tb e a s o t ∧ Framed s o t (fieldLocs frame_1_writes a s ++ arrayLocs frame_1_arrays a s ++ staticLocs frame_1_statics s) 1046 11262) := by
  intro l hfl _ _ p e ha hc hk s m args below hf hfit hheap happ hpre
  obtain ⟨k, o, h1, h2, h3, rfl, hF⟩ := lw_comes l (by unfold Launch.stackTraces; rw [hfl]; decide) p e ha hc hk s m args below hf hfit hheap happ hpre
  exact ⟨k, _, h1, h2, h3, hL args s _, lw_frame hF⟩
theorem i_vc : Claimed_1_1 ∧ Claimed_1_2 := ⟨lw_limb limb_1_1 (fun args s t => by simp [limb_1_1, Cond.after, Cond.holds, Cond.value]), lw_limb limb_1_2 (fun args s t => Cond.after_iff.mpr (by
  first | (rw [show limb_1_2 = Cond.eq .result (.int 1) from rfl, Cond.eq_ints (x := 1) (y := 1) rfl rfl]; simp; done) | (simp [limb_1_2, Cond.value, Term.eval]; done)))⟩
