/-! THE LAW'S TEN HELPERS: each calls the desk once; what it answers, or the number of what it throws. One room for all -/
abbrev rmH : Room := { frames := 8, cells := 1, slots := 6, locals := 150 }
abbrev lwT (cI cZ cJ : ClassId) : List (ClassId × FieldType) := [(cI, .int), (cZ, .boolean), (cJ, .long)]
/-- the desk's cells and the law's own long[1] -/
abbrev lwH (h a1 a2 a3 a4 a5 : Nat) (cI cZ cJ : ClassId) (ad : Nat) (pr se rk ck cu : Nat → Int32) (n : Nat) (g : Nat → Int64) : va_W := [(h, .inr (0, [.ref a1, .ref a2, .ref a3, .ref a4, .ref a5, .int (nI n)])), (a1, .inl (cI, 200, .inl pr)), (a2, .inl (cZ, 200, .inl se)), (a3, .inl (cI, 200, .inl rk)), (a4, .inl (cI, 1200, .inl ck)), (a5, .inl (cI, 6, .inl cu)), (ad, .inl (cJ, 1, .inr (.inl g)))]
abbrev lwO (cJ : ClassId) (ad : Nat) (g : Nat → Int64) : va_W := [(ad, .inl (cJ, 1, .inr (.inl g)))]
set_option maxHeartbeats 4000000 in
set_option maxRecDepth 100000 in
/-- own: it goes well -/
theorem h0_L_own (l : Launch) (D : va_G) (cI cZ cJ : ClassId) (h a1 a2 a3 a4 a5 ad : Nat) (pr se rk ck cu : Nat → Int32) (n : Nat) (g : Nat → Int64) (sz : Nat) (x : Int32) {post : Int32 → dkS → Prop} {n' : Nat} (hM : Met l yX0_own (.code yX0_own cX0_own 2 (some .int) :: tW) (rmL 2) (cw_Pc D cdCl (dkT cI cZ) (dkW h a1 a2 a3 a4 a5 cI cZ pr se rk ck cu n) sz [.ref h, .int x]) (va_Qi post (fun u t => va_P D cdCl (dkU h a1 a2 a3 a4 a5 cI cZ n' u) t.heap) (va_A (dkW h a1 a2 a3 a4 a5 cI cZ pr se rk ck cu n) sz)) 0 0 (va_A (dkW h a1 a2 a3 a4 a5 cI cZ pr se rk ck cu n) sz)) : Met l yL_own (.codeWith yL_own cL_own 4 (some .int) [(0, 9, 12, 13), (0, 9, 15, 15)] :: tW) rmH (lr_Pc D cdCl (lwT cI cZ cJ) (lwH h a1 a2 a3 a4 a5 cI cZ cJ ad pr se rk ck cu n g) sz [.ref h, .int x, .ref ad]) (va_Qi (fun (r : Int32) (u : dkS × (Nat → Int64)) => r = nI 0 ∧ ∃ v : Int32, post v u.1 ∧ u.2 0 = v.toInt64) (fun u t => va_P D cdCl (lwH h a1 a2 a3 a4 a5 cI cZ cJ ad u.1.1 u.1.2.1 u.1.2.2.1 u.1.2.2.2.1 u.1.2.2.2.2 n' u.2) t.heap) (va_A (lwH h a1 a2 a3 a4 a5 cI cZ cJ ad pr se rk ck cu n g) sz)) 1 6 (va_A (lwH h a1 a2 a3 a4 a5 cI cZ cJ ad pr se rk ck cu n g) sz) := by
  refine va_MetW (cc := cL_own) (maxL := 4) (ret := (some .int)) (hh := [(0, 9, 12, 13), (0, 9, 15, 15)]) (by decide) rfl ?_
  intro p e s m args below meth c s₁ B hml hv
  obtain ⟨rfl, hsz, hP, hK, hD0, hXS⟩ := hv
  have hx := B.exec
  have hb := B.bytes
  have hr := B.returns
  have hts := atoms_spec (ws := .codeWith yL_own cL_own 4 (some .int) [(0, 9, 12, 13), (0, 9, 15, 15)] :: tW) B.pre
  have hown : s.vm.findClass RL = some m.cls := findClass_of_methodNamed B.named
  have htab : c.exceptionTable.toList = tableOf [(0, 9, 12, 13), (0, 9, 15, 15)] := vx_table (x := objectInit) B (hts _ List.mem_cons_self)
  have hl := lv_entry ([.ref h, .int x, .ref ad]) (n := 4) (Nat.le_of_ble_eq_true rfl)
  rw [lg_entry_eq]
  generalize (lg_sl ([.ref h, .int x, .ref ad]) ++ List.replicate (4 - (lg_sl ([.ref h, .int x, .ref ad])).length) Slot.unset).toArray = ls at hl ⊢
  have hl : lv_has ls 4 [(0, .ref h), (1, .int x), (2, .ref ad)] := hl
  subst hsz
  have hD := hD0.self (sz := s.heap.size)
  generalize hAe : va_A (lwH h a1 a2 a3 a4 a5 cI cZ cJ ad pr se rk ck cu n g) s.heap.size = A at hD ⊢
  have hA : ∀ q : Nat, s.heap.size ≤ q → A q := fun q h => by rw [← hAe]; exact Or.inr h
  have hS : va_S A s.heap s.heap [] := va_S.rf
  have hK2 : va_K D cdCl (dkT cI cZ) s := hK.sub [0, 1] rfl
  refine lv_aload_n hx hb dL_own_0 rfl (lv_at hl 2 rfl) ?_
  refine lv_iconst (v := nI 0) hx hb dL_own_1 (by decide) ?_
  refine lv_aload_n hx hb dL_own_2 rfl (lv_at hl 0 rfl) ?_
  refine lv_iload_n hx hb dL_own_3 rfl (lv_at hl 1 rfl) ?_
  refine cw_callWi (As := [.int x]) (S := dkS) (BW := fun u => dkU h a1 a2 a3 a4 a5 cI cZ n' u) (wr := lwO cJ ad g) (rest := [.int (nI 0), .ref ad]) ⟨hx, hb, hml, hown, hts⟩ hM (kL_X0_own hts 2 0 0 60 ⟨by decide, by decide⟩) hK2 hP hD hS hA [0, 1, 2, 3, 4, 5] [6] rfl rfl (by decide) (by decide) (by decide) (fun _ => rfl) 0 rfl rfl rfl rfl hl.1 rfl (Nat.le_of_ble_eq_true rfl) dL_own_4 ⟨Nat.zero_le _, Nat.zero_le _⟩ (fun r u H locs hu hP hD hS => ?_)
  refine lv_i2l hx hb dL_own_7 rfl ?_
  refine va_last hx hb hK hP hD hS 0 2 rfl rfl (vp_in_nI (by decide) (by decide)) dL_own_8 (fun H locs hP hD hS => ?_)
  refine lv_goto (tgt := 18) hx hb dL_own_9 (by decide) ?_
  refine lv_iconst (v := nI 0) hx hb dL_own_18 (by decide) ?_
  refine W.widen (k := 1) (n := 6) (Nat.le_of_ble_eq_true rfl) (Nat.le_of_ble_eq_true rfl) ?_
  have hP := hP.sub (ws' := (lwH h a1 a2 a3 a4 a5 cI cZ cJ ad u.1 u.2.1 u.2.2.1 u.2.2.2.1 u.2.2.2.2 n' (vp_updL g (nI 0).toNatClampNeg r.toInt64))) [1, 2, 3, 4, 5, 6, 0] rfl
  exact W.iret (v := nI 0) hx hb hr (fun t ht hW => ⟨⟨nI 0, (u, vp_updL g (nI 0).toNatClampNeg r.toInt64), rfl, ⟨rfl, r, hu, by rw [nI_clamp (by decide)]; exact pk_uLs (f := g) (k := 0) (x := r.toInt64)⟩, by show va_P D cdCl _ t.heap; rw [ht]; exact hP⟩, hS.F ht⟩) hS.2.2 dL_own_19
set_option maxHeartbeats 4000000 in
set_option maxRecDepth 100000 in
/-- own: it throws -/
theorem hx1_L_own (l : Launch) (D : va_G) (cI cZ cJ : ClassId) (h a1 a2 a3 a4 a5 ad : Nat) (pr se rk ck cu : Nat → Int32) (n : Nat) (g : Nat → Int64) (sz : Nat) (x : Int32) (hM : xt_Met l yX0_own (.code yX0_own cX0_own 2 (some .int) :: tW) (rmX 1) (va_Pc [.ref h, .int x] (fun U => va_P D cdCl (dkW h a1 a2 a3 a4 a5 cI cZ pr se rk ck cu n) U.heap ∧ va_K D cdCl (dkT cI cZ) U ∧ xt_S U)) xIA) : Met l yL_own (.codeWith yL_own cL_own 4 (some .int) [(0, 9, 12, 13), (0, 9, 15, 15)] :: tW) rmH (lr_Pc D cdCl (lwT cI cZ cJ) (lwH h a1 a2 a3 a4 a5 cI cZ cJ ad pr se rk ck cu n g) sz [.ref h, .int x, .ref ad]) (va_Qi (fun (r : Int32) (u : Unit) => r = nI 1) (fun u t => va_P D cdCl (lwH h a1 a2 a3 a4 a5 cI cZ cJ ad pr se rk ck cu n g) t.heap) (va_A (lwH h a1 a2 a3 a4 a5 cI cZ cJ ad pr se rk ck cu n g) sz)) 1 6 (va_A (lwH h a1 a2 a3 a4 a5 cI cZ cJ ad pr se rk ck cu n g) sz) := by
  refine va_MetW (cc := cL_own) (maxL := 4) (ret := (some .int)) (hh := [(0, 9, 12, 13), (0, 9, 15, 15)]) (by decide) rfl ?_
  intro p e s m args below meth c s₁ B hml hv
  obtain ⟨rfl, hsz, hP, hK, hD0, hXS⟩ := hv
  have hx := B.exec
  have hb := B.bytes
  have hr := B.returns
  have hts := atoms_spec (ws := .codeWith yL_own cL_own 4 (some .int) [(0, 9, 12, 13), (0, 9, 15, 15)] :: tW) B.pre
  have hown : s.vm.findClass RL = some m.cls := findClass_of_methodNamed B.named
  have htab : c.exceptionTable.toList = tableOf [(0, 9, 12, 13), (0, 9, 15, 15)] := vx_table (x := objectInit) B (hts _ List.mem_cons_self)
  have hl := lv_entry ([.ref h, .int x, .ref ad]) (n := 4) (Nat.le_of_ble_eq_true rfl)
  rw [lg_entry_eq]
  generalize (lg_sl ([.ref h, .int x, .ref ad]) ++ List.replicate (4 - (lg_sl ([.ref h, .int x, .ref ad])).length) Slot.unset).toArray = ls at hl ⊢
  have hl : lv_has ls 4 [(0, .ref h), (1, .int x), (2, .ref ad)] := hl
  subst hsz
  have hD := hD0.self (sz := s.heap.size)
  generalize hAe : va_A (lwH h a1 a2 a3 a4 a5 cI cZ cJ ad pr se rk ck cu n g) s.heap.size = A at hD ⊢
  have hA : ∀ q : Nat, s.heap.size ≤ q → A q := fun q h => by rw [← hAe]; exact Or.inr h
  have hS : va_S A s.heap s.heap [] := va_S.rf
  have hK2 : va_K D cdCl (dkT cI cZ) s := hK.sub [0, 1] rfl
  refine lv_aload_n hx hb dL_own_0 rfl (lv_at hl 2 rfl) ?_
  refine lv_iconst (v := nI 0) hx hb dL_own_1 (by decide) ?_
  refine lv_aload_n hx hb dL_own_2 rfl (lv_at hl 0 rfl) ?_
  refine lv_iload_n hx hb dL_own_3 rfl (lv_at hl 1 rfl) ?_
  have hP2 := hP.sub (ws' := (dkW h a1 a2 a3 a4 a5 cI cZ pr se rk ck cu n)) [0, 1, 2, 3, 4, 5] rfl
  refine xt_caught (hpc := 12) (nz := xIA) (xt_runV (As := [.int x]) (rest := [.int (nI 0), .ref ad]) (g := F0 m 4 ls _) ⟨hx, hb, hml, hown, hts⟩ hM (kL_X0_own hts 7 1 6 120 ⟨by decide, by decide⟩) (xt_preV hK2 hP2 hXS (fun _ _ => rfl) (q0 := 0) rfl rfl rfl) rfl rfl hl.1 rfl (lv_room (Nat.le_of_ble_eq_true rfl)) dL_own_4 ⟨(Nat.le_of_ble_eq_true rfl), (Nat.le_of_ble_eq_true rfl)⟩) hown [] ⟨0, 9, 12, 13⟩ [⟨0, 9, 15, 15⟩] (htab.trans rfl) rfl (by decide) (hts _ (List.mem_cons_of_mem _ tm_80)) (va_Nw.use rfl hXS.1.1) (fun y hy => by cases hy) rfl (fun x' H1 z1 z2 z3 => ?_)
  have hP := hP.kept (H1 := H1) (fun k q hk => z2 q.1 (hP k q hk).lt)
  have hS : va_S A s.heap H1 [] := ⟨Nat.le_trans hS.1 z1, fun q h1 h2 => z2 q h1, hS.2.2⟩
  refine lv_astore_n hx hb dL_own_12 rfl hl (by decide) rfl (fun ls hl => ?_)
  have hl : lv_has ls 4 [(3, .ref x'), (0, .ref h), (1, .int x), (2, .ref ad)] := hl
  refine lv_iconst (v := nI 1) hx hb dL_own_13 (by decide) ?_
  refine W.widen (k := 1) (n := 6) (Nat.le_of_ble_eq_true rfl) (Nat.le_of_ble_eq_true rfl) ?_
  exact W.iret (v := nI 1) hx hb hr (fun t ht hW => ⟨⟨nI 1, (), rfl, rfl, by show va_P D cdCl _ t.heap; rw [ht]; exact hP⟩, hS.F ht⟩) hS.2.2 dL_own_14
set_option maxHeartbeats 4000000 in
set_option maxRecDepth 100000 in
/-- own: it throws -/
theorem hx2_L_own (l : Launch) (D : va_G) (cI cZ cJ : ClassId) (h a1 a2 a3 a4 a5 ad : Nat) (pr se rk ck cu : Nat → Int32) (n : Nat) (g : Nat → Int64) (sz : Nat) (x : Int32) (hM : xt_Met l yX0_own (.code yX0_own cX0_own 2 (some .int) :: tW) (rmX 1) (va_Pc [.ref h, .int x] (fun U => va_P D cdCl (dkW h a1 a2 a3 a4 a5 cI cZ pr se rk ck cu n) U.heap ∧ va_K D cdCl (dkT cI cZ) U ∧ xt_S U)) xIO) : Met l yL_own (.codeWith yL_own cL_own 4 (some .int) [(0, 9, 12, 13), (0, 9, 15, 15)] :: tW) rmH (lr_Pc D cdCl (lwT cI cZ cJ) (lwH h a1 a2 a3 a4 a5 cI cZ cJ ad pr se rk ck cu n g) sz [.ref h, .int x, .ref ad]) (va_Qi (fun (r : Int32) (u : Unit) => r = nI 2) (fun u t => va_P D cdCl (lwH h a1 a2 a3 a4 a5 cI cZ cJ ad pr se rk ck cu n g) t.heap) (va_A (lwH h a1 a2 a3 a4 a5 cI cZ cJ ad pr se rk ck cu n g) sz)) 1 6 (va_A (lwH h a1 a2 a3 a4 a5 cI cZ cJ ad pr se rk ck cu n g) sz) := by
  refine va_MetW (cc := cL_own) (maxL := 4) (ret := (some .int)) (hh := [(0, 9, 12, 13), (0, 9, 15, 15)]) (by decide) rfl ?_
  intro p e s m args below meth c s₁ B hml hv
  obtain ⟨rfl, hsz, hP, hK, hD0, hXS⟩ := hv
  have hx := B.exec
  have hb := B.bytes
  have hr := B.returns
  have hts := atoms_spec (ws := .codeWith yL_own cL_own 4 (some .int) [(0, 9, 12, 13), (0, 9, 15, 15)] :: tW) B.pre
  have hown : s.vm.findClass RL = some m.cls := findClass_of_methodNamed B.named
  have htab : c.exceptionTable.toList = tableOf [(0, 9, 12, 13), (0, 9, 15, 15)] := vx_table (x := objectInit) B (hts _ List.mem_cons_self)
  have hl := lv_entry ([.ref h, .int x, .ref ad]) (n := 4) (Nat.le_of_ble_eq_true rfl)
  rw [lg_entry_eq]
  generalize (lg_sl ([.ref h, .int x, .ref ad]) ++ List.replicate (4 - (lg_sl ([.ref h, .int x, .ref ad])).length) Slot.unset).toArray = ls at hl ⊢
  have hl : lv_has ls 4 [(0, .ref h), (1, .int x), (2, .ref ad)] := hl
  subst hsz
  have hD := hD0.self (sz := s.heap.size)
  generalize hAe : va_A (lwH h a1 a2 a3 a4 a5 cI cZ cJ ad pr se rk ck cu n g) s.heap.size = A at hD ⊢
  have hA : ∀ q : Nat, s.heap.size ≤ q → A q := fun q h => by rw [← hAe]; exact Or.inr h
  have hS : va_S A s.heap s.heap [] := va_S.rf
  have hK2 : va_K D cdCl (dkT cI cZ) s := hK.sub [0, 1] rfl
  refine lv_aload_n hx hb dL_own_0 rfl (lv_at hl 2 rfl) ?_
  refine lv_iconst (v := nI 0) hx hb dL_own_1 (by decide) ?_
  refine lv_aload_n hx hb dL_own_2 rfl (lv_at hl 0 rfl) ?_
  refine lv_iload_n hx hb dL_own_3 rfl (lv_at hl 1 rfl) ?_
  have hP2 := hP.sub (ws' := (dkW h a1 a2 a3 a4 a5 cI cZ pr se rk ck cu n)) [0, 1, 2, 3, 4, 5] rfl
  refine xt_caught (hpc := 15) (nz := xIO) (xt_runV (As := [.int x]) (rest := [.int (nI 0), .ref ad]) (g := F0 m 4 ls _) ⟨hx, hb, hml, hown, hts⟩ hM (kL_X0_own hts 7 1 6 120 ⟨by decide, by decide⟩) (xt_preV hK2 hP2 hXS (fun _ _ => rfl) (q0 := 0) rfl rfl rfl) rfl rfl hl.1 rfl (lv_room (Nat.le_of_ble_eq_true rfl)) dL_own_4 ⟨(Nat.le_of_ble_eq_true rfl), (Nat.le_of_ble_eq_true rfl)⟩) hown [⟨0, 9, 12, 13⟩] ⟨0, 9, 15, 15⟩ [] (htab.trans rfl) rfl (by decide) (hts _ (List.mem_cons_of_mem _ tm_81)) (va_Nw.use rfl hXS.1.2.1) (fun y hy => by obtain rfl := List.mem_singleton.mp hy; exact ⟨rfl, by decide, xIA, hts _ (List.mem_cons_of_mem _ tm_80), hXS.1.2.2⟩) rfl (fun x' H1 z1 z2 z3 => ?_)
  have hP := hP.kept (H1 := H1) (fun k q hk => z2 q.1 (hP k q hk).lt)
  have hS : va_S A s.heap H1 [] := ⟨Nat.le_trans hS.1 z1, fun q h1 h2 => z2 q h1, hS.2.2⟩
  refine lv_astore_n hx hb dL_own_15 rfl hl (by decide) rfl (fun ls hl => ?_)
  have hl : lv_has ls 4 [(3, .ref x'), (0, .ref h), (1, .int x), (2, .ref ad)] := hl
  refine lv_iconst (v := nI 2) hx hb dL_own_16 (by decide) ?_
  refine W.widen (k := 1) (n := 6) (Nat.le_of_ble_eq_true rfl) (Nat.le_of_ble_eq_true rfl) ?_
  exact W.iret (v := nI 2) hx hb hr (fun t ht hW => ⟨⟨nI 2, (), rfl, rfl, by show va_P D cdCl _ t.heap; rw [ht]; exact hP⟩, hS.F ht⟩) hS.2.2 dL_own_17
set_option maxHeartbeats 4000000 in
set_option maxRecDepth 100000 in
/-- send: it goes well -/
theorem h0_L_send (l : Launch) (D : va_G) (cI cZ cJ : ClassId) (h a1 a2 a3 a4 a5 ad : Nat) (pr se rk ck cu : Nat → Int32) (n : Nat) (g : Nat → Int64) (sz : Nat) (x : Int32) {post : Int32 → dkS → Prop} {n' : Nat} (hM : Met l yX0_send (.code yX0_send cX0_send 2 (some .int) :: tW) (rmL 2) (cw_Pc D cdCl (dkT cI cZ) (dkW h a1 a2 a3 a4 a5 cI cZ pr se rk ck cu n) sz [.ref h, .int x]) (va_Qi post (fun u t => va_P D cdCl (dkU h a1 a2 a3 a4 a5 cI cZ n' u) t.heap) (va_A (dkW h a1 a2 a3 a4 a5 cI cZ pr se rk ck cu n) sz)) 0 0 (va_A (dkW h a1 a2 a3 a4 a5 cI cZ pr se rk ck cu n) sz)) : Met l yL_send (.codeWith yL_send cL_send 4 (some .int) [(0, 9, 12, 13), (0, 9, 15, 15)] :: tW) rmH (lr_Pc D cdCl (lwT cI cZ cJ) (lwH h a1 a2 a3 a4 a5 cI cZ cJ ad pr se rk ck cu n g) sz [.ref h, .int x, .ref ad]) (va_Qi (fun (r : Int32) (u : dkS × (Nat → Int64)) => r = nI 0 ∧ ∃ v : Int32, post v u.1 ∧ u.2 0 = v.toInt64) (fun u t => va_P D cdCl (lwH h a1 a2 a3 a4 a5 cI cZ cJ ad u.1.1 u.1.2.1 u.1.2.2.1 u.1.2.2.2.1 u.1.2.2.2.2 n' u.2) t.heap) (va_A (lwH h a1 a2 a3 a4 a5 cI cZ cJ ad pr se rk ck cu n g) sz)) 1 6 (va_A (lwH h a1 a2 a3 a4 a5 cI cZ cJ ad pr se rk ck cu n g) sz) := by
  refine va_MetW (cc := cL_send) (maxL := 4) (ret := (some .int)) (hh := [(0, 9, 12, 13), (0, 9, 15, 15)]) (by decide) rfl ?_
  intro p e s m args below meth c s₁ B hml hv
  obtain ⟨rfl, hsz, hP, hK, hD0, hXS⟩ := hv
  have hx := B.exec
  have hb := B.bytes
  have hr := B.returns
  have hts := atoms_spec (ws := .codeWith yL_send cL_send 4 (some .int) [(0, 9, 12, 13), (0, 9, 15, 15)] :: tW) B.pre
  have hown : s.vm.findClass RL = some m.cls := findClass_of_methodNamed B.named
  have htab : c.exceptionTable.toList = tableOf [(0, 9, 12, 13), (0, 9, 15, 15)] := vx_table (x := objectInit) B (hts _ List.mem_cons_self)
  have hl := lv_entry ([.ref h, .int x, .ref ad]) (n := 4) (Nat.le_of_ble_eq_true rfl)
  rw [lg_entry_eq]
  generalize (lg_sl ([.ref h, .int x, .ref ad]) ++ List.replicate (4 - (lg_sl ([.ref h, .int x, .ref ad])).length) Slot.unset).toArray = ls at hl ⊢
  have hl : lv_has ls 4 [(0, .ref h), (1, .int x), (2, .ref ad)] := hl
  subst hsz
  have hD := hD0.self (sz := s.heap.size)
  generalize hAe : va_A (lwH h a1 a2 a3 a4 a5 cI cZ cJ ad pr se rk ck cu n g) s.heap.size = A at hD ⊢
  have hA : ∀ q : Nat, s.heap.size ≤ q → A q := fun q h => by rw [← hAe]; exact Or.inr h
  have hS : va_S A s.heap s.heap [] := va_S.rf
  have hK2 : va_K D cdCl (dkT cI cZ) s := hK.sub [0, 1] rfl
  refine lv_aload_n hx hb dL_send_0 rfl (lv_at hl 2 rfl) ?_
  refine lv_iconst (v := nI 0) hx hb dL_send_1 (by decide) ?_
  refine lv_aload_n hx hb dL_send_2 rfl (lv_at hl 0 rfl) ?_
  refine lv_iload_n hx hb dL_send_3 rfl (lv_at hl 1 rfl) ?_
  refine cw_callWi (As := [.int x]) (S := dkS) (BW := fun u => dkU h a1 a2 a3 a4 a5 cI cZ n' u) (wr := lwO cJ ad g) (rest := [.int (nI 0), .ref ad]) ⟨hx, hb, hml, hown, hts⟩ hM (kL_X0_send hts 2 0 0 60 ⟨by decide, by decide⟩) hK2 hP hD hS hA [0, 1, 2, 3, 4, 5] [6] rfl rfl (by decide) (by decide) (by decide) (fun _ => rfl) 0 rfl rfl rfl rfl hl.1 rfl (Nat.le_of_ble_eq_true rfl) dL_send_4 ⟨Nat.zero_le _, Nat.zero_le _⟩ (fun r u H locs hu hP hD hS => ?_)
  refine lv_i2l hx hb dL_send_7 rfl ?_
  refine va_last hx hb hK hP hD hS 0 2 rfl rfl (vp_in_nI (by decide) (by decide)) dL_send_8 (fun H locs hP hD hS => ?_)
  refine lv_goto (tgt := 18) hx hb dL_send_9 (by decide) ?_
  refine lv_iconst (v := nI 0) hx hb dL_send_18 (by decide) ?_
  refine W.widen (k := 1) (n := 6) (Nat.le_of_ble_eq_true rfl) (Nat.le_of_ble_eq_true rfl) ?_
  have hP := hP.sub (ws' := (lwH h a1 a2 a3 a4 a5 cI cZ cJ ad u.1 u.2.1 u.2.2.1 u.2.2.2.1 u.2.2.2.2 n' (vp_updL g (nI 0).toNatClampNeg r.toInt64))) [1, 2, 3, 4, 5, 6, 0] rfl
  exact W.iret (v := nI 0) hx hb hr (fun t ht hW => ⟨⟨nI 0, (u, vp_updL g (nI 0).toNatClampNeg r.toInt64), rfl, ⟨rfl, r, hu, by rw [nI_clamp (by decide)]; exact pk_uLs (f := g) (k := 0) (x := r.toInt64)⟩, by show va_P D cdCl _ t.heap; rw [ht]; exact hP⟩, hS.F ht⟩) hS.2.2 dL_send_19
set_option maxHeartbeats 4000000 in
set_option maxRecDepth 100000 in
/-- send: it throws -/
theorem hx1_L_send (l : Launch) (D : va_G) (cI cZ cJ : ClassId) (h a1 a2 a3 a4 a5 ad : Nat) (pr se rk ck cu : Nat → Int32) (n : Nat) (g : Nat → Int64) (sz : Nat) (x : Int32) (hM : xt_Met l yX0_send (.code yX0_send cX0_send 2 (some .int) :: tW) (rmX 1) (va_Pc [.ref h, .int x] (fun U => va_P D cdCl (dkW h a1 a2 a3 a4 a5 cI cZ pr se rk ck cu n) U.heap ∧ va_K D cdCl (dkT cI cZ) U ∧ xt_S U)) xIA) : Met l yL_send (.codeWith yL_send cL_send 4 (some .int) [(0, 9, 12, 13), (0, 9, 15, 15)] :: tW) rmH (lr_Pc D cdCl (lwT cI cZ cJ) (lwH h a1 a2 a3 a4 a5 cI cZ cJ ad pr se rk ck cu n g) sz [.ref h, .int x, .ref ad]) (va_Qi (fun (r : Int32) (u : Unit) => r = nI 1) (fun u t => va_P D cdCl (lwH h a1 a2 a3 a4 a5 cI cZ cJ ad pr se rk ck cu n g) t.heap) (va_A (lwH h a1 a2 a3 a4 a5 cI cZ cJ ad pr se rk ck cu n g) sz)) 1 6 (va_A (lwH h a1 a2 a3 a4 a5 cI cZ cJ ad pr se rk ck cu n g) sz) := by
  refine va_MetW (cc := cL_send) (maxL := 4) (ret := (some .int)) (hh := [(0, 9, 12, 13), (0, 9, 15, 15)]) (by decide) rfl ?_
  intro p e s m args below meth c s₁ B hml hv
  obtain ⟨rfl, hsz, hP, hK, hD0, hXS⟩ := hv
  have hx := B.exec
  have hb := B.bytes
  have hr := B.returns
  have hts := atoms_spec (ws := .codeWith yL_send cL_send 4 (some .int) [(0, 9, 12, 13), (0, 9, 15, 15)] :: tW) B.pre
  have hown : s.vm.findClass RL = some m.cls := findClass_of_methodNamed B.named
  have htab : c.exceptionTable.toList = tableOf [(0, 9, 12, 13), (0, 9, 15, 15)] := vx_table (x := objectInit) B (hts _ List.mem_cons_self)
  have hl := lv_entry ([.ref h, .int x, .ref ad]) (n := 4) (Nat.le_of_ble_eq_true rfl)
  rw [lg_entry_eq]
  generalize (lg_sl ([.ref h, .int x, .ref ad]) ++ List.replicate (4 - (lg_sl ([.ref h, .int x, .ref ad])).length) Slot.unset).toArray = ls at hl ⊢
  have hl : lv_has ls 4 [(0, .ref h), (1, .int x), (2, .ref ad)] := hl
  subst hsz
  have hD := hD0.self (sz := s.heap.size)
  generalize hAe : va_A (lwH h a1 a2 a3 a4 a5 cI cZ cJ ad pr se rk ck cu n g) s.heap.size = A at hD ⊢
  have hA : ∀ q : Nat, s.heap.size ≤ q → A q := fun q h => by rw [← hAe]; exact Or.inr h
  have hS : va_S A s.heap s.heap [] := va_S.rf
  have hK2 : va_K D cdCl (dkT cI cZ) s := hK.sub [0, 1] rfl
  refine lv_aload_n hx hb dL_send_0 rfl (lv_at hl 2 rfl) ?_
  refine lv_iconst (v := nI 0) hx hb dL_send_1 (by decide) ?_
  refine lv_aload_n hx hb dL_send_2 rfl (lv_at hl 0 rfl) ?_
  refine lv_iload_n hx hb dL_send_3 rfl (lv_at hl 1 rfl) ?_
  have hP2 := hP.sub (ws' := (dkW h a1 a2 a3 a4 a5 cI cZ pr se rk ck cu n)) [0, 1, 2, 3, 4, 5] rfl
  refine xt_caught (hpc := 12) (nz := xIA) (xt_runV (As := [.int x]) (rest := [.int (nI 0), .ref ad]) (g := F0 m 4 ls _) ⟨hx, hb, hml, hown, hts⟩ hM (kL_X0_send hts 7 1 6 120 ⟨by decide, by decide⟩) (xt_preV hK2 hP2 hXS (fun _ _ => rfl) (q0 := 0) rfl rfl rfl) rfl rfl hl.1 rfl (lv_room (Nat.le_of_ble_eq_true rfl)) dL_send_4 ⟨(Nat.le_of_ble_eq_true rfl), (Nat.le_of_ble_eq_true rfl)⟩) hown [] ⟨0, 9, 12, 13⟩ [⟨0, 9, 15, 15⟩] (htab.trans rfl) rfl (by decide) (hts _ (List.mem_cons_of_mem _ tm_80)) (va_Nw.use rfl hXS.1.1) (fun y hy => by cases hy) rfl (fun x' H1 z1 z2 z3 => ?_)
  have hP := hP.kept (H1 := H1) (fun k q hk => z2 q.1 (hP k q hk).lt)
  have hS : va_S A s.heap H1 [] := ⟨Nat.le_trans hS.1 z1, fun q h1 h2 => z2 q h1, hS.2.2⟩
  refine lv_astore_n hx hb dL_send_12 rfl hl (by decide) rfl (fun ls hl => ?_)
  have hl : lv_has ls 4 [(3, .ref x'), (0, .ref h), (1, .int x), (2, .ref ad)] := hl
  refine lv_iconst (v := nI 1) hx hb dL_send_13 (by decide) ?_
  refine W.widen (k := 1) (n := 6) (Nat.le_of_ble_eq_true rfl) (Nat.le_of_ble_eq_true rfl) ?_
  exact W.iret (v := nI 1) hx hb hr (fun t ht hW => ⟨⟨nI 1, (), rfl, rfl, by show va_P D cdCl _ t.heap; rw [ht]; exact hP⟩, hS.F ht⟩) hS.2.2 dL_send_14
set_option maxHeartbeats 4000000 in
set_option maxRecDepth 100000 in
/-- send: it throws -/
theorem hx2_L_send (l : Launch) (D : va_G) (cI cZ cJ : ClassId) (h a1 a2 a3 a4 a5 ad : Nat) (pr se rk ck cu : Nat → Int32) (n : Nat) (g : Nat → Int64) (sz : Nat) (x : Int32) (hM : xt_Met l yX0_send (.code yX0_send cX0_send 2 (some .int) :: tW) (rmX 1) (va_Pc [.ref h, .int x] (fun U => va_P D cdCl (dkW h a1 a2 a3 a4 a5 cI cZ pr se rk ck cu n) U.heap ∧ va_K D cdCl (dkT cI cZ) U ∧ xt_S U)) xIO) : Met l yL_send (.codeWith yL_send cL_send 4 (some .int) [(0, 9, 12, 13), (0, 9, 15, 15)] :: tW) rmH (lr_Pc D cdCl (lwT cI cZ cJ) (lwH h a1 a2 a3 a4 a5 cI cZ cJ ad pr se rk ck cu n g) sz [.ref h, .int x, .ref ad]) (va_Qi (fun (r : Int32) (u : Unit) => r = nI 2) (fun u t => va_P D cdCl (lwH h a1 a2 a3 a4 a5 cI cZ cJ ad pr se rk ck cu n g) t.heap) (va_A (lwH h a1 a2 a3 a4 a5 cI cZ cJ ad pr se rk ck cu n g) sz)) 1 6 (va_A (lwH h a1 a2 a3 a4 a5 cI cZ cJ ad pr se rk ck cu n g) sz) := by
  refine va_MetW (cc := cL_send) (maxL := 4) (ret := (some .int)) (hh := [(0, 9, 12, 13), (0, 9, 15, 15)]) (by decide) rfl ?_
  intro p e s m args below meth c s₁ B hml hv
  obtain ⟨rfl, hsz, hP, hK, hD0, hXS⟩ := hv
  have hx := B.exec
  have hb := B.bytes
  have hr := B.returns
  have hts := atoms_spec (ws := .codeWith yL_send cL_send 4 (some .int) [(0, 9, 12, 13), (0, 9, 15, 15)] :: tW) B.pre
  have hown : s.vm.findClass RL = some m.cls := findClass_of_methodNamed B.named
  have htab : c.exceptionTable.toList = tableOf [(0, 9, 12, 13), (0, 9, 15, 15)] := vx_table (x := objectInit) B (hts _ List.mem_cons_self)
  have hl := lv_entry ([.ref h, .int x, .ref ad]) (n := 4) (Nat.le_of_ble_eq_true rfl)
  rw [lg_entry_eq]
  generalize (lg_sl ([.ref h, .int x, .ref ad]) ++ List.replicate (4 - (lg_sl ([.ref h, .int x, .ref ad])).length) Slot.unset).toArray = ls at hl ⊢
  have hl : lv_has ls 4 [(0, .ref h), (1, .int x), (2, .ref ad)] := hl
  subst hsz
  have hD := hD0.self (sz := s.heap.size)
  generalize hAe : va_A (lwH h a1 a2 a3 a4 a5 cI cZ cJ ad pr se rk ck cu n g) s.heap.size = A at hD ⊢
  have hA : ∀ q : Nat, s.heap.size ≤ q → A q := fun q h => by rw [← hAe]; exact Or.inr h
  have hS : va_S A s.heap s.heap [] := va_S.rf
  have hK2 : va_K D cdCl (dkT cI cZ) s := hK.sub [0, 1] rfl
  refine lv_aload_n hx hb dL_send_0 rfl (lv_at hl 2 rfl) ?_
  refine lv_iconst (v := nI 0) hx hb dL_send_1 (by decide) ?_
  refine lv_aload_n hx hb dL_send_2 rfl (lv_at hl 0 rfl) ?_
  refine lv_iload_n hx hb dL_send_3 rfl (lv_at hl 1 rfl) ?_
  have hP2 := hP.sub (ws' := (dkW h a1 a2 a3 a4 a5 cI cZ pr se rk ck cu n)) [0, 1, 2, 3, 4, 5] rfl
  refine xt_caught (hpc := 15) (nz := xIO) (xt_runV (As := [.int x]) (rest := [.int (nI 0), .ref ad]) (g := F0 m 4 ls _) ⟨hx, hb, hml, hown, hts⟩ hM (kL_X0_send hts 7 1 6 120 ⟨by decide, by decide⟩) (xt_preV hK2 hP2 hXS (fun _ _ => rfl) (q0 := 0) rfl rfl rfl) rfl rfl hl.1 rfl (lv_room (Nat.le_of_ble_eq_true rfl)) dL_send_4 ⟨(Nat.le_of_ble_eq_true rfl), (Nat.le_of_ble_eq_true rfl)⟩) hown [⟨0, 9, 12, 13⟩] ⟨0, 9, 15, 15⟩ [] (htab.trans rfl) rfl (by decide) (hts _ (List.mem_cons_of_mem _ tm_81)) (va_Nw.use rfl hXS.1.2.1) (fun y hy => by obtain rfl := List.mem_singleton.mp hy; exact ⟨rfl, by decide, xIA, hts _ (List.mem_cons_of_mem _ tm_80), hXS.1.2.2⟩) rfl (fun x' H1 z1 z2 z3 => ?_)
  have hP := hP.kept (H1 := H1) (fun k q hk => z2 q.1 (hP k q hk).lt)
  have hS : va_S A s.heap H1 [] := ⟨Nat.le_trans hS.1 z1, fun q h1 h2 => z2 q h1, hS.2.2⟩
  refine lv_astore_n hx hb dL_send_15 rfl hl (by decide) rfl (fun ls hl => ?_)
  have hl : lv_has ls 4 [(3, .ref x'), (0, .ref h), (1, .int x), (2, .ref ad)] := hl
  refine lv_iconst (v := nI 2) hx hb dL_send_16 (by decide) ?_
  refine W.widen (k := 1) (n := 6) (Nat.le_of_ble_eq_true rfl) (Nat.le_of_ble_eq_true rfl) ?_
  exact W.iret (v := nI 2) hx hb hr (fun t ht hW => ⟨⟨nI 2, (), rfl, rfl, by show va_P D cdCl _ t.heap; rw [ht]; exact hP⟩, hS.F ht⟩) hS.2.2 dL_send_17
set_option maxHeartbeats 4000000 in
set_option maxRecDepth 100000 in
/-- receive: it goes well -/
theorem h0_L_receive (l : Launch) (D : va_G) (cI cZ cJ : ClassId) (h a1 a2 a3 a4 a5 ad : Nat) (pr se rk ck cu : Nat → Int32) (n : Nat) (g : Nat → Int64) (sz : Nat) (x z : Int32) {post : Int32 → dkS → Prop} {n' : Nat} (hM : Met l yX0_receive (.code yX0_receive cX0_receive 3 (some .int) :: tW) (rmL 2) (cw_Pc D cdCl (dkT cI cZ) (dkW h a1 a2 a3 a4 a5 cI cZ pr se rk ck cu n) sz [.ref h, .int x, .int z]) (va_Qi post (fun u t => va_P D cdCl (dkU h a1 a2 a3 a4 a5 cI cZ n' u) t.heap) (va_A (dkW h a1 a2 a3 a4 a5 cI cZ pr se rk ck cu n) sz)) 0 0 (va_A (dkW h a1 a2 a3 a4 a5 cI cZ pr se rk ck cu n) sz)) : Met l yL_receive (.codeWith yL_receive cL_receive 5 (some .int) [(0, 10, 13, 13), (0, 10, 17, 15)] :: tW) rmH (lr_Pc D cdCl (lwT cI cZ cJ) (lwH h a1 a2 a3 a4 a5 cI cZ cJ ad pr se rk ck cu n g) sz [.ref h, .int x, .int z, .ref ad]) (va_Qi (fun (r : Int32) (u : dkS × (Nat → Int64)) => r = nI 0 ∧ ∃ v : Int32, post v u.1 ∧ u.2 0 = v.toInt64) (fun u t => va_P D cdCl (lwH h a1 a2 a3 a4 a5 cI cZ cJ ad u.1.1 u.1.2.1 u.1.2.2.1 u.1.2.2.2.1 u.1.2.2.2.2 n' u.2) t.heap) (va_A (lwH h a1 a2 a3 a4 a5 cI cZ cJ ad pr se rk ck cu n g) sz)) 1 6 (va_A (lwH h a1 a2 a3 a4 a5 cI cZ cJ ad pr se rk ck cu n g) sz) := by
  refine va_MetW (cc := cL_receive) (maxL := 5) (ret := (some .int)) (hh := [(0, 10, 13, 13), (0, 10, 17, 15)]) (by decide) rfl ?_
  intro p e s m args below meth c s₁ B hml hv
  obtain ⟨rfl, hsz, hP, hK, hD0, hXS⟩ := hv
  have hx := B.exec
  have hb := B.bytes
  have hr := B.returns
  have hts := atoms_spec (ws := .codeWith yL_receive cL_receive 5 (some .int) [(0, 10, 13, 13), (0, 10, 17, 15)] :: tW) B.pre
  have hown : s.vm.findClass RL = some m.cls := findClass_of_methodNamed B.named
  have htab : c.exceptionTable.toList = tableOf [(0, 10, 13, 13), (0, 10, 17, 15)] := vx_table (x := objectInit) B (hts _ List.mem_cons_self)
  have hl := lv_entry ([.ref h, .int x, .int z, .ref ad]) (n := 5) (Nat.le_of_ble_eq_true rfl)
  rw [lg_entry_eq]
  generalize (lg_sl ([.ref h, .int x, .int z, .ref ad]) ++ List.replicate (5 - (lg_sl ([.ref h, .int x, .int z, .ref ad])).length) Slot.unset).toArray = ls at hl ⊢
  have hl : lv_has ls 5 [(0, .ref h), (1, .int x), (2, .int z), (3, .ref ad)] := hl
  subst hsz
  have hD := hD0.self (sz := s.heap.size)
  generalize hAe : va_A (lwH h a1 a2 a3 a4 a5 cI cZ cJ ad pr se rk ck cu n g) s.heap.size = A at hD ⊢
  have hA : ∀ q : Nat, s.heap.size ≤ q → A q := fun q h => by rw [← hAe]; exact Or.inr h
  have hS : va_S A s.heap s.heap [] := va_S.rf
  have hK2 : va_K D cdCl (dkT cI cZ) s := hK.sub [0, 1] rfl
  refine lv_aload_n hx hb dL_receive_0 rfl (lv_at hl 3 rfl) ?_
  refine lv_iconst (v := nI 0) hx hb dL_receive_1 (by decide) ?_
  refine lv_aload_n hx hb dL_receive_2 rfl (lv_at hl 0 rfl) ?_
  refine lv_iload_n hx hb dL_receive_3 rfl (lv_at hl 1 rfl) ?_
  refine lv_iload_n hx hb dL_receive_4 rfl (lv_at hl 2 rfl) ?_
  refine cw_callWi (As := [.int x, .int z]) (S := dkS) (BW := fun u => dkU h a1 a2 a3 a4 a5 cI cZ n' u) (wr := lwO cJ ad g) (rest := [.int (nI 0), .ref ad]) ⟨hx, hb, hml, hown, hts⟩ hM (kL_X0_receive hts 2 0 0 60 ⟨by decide, by decide⟩) hK2 hP hD hS hA [0, 1, 2, 3, 4, 5] [6] rfl rfl (by decide) (by decide) (by decide) (fun _ => rfl) 0 rfl rfl rfl rfl hl.1 rfl (Nat.le_of_ble_eq_true rfl) dL_receive_5 ⟨Nat.zero_le _, Nat.zero_le _⟩ (fun r u H locs hu hP hD hS => ?_)
  refine lv_i2l hx hb dL_receive_8 rfl ?_
  refine va_last hx hb hK hP hD hS 0 2 rfl rfl (vp_in_nI (by decide) (by decide)) dL_receive_9 (fun H locs hP hD hS => ?_)
  refine lv_goto (tgt := 21) hx hb dL_receive_10 (by decide) ?_
  refine lv_iconst (v := nI 0) hx hb dL_receive_21 (by decide) ?_
  refine W.widen (k := 1) (n := 6) (Nat.le_of_ble_eq_true rfl) (Nat.le_of_ble_eq_true rfl) ?_
  have hP := hP.sub (ws' := (lwH h a1 a2 a3 a4 a5 cI cZ cJ ad u.1 u.2.1 u.2.2.1 u.2.2.2.1 u.2.2.2.2 n' (vp_updL g (nI 0).toNatClampNeg r.toInt64))) [1, 2, 3, 4, 5, 6, 0] rfl
  exact W.iret (v := nI 0) hx hb hr (fun t ht hW => ⟨⟨nI 0, (u, vp_updL g (nI 0).toNatClampNeg r.toInt64), rfl, ⟨rfl, r, hu, by rw [nI_clamp (by decide)]; exact pk_uLs (f := g) (k := 0) (x := r.toInt64)⟩, by show va_P D cdCl _ t.heap; rw [ht]; exact hP⟩, hS.F ht⟩) hS.2.2 dL_receive_22
set_option maxHeartbeats 4000000 in
set_option maxRecDepth 100000 in
/-- receive: it throws -/
theorem hx1_L_receive (l : Launch) (D : va_G) (cI cZ cJ : ClassId) (h a1 a2 a3 a4 a5 ad : Nat) (pr se rk ck cu : Nat → Int32) (n : Nat) (g : Nat → Int64) (sz : Nat) (x z : Int32) (hM : xt_Met l yX0_receive (.code yX0_receive cX0_receive 3 (some .int) :: tW) (rmX 1) (va_Pc [.ref h, .int x, .int z] (fun U => va_P D cdCl (dkW h a1 a2 a3 a4 a5 cI cZ pr se rk ck cu n) U.heap ∧ va_K D cdCl (dkT cI cZ) U ∧ xt_S U)) xIA) : Met l yL_receive (.codeWith yL_receive cL_receive 5 (some .int) [(0, 10, 13, 13), (0, 10, 17, 15)] :: tW) rmH (lr_Pc D cdCl (lwT cI cZ cJ) (lwH h a1 a2 a3 a4 a5 cI cZ cJ ad pr se rk ck cu n g) sz [.ref h, .int x, .int z, .ref ad]) (va_Qi (fun (r : Int32) (u : Unit) => r = nI 1) (fun u t => va_P D cdCl (lwH h a1 a2 a3 a4 a5 cI cZ cJ ad pr se rk ck cu n g) t.heap) (va_A (lwH h a1 a2 a3 a4 a5 cI cZ cJ ad pr se rk ck cu n g) sz)) 1 6 (va_A (lwH h a1 a2 a3 a4 a5 cI cZ cJ ad pr se rk ck cu n g) sz) := by
  refine va_MetW (cc := cL_receive) (maxL := 5) (ret := (some .int)) (hh := [(0, 10, 13, 13), (0, 10, 17, 15)]) (by decide) rfl ?_
  intro p e s m args below meth c s₁ B hml hv
  obtain ⟨rfl, hsz, hP, hK, hD0, hXS⟩ := hv
  have hx := B.exec
  have hb := B.bytes
  have hr := B.returns
  have hts := atoms_spec (ws := .codeWith yL_receive cL_receive 5 (some .int) [(0, 10, 13, 13), (0, 10, 17, 15)] :: tW) B.pre
  have hown : s.vm.findClass RL = some m.cls := findClass_of_methodNamed B.named
  have htab : c.exceptionTable.toList = tableOf [(0, 10, 13, 13), (0, 10, 17, 15)] := vx_table (x := objectInit) B (hts _ List.mem_cons_self)
  have hl := lv_entry ([.ref h, .int x, .int z, .ref ad]) (n := 5) (Nat.le_of_ble_eq_true rfl)
  rw [lg_entry_eq]
  generalize (lg_sl ([.ref h, .int x, .int z, .ref ad]) ++ List.replicate (5 - (lg_sl ([.ref h, .int x, .int z, .ref ad])).length) Slot.unset).toArray = ls at hl ⊢
  have hl : lv_has ls 5 [(0, .ref h), (1, .int x), (2, .int z), (3, .ref ad)] := hl
  subst hsz
  have hD := hD0.self (sz := s.heap.size)
  generalize hAe : va_A (lwH h a1 a2 a3 a4 a5 cI cZ cJ ad pr se rk ck cu n g) s.heap.size = A at hD ⊢
  have hA : ∀ q : Nat, s.heap.size ≤ q → A q := fun q h => by rw [← hAe]; exact Or.inr h
  have hS : va_S A s.heap s.heap [] := va_S.rf
  have hK2 : va_K D cdCl (dkT cI cZ) s := hK.sub [0, 1] rfl
  refine lv_aload_n hx hb dL_receive_0 rfl (lv_at hl 3 rfl) ?_
  refine lv_iconst (v := nI 0) hx hb dL_receive_1 (by decide) ?_
  refine lv_aload_n hx hb dL_receive_2 rfl (lv_at hl 0 rfl) ?_
  refine lv_iload_n hx hb dL_receive_3 rfl (lv_at hl 1 rfl) ?_
  refine lv_iload_n hx hb dL_receive_4 rfl (lv_at hl 2 rfl) ?_
  have hP2 := hP.sub (ws' := (dkW h a1 a2 a3 a4 a5 cI cZ pr se rk ck cu n)) [0, 1, 2, 3, 4, 5] rfl
  refine xt_caught (hpc := 13) (nz := xIA) (xt_runV (As := [.int x, .int z]) (rest := [.int (nI 0), .ref ad]) (g := F0 m 5 ls _) ⟨hx, hb, hml, hown, hts⟩ hM (kL_X0_receive hts 7 1 6 120 ⟨by decide, by decide⟩) (xt_preV hK2 hP2 hXS (fun _ _ => rfl) (q0 := 0) rfl rfl rfl) rfl rfl hl.1 rfl (lv_room (Nat.le_of_ble_eq_true rfl)) dL_receive_5 ⟨(Nat.le_of_ble_eq_true rfl), (Nat.le_of_ble_eq_true rfl)⟩) hown [] ⟨0, 10, 13, 13⟩ [⟨0, 10, 17, 15⟩] (htab.trans rfl) rfl (by decide) (hts _ (List.mem_cons_of_mem _ tm_80)) (va_Nw.use rfl hXS.1.1) (fun y hy => by cases hy) rfl (fun x' H1 z1 z2 z3 => ?_)
  have hP := hP.kept (H1 := H1) (fun k q hk => z2 q.1 (hP k q hk).lt)
  have hS : va_S A s.heap H1 [] := ⟨Nat.le_trans hS.1 z1, fun q h1 h2 => z2 q h1, hS.2.2⟩
  refine lv_astore hx hb dL_receive_13 hl (by decide) rfl (fun ls hl => ?_)
  have hl : lv_has ls 5 [(4, .ref x'), (0, .ref h), (1, .int x), (2, .int z), (3, .ref ad)] := hl
  refine lv_iconst (v := nI 1) hx hb dL_receive_15 (by decide) ?_
  refine W.widen (k := 1) (n := 6) (Nat.le_of_ble_eq_true rfl) (Nat.le_of_ble_eq_true rfl) ?_
  exact W.iret (v := nI 1) hx hb hr (fun t ht hW => ⟨⟨nI 1, (), rfl, rfl, by show va_P D cdCl _ t.heap; rw [ht]; exact hP⟩, hS.F ht⟩) hS.2.2 dL_receive_16
set_option maxHeartbeats 4000000 in
set_option maxRecDepth 100000 in
/-- receive: it throws -/
theorem hx2_L_receive (l : Launch) (D : va_G) (cI cZ cJ : ClassId) (h a1 a2 a3 a4 a5 ad : Nat) (pr se rk ck cu : Nat → Int32) (n : Nat) (g : Nat → Int64) (sz : Nat) (x z : Int32) (hM : xt_Met l yX0_receive (.code yX0_receive cX0_receive 3 (some .int) :: tW) (rmX 1) (va_Pc [.ref h, .int x, .int z] (fun U => va_P D cdCl (dkW h a1 a2 a3 a4 a5 cI cZ pr se rk ck cu n) U.heap ∧ va_K D cdCl (dkT cI cZ) U ∧ xt_S U)) xIO) : Met l yL_receive (.codeWith yL_receive cL_receive 5 (some .int) [(0, 10, 13, 13), (0, 10, 17, 15)] :: tW) rmH (lr_Pc D cdCl (lwT cI cZ cJ) (lwH h a1 a2 a3 a4 a5 cI cZ cJ ad pr se rk ck cu n g) sz [.ref h, .int x, .int z, .ref ad]) (va_Qi (fun (r : Int32) (u : Unit) => r = nI 2) (fun u t => va_P D cdCl (lwH h a1 a2 a3 a4 a5 cI cZ cJ ad pr se rk ck cu n g) t.heap) (va_A (lwH h a1 a2 a3 a4 a5 cI cZ cJ ad pr se rk ck cu n g) sz)) 1 6 (va_A (lwH h a1 a2 a3 a4 a5 cI cZ cJ ad pr se rk ck cu n g) sz) := by
  refine va_MetW (cc := cL_receive) (maxL := 5) (ret := (some .int)) (hh := [(0, 10, 13, 13), (0, 10, 17, 15)]) (by decide) rfl ?_
  intro p e s m args below meth c s₁ B hml hv
  obtain ⟨rfl, hsz, hP, hK, hD0, hXS⟩ := hv
  have hx := B.exec
  have hb := B.bytes
  have hr := B.returns
  have hts := atoms_spec (ws := .codeWith yL_receive cL_receive 5 (some .int) [(0, 10, 13, 13), (0, 10, 17, 15)] :: tW) B.pre
  have hown : s.vm.findClass RL = some m.cls := findClass_of_methodNamed B.named
  have htab : c.exceptionTable.toList = tableOf [(0, 10, 13, 13), (0, 10, 17, 15)] := vx_table (x := objectInit) B (hts _ List.mem_cons_self)
  have hl := lv_entry ([.ref h, .int x, .int z, .ref ad]) (n := 5) (Nat.le_of_ble_eq_true rfl)
  rw [lg_entry_eq]
  generalize (lg_sl ([.ref h, .int x, .int z, .ref ad]) ++ List.replicate (5 - (lg_sl ([.ref h, .int x, .int z, .ref ad])).length) Slot.unset).toArray = ls at hl ⊢
  have hl : lv_has ls 5 [(0, .ref h), (1, .int x), (2, .int z), (3, .ref ad)] := hl
  subst hsz
  have hD := hD0.self (sz := s.heap.size)
  generalize hAe : va_A (lwH h a1 a2 a3 a4 a5 cI cZ cJ ad pr se rk ck cu n g) s.heap.size = A at hD ⊢
  have hA : ∀ q : Nat, s.heap.size ≤ q → A q := fun q h => by rw [← hAe]; exact Or.inr h
  have hS : va_S A s.heap s.heap [] := va_S.rf
  have hK2 : va_K D cdCl (dkT cI cZ) s := hK.sub [0, 1] rfl
  refine lv_aload_n hx hb dL_receive_0 rfl (lv_at hl 3 rfl) ?_
  refine lv_iconst (v := nI 0) hx hb dL_receive_1 (by decide) ?_
  refine lv_aload_n hx hb dL_receive_2 rfl (lv_at hl 0 rfl) ?_
  refine lv_iload_n hx hb dL_receive_3 rfl (lv_at hl 1 rfl) ?_
  refine lv_iload_n hx hb dL_receive_4 rfl (lv_at hl 2 rfl) ?_
  have hP2 := hP.sub (ws' := (dkW h a1 a2 a3 a4 a5 cI cZ pr se rk ck cu n)) [0, 1, 2, 3, 4, 5] rfl
  refine xt_caught (hpc := 17) (nz := xIO) (xt_runV (As := [.int x, .int z]) (rest := [.int (nI 0), .ref ad]) (g := F0 m 5 ls _) ⟨hx, hb, hml, hown, hts⟩ hM (kL_X0_receive hts 7 1 6 120 ⟨by decide, by decide⟩) (xt_preV hK2 hP2 hXS (fun _ _ => rfl) (q0 := 0) rfl rfl rfl) rfl rfl hl.1 rfl (lv_room (Nat.le_of_ble_eq_true rfl)) dL_receive_5 ⟨(Nat.le_of_ble_eq_true rfl), (Nat.le_of_ble_eq_true rfl)⟩) hown [⟨0, 10, 13, 13⟩] ⟨0, 10, 17, 15⟩ [] (htab.trans rfl) rfl (by decide) (hts _ (List.mem_cons_of_mem _ tm_81)) (va_Nw.use rfl hXS.1.2.1) (fun y hy => by obtain rfl := List.mem_singleton.mp hy; exact ⟨rfl, by decide, xIA, hts _ (List.mem_cons_of_mem _ tm_80), hXS.1.2.2⟩) rfl (fun x' H1 z1 z2 z3 => ?_)
  have hP := hP.kept (H1 := H1) (fun k q hk => z2 q.1 (hP k q hk).lt)
  have hS : va_S A s.heap H1 [] := ⟨Nat.le_trans hS.1 z1, fun q h1 h2 => z2 q h1, hS.2.2⟩
  refine lv_astore hx hb dL_receive_17 hl (by decide) rfl (fun ls hl => ?_)
  have hl : lv_has ls 5 [(4, .ref x'), (0, .ref h), (1, .int x), (2, .int z), (3, .ref ad)] := hl
  refine lv_iconst (v := nI 2) hx hb dL_receive_19 (by decide) ?_
  refine W.widen (k := 1) (n := 6) (Nat.le_of_ble_eq_true rfl) (Nat.le_of_ble_eq_true rfl) ?_
  exact W.iret (v := nI 2) hx hb hr (fun t ht hW => ⟨⟨nI 2, (), rfl, rfl, by show va_P D cdCl _ t.heap; rw [ht]; exact hP⟩, hS.F ht⟩) hS.2.2 dL_receive_20
set_option maxHeartbeats 4000000 in
set_option maxRecDepth 100000 in
/-- undo: it goes well -/
theorem h0_L_undo (l : Launch) (D : va_G) (cI cZ cJ : ClassId) (h a1 a2 a3 a4 a5 ad : Nat) (pr se rk ck cu : Nat → Int32) (n : Nat) (g : Nat → Int64) (sz : Nat) (x : Int32) {post : dkS → Prop} {n' : Nat} (hM : Met l yX0_undo (.code yX0_undo cX0_undo 3 none :: tW) (rmL 2) (cw_Pc D cdCl (dkT cI cZ) (dkW h a1 a2 a3 a4 a5 cI cZ pr se rk ck cu n) sz [.ref h, .int x]) (va_Qv post (fun u t => va_P D cdCl (dkU h a1 a2 a3 a4 a5 cI cZ n' u) t.heap) (va_A (dkW h a1 a2 a3 a4 a5 cI cZ pr se rk ck cu n) sz)) 0 0 (va_A (dkW h a1 a2 a3 a4 a5 cI cZ pr se rk ck cu n) sz)) : Met l yL_undo (.codeWith yL_undo cL_undo 3 (some .int) [(0, 5, 8, 13)] :: tW) rmH (lr_Pc D cdCl (lwT cI cZ cJ) (lwH h a1 a2 a3 a4 a5 cI cZ cJ ad pr se rk ck cu n g) sz [.ref h, .int x]) (va_Qi (fun (r : Int32) (u : dkS × (Nat → Int64)) => r = nI 0 ∧ post u.1 ∧ u.2 = g) (fun u t => va_P D cdCl (lwH h a1 a2 a3 a4 a5 cI cZ cJ ad u.1.1 u.1.2.1 u.1.2.2.1 u.1.2.2.2.1 u.1.2.2.2.2 n' u.2) t.heap) (va_A (lwH h a1 a2 a3 a4 a5 cI cZ cJ ad pr se rk ck cu n g) sz)) 1 6 (va_A (lwH h a1 a2 a3 a4 a5 cI cZ cJ ad pr se rk ck cu n g) sz) := by
  refine va_MetW (cc := cL_undo) (maxL := 3) (ret := (some .int)) (hh := [(0, 5, 8, 13)]) (by decide) rfl ?_
  intro p e s m args below meth c s₁ B hml hv
  obtain ⟨rfl, hsz, hP, hK, hD0, hXS⟩ := hv
  have hx := B.exec
  have hb := B.bytes
  have hr := B.returns
  have hts := atoms_spec (ws := .codeWith yL_undo cL_undo 3 (some .int) [(0, 5, 8, 13)] :: tW) B.pre
  have hown : s.vm.findClass RL = some m.cls := findClass_of_methodNamed B.named
  have htab : c.exceptionTable.toList = tableOf [(0, 5, 8, 13)] := vx_table (x := objectInit) B (hts _ List.mem_cons_self)
  have hl := lv_entry ([.ref h, .int x]) (n := 3) (Nat.le_of_ble_eq_true rfl)
  rw [lg_entry_eq]
  generalize (lg_sl ([.ref h, .int x]) ++ List.replicate (3 - (lg_sl ([.ref h, .int x])).length) Slot.unset).toArray = ls at hl ⊢
  have hl : lv_has ls 3 [(0, .ref h), (1, .int x)] := hl
  subst hsz
  have hD := hD0.self (sz := s.heap.size)
  generalize hAe : va_A (lwH h a1 a2 a3 a4 a5 cI cZ cJ ad pr se rk ck cu n g) s.heap.size = A at hD ⊢
  have hA : ∀ q : Nat, s.heap.size ≤ q → A q := fun q h => by rw [← hAe]; exact Or.inr h
  have hS : va_S A s.heap s.heap [] := va_S.rf
  have hK2 : va_K D cdCl (dkT cI cZ) s := hK.sub [0, 1] rfl
  refine lv_aload_n hx hb dL_undo_0 rfl (lv_at hl 0 rfl) ?_
  refine lv_iload_n hx hb dL_undo_1 rfl (lv_at hl 1 rfl) ?_
  refine cw_callWv (As := [.int x]) (S := dkS) (BW := fun u => dkU h a1 a2 a3 a4 a5 cI cZ n' u) (wr := lwO cJ ad g) (rest := []) ⟨hx, hb, hml, hown, hts⟩ hM (kL_X0_undo hts 2 0 0 60 ⟨by decide, by decide⟩) hK2 hP hD hS hA [0, 1, 2, 3, 4, 5] [6] rfl rfl (by decide) (by decide) (by decide) (fun _ => rfl) 0 rfl rfl rfl rfl hl.1 rfl (Nat.le_of_ble_eq_true rfl) dL_undo_2 ⟨Nat.zero_le _, Nat.zero_le _⟩ (fun u H locs hu hP hD hS => ?_)
  refine lv_goto (tgt := 11) hx hb dL_undo_5 (by decide) ?_
  refine lv_iconst (v := nI 0) hx hb dL_undo_11 (by decide) ?_
  refine W.widen (k := 1) (n := 6) (Nat.le_of_ble_eq_true rfl) (Nat.le_of_ble_eq_true rfl) ?_
  have hP := hP.sub (ws' := (lwH h a1 a2 a3 a4 a5 cI cZ cJ ad u.1 u.2.1 u.2.2.1 u.2.2.2.1 u.2.2.2.2 n' g)) [1, 2, 3, 4, 5, 6, 0] rfl
  exact W.iret (v := nI 0) hx hb hr (fun t ht hW => ⟨⟨nI 0, (u, g), rfl, ⟨rfl, hu, rfl⟩, by show va_P D cdCl _ t.heap; rw [ht]; exact hP⟩, hS.F ht⟩) hS.2.2 dL_undo_12
set_option maxHeartbeats 4000000 in
set_option maxRecDepth 100000 in
/-- undo: it throws -/
theorem hx1_L_undo (l : Launch) (D : va_G) (cI cZ cJ : ClassId) (h a1 a2 a3 a4 a5 ad : Nat) (pr se rk ck cu : Nat → Int32) (n : Nat) (g : Nat → Int64) (sz : Nat) (x : Int32) (hM : xt_Met l yX0_undo (.code yX0_undo cX0_undo 3 none :: tW) (rmX 1) (va_Pc [.ref h, .int x] (fun U => va_P D cdCl (dkW h a1 a2 a3 a4 a5 cI cZ pr se rk ck cu n) U.heap ∧ va_K D cdCl (dkT cI cZ) U ∧ xt_S U)) xIA) : Met l yL_undo (.codeWith yL_undo cL_undo 3 (some .int) [(0, 5, 8, 13)] :: tW) rmH (lr_Pc D cdCl (lwT cI cZ cJ) (lwH h a1 a2 a3 a4 a5 cI cZ cJ ad pr se rk ck cu n g) sz [.ref h, .int x]) (va_Qi (fun (r : Int32) (u : Unit) => r = nI 1) (fun u t => va_P D cdCl (lwH h a1 a2 a3 a4 a5 cI cZ cJ ad pr se rk ck cu n g) t.heap) (va_A (lwH h a1 a2 a3 a4 a5 cI cZ cJ ad pr se rk ck cu n g) sz)) 1 6 (va_A (lwH h a1 a2 a3 a4 a5 cI cZ cJ ad pr se rk ck cu n g) sz) := by
  refine va_MetW (cc := cL_undo) (maxL := 3) (ret := (some .int)) (hh := [(0, 5, 8, 13)]) (by decide) rfl ?_
  intro p e s m args below meth c s₁ B hml hv
  obtain ⟨rfl, hsz, hP, hK, hD0, hXS⟩ := hv
  have hx := B.exec
  have hb := B.bytes
  have hr := B.returns
  have hts := atoms_spec (ws := .codeWith yL_undo cL_undo 3 (some .int) [(0, 5, 8, 13)] :: tW) B.pre
  have hown : s.vm.findClass RL = some m.cls := findClass_of_methodNamed B.named
  have htab : c.exceptionTable.toList = tableOf [(0, 5, 8, 13)] := vx_table (x := objectInit) B (hts _ List.mem_cons_self)
  have hl := lv_entry ([.ref h, .int x]) (n := 3) (Nat.le_of_ble_eq_true rfl)
  rw [lg_entry_eq]
  generalize (lg_sl ([.ref h, .int x]) ++ List.replicate (3 - (lg_sl ([.ref h, .int x])).length) Slot.unset).toArray = ls at hl ⊢
  have hl : lv_has ls 3 [(0, .ref h), (1, .int x)] := hl
  subst hsz
  have hD := hD0.self (sz := s.heap.size)
  generalize hAe : va_A (lwH h a1 a2 a3 a4 a5 cI cZ cJ ad pr se rk ck cu n g) s.heap.size = A at hD ⊢
  have hA : ∀ q : Nat, s.heap.size ≤ q → A q := fun q h => by rw [← hAe]; exact Or.inr h
  have hS : va_S A s.heap s.heap [] := va_S.rf
  have hK2 : va_K D cdCl (dkT cI cZ) s := hK.sub [0, 1] rfl
  refine lv_aload_n hx hb dL_undo_0 rfl (lv_at hl 0 rfl) ?_
  refine lv_iload_n hx hb dL_undo_1 rfl (lv_at hl 1 rfl) ?_
  have hP2 := hP.sub (ws' := (dkW h a1 a2 a3 a4 a5 cI cZ pr se rk ck cu n)) [0, 1, 2, 3, 4, 5] rfl
  refine xt_caught (hpc := 8) (nz := xIA) (xt_runV (As := [.int x]) (rest := []) (g := F0 m 2 ls _) ⟨hx, hb, hml, hown, hts⟩ hM (kL_X0_undo hts 7 1 6 120 ⟨by decide, by decide⟩) (xt_preV hK2 hP2 hXS (fun _ _ => rfl) (q0 := 0) rfl rfl rfl) rfl rfl hl.1 rfl (lv_room (Nat.le_of_ble_eq_true rfl)) dL_undo_2 ⟨(Nat.le_of_ble_eq_true rfl), (Nat.le_of_ble_eq_true rfl)⟩) hown [] ⟨0, 5, 8, 13⟩ [] (htab.trans rfl) rfl (by decide) (hts _ (List.mem_cons_of_mem _ tm_80)) (va_Nw.use rfl hXS.1.1) (fun y hy => by cases hy) rfl (fun x' H1 z1 z2 z3 => ?_)
  have hP := hP.kept (H1 := H1) (fun k q hk => z2 q.1 (hP k q hk).lt)
  have hS : va_S A s.heap H1 [] := ⟨Nat.le_trans hS.1 z1, fun q h1 h2 => z2 q h1, hS.2.2⟩
  refine lv_astore_n hx hb dL_undo_8 rfl hl (by decide) rfl (fun ls hl => ?_)
  have hl : lv_has ls 3 [(2, .ref x'), (0, .ref h), (1, .int x)] := hl
  refine lv_iconst (v := nI 1) hx hb dL_undo_9 (by decide) ?_
  refine W.widen (k := 1) (n := 6) (Nat.le_of_ble_eq_true rfl) (Nat.le_of_ble_eq_true rfl) ?_
  exact W.iret (v := nI 1) hx hb hr (fun t ht hW => ⟨⟨nI 1, (), rfl, rfl, by show va_P D cdCl _ t.heap; rw [ht]; exact hP⟩, hS.F ht⟩) hS.2.2 dL_undo_10
set_option maxHeartbeats 4000000 in
set_option maxRecDepth 100000 in
/-- before: it goes well -/
theorem h0_L_before (l : Launch) (D : va_G) (cI cZ cJ : ClassId) (h a1 a2 a3 a4 a5 ad : Nat) (pr se rk ck cu : Nat → Int32) (n : Nat) (g : Nat → Int64) (sz : Nat) (x z : Int32) (v : Int32) (hv : v = 0 ∨ v = 1) (hM : Met l yX0_before (.code yX0_before cX0_before 3 (some .boolean) :: tW) (rmL 3) (va_Pc [.ref h, .int x, .int z] (fun U => va_P D cdCl (dkW h a1 a2 a3 a4 a5 cI cZ pr se rk ck cu n) U.heap ∧ va_K D cdCl (dkT cI cZ) U)) (QcRead v) 0 0 (fun _ => False)) : Met l yL_before (.codeWith yL_before cL_before 5 (some .int) [(0, 17, 20, 15)] :: tW) rmH (lr_Pc D cdCl (lwT cI cZ cJ) (lwH h a1 a2 a3 a4 a5 cI cZ cJ ad pr se rk ck cu n g) sz [.ref h, .int x, .int z, .ref ad]) (va_Qi (fun (r : Int32) (u : Nat → Int64) => r = nI 0 ∧ u 0 = v.toInt64) (fun u t => va_P D cdCl (lwH h a1 a2 a3 a4 a5 cI cZ cJ ad pr se rk ck cu n u) t.heap) (va_A (lwH h a1 a2 a3 a4 a5 cI cZ cJ ad pr se rk ck cu n g) sz)) 1 6 (va_A (lwH h a1 a2 a3 a4 a5 cI cZ cJ ad pr se rk ck cu n g) sz) := by
  refine va_MetW (cc := cL_before) (maxL := 5) (ret := (some .int)) (hh := [(0, 17, 20, 15)]) (by decide) rfl ?_
  intro p e s m args below meth c s₁ B hml hv
  obtain ⟨rfl, hsz, hP, hK, hD0, hXS⟩ := hv
  have hx := B.exec
  have hb := B.bytes
  have hr := B.returns
  have hts := atoms_spec (ws := .codeWith yL_before cL_before 5 (some .int) [(0, 17, 20, 15)] :: tW) B.pre
  have hown : s.vm.findClass RL = some m.cls := findClass_of_methodNamed B.named
  have htab : c.exceptionTable.toList = tableOf [(0, 17, 20, 15)] := vx_table (x := objectInit) B (hts _ List.mem_cons_self)
  have hl := lv_entry ([.ref h, .int x, .int z, .ref ad]) (n := 5) (Nat.le_of_ble_eq_true rfl)
  rw [lg_entry_eq]
  generalize (lg_sl ([.ref h, .int x, .int z, .ref ad]) ++ List.replicate (5 - (lg_sl ([.ref h, .int x, .int z, .ref ad])).length) Slot.unset).toArray = ls at hl ⊢
  have hl : lv_has ls 5 [(0, .ref h), (1, .int x), (2, .int z), (3, .ref ad)] := hl
  subst hsz
  have hD := hD0.self (sz := s.heap.size)
  generalize hAe : va_A (lwH h a1 a2 a3 a4 a5 cI cZ cJ ad pr se rk ck cu n g) s.heap.size = A at hD ⊢
  have hA : ∀ q : Nat, s.heap.size ≤ q → A q := fun q h => by rw [← hAe]; exact Or.inr h
  have hS : va_S A s.heap s.heap [] := va_S.rf
  have hK2 : va_K D cdCl (dkT cI cZ) s := hK.sub [0, 1] rfl
  refine lv_aload_n hx hb dL_before_0 rfl (lv_at hl 3 rfl) ?_
  refine lv_iconst (v := nI 0) hx hb dL_before_1 (by decide) ?_
  refine lv_aload_n hx hb dL_before_2 rfl (lv_at hl 0 rfl) ?_
  refine lv_iload_n hx hb dL_before_3 rfl (lv_at hl 1 rfl) ?_
  refine lv_iload_n hx hb dL_before_4 rfl (lv_at hl 2 rfl) ?_
  have hP2 := hP.sub (ws' := (dkW h a1 a2 a3 a4 a5 cI cZ pr se rk ck cu n)) [0, 1, 2, 3, 4, 5] rfl
  refine cw_callR (As := [.int x, .int z]) (rest := [.int (nI 0), .ref ad]) ⟨hx, hb, hml, hown, hts⟩ hM (kL_X0_before hts 3 0 0 90 ⟨by decide, by decide⟩) hK2 hP2 0 rfl rfl rfl rfl hl.1 rfl (Nat.le_of_ble_eq_true rfl) dL_before_5 ⟨Nat.zero_le _, Nat.zero_le _⟩ ?_
  refine lv_if_eq (tgt := 15) hx hb dL_before_8 (by decide) (fun hc => ?_) (fun hc => ?_)
  · subst hc
    refine lv_lconst (v := 0) hx hb dL_before_15 rfl ?_
    refine va_last hx hb hK hP hD hS 6 2 rfl rfl (vp_in_nI (by decide) (by decide)) dL_before_16 (fun H locs hP hD hS => ?_)
    refine lv_goto (tgt := 24) hx hb dL_before_17 (by decide) ?_
    refine lv_iconst (v := nI 0) hx hb dL_before_24 (by decide) ?_
    refine W.widen (k := 1) (n := 6) (Nat.le_of_ble_eq_true rfl) (Nat.le_of_ble_eq_true rfl) ?_
    exact W.iret (v := nI 0) hx hb hr (fun t ht hW => ⟨⟨nI 0, (vp_updL g (nI 0).toNatClampNeg 0), rfl, ⟨rfl, by rw [nI_clamp (by decide)]; exact pk_uLs.trans (by decide)⟩, by show va_P D cdCl _ t.heap; rw [ht]; exact hP⟩, hS.F ht⟩) hS.2.2 dL_before_25
  · obtain rfl : v = 1 := hv.resolve_left hc
    refine lv_lconst (v := 1) hx hb dL_before_11 rfl ?_
    refine lv_goto (tgt := 16) hx hb dL_before_12 (by decide) ?_
    refine va_last hx hb hK hP hD hS 6 2 rfl rfl (vp_in_nI (by decide) (by decide)) dL_before_16 (fun H locs hP hD hS => ?_)
    refine lv_goto (tgt := 24) hx hb dL_before_17 (by decide) ?_
    refine lv_iconst (v := nI 0) hx hb dL_before_24 (by decide) ?_
    refine W.widen (k := 1) (n := 6) (Nat.le_of_ble_eq_true rfl) (Nat.le_of_ble_eq_true rfl) ?_
    exact W.iret (v := nI 0) hx hb hr (fun t ht hW => ⟨⟨nI 0, (vp_updL g (nI 0).toNatClampNeg 1), rfl, ⟨rfl, by rw [nI_clamp (by decide)]; exact pk_uLs.trans (by decide)⟩, by show va_P D cdCl _ t.heap; rw [ht]; exact hP⟩, hS.F ht⟩) hS.2.2 dL_before_25
set_option maxHeartbeats 4000000 in
set_option maxRecDepth 100000 in
/-- before: it throws -/
theorem hx1_L_before (l : Launch) (D : va_G) (cI cZ cJ : ClassId) (h a1 a2 a3 a4 a5 ad : Nat) (pr se rk ck cu : Nat → Int32) (n : Nat) (g : Nat → Int64) (sz : Nat) (x z : Int32) (hM : xt_Met l yX0_before (.code yX0_before cX0_before 3 (some .boolean) :: tW) (rmX 1) (va_Pc [.ref h, .int x, .int z] (fun U => va_P D cdCl (dkW h a1 a2 a3 a4 a5 cI cZ pr se rk ck cu n) U.heap ∧ va_K D cdCl (dkT cI cZ) U ∧ xt_S U)) xIO) : Met l yL_before (.codeWith yL_before cL_before 5 (some .int) [(0, 17, 20, 15)] :: tW) rmH (lr_Pc D cdCl (lwT cI cZ cJ) (lwH h a1 a2 a3 a4 a5 cI cZ cJ ad pr se rk ck cu n g) sz [.ref h, .int x, .int z, .ref ad]) (va_Qi (fun (r : Int32) (u : Unit) => r = nI 1) (fun u t => va_P D cdCl (lwH h a1 a2 a3 a4 a5 cI cZ cJ ad pr se rk ck cu n g) t.heap) (va_A (lwH h a1 a2 a3 a4 a5 cI cZ cJ ad pr se rk ck cu n g) sz)) 1 6 (va_A (lwH h a1 a2 a3 a4 a5 cI cZ cJ ad pr se rk ck cu n g) sz) := by
  refine va_MetW (cc := cL_before) (maxL := 5) (ret := (some .int)) (hh := [(0, 17, 20, 15)]) (by decide) rfl ?_
  intro p e s m args below meth c s₁ B hml hv
  obtain ⟨rfl, hsz, hP, hK, hD0, hXS⟩ := hv
  have hx := B.exec
  have hb := B.bytes
  have hr := B.returns
  have hts := atoms_spec (ws := .codeWith yL_before cL_before 5 (some .int) [(0, 17, 20, 15)] :: tW) B.pre
  have hown : s.vm.findClass RL = some m.cls := findClass_of_methodNamed B.named
  have htab : c.exceptionTable.toList = tableOf [(0, 17, 20, 15)] := vx_table (x := objectInit) B (hts _ List.mem_cons_self)
  have hl := lv_entry ([.ref h, .int x, .int z, .ref ad]) (n := 5) (Nat.le_of_ble_eq_true rfl)
  rw [lg_entry_eq]
  generalize (lg_sl ([.ref h, .int x, .int z, .ref ad]) ++ List.replicate (5 - (lg_sl ([.ref h, .int x, .int z, .ref ad])).length) Slot.unset).toArray = ls at hl ⊢
  have hl : lv_has ls 5 [(0, .ref h), (1, .int x), (2, .int z), (3, .ref ad)] := hl
  subst hsz
  have hD := hD0.self (sz := s.heap.size)
  generalize hAe : va_A (lwH h a1 a2 a3 a4 a5 cI cZ cJ ad pr se rk ck cu n g) s.heap.size = A at hD ⊢
  have hA : ∀ q : Nat, s.heap.size ≤ q → A q := fun q h => by rw [← hAe]; exact Or.inr h
  have hS : va_S A s.heap s.heap [] := va_S.rf
  have hK2 : va_K D cdCl (dkT cI cZ) s := hK.sub [0, 1] rfl
  refine lv_aload_n hx hb dL_before_0 rfl (lv_at hl 3 rfl) ?_
  refine lv_iconst (v := nI 0) hx hb dL_before_1 (by decide) ?_
  refine lv_aload_n hx hb dL_before_2 rfl (lv_at hl 0 rfl) ?_
  refine lv_iload_n hx hb dL_before_3 rfl (lv_at hl 1 rfl) ?_
  refine lv_iload_n hx hb dL_before_4 rfl (lv_at hl 2 rfl) ?_
  have hP2 := hP.sub (ws' := (dkW h a1 a2 a3 a4 a5 cI cZ pr se rk ck cu n)) [0, 1, 2, 3, 4, 5] rfl
  refine xt_caught (hpc := 20) (nz := xIO) (xt_runV (As := [.int x, .int z]) (rest := [.int (nI 0), .ref ad]) (g := F0 m 5 ls _) ⟨hx, hb, hml, hown, hts⟩ hM (kL_X0_before hts 7 1 6 120 ⟨by decide, by decide⟩) (xt_preV hK2 hP2 hXS (fun _ _ => rfl) (q0 := 0) rfl rfl rfl) rfl rfl hl.1 rfl (lv_room (Nat.le_of_ble_eq_true rfl)) dL_before_5 ⟨(Nat.le_of_ble_eq_true rfl), (Nat.le_of_ble_eq_true rfl)⟩) hown [] ⟨0, 17, 20, 15⟩ [] (htab.trans rfl) rfl (by decide) (hts _ (List.mem_cons_of_mem _ tm_81)) (va_Nw.use rfl hXS.1.2.1) (fun y hy => by cases hy) rfl (fun x' H1 z1 z2 z3 => ?_)
  have hP := hP.kept (H1 := H1) (fun k q hk => z2 q.1 (hP k q hk).lt)
  have hS : va_S A s.heap H1 [] := ⟨Nat.le_trans hS.1 z1, fun q h1 h2 => z2 q h1, hS.2.2⟩
  refine lv_astore hx hb dL_before_20 hl (by decide) rfl (fun ls hl => ?_)
  have hl : lv_has ls 5 [(4, .ref x'), (0, .ref h), (1, .int x), (2, .int z), (3, .ref ad)] := hl
  refine lv_iconst (v := nI 1) hx hb dL_before_22 (by decide) ?_
  refine W.widen (k := 1) (n := 6) (Nat.le_of_ble_eq_true rfl) (Nat.le_of_ble_eq_true rfl) ?_
  exact W.iret (v := nI 1) hx hb hr (fun t ht hW => ⟨⟨nI 1, (), rfl, rfl, by show va_P D cdCl _ t.heap; rw [ht]; exact hP⟩, hS.F ht⟩) hS.2.2 dL_before_23
set_option maxHeartbeats 4000000 in
set_option maxRecDepth 100000 in
/-- apart: it goes well -/
theorem h0_L_apart (l : Launch) (D : va_G) (cI cZ cJ : ClassId) (h a1 a2 a3 a4 a5 ad : Nat) (pr se rk ck cu : Nat → Int32) (n : Nat) (g : Nat → Int64) (sz : Nat) (x z : Int32) (v : Int32) (hv : v = 0 ∨ v = 1) (hM : Met l yX0_apart (.code yX0_apart cX0_apart 3 (some .boolean) :: tW) (rmL 3) (va_Pc [.ref h, .int x, .int z] (fun U => va_P D cdCl (dkW h a1 a2 a3 a4 a5 cI cZ pr se rk ck cu n) U.heap ∧ va_K D cdCl (dkT cI cZ) U)) (QcRead v) 0 0 (fun _ => False)) : Met l yL_apart (.codeWith yL_apart cL_apart 5 (some .int) [(0, 17, 20, 15)] :: tW) rmH (lr_Pc D cdCl (lwT cI cZ cJ) (lwH h a1 a2 a3 a4 a5 cI cZ cJ ad pr se rk ck cu n g) sz [.ref h, .int x, .int z, .ref ad]) (va_Qi (fun (r : Int32) (u : Nat → Int64) => r = nI 0 ∧ u 0 = v.toInt64) (fun u t => va_P D cdCl (lwH h a1 a2 a3 a4 a5 cI cZ cJ ad pr se rk ck cu n u) t.heap) (va_A (lwH h a1 a2 a3 a4 a5 cI cZ cJ ad pr se rk ck cu n g) sz)) 1 6 (va_A (lwH h a1 a2 a3 a4 a5 cI cZ cJ ad pr se rk ck cu n g) sz) := by
  refine va_MetW (cc := cL_apart) (maxL := 5) (ret := (some .int)) (hh := [(0, 17, 20, 15)]) (by decide) rfl ?_
  intro p e s m args below meth c s₁ B hml hv
  obtain ⟨rfl, hsz, hP, hK, hD0, hXS⟩ := hv
  have hx := B.exec
  have hb := B.bytes
  have hr := B.returns
  have hts := atoms_spec (ws := .codeWith yL_apart cL_apart 5 (some .int) [(0, 17, 20, 15)] :: tW) B.pre
  have hown : s.vm.findClass RL = some m.cls := findClass_of_methodNamed B.named
  have htab : c.exceptionTable.toList = tableOf [(0, 17, 20, 15)] := vx_table (x := objectInit) B (hts _ List.mem_cons_self)
  have hl := lv_entry ([.ref h, .int x, .int z, .ref ad]) (n := 5) (Nat.le_of_ble_eq_true rfl)
  rw [lg_entry_eq]
  generalize (lg_sl ([.ref h, .int x, .int z, .ref ad]) ++ List.replicate (5 - (lg_sl ([.ref h, .int x, .int z, .ref ad])).length) Slot.unset).toArray = ls at hl ⊢
  have hl : lv_has ls 5 [(0, .ref h), (1, .int x), (2, .int z), (3, .ref ad)] := hl
  subst hsz
  have hD := hD0.self (sz := s.heap.size)
  generalize hAe : va_A (lwH h a1 a2 a3 a4 a5 cI cZ cJ ad pr se rk ck cu n g) s.heap.size = A at hD ⊢
  have hA : ∀ q : Nat, s.heap.size ≤ q → A q := fun q h => by rw [← hAe]; exact Or.inr h
  have hS : va_S A s.heap s.heap [] := va_S.rf
  have hK2 : va_K D cdCl (dkT cI cZ) s := hK.sub [0, 1] rfl
  refine lv_aload_n hx hb dL_apart_0 rfl (lv_at hl 3 rfl) ?_
  refine lv_iconst (v := nI 0) hx hb dL_apart_1 (by decide) ?_
  refine lv_aload_n hx hb dL_apart_2 rfl (lv_at hl 0 rfl) ?_
  refine lv_iload_n hx hb dL_apart_3 rfl (lv_at hl 1 rfl) ?_
  refine lv_iload_n hx hb dL_apart_4 rfl (lv_at hl 2 rfl) ?_
  have hP2 := hP.sub (ws' := (dkW h a1 a2 a3 a4 a5 cI cZ pr se rk ck cu n)) [0, 1, 2, 3, 4, 5] rfl
  refine cw_callR (As := [.int x, .int z]) (rest := [.int (nI 0), .ref ad]) ⟨hx, hb, hml, hown, hts⟩ hM (kL_X0_apart hts 3 0 0 90 ⟨by decide, by decide⟩) hK2 hP2 0 rfl rfl rfl rfl hl.1 rfl (Nat.le_of_ble_eq_true rfl) dL_apart_5 ⟨Nat.zero_le _, Nat.zero_le _⟩ ?_
  refine lv_if_eq (tgt := 15) hx hb dL_apart_8 (by decide) (fun hc => ?_) (fun hc => ?_)
  · subst hc
    refine lv_lconst (v := 0) hx hb dL_apart_15 rfl ?_
    refine va_last hx hb hK hP hD hS 6 2 rfl rfl (vp_in_nI (by decide) (by decide)) dL_apart_16 (fun H locs hP hD hS => ?_)
    refine lv_goto (tgt := 24) hx hb dL_apart_17 (by decide) ?_
    refine lv_iconst (v := nI 0) hx hb dL_apart_24 (by decide) ?_
    refine W.widen (k := 1) (n := 6) (Nat.le_of_ble_eq_true rfl) (Nat.le_of_ble_eq_true rfl) ?_
    exact W.iret (v := nI 0) hx hb hr (fun t ht hW => ⟨⟨nI 0, (vp_updL g (nI 0).toNatClampNeg 0), rfl, ⟨rfl, by rw [nI_clamp (by decide)]; exact pk_uLs.trans (by decide)⟩, by show va_P D cdCl _ t.heap; rw [ht]; exact hP⟩, hS.F ht⟩) hS.2.2 dL_apart_25
  · obtain rfl : v = 1 := hv.resolve_left hc
    refine lv_lconst (v := 1) hx hb dL_apart_11 rfl ?_
    refine lv_goto (tgt := 16) hx hb dL_apart_12 (by decide) ?_
    refine va_last hx hb hK hP hD hS 6 2 rfl rfl (vp_in_nI (by decide) (by decide)) dL_apart_16 (fun H locs hP hD hS => ?_)
    refine lv_goto (tgt := 24) hx hb dL_apart_17 (by decide) ?_
    refine lv_iconst (v := nI 0) hx hb dL_apart_24 (by decide) ?_
    refine W.widen (k := 1) (n := 6) (Nat.le_of_ble_eq_true rfl) (Nat.le_of_ble_eq_true rfl) ?_
    exact W.iret (v := nI 0) hx hb hr (fun t ht hW => ⟨⟨nI 0, (vp_updL g (nI 0).toNatClampNeg 1), rfl, ⟨rfl, by rw [nI_clamp (by decide)]; exact pk_uLs.trans (by decide)⟩, by show va_P D cdCl _ t.heap; rw [ht]; exact hP⟩, hS.F ht⟩) hS.2.2 dL_apart_25
set_option maxHeartbeats 4000000 in
set_option maxRecDepth 100000 in
/-- apart: it throws -/
theorem hx1_L_apart (l : Launch) (D : va_G) (cI cZ cJ : ClassId) (h a1 a2 a3 a4 a5 ad : Nat) (pr se rk ck cu : Nat → Int32) (n : Nat) (g : Nat → Int64) (sz : Nat) (x z : Int32) (hM : xt_Met l yX0_apart (.code yX0_apart cX0_apart 3 (some .boolean) :: tW) (rmX 1) (va_Pc [.ref h, .int x, .int z] (fun U => va_P D cdCl (dkW h a1 a2 a3 a4 a5 cI cZ pr se rk ck cu n) U.heap ∧ va_K D cdCl (dkT cI cZ) U ∧ xt_S U)) xIO) : Met l yL_apart (.codeWith yL_apart cL_apart 5 (some .int) [(0, 17, 20, 15)] :: tW) rmH (lr_Pc D cdCl (lwT cI cZ cJ) (lwH h a1 a2 a3 a4 a5 cI cZ cJ ad pr se rk ck cu n g) sz [.ref h, .int x, .int z, .ref ad]) (va_Qi (fun (r : Int32) (u : Unit) => r = nI 1) (fun u t => va_P D cdCl (lwH h a1 a2 a3 a4 a5 cI cZ cJ ad pr se rk ck cu n g) t.heap) (va_A (lwH h a1 a2 a3 a4 a5 cI cZ cJ ad pr se rk ck cu n g) sz)) 1 6 (va_A (lwH h a1 a2 a3 a4 a5 cI cZ cJ ad pr se rk ck cu n g) sz) := by
  refine va_MetW (cc := cL_apart) (maxL := 5) (ret := (some .int)) (hh := [(0, 17, 20, 15)]) (by decide) rfl ?_
  intro p e s m args below meth c s₁ B hml hv
  obtain ⟨rfl, hsz, hP, hK, hD0, hXS⟩ := hv
  have hx := B.exec
  have hb := B.bytes
  have hr := B.returns
  have hts := atoms_spec (ws := .codeWith yL_apart cL_apart 5 (some .int) [(0, 17, 20, 15)] :: tW) B.pre
  have hown : s.vm.findClass RL = some m.cls := findClass_of_methodNamed B.named
  have htab : c.exceptionTable.toList = tableOf [(0, 17, 20, 15)] := vx_table (x := objectInit) B (hts _ List.mem_cons_self)
  have hl := lv_entry ([.ref h, .int x, .int z, .ref ad]) (n := 5) (Nat.le_of_ble_eq_true rfl)
  rw [lg_entry_eq]
  generalize (lg_sl ([.ref h, .int x, .int z, .ref ad]) ++ List.replicate (5 - (lg_sl ([.ref h, .int x, .int z, .ref ad])).length) Slot.unset).toArray = ls at hl ⊢
  have hl : lv_has ls 5 [(0, .ref h), (1, .int x), (2, .int z), (3, .ref ad)] := hl
  subst hsz
  have hD := hD0.self (sz := s.heap.size)
  generalize hAe : va_A (lwH h a1 a2 a3 a4 a5 cI cZ cJ ad pr se rk ck cu n g) s.heap.size = A at hD ⊢
  have hA : ∀ q : Nat, s.heap.size ≤ q → A q := fun q h => by rw [← hAe]; exact Or.inr h
  have hS : va_S A s.heap s.heap [] := va_S.rf
  have hK2 : va_K D cdCl (dkT cI cZ) s := hK.sub [0, 1] rfl
  refine lv_aload_n hx hb dL_apart_0 rfl (lv_at hl 3 rfl) ?_
  refine lv_iconst (v := nI 0) hx hb dL_apart_1 (by decide) ?_
  refine lv_aload_n hx hb dL_apart_2 rfl (lv_at hl 0 rfl) ?_
  refine lv_iload_n hx hb dL_apart_3 rfl (lv_at hl 1 rfl) ?_
  refine lv_iload_n hx hb dL_apart_4 rfl (lv_at hl 2 rfl) ?_
  have hP2 := hP.sub (ws' := (dkW h a1 a2 a3 a4 a5 cI cZ pr se rk ck cu n)) [0, 1, 2, 3, 4, 5] rfl
  refine xt_caught (hpc := 20) (nz := xIO) (xt_runV (As := [.int x, .int z]) (rest := [.int (nI 0), .ref ad]) (g := F0 m 5 ls _) ⟨hx, hb, hml, hown, hts⟩ hM (kL_X0_apart hts 7 1 6 120 ⟨by decide, by decide⟩) (xt_preV hK2 hP2 hXS (fun _ _ => rfl) (q0 := 0) rfl rfl rfl) rfl rfl hl.1 rfl (lv_room (Nat.le_of_ble_eq_true rfl)) dL_apart_5 ⟨(Nat.le_of_ble_eq_true rfl), (Nat.le_of_ble_eq_true rfl)⟩) hown [] ⟨0, 17, 20, 15⟩ [] (htab.trans rfl) rfl (by decide) (hts _ (List.mem_cons_of_mem _ tm_81)) (va_Nw.use rfl hXS.1.2.1) (fun y hy => by cases hy) rfl (fun x' H1 z1 z2 z3 => ?_)
  have hP := hP.kept (H1 := H1) (fun k q hk => z2 q.1 (hP k q hk).lt)
  have hS : va_S A s.heap H1 [] := ⟨Nat.le_trans hS.1 z1, fun q h1 h2 => z2 q h1, hS.2.2⟩
  refine lv_astore hx hb dL_apart_20 hl (by decide) rfl (fun ls hl => ?_)
  have hl : lv_has ls 5 [(4, .ref x'), (0, .ref h), (1, .int x), (2, .int z), (3, .ref ad)] := hl
  refine lv_iconst (v := nI 1) hx hb dL_apart_22 (by decide) ?_
  refine W.widen (k := 1) (n := 6) (Nat.le_of_ble_eq_true rfl) (Nat.le_of_ble_eq_true rfl) ?_
  exact W.iret (v := nI 1) hx hb hr (fun t ht hW => ⟨⟨nI 1, (), rfl, rfl, by show va_P D cdCl _ t.heap; rw [ht]; exact hP⟩, hS.F ht⟩) hS.2.2 dL_apart_23
set_option maxHeartbeats 4000000 in
set_option maxRecDepth 100000 in
/-- rank: it goes well -/
theorem h0_L_rank (l : Launch) (D : va_G) (cI cZ cJ : ClassId) (h a1 a2 a3 a4 a5 ad : Nat) (pr se rk ck cu : Nat → Int32) (n : Nat) (g : Nat → Int64) (sz : Nat) (x : Int32) (v : Int32) (hM : Met l yX0_rank (.code yX0_rank cX0_rank 2 (some .int) :: tW) (rmL 2) (va_Pc [.ref h, .int x] (fun U => va_P D cdCl (dkW h a1 a2 a3 a4 a5 cI cZ pr se rk ck cu n) U.heap ∧ va_K D cdCl (dkT cI cZ) U)) (QcRead v) 0 0 (fun _ => False)) : Met l yL_rank (.codeWith yL_rank cL_rank 4 (some .int) [(0, 9, 12, 15)] :: tW) rmH (lr_Pc D cdCl (lwT cI cZ cJ) (lwH h a1 a2 a3 a4 a5 cI cZ cJ ad pr se rk ck cu n g) sz [.ref h, .int x, .ref ad]) (va_Qi (fun (r : Int32) (u : Nat → Int64) => r = nI 0 ∧ u 0 = v.toInt64) (fun u t => va_P D cdCl (lwH h a1 a2 a3 a4 a5 cI cZ cJ ad pr se rk ck cu n u) t.heap) (va_A (lwH h a1 a2 a3 a4 a5 cI cZ cJ ad pr se rk ck cu n g) sz)) 1 6 (va_A (lwH h a1 a2 a3 a4 a5 cI cZ cJ ad pr se rk ck cu n g) sz) := by
  refine va_MetW (cc := cL_rank) (maxL := 4) (ret := (some .int)) (hh := [(0, 9, 12, 15)]) (by decide) rfl ?_
  intro p e s m args below meth c s₁ B hml hv
  obtain ⟨rfl, hsz, hP, hK, hD0, hXS⟩ := hv
  have hx := B.exec
  have hb := B.bytes
  have hr := B.returns
  have hts := atoms_spec (ws := .codeWith yL_rank cL_rank 4 (some .int) [(0, 9, 12, 15)] :: tW) B.pre
  have hown : s.vm.findClass RL = some m.cls := findClass_of_methodNamed B.named
  have htab : c.exceptionTable.toList = tableOf [(0, 9, 12, 15)] := vx_table (x := objectInit) B (hts _ List.mem_cons_self)
  have hl := lv_entry ([.ref h, .int x, .ref ad]) (n := 4) (Nat.le_of_ble_eq_true rfl)
  rw [lg_entry_eq]
  generalize (lg_sl ([.ref h, .int x, .ref ad]) ++ List.replicate (4 - (lg_sl ([.ref h, .int x, .ref ad])).length) Slot.unset).toArray = ls at hl ⊢
  have hl : lv_has ls 4 [(0, .ref h), (1, .int x), (2, .ref ad)] := hl
  subst hsz
  have hD := hD0.self (sz := s.heap.size)
  generalize hAe : va_A (lwH h a1 a2 a3 a4 a5 cI cZ cJ ad pr se rk ck cu n g) s.heap.size = A at hD ⊢
  have hA : ∀ q : Nat, s.heap.size ≤ q → A q := fun q h => by rw [← hAe]; exact Or.inr h
  have hS : va_S A s.heap s.heap [] := va_S.rf
  have hK2 : va_K D cdCl (dkT cI cZ) s := hK.sub [0, 1] rfl
  refine lv_aload_n hx hb dL_rank_0 rfl (lv_at hl 2 rfl) ?_
  refine lv_iconst (v := nI 0) hx hb dL_rank_1 (by decide) ?_
  refine lv_aload_n hx hb dL_rank_2 rfl (lv_at hl 0 rfl) ?_
  refine lv_iload_n hx hb dL_rank_3 rfl (lv_at hl 1 rfl) ?_
  have hP2 := hP.sub (ws' := (dkW h a1 a2 a3 a4 a5 cI cZ pr se rk ck cu n)) [0, 1, 2, 3, 4, 5] rfl
  refine cw_callR (As := [.int x]) (rest := [.int (nI 0), .ref ad]) ⟨hx, hb, hml, hown, hts⟩ hM (kL_X0_rank hts 2 0 0 60 ⟨by decide, by decide⟩) hK2 hP2 0 rfl rfl rfl rfl hl.1 rfl (Nat.le_of_ble_eq_true rfl) dL_rank_4 ⟨Nat.zero_le _, Nat.zero_le _⟩ ?_
  refine lv_i2l hx hb dL_rank_7 rfl ?_
  refine va_last hx hb hK hP hD hS 6 2 rfl rfl (vp_in_nI (by decide) (by decide)) dL_rank_8 (fun H locs hP hD hS => ?_)
  refine lv_goto (tgt := 15) hx hb dL_rank_9 (by decide) ?_
  refine lv_iconst (v := nI 0) hx hb dL_rank_15 (by decide) ?_
  refine W.widen (k := 1) (n := 6) (Nat.le_of_ble_eq_true rfl) (Nat.le_of_ble_eq_true rfl) ?_
  exact W.iret (v := nI 0) hx hb hr (fun t ht hW => ⟨⟨nI 0, (vp_updL g (nI 0).toNatClampNeg v.toInt64), rfl, ⟨rfl, by rw [nI_clamp (by decide)]; exact pk_uLs⟩, by show va_P D cdCl _ t.heap; rw [ht]; exact hP⟩, hS.F ht⟩) hS.2.2 dL_rank_16
set_option maxHeartbeats 4000000 in
set_option maxRecDepth 100000 in
/-- rank: it throws -/
theorem hx1_L_rank (l : Launch) (D : va_G) (cI cZ cJ : ClassId) (h a1 a2 a3 a4 a5 ad : Nat) (pr se rk ck cu : Nat → Int32) (n : Nat) (g : Nat → Int64) (sz : Nat) (x : Int32) (hM : xt_Met l yX0_rank (.code yX0_rank cX0_rank 2 (some .int) :: tW) (rmX 1) (va_Pc [.ref h, .int x] (fun U => va_P D cdCl (dkW h a1 a2 a3 a4 a5 cI cZ pr se rk ck cu n) U.heap ∧ va_K D cdCl (dkT cI cZ) U ∧ xt_S U)) xIO) : Met l yL_rank (.codeWith yL_rank cL_rank 4 (some .int) [(0, 9, 12, 15)] :: tW) rmH (lr_Pc D cdCl (lwT cI cZ cJ) (lwH h a1 a2 a3 a4 a5 cI cZ cJ ad pr se rk ck cu n g) sz [.ref h, .int x, .ref ad]) (va_Qi (fun (r : Int32) (u : Unit) => r = nI 1) (fun u t => va_P D cdCl (lwH h a1 a2 a3 a4 a5 cI cZ cJ ad pr se rk ck cu n g) t.heap) (va_A (lwH h a1 a2 a3 a4 a5 cI cZ cJ ad pr se rk ck cu n g) sz)) 1 6 (va_A (lwH h a1 a2 a3 a4 a5 cI cZ cJ ad pr se rk ck cu n g) sz) := by
  refine va_MetW (cc := cL_rank) (maxL := 4) (ret := (some .int)) (hh := [(0, 9, 12, 15)]) (by decide) rfl ?_
  intro p e s m args below meth c s₁ B hml hv
  obtain ⟨rfl, hsz, hP, hK, hD0, hXS⟩ := hv
  have hx := B.exec
  have hb := B.bytes
  have hr := B.returns
  have hts := atoms_spec (ws := .codeWith yL_rank cL_rank 4 (some .int) [(0, 9, 12, 15)] :: tW) B.pre
  have hown : s.vm.findClass RL = some m.cls := findClass_of_methodNamed B.named
  have htab : c.exceptionTable.toList = tableOf [(0, 9, 12, 15)] := vx_table (x := objectInit) B (hts _ List.mem_cons_self)
  have hl := lv_entry ([.ref h, .int x, .ref ad]) (n := 4) (Nat.le_of_ble_eq_true rfl)
  rw [lg_entry_eq]
  generalize (lg_sl ([.ref h, .int x, .ref ad]) ++ List.replicate (4 - (lg_sl ([.ref h, .int x, .ref ad])).length) Slot.unset).toArray = ls at hl ⊢
  have hl : lv_has ls 4 [(0, .ref h), (1, .int x), (2, .ref ad)] := hl
  subst hsz
  have hD := hD0.self (sz := s.heap.size)
  generalize hAe : va_A (lwH h a1 a2 a3 a4 a5 cI cZ cJ ad pr se rk ck cu n g) s.heap.size = A at hD ⊢
  have hA : ∀ q : Nat, s.heap.size ≤ q → A q := fun q h => by rw [← hAe]; exact Or.inr h
  have hS : va_S A s.heap s.heap [] := va_S.rf
  have hK2 : va_K D cdCl (dkT cI cZ) s := hK.sub [0, 1] rfl
  refine lv_aload_n hx hb dL_rank_0 rfl (lv_at hl 2 rfl) ?_
  refine lv_iconst (v := nI 0) hx hb dL_rank_1 (by decide) ?_
  refine lv_aload_n hx hb dL_rank_2 rfl (lv_at hl 0 rfl) ?_
  refine lv_iload_n hx hb dL_rank_3 rfl (lv_at hl 1 rfl) ?_
  have hP2 := hP.sub (ws' := (dkW h a1 a2 a3 a4 a5 cI cZ pr se rk ck cu n)) [0, 1, 2, 3, 4, 5] rfl
  refine xt_caught (hpc := 12) (nz := xIO) (xt_runV (As := [.int x]) (rest := [.int (nI 0), .ref ad]) (g := F0 m 4 ls _) ⟨hx, hb, hml, hown, hts⟩ hM (kL_X0_rank hts 7 1 6 120 ⟨by decide, by decide⟩) (xt_preV hK2 hP2 hXS (fun _ _ => rfl) (q0 := 0) rfl rfl rfl) rfl rfl hl.1 rfl (lv_room (Nat.le_of_ble_eq_true rfl)) dL_rank_4 ⟨(Nat.le_of_ble_eq_true rfl), (Nat.le_of_ble_eq_true rfl)⟩) hown [] ⟨0, 9, 12, 15⟩ [] (htab.trans rfl) rfl (by decide) (hts _ (List.mem_cons_of_mem _ tm_81)) (va_Nw.use rfl hXS.1.2.1) (fun y hy => by cases hy) rfl (fun x' H1 z1 z2 z3 => ?_)
  have hP := hP.kept (H1 := H1) (fun k q hk => z2 q.1 (hP k q hk).lt)
  have hS : va_S A s.heap H1 [] := ⟨Nat.le_trans hS.1 z1, fun q h1 h2 => z2 q h1, hS.2.2⟩
  refine lv_astore_n hx hb dL_rank_12 rfl hl (by decide) rfl (fun ls hl => ?_)
  have hl : lv_has ls 4 [(3, .ref x'), (0, .ref h), (1, .int x), (2, .ref ad)] := hl
  refine lv_iconst (v := nI 1) hx hb dL_rank_13 (by decide) ?_
  refine W.widen (k := 1) (n := 6) (Nat.le_of_ble_eq_true rfl) (Nat.le_of_ble_eq_true rfl) ?_
  exact W.iret (v := nI 1) hx hb hr (fun t ht hW => ⟨⟨nI 1, (), rfl, rfl, by show va_P D cdCl _ t.heap; rw [ht]; exact hP⟩, hS.F ht⟩) hS.2.2 dL_rank_14
set_option maxHeartbeats 4000000 in
set_option maxRecDepth 100000 in
/-- clock: it goes well -/
theorem h0_L_clock (l : Launch) (D : va_G) (cI cZ cJ : ClassId) (h a1 a2 a3 a4 a5 ad : Nat) (pr se rk ck cu : Nat → Int32) (n : Nat) (g : Nat → Int64) (sz : Nat) (x z : Int32) (v : Int32) (hM : Met l yX0_clock (.code yX0_clock cX0_clock 3 (some .int) :: tW) (rmL 2) (va_Pc [.ref h, .int x, .int z] (fun U => va_P D cdCl (dkW h a1 a2 a3 a4 a5 cI cZ pr se rk ck cu n) U.heap ∧ va_K D cdCl (dkT cI cZ) U)) (QcRead v) 0 0 (fun _ => False)) : Met l yL_clock (.codeWith yL_clock cL_clock 5 (some .int) [(0, 10, 13, 13), (0, 10, 17, 15)] :: tW) rmH (lr_Pc D cdCl (lwT cI cZ cJ) (lwH h a1 a2 a3 a4 a5 cI cZ cJ ad pr se rk ck cu n g) sz [.ref h, .int x, .int z, .ref ad]) (va_Qi (fun (r : Int32) (u : Nat → Int64) => r = nI 0 ∧ u 0 = v.toInt64) (fun u t => va_P D cdCl (lwH h a1 a2 a3 a4 a5 cI cZ cJ ad pr se rk ck cu n u) t.heap) (va_A (lwH h a1 a2 a3 a4 a5 cI cZ cJ ad pr se rk ck cu n g) sz)) 1 6 (va_A (lwH h a1 a2 a3 a4 a5 cI cZ cJ ad pr se rk ck cu n g) sz) := by
  refine va_MetW (cc := cL_clock) (maxL := 5) (ret := (some .int)) (hh := [(0, 10, 13, 13), (0, 10, 17, 15)]) (by decide) rfl ?_
  intro p e s m args below meth c s₁ B hml hv
  obtain ⟨rfl, hsz, hP, hK, hD0, hXS⟩ := hv
  have hx := B.exec
  have hb := B.bytes
  have hr := B.returns
  have hts := atoms_spec (ws := .codeWith yL_clock cL_clock 5 (some .int) [(0, 10, 13, 13), (0, 10, 17, 15)] :: tW) B.pre
  have hown : s.vm.findClass RL = some m.cls := findClass_of_methodNamed B.named
  have htab : c.exceptionTable.toList = tableOf [(0, 10, 13, 13), (0, 10, 17, 15)] := vx_table (x := objectInit) B (hts _ List.mem_cons_self)
  have hl := lv_entry ([.ref h, .int x, .int z, .ref ad]) (n := 5) (Nat.le_of_ble_eq_true rfl)
  rw [lg_entry_eq]
  generalize (lg_sl ([.ref h, .int x, .int z, .ref ad]) ++ List.replicate (5 - (lg_sl ([.ref h, .int x, .int z, .ref ad])).length) Slot.unset).toArray = ls at hl ⊢
  have hl : lv_has ls 5 [(0, .ref h), (1, .int x), (2, .int z), (3, .ref ad)] := hl
  subst hsz
  have hD := hD0.self (sz := s.heap.size)
  generalize hAe : va_A (lwH h a1 a2 a3 a4 a5 cI cZ cJ ad pr se rk ck cu n g) s.heap.size = A at hD ⊢
  have hA : ∀ q : Nat, s.heap.size ≤ q → A q := fun q h => by rw [← hAe]; exact Or.inr h
  have hS : va_S A s.heap s.heap [] := va_S.rf
  have hK2 : va_K D cdCl (dkT cI cZ) s := hK.sub [0, 1] rfl
  refine lv_aload_n hx hb dL_clock_0 rfl (lv_at hl 3 rfl) ?_
  refine lv_iconst (v := nI 0) hx hb dL_clock_1 (by decide) ?_
  refine lv_aload_n hx hb dL_clock_2 rfl (lv_at hl 0 rfl) ?_
  refine lv_iload_n hx hb dL_clock_3 rfl (lv_at hl 1 rfl) ?_
  refine lv_iload_n hx hb dL_clock_4 rfl (lv_at hl 2 rfl) ?_
  have hP2 := hP.sub (ws' := (dkW h a1 a2 a3 a4 a5 cI cZ pr se rk ck cu n)) [0, 1, 2, 3, 4, 5] rfl
  refine cw_callR (As := [.int x, .int z]) (rest := [.int (nI 0), .ref ad]) ⟨hx, hb, hml, hown, hts⟩ hM (kL_X0_clock hts 2 0 0 60 ⟨by decide, by decide⟩) hK2 hP2 0 rfl rfl rfl rfl hl.1 rfl (Nat.le_of_ble_eq_true rfl) dL_clock_5 ⟨Nat.zero_le _, Nat.zero_le _⟩ ?_
  refine lv_i2l hx hb dL_clock_8 rfl ?_
  refine va_last hx hb hK hP hD hS 6 2 rfl rfl (vp_in_nI (by decide) (by decide)) dL_clock_9 (fun H locs hP hD hS => ?_)
  refine lv_goto (tgt := 21) hx hb dL_clock_10 (by decide) ?_
  refine lv_iconst (v := nI 0) hx hb dL_clock_21 (by decide) ?_
  refine W.widen (k := 1) (n := 6) (Nat.le_of_ble_eq_true rfl) (Nat.le_of_ble_eq_true rfl) ?_
  exact W.iret (v := nI 0) hx hb hr (fun t ht hW => ⟨⟨nI 0, (vp_updL g (nI 0).toNatClampNeg v.toInt64), rfl, ⟨rfl, by rw [nI_clamp (by decide)]; exact pk_uLs⟩, by show va_P D cdCl _ t.heap; rw [ht]; exact hP⟩, hS.F ht⟩) hS.2.2 dL_clock_22
set_option maxHeartbeats 4000000 in
set_option maxRecDepth 100000 in
/-- clock: it throws -/
theorem hx1_L_clock (l : Launch) (D : va_G) (cI cZ cJ : ClassId) (h a1 a2 a3 a4 a5 ad : Nat) (pr se rk ck cu : Nat → Int32) (n : Nat) (g : Nat → Int64) (sz : Nat) (x z : Int32) (hM : xt_Met l yX0_clock (.code yX0_clock cX0_clock 3 (some .int) :: tW) (rmX 1) (va_Pc [.ref h, .int x, .int z] (fun U => va_P D cdCl (dkW h a1 a2 a3 a4 a5 cI cZ pr se rk ck cu n) U.heap ∧ va_K D cdCl (dkT cI cZ) U ∧ xt_S U)) xIA) : Met l yL_clock (.codeWith yL_clock cL_clock 5 (some .int) [(0, 10, 13, 13), (0, 10, 17, 15)] :: tW) rmH (lr_Pc D cdCl (lwT cI cZ cJ) (lwH h a1 a2 a3 a4 a5 cI cZ cJ ad pr se rk ck cu n g) sz [.ref h, .int x, .int z, .ref ad]) (va_Qi (fun (r : Int32) (u : Unit) => r = nI 1) (fun u t => va_P D cdCl (lwH h a1 a2 a3 a4 a5 cI cZ cJ ad pr se rk ck cu n g) t.heap) (va_A (lwH h a1 a2 a3 a4 a5 cI cZ cJ ad pr se rk ck cu n g) sz)) 1 6 (va_A (lwH h a1 a2 a3 a4 a5 cI cZ cJ ad pr se rk ck cu n g) sz) := by
  refine va_MetW (cc := cL_clock) (maxL := 5) (ret := (some .int)) (hh := [(0, 10, 13, 13), (0, 10, 17, 15)]) (by decide) rfl ?_
  intro p e s m args below meth c s₁ B hml hv
  obtain ⟨rfl, hsz, hP, hK, hD0, hXS⟩ := hv
  have hx := B.exec
  have hb := B.bytes
  have hr := B.returns
  have hts := atoms_spec (ws := .codeWith yL_clock cL_clock 5 (some .int) [(0, 10, 13, 13), (0, 10, 17, 15)] :: tW) B.pre
  have hown : s.vm.findClass RL = some m.cls := findClass_of_methodNamed B.named
  have htab : c.exceptionTable.toList = tableOf [(0, 10, 13, 13), (0, 10, 17, 15)] := vx_table (x := objectInit) B (hts _ List.mem_cons_self)
  have hl := lv_entry ([.ref h, .int x, .int z, .ref ad]) (n := 5) (Nat.le_of_ble_eq_true rfl)
  rw [lg_entry_eq]
  generalize (lg_sl ([.ref h, .int x, .int z, .ref ad]) ++ List.replicate (5 - (lg_sl ([.ref h, .int x, .int z, .ref ad])).length) Slot.unset).toArray = ls at hl ⊢
  have hl : lv_has ls 5 [(0, .ref h), (1, .int x), (2, .int z), (3, .ref ad)] := hl
  subst hsz
  have hD := hD0.self (sz := s.heap.size)
  generalize hAe : va_A (lwH h a1 a2 a3 a4 a5 cI cZ cJ ad pr se rk ck cu n g) s.heap.size = A at hD ⊢
  have hA : ∀ q : Nat, s.heap.size ≤ q → A q := fun q h => by rw [← hAe]; exact Or.inr h
  have hS : va_S A s.heap s.heap [] := va_S.rf
  have hK2 : va_K D cdCl (dkT cI cZ) s := hK.sub [0, 1] rfl
  refine lv_aload_n hx hb dL_clock_0 rfl (lv_at hl 3 rfl) ?_
  refine lv_iconst (v := nI 0) hx hb dL_clock_1 (by decide) ?_
  refine lv_aload_n hx hb dL_clock_2 rfl (lv_at hl 0 rfl) ?_
  refine lv_iload_n hx hb dL_clock_3 rfl (lv_at hl 1 rfl) ?_
  refine lv_iload_n hx hb dL_clock_4 rfl (lv_at hl 2 rfl) ?_
  have hP2 := hP.sub (ws' := (dkW h a1 a2 a3 a4 a5 cI cZ pr se rk ck cu n)) [0, 1, 2, 3, 4, 5] rfl
  refine xt_caught (hpc := 13) (nz := xIA) (xt_runV (As := [.int x, .int z]) (rest := [.int (nI 0), .ref ad]) (g := F0 m 5 ls _) ⟨hx, hb, hml, hown, hts⟩ hM (kL_X0_clock hts 7 1 6 120 ⟨by decide, by decide⟩) (xt_preV hK2 hP2 hXS (fun _ _ => rfl) (q0 := 0) rfl rfl rfl) rfl rfl hl.1 rfl (lv_room (Nat.le_of_ble_eq_true rfl)) dL_clock_5 ⟨(Nat.le_of_ble_eq_true rfl), (Nat.le_of_ble_eq_true rfl)⟩) hown [] ⟨0, 10, 13, 13⟩ [⟨0, 10, 17, 15⟩] (htab.trans rfl) rfl (by decide) (hts _ (List.mem_cons_of_mem _ tm_80)) (va_Nw.use rfl hXS.1.1) (fun y hy => by cases hy) rfl (fun x' H1 z1 z2 z3 => ?_)
  have hP := hP.kept (H1 := H1) (fun k q hk => z2 q.1 (hP k q hk).lt)
  have hS : va_S A s.heap H1 [] := ⟨Nat.le_trans hS.1 z1, fun q h1 h2 => z2 q h1, hS.2.2⟩
  refine lv_astore hx hb dL_clock_13 hl (by decide) rfl (fun ls hl => ?_)
  have hl : lv_has ls 5 [(4, .ref x'), (0, .ref h), (1, .int x), (2, .int z), (3, .ref ad)] := hl
  refine lv_iconst (v := nI 1) hx hb dL_clock_15 (by decide) ?_
  refine W.widen (k := 1) (n := 6) (Nat.le_of_ble_eq_true rfl) (Nat.le_of_ble_eq_true rfl) ?_
  exact W.iret (v := nI 1) hx hb hr (fun t ht hW => ⟨⟨nI 1, (), rfl, rfl, by show va_P D cdCl _ t.heap; rw [ht]; exact hP⟩, hS.F ht⟩) hS.2.2 dL_clock_16
set_option maxHeartbeats 4000000 in
set_option maxRecDepth 100000 in
/-- clock: it throws -/
theorem hx2_L_clock (l : Launch) (D : va_G) (cI cZ cJ : ClassId) (h a1 a2 a3 a4 a5 ad : Nat) (pr se rk ck cu : Nat → Int32) (n : Nat) (g : Nat → Int64) (sz : Nat) (x z : Int32) (hM : xt_Met l yX0_clock (.code yX0_clock cX0_clock 3 (some .int) :: tW) (rmX 1) (va_Pc [.ref h, .int x, .int z] (fun U => va_P D cdCl (dkW h a1 a2 a3 a4 a5 cI cZ pr se rk ck cu n) U.heap ∧ va_K D cdCl (dkT cI cZ) U ∧ xt_S U)) xIO) : Met l yL_clock (.codeWith yL_clock cL_clock 5 (some .int) [(0, 10, 13, 13), (0, 10, 17, 15)] :: tW) rmH (lr_Pc D cdCl (lwT cI cZ cJ) (lwH h a1 a2 a3 a4 a5 cI cZ cJ ad pr se rk ck cu n g) sz [.ref h, .int x, .int z, .ref ad]) (va_Qi (fun (r : Int32) (u : Unit) => r = nI 2) (fun u t => va_P D cdCl (lwH h a1 a2 a3 a4 a5 cI cZ cJ ad pr se rk ck cu n g) t.heap) (va_A (lwH h a1 a2 a3 a4 a5 cI cZ cJ ad pr se rk ck cu n g) sz)) 1 6 (va_A (lwH h a1 a2 a3 a4 a5 cI cZ cJ ad pr se rk ck cu n g) sz) := by
  refine va_MetW (cc := cL_clock) (maxL := 5) (ret := (some .int)) (hh := [(0, 10, 13, 13), (0, 10, 17, 15)]) (by decide) rfl ?_
  intro p e s m args below meth c s₁ B hml hv
  obtain ⟨rfl, hsz, hP, hK, hD0, hXS⟩ := hv
  have hx := B.exec
  have hb := B.bytes
  have hr := B.returns
  have hts := atoms_spec (ws := .codeWith yL_clock cL_clock 5 (some .int) [(0, 10, 13, 13), (0, 10, 17, 15)] :: tW) B.pre
  have hown : s.vm.findClass RL = some m.cls := findClass_of_methodNamed B.named
  have htab : c.exceptionTable.toList = tableOf [(0, 10, 13, 13), (0, 10, 17, 15)] := vx_table (x := objectInit) B (hts _ List.mem_cons_self)
  have hl := lv_entry ([.ref h, .int x, .int z, .ref ad]) (n := 5) (Nat.le_of_ble_eq_true rfl)
  rw [lg_entry_eq]
  generalize (lg_sl ([.ref h, .int x, .int z, .ref ad]) ++ List.replicate (5 - (lg_sl ([.ref h, .int x, .int z, .ref ad])).length) Slot.unset).toArray = ls at hl ⊢
  have hl : lv_has ls 5 [(0, .ref h), (1, .int x), (2, .int z), (3, .ref ad)] := hl
  subst hsz
  have hD := hD0.self (sz := s.heap.size)
  generalize hAe : va_A (lwH h a1 a2 a3 a4 a5 cI cZ cJ ad pr se rk ck cu n g) s.heap.size = A at hD ⊢
  have hA : ∀ q : Nat, s.heap.size ≤ q → A q := fun q h => by rw [← hAe]; exact Or.inr h
  have hS : va_S A s.heap s.heap [] := va_S.rf
  have hK2 : va_K D cdCl (dkT cI cZ) s := hK.sub [0, 1] rfl
  refine lv_aload_n hx hb dL_clock_0 rfl (lv_at hl 3 rfl) ?_
  refine lv_iconst (v := nI 0) hx hb dL_clock_1 (by decide) ?_
  refine lv_aload_n hx hb dL_clock_2 rfl (lv_at hl 0 rfl) ?_
  refine lv_iload_n hx hb dL_clock_3 rfl (lv_at hl 1 rfl) ?_
  refine lv_iload_n hx hb dL_clock_4 rfl (lv_at hl 2 rfl) ?_
  have hP2 := hP.sub (ws' := (dkW h a1 a2 a3 a4 a5 cI cZ pr se rk ck cu n)) [0, 1, 2, 3, 4, 5] rfl
  refine xt_caught (hpc := 17) (nz := xIO) (xt_runV (As := [.int x, .int z]) (rest := [.int (nI 0), .ref ad]) (g := F0 m 5 ls _) ⟨hx, hb, hml, hown, hts⟩ hM (kL_X0_clock hts 7 1 6 120 ⟨by decide, by decide⟩) (xt_preV hK2 hP2 hXS (fun _ _ => rfl) (q0 := 0) rfl rfl rfl) rfl rfl hl.1 rfl (lv_room (Nat.le_of_ble_eq_true rfl)) dL_clock_5 ⟨(Nat.le_of_ble_eq_true rfl), (Nat.le_of_ble_eq_true rfl)⟩) hown [⟨0, 10, 13, 13⟩] ⟨0, 10, 17, 15⟩ [] (htab.trans rfl) rfl (by decide) (hts _ (List.mem_cons_of_mem _ tm_81)) (va_Nw.use rfl hXS.1.2.1) (fun y hy => by obtain rfl := List.mem_singleton.mp hy; exact ⟨rfl, by decide, xIA, hts _ (List.mem_cons_of_mem _ tm_80), hXS.1.2.2⟩) rfl (fun x' H1 z1 z2 z3 => ?_)
  have hP := hP.kept (H1 := H1) (fun k q hk => z2 q.1 (hP k q hk).lt)
  have hS : va_S A s.heap H1 [] := ⟨Nat.le_trans hS.1 z1, fun q h1 h2 => z2 q h1, hS.2.2⟩
  refine lv_astore hx hb dL_clock_17 hl (by decide) rfl (fun ls hl => ?_)
  have hl : lv_has ls 5 [(4, .ref x'), (0, .ref h), (1, .int x), (2, .int z), (3, .ref ad)] := hl
  refine lv_iconst (v := nI 2) hx hb dL_clock_19 (by decide) ?_
  refine W.widen (k := 1) (n := 6) (Nat.le_of_ble_eq_true rfl) (Nat.le_of_ble_eq_true rfl) ?_
  exact W.iret (v := nI 2) hx hb hr (fun t ht hW => ⟨⟨nI 2, (), rfl, rfl, by show va_P D cdCl _ t.heap; rw [ht]; exact hP⟩, hS.F ht⟩) hS.2.2 dL_clock_20
set_option maxHeartbeats 4000000 in
set_option maxRecDepth 100000 in
/-- cut: it goes well -/
theorem h0_L_cut (l : Launch) (D : va_G) (cI cZ cJ : ClassId) (h a1 a2 a3 a4 a5 ad : Nat) (pr se rk ck cu : Nat → Int32) (n : Nat) (g : Nat → Int64) (sz : Nat) (x z : Int32) {post : dkS → Prop} {n' : Nat} (hM : Met l yX0_cut (.code yX0_cut cX0_cut 3 none :: tW) (rmL 2) (cw_Pc D cdCl (dkT cI cZ) (dkW h a1 a2 a3 a4 a5 cI cZ pr se rk ck cu n) sz [.ref h, .int x, .int z]) (va_Qv post (fun u t => va_P D cdCl (dkU h a1 a2 a3 a4 a5 cI cZ n' u) t.heap) (va_A (dkW h a1 a2 a3 a4 a5 cI cZ pr se rk ck cu n) sz)) 0 0 (va_A (dkW h a1 a2 a3 a4 a5 cI cZ pr se rk ck cu n) sz)) : Met l yL_cut (.codeWith yL_cut cL_cut 4 (some .int) [(0, 6, 9, 13)] :: tW) rmH (lr_Pc D cdCl (lwT cI cZ cJ) (lwH h a1 a2 a3 a4 a5 cI cZ cJ ad pr se rk ck cu n g) sz [.ref h, .int x, .int z]) (va_Qi (fun (r : Int32) (u : dkS × (Nat → Int64)) => r = nI 0 ∧ post u.1 ∧ u.2 = g) (fun u t => va_P D cdCl (lwH h a1 a2 a3 a4 a5 cI cZ cJ ad u.1.1 u.1.2.1 u.1.2.2.1 u.1.2.2.2.1 u.1.2.2.2.2 n' u.2) t.heap) (va_A (lwH h a1 a2 a3 a4 a5 cI cZ cJ ad pr se rk ck cu n g) sz)) 1 6 (va_A (lwH h a1 a2 a3 a4 a5 cI cZ cJ ad pr se rk ck cu n g) sz) := by
  refine va_MetW (cc := cL_cut) (maxL := 4) (ret := (some .int)) (hh := [(0, 6, 9, 13)]) (by decide) rfl ?_
  intro p e s m args below meth c s₁ B hml hv
  obtain ⟨rfl, hsz, hP, hK, hD0, hXS⟩ := hv
  have hx := B.exec
  have hb := B.bytes
  have hr := B.returns
  have hts := atoms_spec (ws := .codeWith yL_cut cL_cut 4 (some .int) [(0, 6, 9, 13)] :: tW) B.pre
  have hown : s.vm.findClass RL = some m.cls := findClass_of_methodNamed B.named
  have htab : c.exceptionTable.toList = tableOf [(0, 6, 9, 13)] := vx_table (x := objectInit) B (hts _ List.mem_cons_self)
  have hl := lv_entry ([.ref h, .int x, .int z]) (n := 4) (Nat.le_of_ble_eq_true rfl)
  rw [lg_entry_eq]
  generalize (lg_sl ([.ref h, .int x, .int z]) ++ List.replicate (4 - (lg_sl ([.ref h, .int x, .int z])).length) Slot.unset).toArray = ls at hl ⊢
  have hl : lv_has ls 4 [(0, .ref h), (1, .int x), (2, .int z)] := hl
  subst hsz
  have hD := hD0.self (sz := s.heap.size)
  generalize hAe : va_A (lwH h a1 a2 a3 a4 a5 cI cZ cJ ad pr se rk ck cu n g) s.heap.size = A at hD ⊢
  have hA : ∀ q : Nat, s.heap.size ≤ q → A q := fun q h => by rw [← hAe]; exact Or.inr h
  have hS : va_S A s.heap s.heap [] := va_S.rf
  have hK2 : va_K D cdCl (dkT cI cZ) s := hK.sub [0, 1] rfl
  refine lv_aload_n hx hb dL_cut_0 rfl (lv_at hl 0 rfl) ?_
  refine lv_iload_n hx hb dL_cut_1 rfl (lv_at hl 1 rfl) ?_
  refine lv_iload_n hx hb dL_cut_2 rfl (lv_at hl 2 rfl) ?_
  refine cw_callWv (As := [.int x, .int z]) (S := dkS) (BW := fun u => dkU h a1 a2 a3 a4 a5 cI cZ n' u) (wr := lwO cJ ad g) (rest := []) ⟨hx, hb, hml, hown, hts⟩ hM (kL_X0_cut hts 2 0 0 60 ⟨by decide, by decide⟩) hK2 hP hD hS hA [0, 1, 2, 3, 4, 5] [6] rfl rfl (by decide) (by decide) (by decide) (fun _ => rfl) 0 rfl rfl rfl rfl hl.1 rfl (Nat.le_of_ble_eq_true rfl) dL_cut_3 ⟨Nat.zero_le _, Nat.zero_le _⟩ (fun u H locs hu hP hD hS => ?_)
  refine lv_goto (tgt := 12) hx hb dL_cut_6 (by decide) ?_
  refine lv_iconst (v := nI 0) hx hb dL_cut_12 (by decide) ?_
  refine W.widen (k := 1) (n := 6) (Nat.le_of_ble_eq_true rfl) (Nat.le_of_ble_eq_true rfl) ?_
  have hP := hP.sub (ws' := (lwH h a1 a2 a3 a4 a5 cI cZ cJ ad u.1 u.2.1 u.2.2.1 u.2.2.2.1 u.2.2.2.2 n' g)) [1, 2, 3, 4, 5, 6, 0] rfl
  exact W.iret (v := nI 0) hx hb hr (fun t ht hW => ⟨⟨nI 0, (u, g), rfl, ⟨rfl, hu, rfl⟩, by show va_P D cdCl _ t.heap; rw [ht]; exact hP⟩, hS.F ht⟩) hS.2.2 dL_cut_13
set_option maxHeartbeats 4000000 in
set_option maxRecDepth 100000 in
/-- cut: it throws -/
theorem hx1_L_cut (l : Launch) (D : va_G) (cI cZ cJ : ClassId) (h a1 a2 a3 a4 a5 ad : Nat) (pr se rk ck cu : Nat → Int32) (n : Nat) (g : Nat → Int64) (sz : Nat) (x z : Int32) (hM : xt_Met l yX0_cut (.code yX0_cut cX0_cut 3 none :: tW) (rmX 1) (va_Pc [.ref h, .int x, .int z] (fun U => va_P D cdCl (dkW h a1 a2 a3 a4 a5 cI cZ pr se rk ck cu n) U.heap ∧ va_K D cdCl (dkT cI cZ) U ∧ xt_S U)) xIA) : Met l yL_cut (.codeWith yL_cut cL_cut 4 (some .int) [(0, 6, 9, 13)] :: tW) rmH (lr_Pc D cdCl (lwT cI cZ cJ) (lwH h a1 a2 a3 a4 a5 cI cZ cJ ad pr se rk ck cu n g) sz [.ref h, .int x, .int z]) (va_Qi (fun (r : Int32) (u : Unit) => r = nI 1) (fun u t => va_P D cdCl (lwH h a1 a2 a3 a4 a5 cI cZ cJ ad pr se rk ck cu n g) t.heap) (va_A (lwH h a1 a2 a3 a4 a5 cI cZ cJ ad pr se rk ck cu n g) sz)) 1 6 (va_A (lwH h a1 a2 a3 a4 a5 cI cZ cJ ad pr se rk ck cu n g) sz) := by
  refine va_MetW (cc := cL_cut) (maxL := 4) (ret := (some .int)) (hh := [(0, 6, 9, 13)]) (by decide) rfl ?_
  intro p e s m args below meth c s₁ B hml hv
  obtain ⟨rfl, hsz, hP, hK, hD0, hXS⟩ := hv
  have hx := B.exec
  have hb := B.bytes
  have hr := B.returns
  have hts := atoms_spec (ws := .codeWith yL_cut cL_cut 4 (some .int) [(0, 6, 9, 13)] :: tW) B.pre
  have hown : s.vm.findClass RL = some m.cls := findClass_of_methodNamed B.named
  have htab : c.exceptionTable.toList = tableOf [(0, 6, 9, 13)] := vx_table (x := objectInit) B (hts _ List.mem_cons_self)
  have hl := lv_entry ([.ref h, .int x, .int z]) (n := 4) (Nat.le_of_ble_eq_true rfl)
  rw [lg_entry_eq]
  generalize (lg_sl ([.ref h, .int x, .int z]) ++ List.replicate (4 - (lg_sl ([.ref h, .int x, .int z])).length) Slot.unset).toArray = ls at hl ⊢
  have hl : lv_has ls 4 [(0, .ref h), (1, .int x), (2, .int z)] := hl
  subst hsz
  have hD := hD0.self (sz := s.heap.size)
  generalize hAe : va_A (lwH h a1 a2 a3 a4 a5 cI cZ cJ ad pr se rk ck cu n g) s.heap.size = A at hD ⊢
  have hA : ∀ q : Nat, s.heap.size ≤ q → A q := fun q h => by rw [← hAe]; exact Or.inr h
  have hS : va_S A s.heap s.heap [] := va_S.rf
  have hK2 : va_K D cdCl (dkT cI cZ) s := hK.sub [0, 1] rfl
  refine lv_aload_n hx hb dL_cut_0 rfl (lv_at hl 0 rfl) ?_
  refine lv_iload_n hx hb dL_cut_1 rfl (lv_at hl 1 rfl) ?_
  refine lv_iload_n hx hb dL_cut_2 rfl (lv_at hl 2 rfl) ?_
  have hP2 := hP.sub (ws' := (dkW h a1 a2 a3 a4 a5 cI cZ pr se rk ck cu n)) [0, 1, 2, 3, 4, 5] rfl
  refine xt_caught (hpc := 9) (nz := xIA) (xt_runV (As := [.int x, .int z]) (rest := []) (g := F0 m 3 ls _) ⟨hx, hb, hml, hown, hts⟩ hM (kL_X0_cut hts 7 1 6 120 ⟨by decide, by decide⟩) (xt_preV hK2 hP2 hXS (fun _ _ => rfl) (q0 := 0) rfl rfl rfl) rfl rfl hl.1 rfl (lv_room (Nat.le_of_ble_eq_true rfl)) dL_cut_3 ⟨(Nat.le_of_ble_eq_true rfl), (Nat.le_of_ble_eq_true rfl)⟩) hown [] ⟨0, 6, 9, 13⟩ [] (htab.trans rfl) rfl (by decide) (hts _ (List.mem_cons_of_mem _ tm_80)) (va_Nw.use rfl hXS.1.1) (fun y hy => by cases hy) rfl (fun x' H1 z1 z2 z3 => ?_)
  have hP := hP.kept (H1 := H1) (fun k q hk => z2 q.1 (hP k q hk).lt)
  have hS : va_S A s.heap H1 [] := ⟨Nat.le_trans hS.1 z1, fun q h1 h2 => z2 q h1, hS.2.2⟩
  refine lv_astore_n hx hb dL_cut_9 rfl hl (by decide) rfl (fun ls hl => ?_)
  have hl : lv_has ls 4 [(3, .ref x'), (0, .ref h), (1, .int x), (2, .int z)] := hl
  refine lv_iconst (v := nI 1) hx hb dL_cut_10 (by decide) ?_
  refine W.widen (k := 1) (n := 6) (Nat.le_of_ble_eq_true rfl) (Nat.le_of_ble_eq_true rfl) ?_
  exact W.iret (v := nI 1) hx hb hr (fun t ht hW => ⟨⟨nI 1, (), rfl, rfl, by show va_P D cdCl _ t.heap; rw [ht]; exact hP⟩, hS.F ht⟩) hS.2.2 dL_cut_11
set_option maxHeartbeats 4000000 in
set_option maxRecDepth 100000 in
/-- count: it goes well -/
theorem h0_L_count (l : Launch) (D : va_G) (cI cZ cJ : ClassId) (h a1 a2 a3 a4 a5 ad : Nat) (pr se rk ck cu : Nat → Int32) (n : Nat) (g : Nat → Int64) (sz : Nat) (x : Int32) (v : Int32) (hM : Met l yX0_count (.code yX0_count cX0_count 2 (some .int) :: tW) (rmL 3) (va_Pc [.ref h, .int x] (fun U => va_P D cdCl (dkW h a1 a2 a3 a4 a5 cI cZ pr se rk ck cu n) U.heap ∧ va_K D cdCl (dkT cI cZ) U)) (QcRead v) 0 0 (fun _ => False)) : Met l yL_count (.codeWith yL_count cL_count 4 (some .int) [(0, 9, 12, 13)] :: tW) rmH (lr_Pc D cdCl (lwT cI cZ cJ) (lwH h a1 a2 a3 a4 a5 cI cZ cJ ad pr se rk ck cu n g) sz [.ref h, .int x, .ref ad]) (va_Qi (fun (r : Int32) (u : Nat → Int64) => r = nI 0 ∧ u 0 = v.toInt64) (fun u t => va_P D cdCl (lwH h a1 a2 a3 a4 a5 cI cZ cJ ad pr se rk ck cu n u) t.heap) (va_A (lwH h a1 a2 a3 a4 a5 cI cZ cJ ad pr se rk ck cu n g) sz)) 1 6 (va_A (lwH h a1 a2 a3 a4 a5 cI cZ cJ ad pr se rk ck cu n g) sz) := by
  refine va_MetW (cc := cL_count) (maxL := 4) (ret := (some .int)) (hh := [(0, 9, 12, 13)]) (by decide) rfl ?_
  intro p e s m args below meth c s₁ B hml hv
  obtain ⟨rfl, hsz, hP, hK, hD0, hXS⟩ := hv
  have hx := B.exec
  have hb := B.bytes
  have hr := B.returns
  have hts := atoms_spec (ws := .codeWith yL_count cL_count 4 (some .int) [(0, 9, 12, 13)] :: tW) B.pre
  have hown : s.vm.findClass RL = some m.cls := findClass_of_methodNamed B.named
  have htab : c.exceptionTable.toList = tableOf [(0, 9, 12, 13)] := vx_table (x := objectInit) B (hts _ List.mem_cons_self)
  have hl := lv_entry ([.ref h, .int x, .ref ad]) (n := 4) (Nat.le_of_ble_eq_true rfl)
  rw [lg_entry_eq]
  generalize (lg_sl ([.ref h, .int x, .ref ad]) ++ List.replicate (4 - (lg_sl ([.ref h, .int x, .ref ad])).length) Slot.unset).toArray = ls at hl ⊢
  have hl : lv_has ls 4 [(0, .ref h), (1, .int x), (2, .ref ad)] := hl
  subst hsz
  have hD := hD0.self (sz := s.heap.size)
  generalize hAe : va_A (lwH h a1 a2 a3 a4 a5 cI cZ cJ ad pr se rk ck cu n g) s.heap.size = A at hD ⊢
  have hA : ∀ q : Nat, s.heap.size ≤ q → A q := fun q h => by rw [← hAe]; exact Or.inr h
  have hS : va_S A s.heap s.heap [] := va_S.rf
  have hK2 : va_K D cdCl (dkT cI cZ) s := hK.sub [0, 1] rfl
  refine lv_aload_n hx hb dL_count_0 rfl (lv_at hl 2 rfl) ?_
  refine lv_iconst (v := nI 0) hx hb dL_count_1 (by decide) ?_
  refine lv_aload_n hx hb dL_count_2 rfl (lv_at hl 0 rfl) ?_
  refine lv_iload_n hx hb dL_count_3 rfl (lv_at hl 1 rfl) ?_
  have hP2 := hP.sub (ws' := (dkW h a1 a2 a3 a4 a5 cI cZ pr se rk ck cu n)) [0, 1, 2, 3, 4, 5] rfl
  refine cw_callR (As := [.int x]) (rest := [.int (nI 0), .ref ad]) ⟨hx, hb, hml, hown, hts⟩ hM (kL_X0_count hts 3 0 0 90 ⟨by decide, by decide⟩) hK2 hP2 0 rfl rfl rfl rfl hl.1 rfl (Nat.le_of_ble_eq_true rfl) dL_count_4 ⟨Nat.zero_le _, Nat.zero_le _⟩ ?_
  refine lv_i2l hx hb dL_count_7 rfl ?_
  refine va_last hx hb hK hP hD hS 6 2 rfl rfl (vp_in_nI (by decide) (by decide)) dL_count_8 (fun H locs hP hD hS => ?_)
  refine lv_goto (tgt := 15) hx hb dL_count_9 (by decide) ?_
  refine lv_iconst (v := nI 0) hx hb dL_count_15 (by decide) ?_
  refine W.widen (k := 1) (n := 6) (Nat.le_of_ble_eq_true rfl) (Nat.le_of_ble_eq_true rfl) ?_
  exact W.iret (v := nI 0) hx hb hr (fun t ht hW => ⟨⟨nI 0, (vp_updL g (nI 0).toNatClampNeg v.toInt64), rfl, ⟨rfl, by rw [nI_clamp (by decide)]; exact pk_uLs⟩, by show va_P D cdCl _ t.heap; rw [ht]; exact hP⟩, hS.F ht⟩) hS.2.2 dL_count_16
set_option maxHeartbeats 4000000 in
set_option maxRecDepth 100000 in
/-- count: it throws -/
theorem hx1_L_count (l : Launch) (D : va_G) (cI cZ cJ : ClassId) (h a1 a2 a3 a4 a5 ad : Nat) (pr se rk ck cu : Nat → Int32) (n : Nat) (g : Nat → Int64) (sz : Nat) (x : Int32) (hM : xt_Met l yX0_count (.code yX0_count cX0_count 2 (some .int) :: tW) (rmX 1) (va_Pc [.ref h, .int x] (fun U => va_P D cdCl (dkW h a1 a2 a3 a4 a5 cI cZ pr se rk ck cu n) U.heap ∧ va_K D cdCl (dkT cI cZ) U ∧ xt_S U)) xIA) : Met l yL_count (.codeWith yL_count cL_count 4 (some .int) [(0, 9, 12, 13)] :: tW) rmH (lr_Pc D cdCl (lwT cI cZ cJ) (lwH h a1 a2 a3 a4 a5 cI cZ cJ ad pr se rk ck cu n g) sz [.ref h, .int x, .ref ad]) (va_Qi (fun (r : Int32) (u : Unit) => r = nI 1) (fun u t => va_P D cdCl (lwH h a1 a2 a3 a4 a5 cI cZ cJ ad pr se rk ck cu n g) t.heap) (va_A (lwH h a1 a2 a3 a4 a5 cI cZ cJ ad pr se rk ck cu n g) sz)) 1 6 (va_A (lwH h a1 a2 a3 a4 a5 cI cZ cJ ad pr se rk ck cu n g) sz) := by
  refine va_MetW (cc := cL_count) (maxL := 4) (ret := (some .int)) (hh := [(0, 9, 12, 13)]) (by decide) rfl ?_
  intro p e s m args below meth c s₁ B hml hv
  obtain ⟨rfl, hsz, hP, hK, hD0, hXS⟩ := hv
  have hx := B.exec
  have hb := B.bytes
  have hr := B.returns
  have hts := atoms_spec (ws := .codeWith yL_count cL_count 4 (some .int) [(0, 9, 12, 13)] :: tW) B.pre
  have hown : s.vm.findClass RL = some m.cls := findClass_of_methodNamed B.named
  have htab : c.exceptionTable.toList = tableOf [(0, 9, 12, 13)] := vx_table (x := objectInit) B (hts _ List.mem_cons_self)
  have hl := lv_entry ([.ref h, .int x, .ref ad]) (n := 4) (Nat.le_of_ble_eq_true rfl)
  rw [lg_entry_eq]
  generalize (lg_sl ([.ref h, .int x, .ref ad]) ++ List.replicate (4 - (lg_sl ([.ref h, .int x, .ref ad])).length) Slot.unset).toArray = ls at hl ⊢
  have hl : lv_has ls 4 [(0, .ref h), (1, .int x), (2, .ref ad)] := hl
  subst hsz
  have hD := hD0.self (sz := s.heap.size)
  generalize hAe : va_A (lwH h a1 a2 a3 a4 a5 cI cZ cJ ad pr se rk ck cu n g) s.heap.size = A at hD ⊢
  have hA : ∀ q : Nat, s.heap.size ≤ q → A q := fun q h => by rw [← hAe]; exact Or.inr h
  have hS : va_S A s.heap s.heap [] := va_S.rf
  have hK2 : va_K D cdCl (dkT cI cZ) s := hK.sub [0, 1] rfl
  refine lv_aload_n hx hb dL_count_0 rfl (lv_at hl 2 rfl) ?_
  refine lv_iconst (v := nI 0) hx hb dL_count_1 (by decide) ?_
  refine lv_aload_n hx hb dL_count_2 rfl (lv_at hl 0 rfl) ?_
  refine lv_iload_n hx hb dL_count_3 rfl (lv_at hl 1 rfl) ?_
  have hP2 := hP.sub (ws' := (dkW h a1 a2 a3 a4 a5 cI cZ pr se rk ck cu n)) [0, 1, 2, 3, 4, 5] rfl
  refine xt_caught (hpc := 12) (nz := xIA) (xt_runV (As := [.int x]) (rest := [.int (nI 0), .ref ad]) (g := F0 m 4 ls _) ⟨hx, hb, hml, hown, hts⟩ hM (kL_X0_count hts 7 1 6 120 ⟨by decide, by decide⟩) (xt_preV hK2 hP2 hXS (fun _ _ => rfl) (q0 := 0) rfl rfl rfl) rfl rfl hl.1 rfl (lv_room (Nat.le_of_ble_eq_true rfl)) dL_count_4 ⟨(Nat.le_of_ble_eq_true rfl), (Nat.le_of_ble_eq_true rfl)⟩) hown [] ⟨0, 9, 12, 13⟩ [] (htab.trans rfl) rfl (by decide) (hts _ (List.mem_cons_of_mem _ tm_80)) (va_Nw.use rfl hXS.1.1) (fun y hy => by cases hy) rfl (fun x' H1 z1 z2 z3 => ?_)
  have hP := hP.kept (H1 := H1) (fun k q hk => z2 q.1 (hP k q hk).lt)
  have hS : va_S A s.heap H1 [] := ⟨Nat.le_trans hS.1 z1, fun q h1 h2 => z2 q h1, hS.2.2⟩
  refine lv_astore_n hx hb dL_count_12 rfl hl (by decide) rfl (fun ls hl => ?_)
  have hl : lv_has ls 4 [(3, .ref x'), (0, .ref h), (1, .int x), (2, .ref ad)] := hl
  refine lv_iconst (v := nI 1) hx hb dL_count_13 (by decide) ?_
  refine W.widen (k := 1) (n := 6) (Nat.le_of_ble_eq_true rfl) (Nat.le_of_ble_eq_true rfl) ?_
  exact W.iret (v := nI 1) hx hb hr (fun t ht hW => ⟨⟨nI 1, (), rfl, rfl, by show va_P D cdCl _ t.heap; rw [ht]; exact hP⟩, hS.F ht⟩) hS.2.2 dL_count_14
theorem kL_L_own {R : Room} {s : State} {args : Array Value} {c0 : Cond} (hts : ∀ w ∈ c0 :: tW, w.before args s = true) (hR : 9 ≤ R.frames ∧ 8 + (4 + 11) + 150 ≤ R.locals) : vx_CSW R s args RL 52 yL_own cL_own 4 (some .int) [(0, 9, 12, 13), (0, 9, 15, 15)] (.codeWith yL_own cL_own 4 (some .int) [(0, 9, 12, 13), (0, 9, 15, 15)] :: tW) rmH 1 6 3 :=
  vx_cwSW _ hts (tg_SW tm_77 tm_78 tm_0 tm_79) rfl rfl rfl (by decide +kernel) hR
theorem kL_L_send {R : Room} {s : State} {args : Array Value} {c0 : Cond} (hts : ∀ w ∈ c0 :: tW, w.before args s = true) (hR : 9 ≤ R.frames ∧ 8 + (4 + 11) + 150 ≤ R.locals) : vx_CSW R s args RL 62 yL_send cL_send 4 (some .int) [(0, 9, 12, 13), (0, 9, 15, 15)] (.codeWith yL_send cL_send 4 (some .int) [(0, 9, 12, 13), (0, 9, 15, 15)] :: tW) rmH 1 6 3 :=
  vx_cwSW _ hts (tg_SW tm_182 tm_183 tm_0 tm_184) rfl rfl rfl (by decide +kernel) hR
theorem kL_L_receive {R : Room} {s : State} {args : Array Value} {c0 : Cond} (hts : ∀ w ∈ c0 :: tW, w.before args s = true) (hR : 9 ≤ R.frames ∧ 8 + (5 + 11) + 150 ≤ R.locals) : vx_CSW R s args RL 65 yL_receive cL_receive 5 (some .int) [(0, 10, 13, 13), (0, 10, 17, 15)] (.codeWith yL_receive cL_receive 5 (some .int) [(0, 10, 13, 13), (0, 10, 17, 15)] :: tW) rmH 1 6 4 :=
  vx_cwSW _ hts (tg_SW tm_189 tm_190 tm_0 tm_191) rfl rfl rfl (by decide +kernel) hR
theorem kL_L_undo {R : Room} {s : State} {args : Array Value} {c0 : Cond} (hts : ∀ w ∈ c0 :: tW, w.before args s = true) (hR : 9 ≤ R.frames ∧ 8 + (3 + 11) + 150 ≤ R.locals) : vx_CSW R s args RL 69 yL_undo cL_undo 3 (some .int) [(0, 5, 8, 13)] (.codeWith yL_undo cL_undo 3 (some .int) [(0, 5, 8, 13)] :: tW) rmH 1 6 2 :=
  vx_cwSW _ hts (tg_SW tm_200 tm_201 tm_0 tm_202) rfl rfl rfl (by decide +kernel) hR
theorem kL_L_before {R : Room} {s : State} {args : Array Value} {c0 : Cond} (hts : ∀ w ∈ c0 :: tW, w.before args s = true) (hR : 9 ≤ R.frames ∧ 8 + (5 + 11) + 150 ≤ R.locals) : vx_CSW R s args RL 73 yL_before cL_before 5 (some .int) [(0, 17, 20, 15)] (.codeWith yL_before cL_before 5 (some .int) [(0, 17, 20, 15)] :: tW) rmH 1 6 4 :=
  vx_cwSW _ hts (tg_SW tm_214 tm_215 tm_0 tm_216) rfl rfl rfl (by decide +kernel) hR
theorem kL_L_apart {R : Room} {s : State} {args : Array Value} {c0 : Cond} (hts : ∀ w ∈ c0 :: tW, w.before args s = true) (hR : 9 ≤ R.frames ∧ 8 + (5 + 11) + 150 ≤ R.locals) : vx_CSW R s args RL 76 yL_apart cL_apart 5 (some .int) [(0, 17, 20, 15)] (.codeWith yL_apart cL_apart 5 (some .int) [(0, 17, 20, 15)] :: tW) rmH 1 6 4 :=
  vx_cwSW _ hts (tg_SW tm_229 tm_230 tm_0 tm_231) rfl rfl rfl (by decide +kernel) hR
theorem kL_L_rank {R : Room} {s : State} {args : Array Value} {c0 : Cond} (hts : ∀ w ∈ c0 :: tW, w.before args s = true) (hR : 9 ≤ R.frames ∧ 8 + (4 + 11) + 150 ≤ R.locals) : vx_CSW R s args RL 79 yL_rank cL_rank 4 (some .int) [(0, 9, 12, 15)] (.codeWith yL_rank cL_rank 4 (some .int) [(0, 9, 12, 15)] :: tW) rmH 1 6 3 :=
  vx_cwSW _ hts (tg_SW tm_236 tm_237 tm_0 tm_238) rfl rfl rfl (by decide +kernel) hR
theorem kL_L_clock {R : Room} {s : State} {args : Array Value} {c0 : Cond} (hts : ∀ w ∈ c0 :: tW, w.before args s = true) (hR : 9 ≤ R.frames ∧ 8 + (5 + 11) + 150 ≤ R.locals) : vx_CSW R s args RL 82 yL_clock cL_clock 5 (some .int) [(0, 10, 13, 13), (0, 10, 17, 15)] (.codeWith yL_clock cL_clock 5 (some .int) [(0, 10, 13, 13), (0, 10, 17, 15)] :: tW) rmH 1 6 4 :=
  vx_cwSW _ hts (tg_SW tm_243 tm_244 tm_0 tm_245) rfl rfl rfl (by decide +kernel) hR
theorem kL_L_cut {R : Room} {s : State} {args : Array Value} {c0 : Cond} (hts : ∀ w ∈ c0 :: tW, w.before args s = true) (hR : 9 ≤ R.frames ∧ 8 + (4 + 11) + 150 ≤ R.locals) : vx_CSW R s args RL 85 yL_cut cL_cut 4 (some .int) [(0, 6, 9, 13)] (.codeWith yL_cut cL_cut 4 (some .int) [(0, 6, 9, 13)] :: tW) rmH 1 6 3 :=
  vx_cwSW _ hts (tg_SW tm_250 tm_251 tm_0 tm_252) rfl rfl rfl (by decide +kernel) hR
theorem kL_L_count {R : Room} {s : State} {args : Array Value} {c0 : Cond} (hts : ∀ w ∈ c0 :: tW, w.before args s = true) (hR : 9 ≤ R.frames ∧ 8 + (4 + 11) + 150 ≤ R.locals) : vx_CSW R s args RL 102 yL_count cL_count 4 (some .int) [(0, 9, 12, 13)] (.codeWith yL_count cL_count 4 (some .int) [(0, 9, 12, 13)] :: tW) rmH 1 6 3 :=
  vx_cwSW _ hts (tg_SW tm_257 tm_258 tm_0 tm_259) rfl rfl rfl (by decide +kernel) hR
