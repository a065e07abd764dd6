/-! THE TWO CONSTRUCTORS: from an object with the default fields to an empty desk, an empty model -/
abbrev lz : Nat → Int32 := fun _ => 0
set_option maxHeartbeats 4000000 in
set_option maxRecDepth 100000 in
theorem c_X0_init (l : Launch) (D : va_G) (cI cZ : ClassId) (h sz : Nat) : Met l yX0_init (.code yX0_init cX0_init 1 none :: tW) { frames := 1, cells := 5, slots := 1806, locals := 30 } (cw_Pc D cdCl (dkT cI cZ) [(h, .inr (0, [.null, .null, .null, .null, .null, .int 0]))] sz [.ref h]) (va_Qv (fun _ : Nat × Nat × Nat × Nat × Nat => True) (fun u t => va_P D cdCl (dkW h (u.1) (u.2.1) (u.2.2.1) (u.2.2.2.1) (u.2.2.2.2) cI cZ lz lz lz lz lz 0) t.heap ∧ va_D (va_A [(h, .inr (0, [.null, .null, .null, .null, .null, .int 0]))] sz) (dkW h (u.1) (u.2.1) (u.2.2.1) (u.2.2.2.1) (u.2.2.2.2) cI cZ lz lz lz lz lz 0)) (va_A [(h, .inr (0, [.null, .null, .null, .null, .null, .int 0]))] sz)) 5 1806 (va_A [(h, .inr (0, [.null, .null, .null, .null, .null, .int 0]))] sz) := by
  refine Met.ofW (cc := cX0_init) (maxL := 1) (ret := none) (by decide) rfl ?_
  intro p e s m args below meth c s₁ B hml hv
  obtain ⟨rfl, hsz, hP, hK, hD0⟩ := hv
  have hx := B.exec
  have hb := B.bytes
  have hr := B.returns
  have hts := atoms_spec (ws := .code yX0_init cX0_init 1 none :: tW) B.pre
  have hown : s.vm.findClass RX0 = some m.cls := findClass_of_methodNamed B.named
  have hin : meth.name = "<init>" := (name_of_methodNamed B.named B.method).1
  subst hsz
  have hD := hD0.self (sz := s.heap.size)
  generalize hAe : va_A [(h, .inr (0, [.null, .null, .null, .null, .null, .int 0]))] s.heap.size = A at hD ⊢
  have hA : ∀ q : Nat, s.heap.size ≤ q → A q := fun q h => by rw [← hAe]; exact Or.inr h
  have hS : va_S A s.heap s.heap [] := va_S.rf
  have hl := lv_entry ([.ref h]) (n := 1) (Nat.le_of_ble_eq_true rfl)
  rw [lg_entry_eq]
  generalize (lg_sl ([.ref h]) ++ List.replicate (1 - (lg_sl ([.ref h])).length) Slot.unset).toArray = ls at hl ⊢
  have hl : lv_has ls 1 [(0, .ref h)] := hl
  refine lv_aload_n hx hb dX0_init_0 rfl (lv_at hl 0 rfl) ?_
  refine W.objInit hx hb hown (hts _ (List.mem_cons_of_mem _ tm_14)) (hts _ (List.mem_cons_of_mem _ tm_15)) (hts _ (List.mem_cons_of_mem _ tm_16)) rfl (by rw [hml]; exact hl.1) rfl dX0_init_1 (Nat.le_of_ble_eq_true rfl) (Nat.le_of_ble_eq_true rfl) ?_
  refine W.eq (g2 := F0 m 4 ls []) rfl ?_
  refine lv_aload_n hx hb dX0_init_4 rfl (lv_at hl 0 rfl) ?_
  refine lv_sipush (v := nI 200) hx hb dX0_init_5 (by decide) ?_
  refine lr_newI hx hb (hts _ (List.mem_cons_of_mem _ tm_36)) hK hP hD hS hA 0 rfl (N := 200) (by decide) (Nat.le_of_ble_eq_true rfl) (Nat.le_of_ble_eq_true rfl) dX0_init_8 (fun a1 H hP hD hS => ?_)
  refine W.widen (k := 1) (n := 200) (Nat.le_of_ble_eq_true rfl) (Nat.le_of_ble_eq_true rfl) ?_
  refine sX0_processes hx hb hts hown hK hP hD hS hin 0 rfl rfl rfl (Nat.le_of_ble_eq_true rfl) dX0_init_10 (fun H locs hP hD hS => ?_)
  have hP : va_P D cdCl [(h, .inr (0, [.ref a1, .null, .null, .null, .null, .int 0])), (a1, .inl (cI, 200, .inl lz))] H := hP
  have hD : va_D A [(h, .inr (0, [.ref a1, .null, .null, .null, .null, .int 0])), (a1, .inl (cI, 200, .inl lz))] := hD
  refine lv_aload_n hx hb dX0_init_13 rfl (lv_at hl 0 rfl) ?_
  refine lv_sipush (v := nI 200) hx hb dX0_init_14 (by decide) ?_
  refine lr_newZ hx hb (hts _ (List.mem_cons_of_mem _ tm_37)) hK hP hD hS hA 1 rfl (N := 200) (by decide) (Nat.le_of_ble_eq_true rfl) (Nat.le_of_ble_eq_true rfl) dX0_init_17 (fun a2 H hP hD hS => ?_)
  refine W.widen (k := 2) (n := 400) (Nat.le_of_ble_eq_true rfl) (Nat.le_of_ble_eq_true rfl) ?_
  refine sX0_senders hx hb hts hown hK hP hD hS hin 0 rfl rfl rfl (Nat.le_of_ble_eq_true rfl) dX0_init_19 (fun H locs hP hD hS => ?_)
  have hP : va_P D cdCl [(h, .inr (0, [.ref a1, .ref a2, .null, .null, .null, .int 0])), (a1, .inl (cI, 200, .inl lz)), (a2, .inl (cZ, 200, .inl lz))] H := hP
  have hD : va_D A [(h, .inr (0, [.ref a1, .ref a2, .null, .null, .null, .int 0])), (a1, .inl (cI, 200, .inl lz)), (a2, .inl (cZ, 200, .inl lz))] := hD
  refine lv_aload_n hx hb dX0_init_22 rfl (lv_at hl 0 rfl) ?_
  refine lv_sipush (v := nI 200) hx hb dX0_init_23 (by decide) ?_
  refine lr_newI hx hb (hts _ (List.mem_cons_of_mem _ tm_36)) hK hP hD hS hA 0 rfl (N := 200) (by decide) (Nat.le_of_ble_eq_true rfl) (Nat.le_of_ble_eq_true rfl) dX0_init_26 (fun a3 H hP hD hS => ?_)
  refine W.widen (k := 3) (n := 600) (Nat.le_of_ble_eq_true rfl) (Nat.le_of_ble_eq_true rfl) ?_
  refine sX0_ranks hx hb hts hown hK hP hD hS hin 0 rfl rfl rfl (Nat.le_of_ble_eq_true rfl) dX0_init_28 (fun H locs hP hD hS => ?_)
  have hP : va_P D cdCl [(h, .inr (0, [.ref a1, .ref a2, .ref a3, .null, .null, .int 0])), (a1, .inl (cI, 200, .inl lz)), (a2, .inl (cZ, 200, .inl lz)), (a3, .inl (cI, 200, .inl lz))] H := hP
  have hD : va_D A [(h, .inr (0, [.ref a1, .ref a2, .ref a3, .null, .null, .int 0])), (a1, .inl (cI, 200, .inl lz)), (a2, .inl (cZ, 200, .inl lz)), (a3, .inl (cI, 200, .inl lz))] := hD
  refine lv_aload_n hx hb dX0_init_31 rfl (lv_at hl 0 rfl) ?_
  refine lv_sipush (v := nI 1200) hx hb dX0_init_32 (by decide) ?_
  refine lr_newI hx hb (hts _ (List.mem_cons_of_mem _ tm_36)) hK hP hD hS hA 0 rfl (N := 1200) (by decide) (Nat.le_of_ble_eq_true rfl) (Nat.le_of_ble_eq_true rfl) dX0_init_35 (fun a4 H hP hD hS => ?_)
  refine W.widen (k := 4) (n := 1800) (Nat.le_of_ble_eq_true rfl) (Nat.le_of_ble_eq_true rfl) ?_
  refine sX0_clocks hx hb hts hown hK hP hD hS hin 0 rfl rfl rfl (Nat.le_of_ble_eq_true rfl) dX0_init_37 (fun H locs hP hD hS => ?_)
  have hP : va_P D cdCl [(h, .inr (0, [.ref a1, .ref a2, .ref a3, .ref a4, .null, .int 0])), (a1, .inl (cI, 200, .inl lz)), (a2, .inl (cZ, 200, .inl lz)), (a3, .inl (cI, 200, .inl lz)), (a4, .inl (cI, 1200, .inl lz))] H := hP
  have hD : va_D A [(h, .inr (0, [.ref a1, .ref a2, .ref a3, .ref a4, .null, .int 0])), (a1, .inl (cI, 200, .inl lz)), (a2, .inl (cZ, 200, .inl lz)), (a3, .inl (cI, 200, .inl lz)), (a4, .inl (cI, 1200, .inl lz))] := hD
  refine lv_aload_n hx hb dX0_init_40 rfl (lv_at hl 0 rfl) ?_
  refine lv_bipush (v := nI 6) hx hb dX0_init_41 (by decide) ?_
  refine lr_newI hx hb (hts _ (List.mem_cons_of_mem _ tm_36)) hK hP hD hS hA 0 rfl (N := 6) (by decide) (Nat.le_of_ble_eq_true rfl) (Nat.le_of_ble_eq_true rfl) dX0_init_43 (fun a5 H hP hD hS => ?_)
  refine W.widen (k := 5) (n := 1806) (Nat.le_of_ble_eq_true rfl) (Nat.le_of_ble_eq_true rfl) ?_
  refine sX0_cutSizes hx hb hts hown hK hP hD hS hin 0 rfl rfl rfl (Nat.le_of_ble_eq_true rfl) dX0_init_45 (fun H locs hP hD hS => ?_)
  have hP : va_P D cdCl [(h, .inr (0, [.ref a1, .ref a2, .ref a3, .ref a4, .ref a5, .int 0])), (a1, .inl (cI, 200, .inl lz)), (a2, .inl (cZ, 200, .inl lz)), (a3, .inl (cI, 200, .inl lz)), (a4, .inl (cI, 1200, .inl lz)), (a5, .inl (cI, 6, .inl lz))] H := hP
  have hD : va_D A [(h, .inr (0, [.ref a1, .ref a2, .ref a3, .ref a4, .ref a5, .int 0])), (a1, .inl (cI, 200, .inl lz)), (a2, .inl (cZ, 200, .inl lz)), (a3, .inl (cI, 200, .inl lz)), (a4, .inl (cI, 1200, .inl lz)), (a5, .inl (cI, 6, .inl lz))] := hD
  refine lv_aload_n hx hb dX0_init_48 rfl (lv_at hl 0 rfl) ?_
  refine lv_iconst (v := nI 0) hx hb dX0_init_49 (by decide) ?_
  refine sX0_made hx hb hts hown hK hP hD hS 0 rfl rfl rfl (Nat.le_of_ble_eq_true rfl) dX0_init_50 (fun H locs hP hD hS => ?_)
  exact W.vret hx hb hr (fun t ht hW => ⟨⟨(a1, a2, a3, a4, a5), rfl, trivial, by show va_P D cdCl _ t.heap; rw [ht]; exact hP, hD⟩, hS.F ht⟩) hS.2.2 dX0_init_53
set_option maxHeartbeats 4000000 in
set_option maxRecDepth 100000 in
theorem c_X1_init (l : Launch) (D : va_G) (cI cZ : ClassId) (h sz : Nat) : Met l yX1_init (.code yX1_init cX1_init 1 none :: tW) { frames := 1, cells := 7, slots := 1206, locals := 30 } (cw_Pc D cdCl (dkT cI cZ) [(h, .inr (1, [.int 0, .null, .null, .null, .null, .null, .null, .null, .int 0]))] sz [.ref h]) (va_Qv (fun _ : Nat × Nat × Nat × Nat × Nat × Nat × Nat => True) (fun u t => va_P D cdCl (mdW h (u.1) (u.2.1) (u.2.2.1) (u.2.2.2.1) (u.2.2.2.2.1) (u.2.2.2.2.2.1) (u.2.2.2.2.2.2) cI cZ 0 lz lz lz lz lz lz lz 0) t.heap ∧ va_D (va_A [(h, .inr (1, [.int 0, .null, .null, .null, .null, .null, .null, .null, .int 0]))] sz) (mdW h (u.1) (u.2.1) (u.2.2.1) (u.2.2.2.1) (u.2.2.2.2.1) (u.2.2.2.2.2.1) (u.2.2.2.2.2.2) cI cZ 0 lz lz lz lz lz lz lz 0)) (va_A [(h, .inr (1, [.int 0, .null, .null, .null, .null, .null, .null, .null, .int 0]))] sz)) 7 1206 (va_A [(h, .inr (1, [.int 0, .null, .null, .null, .null, .null, .null, .null, .int 0]))] sz) := by
  refine Met.ofW (cc := cX1_init) (maxL := 1) (ret := none) (by decide) rfl ?_
  intro p e s m args below meth c s₁ B hml hv
  obtain ⟨rfl, hsz, hP, hK, hD0⟩ := hv
  have hx := B.exec
  have hb := B.bytes
  have hr := B.returns
  have hts := atoms_spec (ws := .code yX1_init cX1_init 1 none :: tW) B.pre
  have hown : s.vm.findClass RX1 = some m.cls := findClass_of_methodNamed B.named
  have hin : meth.name = "<init>" := (name_of_methodNamed B.named B.method).1
  subst hsz
  have hD := hD0.self (sz := s.heap.size)
  generalize hAe : va_A [(h, .inr (1, [.int 0, .null, .null, .null, .null, .null, .null, .null, .int 0]))] s.heap.size = A at hD ⊢
  have hA : ∀ q : Nat, s.heap.size ≤ q → A q := fun q h => by rw [← hAe]; exact Or.inr h
  have hS : va_S A s.heap s.heap [] := va_S.rf
  have hl := lv_entry ([.ref h]) (n := 1) (Nat.le_of_ble_eq_true rfl)
  rw [lg_entry_eq]
  generalize (lg_sl ([.ref h]) ++ List.replicate (1 - (lg_sl ([.ref h])).length) Slot.unset).toArray = ls at hl ⊢
  have hl : lv_has ls 1 [(0, .ref h)] := hl
  refine lv_aload_n hx hb dX1_init_0 rfl (lv_at hl 0 rfl) ?_
  refine W.objInit hx hb hown (hts _ (List.mem_cons_of_mem _ tm_281)) (hts _ (List.mem_cons_of_mem _ tm_15)) (hts _ (List.mem_cons_of_mem _ tm_16)) rfl (by rw [hml]; exact hl.1) rfl dX1_init_1 (Nat.le_of_ble_eq_true rfl) (Nat.le_of_ble_eq_true rfl) ?_
  refine W.eq (g2 := F0 m 4 ls []) rfl ?_
  refine lv_aload_n hx hb dX1_init_4 rfl (lv_at hl 0 rfl) ?_
  refine lv_sipush (v := nI 200) hx hb dX1_init_5 (by decide) ?_
  refine lr_newI hx hb (hts _ (List.mem_cons_of_mem _ tm_36)) hK hP hD hS hA 0 rfl (N := 200) (by decide) (Nat.le_of_ble_eq_true rfl) (Nat.le_of_ble_eq_true rfl) dX1_init_8 (fun a1 H hP hD hS => ?_)
  refine W.widen (k := 1) (n := 200) (Nat.le_of_ble_eq_true rfl) (Nat.le_of_ble_eq_true rfl) ?_
  refine sX1_of hx hb hts hown hK hP hD hS hin 0 rfl rfl rfl (Nat.le_of_ble_eq_true rfl) dX1_init_10 (fun H locs hP hD hS => ?_)
  have hP : va_P D cdCl [(h, .inr (1, [.int 0, .ref a1, .null, .null, .null, .null, .null, .null, .int 0])), (a1, .inl (cI, 200, .inl lz))] H := hP
  have hD : va_D A [(h, .inr (1, [.int 0, .ref a1, .null, .null, .null, .null, .null, .null, .int 0])), (a1, .inl (cI, 200, .inl lz))] := hD
  refine lv_aload_n hx hb dX1_init_13 rfl (lv_at hl 0 rfl) ?_
  refine lv_sipush (v := nI 200) hx hb dX1_init_14 (by decide) ?_
  refine lr_newI hx hb (hts _ (List.mem_cons_of_mem _ tm_36)) hK hP hD hS hA 0 rfl (N := 200) (by decide) (Nat.le_of_ble_eq_true rfl) (Nat.le_of_ble_eq_true rfl) dX1_init_17 (fun a2 H hP hD hS => ?_)
  refine W.widen (k := 2) (n := 400) (Nat.le_of_ble_eq_true rfl) (Nat.le_of_ble_eq_true rfl) ?_
  refine sX1_from hx hb hts hown hK hP hD hS hin 0 rfl rfl rfl (Nat.le_of_ble_eq_true rfl) dX1_init_19 (fun H locs hP hD hS => ?_)
  have hP : va_P D cdCl [(h, .inr (1, [.int 0, .ref a1, .ref a2, .null, .null, .null, .null, .null, .int 0])), (a1, .inl (cI, 200, .inl lz)), (a2, .inl (cI, 200, .inl lz))] H := hP
  have hD : va_D A [(h, .inr (1, [.int 0, .ref a1, .ref a2, .null, .null, .null, .null, .null, .int 0])), (a1, .inl (cI, 200, .inl lz)), (a2, .inl (cI, 200, .inl lz))] := hD
  refine lv_aload_n hx hb dX1_init_22 rfl (lv_at hl 0 rfl) ?_
  refine lv_sipush (v := nI 200) hx hb dX1_init_23 (by decide) ?_
  refine lr_newI hx hb (hts _ (List.mem_cons_of_mem _ tm_36)) hK hP hD hS hA 0 rfl (N := 200) (by decide) (Nat.le_of_ble_eq_true rfl) (Nat.le_of_ble_eq_true rfl) dX1_init_26 (fun a3 H hP hD hS => ?_)
  refine W.widen (k := 3) (n := 600) (Nat.le_of_ble_eq_true rfl) (Nat.le_of_ble_eq_true rfl) ?_
  refine sX1_todo hx hb hts hown hK hP hD hS hin 0 rfl rfl rfl (Nat.le_of_ble_eq_true rfl) dX1_init_28 (fun H locs hP hD hS => ?_)
  have hP : va_P D cdCl [(h, .inr (1, [.int 0, .ref a1, .ref a2, .ref a3, .null, .null, .null, .null, .int 0])), (a1, .inl (cI, 200, .inl lz)), (a2, .inl (cI, 200, .inl lz)), (a3, .inl (cI, 200, .inl lz))] H := hP
  have hD : va_D A [(h, .inr (1, [.int 0, .ref a1, .ref a2, .ref a3, .null, .null, .null, .null, .int 0])), (a1, .inl (cI, 200, .inl lz)), (a2, .inl (cI, 200, .inl lz)), (a3, .inl (cI, 200, .inl lz))] := hD
  refine lv_aload_n hx hb dX1_init_31 rfl (lv_at hl 0 rfl) ?_
  refine lv_sipush (v := nI 200) hx hb dX1_init_32 (by decide) ?_
  refine lr_newI hx hb (hts _ (List.mem_cons_of_mem _ tm_36)) hK hP hD hS hA 0 rfl (N := 200) (by decide) (Nat.le_of_ble_eq_true rfl) (Nat.le_of_ble_eq_true rfl) dX1_init_35 (fun a4 H hP hD hS => ?_)
  refine W.widen (k := 4) (n := 800) (Nat.le_of_ble_eq_true rfl) (Nat.le_of_ble_eq_true rfl) ?_
  refine sX1_far hx hb hts hown hK hP hD hS hin 0 rfl rfl rfl (Nat.le_of_ble_eq_true rfl) dX1_init_37 (fun H locs hP hD hS => ?_)
  have hP : va_P D cdCl [(h, .inr (1, [.int 0, .ref a1, .ref a2, .ref a3, .ref a4, .null, .null, .null, .int 0])), (a1, .inl (cI, 200, .inl lz)), (a2, .inl (cI, 200, .inl lz)), (a3, .inl (cI, 200, .inl lz)), (a4, .inl (cI, 200, .inl lz))] H := hP
  have hD : va_D A [(h, .inr (1, [.int 0, .ref a1, .ref a2, .ref a3, .ref a4, .null, .null, .null, .int 0])), (a1, .inl (cI, 200, .inl lz)), (a2, .inl (cI, 200, .inl lz)), (a3, .inl (cI, 200, .inl lz)), (a4, .inl (cI, 200, .inl lz))] := hD
  refine lv_aload_n hx hb dX1_init_40 rfl (lv_at hl 0 rfl) ?_
  refine lv_bipush (v := nI 6) hx hb dX1_init_41 (by decide) ?_
  refine lr_newI hx hb (hts _ (List.mem_cons_of_mem _ tm_36)) hK hP hD hS hA 0 rfl (N := 6) (by decide) (Nat.le_of_ble_eq_true rfl) (Nat.le_of_ble_eq_true rfl) dX1_init_43 (fun a5 H hP hD hS => ?_)
  refine W.widen (k := 5) (n := 806) (Nat.le_of_ble_eq_true rfl) (Nat.le_of_ble_eq_true rfl) ?_
  refine sX1_cuts hx hb hts hown hK hP hD hS hin 0 rfl rfl rfl (Nat.le_of_ble_eq_true rfl) dX1_init_45 (fun H locs hP hD hS => ?_)
  have hP : va_P D cdCl [(h, .inr (1, [.int 0, .ref a1, .ref a2, .ref a3, .ref a4, .ref a5, .null, .null, .int 0])), (a1, .inl (cI, 200, .inl lz)), (a2, .inl (cI, 200, .inl lz)), (a3, .inl (cI, 200, .inl lz)), (a4, .inl (cI, 200, .inl lz)), (a5, .inl (cI, 6, .inl lz))] H := hP
  have hD : va_D A [(h, .inr (1, [.int 0, .ref a1, .ref a2, .ref a3, .ref a4, .ref a5, .null, .null, .int 0])), (a1, .inl (cI, 200, .inl lz)), (a2, .inl (cI, 200, .inl lz)), (a3, .inl (cI, 200, .inl lz)), (a4, .inl (cI, 200, .inl lz)), (a5, .inl (cI, 6, .inl lz))] := hD
  refine lv_aload_n hx hb dX1_init_48 rfl (lv_at hl 0 rfl) ?_
  refine lv_sipush (v := nI 200) hx hb dX1_init_49 (by decide) ?_
  refine lr_newZ hx hb (hts _ (List.mem_cons_of_mem _ tm_37)) hK hP hD hS hA 1 rfl (N := 200) (by decide) (Nat.le_of_ble_eq_true rfl) (Nat.le_of_ble_eq_true rfl) dX1_init_52 (fun a6 H hP hD hS => ?_)
  refine W.widen (k := 6) (n := 1006) (Nat.le_of_ble_eq_true rfl) (Nat.le_of_ble_eq_true rfl) ?_
  refine sX1_sends hx hb hts hown hK hP hD hS hin 0 rfl rfl rfl (Nat.le_of_ble_eq_true rfl) dX1_init_54 (fun H locs hP hD hS => ?_)
  have hP : va_P D cdCl [(h, .inr (1, [.int 0, .ref a1, .ref a2, .ref a3, .ref a4, .ref a5, .ref a6, .null, .int 0])), (a1, .inl (cI, 200, .inl lz)), (a2, .inl (cI, 200, .inl lz)), (a3, .inl (cI, 200, .inl lz)), (a4, .inl (cI, 200, .inl lz)), (a5, .inl (cI, 6, .inl lz)), (a6, .inl (cZ, 200, .inl lz))] H := hP
  have hD : va_D A [(h, .inr (1, [.int 0, .ref a1, .ref a2, .ref a3, .ref a4, .ref a5, .ref a6, .null, .int 0])), (a1, .inl (cI, 200, .inl lz)), (a2, .inl (cI, 200, .inl lz)), (a3, .inl (cI, 200, .inl lz)), (a4, .inl (cI, 200, .inl lz)), (a5, .inl (cI, 6, .inl lz)), (a6, .inl (cZ, 200, .inl lz))] := hD
  refine lv_aload_n hx hb dX1_init_57 rfl (lv_at hl 0 rfl) ?_
  refine lv_sipush (v := nI 200) hx hb dX1_init_58 (by decide) ?_
  refine lr_newZ hx hb (hts _ (List.mem_cons_of_mem _ tm_37)) hK hP hD hS hA 1 rfl (N := 200) (by decide) (Nat.le_of_ble_eq_true rfl) (Nat.le_of_ble_eq_true rfl) dX1_init_61 (fun a7 H hP hD hS => ?_)
  refine W.widen (k := 7) (n := 1206) (Nat.le_of_ble_eq_true rfl) (Nat.le_of_ble_eq_true rfl) ?_
  refine sX1_seen hx hb hts hown hK hP hD hS hin 0 rfl rfl rfl (Nat.le_of_ble_eq_true rfl) dX1_init_63 (fun H locs hP hD hS => ?_)
  have hP : va_P D cdCl [(h, .inr (1, [.int 0, .ref a1, .ref a2, .ref a3, .ref a4, .ref a5, .ref a6, .ref a7, .int 0])), (a1, .inl (cI, 200, .inl lz)), (a2, .inl (cI, 200, .inl lz)), (a3, .inl (cI, 200, .inl lz)), (a4, .inl (cI, 200, .inl lz)), (a5, .inl (cI, 6, .inl lz)), (a6, .inl (cZ, 200, .inl lz)), (a7, .inl (cZ, 200, .inl lz))] H := hP
  have hD : va_D A [(h, .inr (1, [.int 0, .ref a1, .ref a2, .ref a3, .ref a4, .ref a5, .ref a6, .ref a7, .int 0])), (a1, .inl (cI, 200, .inl lz)), (a2, .inl (cI, 200, .inl lz)), (a3, .inl (cI, 200, .inl lz)), (a4, .inl (cI, 200, .inl lz)), (a5, .inl (cI, 6, .inl lz)), (a6, .inl (cZ, 200, .inl lz)), (a7, .inl (cZ, 200, .inl lz))] := hD
  exact W.vret hx hb hr (fun t ht hW => ⟨⟨(a1, a2, a3, a4, a5, a6, a7), rfl, trivial, by show va_P D cdCl _ t.heap; rw [ht]; exact hP, hD⟩, hS.F ht⟩) hS.2.2 dX1_init_66
