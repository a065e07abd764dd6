/-! THE MODEL: before, rank, clock, whole, closeopen, count -/
set_option maxHeartbeats 4000000 in
set_option maxRecDepth 100000 in
/-- before: the first is no event -/
theorem m1_X1_before (l : Launch) (D : va_G) (cI cZ : ClassId) (h b1 b2 b3 b4 b5 b6 b7 : Nat) (er : Int32) (mo mf mt ma mc ms mq : Nat → Int32) (o f : Nat → Nat) (sd : Nat → Bool) (c₀ : Nat → Nat) (n : Nat) (hok : cd_md o f sd c₀ n mo mf mc ms) (sz : Nat) (x y : Int32) (hbad : ¬ (0 ≤ x ∧ x < nI n)) : Met l yX1_before (.code yX1_before cX1_before 3 (some .boolean) :: tW) (rmL 2) (cw_Pc D cdCl (dkT cI cZ) (mdW h b1 b2 b3 b4 b5 b6 b7 cI cZ er mo mf mt ma mc ms mq n) sz [.ref h, .int x, .int y]) (va_Qi (fun (r : Int32) (u : mdS) => u.1 = nI 1 ∧ mdP o f sd c₀ n u) (fun u t => va_P D cdCl (mdU h b1 b2 b3 b4 b5 b6 b7 cI cZ (n) u) t.heap) (va_A (mdW h b1 b2 b3 b4 b5 b6 b7 cI cZ er mo mf mt ma mc ms mq n) sz)) 0 0 (va_A (mdW h b1 b2 b3 b4 b5 b6 b7 cI cZ er mo mf mt ma mc ms mq n) sz) := by
  refine Met.ofW (cc := cX1_before) (maxL := 3) (ret := (some .boolean)) (by decide) rfl ?_
  intro p e s m args below meth c s₁ B hml hv
  obtain ⟨rfl, hsz, hP, hK, hD0⟩ := hv
  have hx := B.exec
  have hb := B.bytes
  have hr := B.returns
  have hts := atoms_spec (ws := .code yX1_before cX1_before 3 (some .boolean) :: tW) B.pre
  have hown : s.vm.findClass RX1 = some m.cls := findClass_of_methodNamed B.named
  have hlocks := B.notSynchronized
  have hl := lv_entry ([.ref h, .int x, .int y]) (n := 3) (Nat.le_of_ble_eq_true rfl)
  rw [lg_entry_eq]
  generalize (lg_sl ([.ref h, .int x, .int y]) ++ List.replicate (3 - (lg_sl ([.ref h, .int x, .int y])).length) Slot.unset).toArray = ls at hl ⊢
  have hl : lv_has ls 3 [(0, .ref h), (1, .int x), (2, .int y)] := hl
  subst hsz
  have hD := hD0.self (sz := s.heap.size)
  generalize hAe : va_A (mdW h b1 b2 b3 b4 b5 b6 b7 cI cZ er mo mf mt ma mc ms mq n) s.heap.size = A at hD ⊢
  have hA : ∀ q : Nat, s.heap.size ≤ q → A q := fun q h => by rw [← hAe]; exact Or.inr h
  have hS : va_S A s.heap s.heap [] := va_S.rf
  have hok0 := hok
  obtain ⟨hn, hwf, hc2, hmo, hmf, hms, hmc⟩ := hok0
  refine lv_aload_n hx hb dX1_before_0 rfl (lv_at hl 0 rfl) ?_
  refine lv_iconst (v := nI 0) hx hb dX1_before_1 (by decide) ?_
  refine sX1_err hx hb hts hown hK hP hD hS 0 rfl rfl rfl (Nat.le_of_ble_eq_true rfl) dX1_before_2 (fun H locs hP hD hS => ?_)
  have hP : va_P D cdCl (mdW h b1 b2 b3 b4 b5 b6 b7 cI cZ (nI 0) mo mf mt ma mc ms mq n) H := hP
  have hD : va_D A (mdW h b1 b2 b3 b4 b5 b6 b7 cI cZ (nI 0) mo mf mt ma mc ms mq n) := hD
  refine lv_aload_n hx hb dX1_before_5 rfl (lv_at hl 0 rfl) ?_
  refine lv_aload_n hx hb dX1_before_6 rfl (lv_at hl 0 rfl) ?_
  refine lv_iload_n hx hb dX1_before_7 rfl (lv_at hl 1 rfl) ?_
  refine cw_callR (As := [.int (x)]) ⟨hx, hb, hml, hown, hts⟩ (c_X1_isEvent l D cI cZ h b1 b2 b3 b4 b5 b6 b7 (nI 0) mo mf mt ma mc ms mq o f sd c₀ n hok (x)) (kX1_X1_isEvent hts 1 0 0 30 ⟨by decide, by decide⟩) hK hP 0 rfl rfl rfl rfl hl.1 rfl (Nat.le_of_ble_eq_true rfl) dX1_before_8 ⟨Nat.zero_le _, Nat.zero_le _⟩ ?_
  refine cw_topi (y := 0) (cd_bI_f hbad) ?_
  refine lv_if_eq (tgt := 22) hx hb dX1_before_11 (by decide) (fun hc => ?_) (fun hc => ?_)
  · refine lv_iconst (v := nI 1) hx hb dX1_before_22 (by decide) ?_
    refine lv_goto (tgt := 27) hx hb dX1_before_23 (by decide) ?_
    refine lv_iconst (v := nI 1) hx hb dX1_before_27 (by decide) ?_
    refine cw_callWi (As := [.int (nI 1), .int (nI 1)]) (S := Unit) (BW := (fun u => (mdW h b1 b2 b3 b4 b5 b6 b7 cI cZ (nI 1) mo mf mt ma mc ms mq n))) (wr := []) ⟨hx, hb, hml, hown, hts⟩ (c_X1_fails1 l D cI cZ h b1 b2 b3 b4 b5 b6 b7 mo mf mt ma mc ms mq o f sd c₀ n hok _ 1 (by decide) (by decide)) (kX1_X1_fails hts 0 0 0 0 ⟨by decide, by decide⟩) hK hP hD hS hA [0, 1, 2, 3, 4, 5, 6, 7] [] rfl rfl (by decide) (by decide) (by decide) (fun _ => rfl) 0 rfl rfl rfl rfl hl.1 rfl (Nat.le_of_ble_eq_true rfl) dX1_before_28 ⟨Nat.zero_le _, Nat.zero_le _⟩ (fun r u H locs hu hP hD hS => ?_)
    have hrr : r = 1 := hu
    subst hrr
    have hP : va_P D cdCl (mdW h b1 b2 b3 b4 b5 b6 b7 cI cZ (nI 1) mo mf mt ma mc ms mq n) H := hP
    have hD : va_D A (mdW h b1 b2 b3 b4 b5 b6 b7 cI cZ (nI 1) mo mf mt ma mc ms mq n) := hD
    refine lv_if_eq (tgt := 36) hx hb dX1_before_31 (by decide) (fun hc => ?_) (fun hc => ?_)
    · exact absurd hc (by decide)
    · refine lv_iconst (v := nI 0) hx hb dX1_before_34 (by decide) ?_
      exact W.zret (v := nI 0) hx hb hr (by first | rfl | exact cd_bI_nar) (fun t ht hW => ⟨⟨nI 0, ((nI 1), mo, mf, mt, ma, mc, ms, mq), rfl, ⟨rfl, hok⟩, by show va_P D cdCl _ t.heap; rw [ht]; exact hP⟩, hS.F ht⟩) hS.2.2 dX1_before_35
  · exact absurd rfl hc
set_option maxHeartbeats 4000000 in
set_option maxRecDepth 100000 in
/-- before: the second is no event -/
theorem m2_X1_before (l : Launch) (D : va_G) (cI cZ : ClassId) (h b1 b2 b3 b4 b5 b6 b7 : Nat) (er : Int32) (mo mf mt ma mc ms mq : Nat → Int32) (o f : Nat → Nat) (sd : Nat → Bool) (c₀ : Nat → Nat) (n : Nat) (hok : cd_md o f sd c₀ n mo mf mc ms) (sz : Nat) (k : Nat) (hk : k < n) (x : Int32) (hbad : ¬ (0 ≤ x ∧ x < nI n)) : Met l yX1_before (.code yX1_before cX1_before 3 (some .boolean) :: tW) (rmL 2) (cw_Pc D cdCl (dkT cI cZ) (mdW h b1 b2 b3 b4 b5 b6 b7 cI cZ er mo mf mt ma mc ms mq n) sz [.ref h, .int (nI k), .int x]) (va_Qi (fun (r : Int32) (u : mdS) => u.1 = nI 1 ∧ mdP o f sd c₀ n u) (fun u t => va_P D cdCl (mdU h b1 b2 b3 b4 b5 b6 b7 cI cZ (n) u) t.heap) (va_A (mdW h b1 b2 b3 b4 b5 b6 b7 cI cZ er mo mf mt ma mc ms mq n) sz)) 0 0 (va_A (mdW h b1 b2 b3 b4 b5 b6 b7 cI cZ er mo mf mt ma mc ms mq n) sz) := by
  refine Met.ofW (cc := cX1_before) (maxL := 3) (ret := (some .boolean)) (by decide) rfl ?_
  intro p e s m args below meth c s₁ B hml hv
  obtain ⟨rfl, hsz, hP, hK, hD0⟩ := hv
  have hx := B.exec
  have hb := B.bytes
  have hr := B.returns
  have hts := atoms_spec (ws := .code yX1_before cX1_before 3 (some .boolean) :: tW) B.pre
  have hown : s.vm.findClass RX1 = some m.cls := findClass_of_methodNamed B.named
  have hlocks := B.notSynchronized
  have hl := lv_entry ([.ref h, .int (nI k), .int x]) (n := 3) (Nat.le_of_ble_eq_true rfl)
  rw [lg_entry_eq]
  generalize (lg_sl ([.ref h, .int (nI k), .int x]) ++ List.replicate (3 - (lg_sl ([.ref h, .int (nI k), .int x])).length) Slot.unset).toArray = ls at hl ⊢
  have hl : lv_has ls 3 [(0, .ref h), (1, .int (nI k)), (2, .int x)] := hl
  subst hsz
  have hD := hD0.self (sz := s.heap.size)
  generalize hAe : va_A (mdW h b1 b2 b3 b4 b5 b6 b7 cI cZ er mo mf mt ma mc ms mq n) s.heap.size = A at hD ⊢
  have hA : ∀ q : Nat, s.heap.size ≤ q → A q := fun q h => by rw [← hAe]; exact Or.inr h
  have hS : va_S A s.heap s.heap [] := va_S.rf
  have hok0 := hok
  obtain ⟨hn, hwf, hc2, hmo, hmf, hms, hmc⟩ := hok0
  refine lv_aload_n hx hb dX1_before_0 rfl (lv_at hl 0 rfl) ?_
  refine lv_iconst (v := nI 0) hx hb dX1_before_1 (by decide) ?_
  refine sX1_err hx hb hts hown hK hP hD hS 0 rfl rfl rfl (Nat.le_of_ble_eq_true rfl) dX1_before_2 (fun H locs hP hD hS => ?_)
  have hP : va_P D cdCl (mdW h b1 b2 b3 b4 b5 b6 b7 cI cZ (nI 0) mo mf mt ma mc ms mq n) H := hP
  have hD : va_D A (mdW h b1 b2 b3 b4 b5 b6 b7 cI cZ (nI 0) mo mf mt ma mc ms mq n) := hD
  refine lv_aload_n hx hb dX1_before_5 rfl (lv_at hl 0 rfl) ?_
  refine lv_aload_n hx hb dX1_before_6 rfl (lv_at hl 0 rfl) ?_
  refine lv_iload_n hx hb dX1_before_7 rfl (lv_at hl 1 rfl) ?_
  refine cw_callR (As := [.int (nI k)]) ⟨hx, hb, hml, hown, hts⟩ (c_X1_isEvent l D cI cZ h b1 b2 b3 b4 b5 b6 b7 (nI 0) mo mf mt ma mc ms mq o f sd c₀ n hok (nI k)) (kX1_X1_isEvent hts 1 0 0 30 ⟨by decide, by decide⟩) hK hP 0 rfl rfl rfl rfl hl.1 rfl (Nat.le_of_ble_eq_true rfl) dX1_before_8 ⟨Nat.zero_le _, Nat.zero_le _⟩ ?_
  refine cw_topi (y := 1) (cd_bI_t ⟨nI_pos' (by omega), nI_lt (by omega) (by omega)⟩) ?_
  refine lv_if_eq (tgt := 22) hx hb dX1_before_11 (by decide) (fun hc => ?_) (fun hc => ?_)
  · exact absurd hc (by decide)
  · refine lv_aload_n hx hb dX1_before_14 rfl (lv_at hl 0 rfl) ?_
    refine lv_iload_n hx hb dX1_before_15 rfl (lv_at hl 2 rfl) ?_
    refine cw_callR (As := [.int (x)]) ⟨hx, hb, hml, hown, hts⟩ (c_X1_isEvent l D cI cZ h b1 b2 b3 b4 b5 b6 b7 (nI 0) mo mf mt ma mc ms mq o f sd c₀ n hok (x)) (kX1_X1_isEvent hts 1 0 0 30 ⟨by decide, by decide⟩) hK hP 0 rfl rfl rfl rfl hl.1 rfl (Nat.le_of_ble_eq_true rfl) dX1_before_16 ⟨Nat.zero_le _, Nat.zero_le _⟩ ?_
    refine cw_topi (y := 0) (cd_bI_f hbad) ?_
    refine lv_if_ne (tgt := 26) hx hb dX1_before_19 (by decide) (fun hc => ?_) (fun hc => ?_)
    · exact absurd rfl hc
    · refine lv_iconst (v := nI 1) hx hb dX1_before_22 (by decide) ?_
      refine lv_goto (tgt := 27) hx hb dX1_before_23 (by decide) ?_
      refine lv_iconst (v := nI 1) hx hb dX1_before_27 (by decide) ?_
      refine cw_callWi (As := [.int (nI 1), .int (nI 1)]) (S := Unit) (BW := (fun u => (mdW h b1 b2 b3 b4 b5 b6 b7 cI cZ (nI 1) mo mf mt ma mc ms mq n))) (wr := []) ⟨hx, hb, hml, hown, hts⟩ (c_X1_fails1 l D cI cZ h b1 b2 b3 b4 b5 b6 b7 mo mf mt ma mc ms mq o f sd c₀ n hok _ 1 (by decide) (by decide)) (kX1_X1_fails hts 0 0 0 0 ⟨by decide, by decide⟩) hK hP hD hS hA [0, 1, 2, 3, 4, 5, 6, 7] [] rfl rfl (by decide) (by decide) (by decide) (fun _ => rfl) 0 rfl rfl rfl rfl hl.1 rfl (Nat.le_of_ble_eq_true rfl) dX1_before_28 ⟨Nat.zero_le _, Nat.zero_le _⟩ (fun r u H locs hu hP hD hS => ?_)
      have hrr : r = 1 := hu
      subst hrr
      have hP : va_P D cdCl (mdW h b1 b2 b3 b4 b5 b6 b7 cI cZ (nI 1) mo mf mt ma mc ms mq n) H := hP
      have hD : va_D A (mdW h b1 b2 b3 b4 b5 b6 b7 cI cZ (nI 1) mo mf mt ma mc ms mq n) := hD
      refine lv_if_eq (tgt := 36) hx hb dX1_before_31 (by decide) (fun hc => ?_) (fun hc => ?_)
      · exact absurd hc (by decide)
      · refine lv_iconst (v := nI 0) hx hb dX1_before_34 (by decide) ?_
        exact W.zret (v := nI 0) hx hb hr (by first | rfl | exact cd_bI_nar) (fun t ht hW => ⟨⟨nI 0, ((nI 1), mo, mf, mt, ma, mc, ms, mq), rfl, ⟨rfl, hok⟩, by show va_P D cdCl _ t.heap; rw [ht]; exact hP⟩, hS.F ht⟩) hS.2.2 dX1_before_35
set_option maxHeartbeats 4000000 in
set_option maxRecDepth 100000 in
/-- before -/
theorem m0_X1_before (l : Launch) (D : va_G) (cI cZ : ClassId) (h b1 b2 b3 b4 b5 b6 b7 : Nat) (er : Int32) (mo mf mt ma mc ms mq : Nat → Int32) (o f : Nat → Nat) (sd : Nat → Bool) (c₀ : Nat → Nat) (n : Nat) (hok : cd_md o f sd c₀ n mo mf mc ms) (sz : Nat) (k g : Nat) (hk : k < n) (hg : g < n) : Met l yX1_before (.code yX1_before cX1_before 3 (some .boolean) :: tW) (rmL 2) (cw_Pc D cdCl (dkT cI cZ) (mdW h b1 b2 b3 b4 b5 b6 b7 cI cZ er mo mf mt ma mc ms mq n) sz [.ref h, .int (nI k), .int (nI g)]) (va_Qi (fun (r : Int32) (u : mdS) => r = cd_bI (k ≠ g ∧ cd_mn o (o k) k < cd_ck o f (g + 1) (o k)) ∧ u.1 = nI 0 ∧ mdP o f sd c₀ n u) (fun u t => va_P D cdCl (mdU h b1 b2 b3 b4 b5 b6 b7 cI cZ (n) u) t.heap) (va_A (mdW h b1 b2 b3 b4 b5 b6 b7 cI cZ er mo mf mt ma mc ms mq n) sz)) 0 0 (va_A (mdW h b1 b2 b3 b4 b5 b6 b7 cI cZ er mo mf mt ma mc ms mq n) sz) := by
  refine Met.ofW (cc := cX1_before) (maxL := 3) (ret := (some .boolean)) (by decide) rfl ?_
  intro p e s m args below meth c s₁ B hml hv
  obtain ⟨rfl, hsz, hP, hK, hD0⟩ := hv
  have hx := B.exec
  have hb := B.bytes
  have hr := B.returns
  have hts := atoms_spec (ws := .code yX1_before cX1_before 3 (some .boolean) :: tW) B.pre
  have hown : s.vm.findClass RX1 = some m.cls := findClass_of_methodNamed B.named
  have hlocks := B.notSynchronized
  have hl := lv_entry ([.ref h, .int (nI k), .int (nI g)]) (n := 3) (Nat.le_of_ble_eq_true rfl)
  rw [lg_entry_eq]
  generalize (lg_sl ([.ref h, .int (nI k), .int (nI g)]) ++ List.replicate (3 - (lg_sl ([.ref h, .int (nI k), .int (nI g)])).length) Slot.unset).toArray = ls at hl ⊢
  have hl : lv_has ls 3 [(0, .ref h), (1, .int (nI k)), (2, .int (nI g))] := hl
  subst hsz
  have hD := hD0.self (sz := s.heap.size)
  generalize hAe : va_A (mdW h b1 b2 b3 b4 b5 b6 b7 cI cZ er mo mf mt ma mc ms mq n) s.heap.size = A at hD ⊢
  have hA : ∀ q : Nat, s.heap.size ≤ q → A q := fun q h => by rw [← hAe]; exact Or.inr h
  have hS : va_S A s.heap s.heap [] := va_S.rf
  have hok0 := hok
  obtain ⟨hn, hwf, hc2, hmo, hmf, hms, hmc⟩ := hok0
  refine lv_aload_n hx hb dX1_before_0 rfl (lv_at hl 0 rfl) ?_
  refine lv_iconst (v := nI 0) hx hb dX1_before_1 (by decide) ?_
  refine sX1_err hx hb hts hown hK hP hD hS 0 rfl rfl rfl (Nat.le_of_ble_eq_true rfl) dX1_before_2 (fun H locs hP hD hS => ?_)
  have hP : va_P D cdCl (mdW h b1 b2 b3 b4 b5 b6 b7 cI cZ (nI 0) mo mf mt ma mc ms mq n) H := hP
  have hD : va_D A (mdW h b1 b2 b3 b4 b5 b6 b7 cI cZ (nI 0) mo mf mt ma mc ms mq n) := hD
  refine lv_aload_n hx hb dX1_before_5 rfl (lv_at hl 0 rfl) ?_
  refine lv_aload_n hx hb dX1_before_6 rfl (lv_at hl 0 rfl) ?_
  refine lv_iload_n hx hb dX1_before_7 rfl (lv_at hl 1 rfl) ?_
  refine cw_callR (As := [.int (nI k)]) ⟨hx, hb, hml, hown, hts⟩ (c_X1_isEvent l D cI cZ h b1 b2 b3 b4 b5 b6 b7 (nI 0) mo mf mt ma mc ms mq o f sd c₀ n hok (nI k)) (kX1_X1_isEvent hts 1 0 0 30 ⟨by decide, by decide⟩) hK hP 0 rfl rfl rfl rfl hl.1 rfl (Nat.le_of_ble_eq_true rfl) dX1_before_8 ⟨Nat.zero_le _, Nat.zero_le _⟩ ?_
  refine cw_topi (y := 1) (cd_bI_t ⟨nI_pos' (by omega), nI_lt (by omega) (by omega)⟩) ?_
  refine lv_if_eq (tgt := 22) hx hb dX1_before_11 (by decide) (fun hc => ?_) (fun hc => ?_)
  · exact absurd hc (by decide)
  · refine lv_aload_n hx hb dX1_before_14 rfl (lv_at hl 0 rfl) ?_
    refine lv_iload_n hx hb dX1_before_15 rfl (lv_at hl 2 rfl) ?_
    refine cw_callR (As := [.int (nI g)]) ⟨hx, hb, hml, hown, hts⟩ (c_X1_isEvent l D cI cZ h b1 b2 b3 b4 b5 b6 b7 (nI 0) mo mf mt ma mc ms mq o f sd c₀ n hok (nI g)) (kX1_X1_isEvent hts 1 0 0 30 ⟨by decide, by decide⟩) hK hP 0 rfl rfl rfl rfl hl.1 rfl (Nat.le_of_ble_eq_true rfl) dX1_before_16 ⟨Nat.zero_le _, Nat.zero_le _⟩ ?_
    refine cw_topi (y := 1) (cd_bI_t ⟨nI_pos' (by omega), nI_lt (by omega) (by omega)⟩) ?_
    refine lv_if_ne (tgt := 26) hx hb dX1_before_19 (by decide) (fun hc => ?_) (fun hc => ?_)
    · refine lv_iconst (v := nI 0) hx hb dX1_before_26 (by decide) ?_
      refine lv_iconst (v := nI 1) hx hb dX1_before_27 (by decide) ?_
      refine cw_callR (As := [.int (nI 0), .int (nI 1)]) ⟨hx, hb, hml, hown, hts⟩ (c_X1_fails0 l D cI cZ h b1 b2 b3 b4 b5 b6 b7 mo mf mt ma mc ms mq o f sd c₀ n hok (nI 1)) (kX1_X1_fails hts 0 0 0 0 ⟨by decide, by decide⟩) hK hP 0 rfl rfl rfl rfl hl.1 rfl (Nat.le_of_ble_eq_true rfl) dX1_before_28 ⟨Nat.zero_le _, Nat.zero_le _⟩ ?_
      refine lv_if_eq (tgt := 36) hx hb dX1_before_31 (by decide) (fun hc => ?_) (fun hc => ?_)
      · refine lv_aload_n hx hb dX1_before_36 rfl (lv_at hl 0 rfl) ?_
        refine lv_iload_n hx hb dX1_before_37 rfl (lv_at hl 2 rfl) ?_
        refine cw_callWv (As := [.int (nI g)]) (S := ((Nat → Int32) × (Nat → Int32))) (BW := (fun u => (mdW h b1 b2 b3 b4 b5 b6 b7 cI cZ (nI 0) mo mf u.1 ma mc ms u.2 n))) (wr := []) ⟨hx, hb, hml, hown, hts⟩ (c_X1_back l D cI cZ h b1 b2 b3 b4 b5 b6 b7 (nI 0) mo mf mt ma mc ms mq o f sd c₀ n hok _ g hg) (kX1_X1_back hts 1 0 0 30 ⟨by decide, by decide⟩) hK hP hD hS hA [0, 1, 2, 3, 4, 5, 6, 7] [] rfl rfl (by decide) (by decide) (by decide) (fun _ => rfl) 0 rfl rfl rfl rfl hl.1 rfl (Nat.le_of_ble_eq_true rfl) dX1_before_38 ⟨Nat.zero_le _, Nat.zero_le _⟩ (fun u H locs hu hP hD hS => ?_)
        obtain ⟨mt, mq⟩ := u
        have hq : ∀ i, i < n → mq i = cd_bI (i ≠ g ∧ cd_mn o (o i) i < cd_ck o f (g + 1) (o i)) := hu
        have hP : va_P D cdCl (mdW h b1 b2 b3 b4 b5 b6 b7 cI cZ (nI 0) mo mf mt ma mc ms mq n) H := hP
        have hD : va_D A (mdW h b1 b2 b3 b4 b5 b6 b7 cI cZ (nI 0) mo mf mt ma mc ms mq n) := hD
        refine lv_aload_n hx hb dX1_before_41 rfl (lv_at hl 0 rfl) ?_
        refine gX1_seen hx hb hts hown hK hP 0 rfl rfl dX1_before_42 ?_
        refine lv_iload_n hx hb dX1_before_45 rfl (lv_at hl 1 rfl) ?_
        refine cw_zald hx hb hK hP 7 1 rfl rfl (k := k) (v := cd_bI (k ≠ g ∧ cd_mn o (o k) k < cd_ck o f (g + 1) (o k))) (by omega) (by decide) (hq k hk) dX1_before_46 ?_
        exact W.zret (v := cd_bI (k ≠ g ∧ cd_mn o (o k) k < cd_ck o f (g + 1) (o k))) hx hb hr (by first | rfl | exact cd_bI_nar) (fun t ht hW => ⟨⟨cd_bI (k ≠ g ∧ cd_mn o (o k) k < cd_ck o f (g + 1) (o k)), (nI 0, mo, mf, mt, ma, mc, ms, mq), rfl, ⟨rfl, rfl, hok⟩, by show va_P D cdCl _ t.heap; rw [ht]; exact hP⟩, hS.F ht⟩) hS.2.2 dX1_before_47
      · exact absurd rfl hc
    · exact absurd hc (by decide)
set_option maxHeartbeats 4000000 in
set_option maxRecDepth 100000 in
/-- apart: the first is no event -/
theorem m1_X1_apart (l : Launch) (D : va_G) (cI cZ : ClassId) (h b1 b2 b3 b4 b5 b6 b7 : Nat) (er : Int32) (mo mf mt ma mc ms mq : Nat → Int32) (o f : Nat → Nat) (sd : Nat → Bool) (c₀ : Nat → Nat) (n : Nat) (hok : cd_md o f sd c₀ n mo mf mc ms) (sz : Nat) (x y : Int32) (hbad : ¬ (0 ≤ x ∧ x < nI n)) : Met l yX1_apart (.code yX1_apart cX1_apart 3 (some .boolean) :: tW) (rmL 2) (cw_Pc D cdCl (dkT cI cZ) (mdW h b1 b2 b3 b4 b5 b6 b7 cI cZ er mo mf mt ma mc ms mq n) sz [.ref h, .int x, .int y]) (va_Qi (fun (r : Int32) (u : mdS) => u.1 = nI 1 ∧ mdP o f sd c₀ n u) (fun u t => va_P D cdCl (mdU h b1 b2 b3 b4 b5 b6 b7 cI cZ (n) u) t.heap) (va_A (mdW h b1 b2 b3 b4 b5 b6 b7 cI cZ er mo mf mt ma mc ms mq n) sz)) 0 0 (va_A (mdW h b1 b2 b3 b4 b5 b6 b7 cI cZ er mo mf mt ma mc ms mq n) sz) := by
  refine Met.ofW (cc := cX1_apart) (maxL := 3) (ret := (some .boolean)) (by decide) rfl ?_
  intro p e s m args below meth c s₁ B hml hv
  obtain ⟨rfl, hsz, hP, hK, hD0⟩ := hv
  have hx := B.exec
  have hb := B.bytes
  have hr := B.returns
  have hts := atoms_spec (ws := .code yX1_apart cX1_apart 3 (some .boolean) :: tW) B.pre
  have hown : s.vm.findClass RX1 = some m.cls := findClass_of_methodNamed B.named
  have hlocks := B.notSynchronized
  have hl := lv_entry ([.ref h, .int x, .int y]) (n := 3) (Nat.le_of_ble_eq_true rfl)
  rw [lg_entry_eq]
  generalize (lg_sl ([.ref h, .int x, .int y]) ++ List.replicate (3 - (lg_sl ([.ref h, .int x, .int y])).length) Slot.unset).toArray = ls at hl ⊢
  have hl : lv_has ls 3 [(0, .ref h), (1, .int x), (2, .int y)] := hl
  subst hsz
  have hD := hD0.self (sz := s.heap.size)
  generalize hAe : va_A (mdW h b1 b2 b3 b4 b5 b6 b7 cI cZ er mo mf mt ma mc ms mq n) s.heap.size = A at hD ⊢
  have hA : ∀ q : Nat, s.heap.size ≤ q → A q := fun q h => by rw [← hAe]; exact Or.inr h
  have hS : va_S A s.heap s.heap [] := va_S.rf
  have hok0 := hok
  obtain ⟨hn, hwf, hc2, hmo, hmf, hms, hmc⟩ := hok0
  refine lv_aload_n hx hb dX1_apart_0 rfl (lv_at hl 0 rfl) ?_
  refine lv_iconst (v := nI 0) hx hb dX1_apart_1 (by decide) ?_
  refine sX1_err hx hb hts hown hK hP hD hS 0 rfl rfl rfl (Nat.le_of_ble_eq_true rfl) dX1_apart_2 (fun H locs hP hD hS => ?_)
  have hP : va_P D cdCl (mdW h b1 b2 b3 b4 b5 b6 b7 cI cZ (nI 0) mo mf mt ma mc ms mq n) H := hP
  have hD : va_D A (mdW h b1 b2 b3 b4 b5 b6 b7 cI cZ (nI 0) mo mf mt ma mc ms mq n) := hD
  refine lv_aload_n hx hb dX1_apart_5 rfl (lv_at hl 0 rfl) ?_
  refine lv_aload_n hx hb dX1_apart_6 rfl (lv_at hl 0 rfl) ?_
  refine lv_iload_n hx hb dX1_apart_7 rfl (lv_at hl 1 rfl) ?_
  refine cw_callR (As := [.int (x)]) ⟨hx, hb, hml, hown, hts⟩ (c_X1_isEvent l D cI cZ h b1 b2 b3 b4 b5 b6 b7 (nI 0) mo mf mt ma mc ms mq o f sd c₀ n hok (x)) (kX1_X1_isEvent hts 1 0 0 30 ⟨by decide, by decide⟩) hK hP 0 rfl rfl rfl rfl hl.1 rfl (Nat.le_of_ble_eq_true rfl) dX1_apart_8 ⟨Nat.zero_le _, Nat.zero_le _⟩ ?_
  refine cw_topi (y := 0) (cd_bI_f hbad) ?_
  refine lv_if_eq (tgt := 22) hx hb dX1_apart_11 (by decide) (fun hc => ?_) (fun hc => ?_)
  · refine lv_iconst (v := nI 1) hx hb dX1_apart_22 (by decide) ?_
    refine lv_goto (tgt := 27) hx hb dX1_apart_23 (by decide) ?_
    refine lv_iconst (v := nI 1) hx hb dX1_apart_27 (by decide) ?_
    refine cw_callWi (As := [.int (nI 1), .int (nI 1)]) (S := Unit) (BW := (fun u => (mdW h b1 b2 b3 b4 b5 b6 b7 cI cZ (nI 1) mo mf mt ma mc ms mq n))) (wr := []) ⟨hx, hb, hml, hown, hts⟩ (c_X1_fails1 l D cI cZ h b1 b2 b3 b4 b5 b6 b7 mo mf mt ma mc ms mq o f sd c₀ n hok _ 1 (by decide) (by decide)) (kX1_X1_fails hts 0 0 0 0 ⟨by decide, by decide⟩) hK hP hD hS hA [0, 1, 2, 3, 4, 5, 6, 7] [] rfl rfl (by decide) (by decide) (by decide) (fun _ => rfl) 0 rfl rfl rfl rfl hl.1 rfl (Nat.le_of_ble_eq_true rfl) dX1_apart_28 ⟨Nat.zero_le _, Nat.zero_le _⟩ (fun r u H locs hu hP hD hS => ?_)
    have hrr : r = 1 := hu
    subst hrr
    have hP : va_P D cdCl (mdW h b1 b2 b3 b4 b5 b6 b7 cI cZ (nI 1) mo mf mt ma mc ms mq n) H := hP
    have hD : va_D A (mdW h b1 b2 b3 b4 b5 b6 b7 cI cZ (nI 1) mo mf mt ma mc ms mq n) := hD
    refine lv_if_eq (tgt := 36) hx hb dX1_apart_31 (by decide) (fun hc => ?_) (fun hc => ?_)
    · exact absurd hc (by decide)
    · refine lv_iconst (v := nI 0) hx hb dX1_apart_34 (by decide) ?_
      exact W.zret (v := nI 0) hx hb hr (by first | rfl | exact cd_bI_nar) (fun t ht hW => ⟨⟨nI 0, ((nI 1), mo, mf, mt, ma, mc, ms, mq), rfl, ⟨rfl, hok⟩, by show va_P D cdCl _ t.heap; rw [ht]; exact hP⟩, hS.F ht⟩) hS.2.2 dX1_apart_35
  · exact absurd rfl hc
set_option maxHeartbeats 4000000 in
set_option maxRecDepth 100000 in
/-- apart: the second is no event -/
theorem m2_X1_apart (l : Launch) (D : va_G) (cI cZ : ClassId) (h b1 b2 b3 b4 b5 b6 b7 : Nat) (er : Int32) (mo mf mt ma mc ms mq : Nat → Int32) (o f : Nat → Nat) (sd : Nat → Bool) (c₀ : Nat → Nat) (n : Nat) (hok : cd_md o f sd c₀ n mo mf mc ms) (sz : Nat) (k : Nat) (hk : k < n) (x : Int32) (hbad : ¬ (0 ≤ x ∧ x < nI n)) : Met l yX1_apart (.code yX1_apart cX1_apart 3 (some .boolean) :: tW) (rmL 2) (cw_Pc D cdCl (dkT cI cZ) (mdW h b1 b2 b3 b4 b5 b6 b7 cI cZ er mo mf mt ma mc ms mq n) sz [.ref h, .int (nI k), .int x]) (va_Qi (fun (r : Int32) (u : mdS) => u.1 = nI 1 ∧ mdP o f sd c₀ n u) (fun u t => va_P D cdCl (mdU h b1 b2 b3 b4 b5 b6 b7 cI cZ (n) u) t.heap) (va_A (mdW h b1 b2 b3 b4 b5 b6 b7 cI cZ er mo mf mt ma mc ms mq n) sz)) 0 0 (va_A (mdW h b1 b2 b3 b4 b5 b6 b7 cI cZ er mo mf mt ma mc ms mq n) sz) := by
  refine Met.ofW (cc := cX1_apart) (maxL := 3) (ret := (some .boolean)) (by decide) rfl ?_
  intro p e s m args below meth c s₁ B hml hv
  obtain ⟨rfl, hsz, hP, hK, hD0⟩ := hv
  have hx := B.exec
  have hb := B.bytes
  have hr := B.returns
  have hts := atoms_spec (ws := .code yX1_apart cX1_apart 3 (some .boolean) :: tW) B.pre
  have hown : s.vm.findClass RX1 = some m.cls := findClass_of_methodNamed B.named
  have hlocks := B.notSynchronized
  have hl := lv_entry ([.ref h, .int (nI k), .int x]) (n := 3) (Nat.le_of_ble_eq_true rfl)
  rw [lg_entry_eq]
  generalize (lg_sl ([.ref h, .int (nI k), .int x]) ++ List.replicate (3 - (lg_sl ([.ref h, .int (nI k), .int x])).length) Slot.unset).toArray = ls at hl ⊢
  have hl : lv_has ls 3 [(0, .ref h), (1, .int (nI k)), (2, .int x)] := hl
  subst hsz
  have hD := hD0.self (sz := s.heap.size)
  generalize hAe : va_A (mdW h b1 b2 b3 b4 b5 b6 b7 cI cZ er mo mf mt ma mc ms mq n) s.heap.size = A at hD ⊢
  have hA : ∀ q : Nat, s.heap.size ≤ q → A q := fun q h => by rw [← hAe]; exact Or.inr h
  have hS : va_S A s.heap s.heap [] := va_S.rf
  have hok0 := hok
  obtain ⟨hn, hwf, hc2, hmo, hmf, hms, hmc⟩ := hok0
  refine lv_aload_n hx hb dX1_apart_0 rfl (lv_at hl 0 rfl) ?_
  refine lv_iconst (v := nI 0) hx hb dX1_apart_1 (by decide) ?_
  refine sX1_err hx hb hts hown hK hP hD hS 0 rfl rfl rfl (Nat.le_of_ble_eq_true rfl) dX1_apart_2 (fun H locs hP hD hS => ?_)
  have hP : va_P D cdCl (mdW h b1 b2 b3 b4 b5 b6 b7 cI cZ (nI 0) mo mf mt ma mc ms mq n) H := hP
  have hD : va_D A (mdW h b1 b2 b3 b4 b5 b6 b7 cI cZ (nI 0) mo mf mt ma mc ms mq n) := hD
  refine lv_aload_n hx hb dX1_apart_5 rfl (lv_at hl 0 rfl) ?_
  refine lv_aload_n hx hb dX1_apart_6 rfl (lv_at hl 0 rfl) ?_
  refine lv_iload_n hx hb dX1_apart_7 rfl (lv_at hl 1 rfl) ?_
  refine cw_callR (As := [.int (nI k)]) ⟨hx, hb, hml, hown, hts⟩ (c_X1_isEvent l D cI cZ h b1 b2 b3 b4 b5 b6 b7 (nI 0) mo mf mt ma mc ms mq o f sd c₀ n hok (nI k)) (kX1_X1_isEvent hts 1 0 0 30 ⟨by decide, by decide⟩) hK hP 0 rfl rfl rfl rfl hl.1 rfl (Nat.le_of_ble_eq_true rfl) dX1_apart_8 ⟨Nat.zero_le _, Nat.zero_le _⟩ ?_
  refine cw_topi (y := 1) (cd_bI_t ⟨nI_pos' (by omega), nI_lt (by omega) (by omega)⟩) ?_
  refine lv_if_eq (tgt := 22) hx hb dX1_apart_11 (by decide) (fun hc => ?_) (fun hc => ?_)
  · exact absurd hc (by decide)
  · refine lv_aload_n hx hb dX1_apart_14 rfl (lv_at hl 0 rfl) ?_
    refine lv_iload_n hx hb dX1_apart_15 rfl (lv_at hl 2 rfl) ?_
    refine cw_callR (As := [.int (x)]) ⟨hx, hb, hml, hown, hts⟩ (c_X1_isEvent l D cI cZ h b1 b2 b3 b4 b5 b6 b7 (nI 0) mo mf mt ma mc ms mq o f sd c₀ n hok (x)) (kX1_X1_isEvent hts 1 0 0 30 ⟨by decide, by decide⟩) hK hP 0 rfl rfl rfl rfl hl.1 rfl (Nat.le_of_ble_eq_true rfl) dX1_apart_16 ⟨Nat.zero_le _, Nat.zero_le _⟩ ?_
    refine cw_topi (y := 0) (cd_bI_f hbad) ?_
    refine lv_if_ne (tgt := 26) hx hb dX1_apart_19 (by decide) (fun hc => ?_) (fun hc => ?_)
    · exact absurd rfl hc
    · refine lv_iconst (v := nI 1) hx hb dX1_apart_22 (by decide) ?_
      refine lv_goto (tgt := 27) hx hb dX1_apart_23 (by decide) ?_
      refine lv_iconst (v := nI 1) hx hb dX1_apart_27 (by decide) ?_
      refine cw_callWi (As := [.int (nI 1), .int (nI 1)]) (S := Unit) (BW := (fun u => (mdW h b1 b2 b3 b4 b5 b6 b7 cI cZ (nI 1) mo mf mt ma mc ms mq n))) (wr := []) ⟨hx, hb, hml, hown, hts⟩ (c_X1_fails1 l D cI cZ h b1 b2 b3 b4 b5 b6 b7 mo mf mt ma mc ms mq o f sd c₀ n hok _ 1 (by decide) (by decide)) (kX1_X1_fails hts 0 0 0 0 ⟨by decide, by decide⟩) hK hP hD hS hA [0, 1, 2, 3, 4, 5, 6, 7] [] rfl rfl (by decide) (by decide) (by decide) (fun _ => rfl) 0 rfl rfl rfl rfl hl.1 rfl (Nat.le_of_ble_eq_true rfl) dX1_apart_28 ⟨Nat.zero_le _, Nat.zero_le _⟩ (fun r u H locs hu hP hD hS => ?_)
      have hrr : r = 1 := hu
      subst hrr
      have hP : va_P D cdCl (mdW h b1 b2 b3 b4 b5 b6 b7 cI cZ (nI 1) mo mf mt ma mc ms mq n) H := hP
      have hD : va_D A (mdW h b1 b2 b3 b4 b5 b6 b7 cI cZ (nI 1) mo mf mt ma mc ms mq n) := hD
      refine lv_if_eq (tgt := 36) hx hb dX1_apart_31 (by decide) (fun hc => ?_) (fun hc => ?_)
      · exact absurd hc (by decide)
      · refine lv_iconst (v := nI 0) hx hb dX1_apart_34 (by decide) ?_
        exact W.zret (v := nI 0) hx hb hr (by first | rfl | exact cd_bI_nar) (fun t ht hW => ⟨⟨nI 0, ((nI 1), mo, mf, mt, ma, mc, ms, mq), rfl, ⟨rfl, hok⟩, by show va_P D cdCl _ t.heap; rw [ht]; exact hP⟩, hS.F ht⟩) hS.2.2 dX1_apart_35
set_option maxHeartbeats 4000000 in
set_option maxRecDepth 100000 in
/-- apart -/
theorem m0_X1_apart (l : Launch) (D : va_G) (cI cZ : ClassId) (h b1 b2 b3 b4 b5 b6 b7 : Nat) (er : Int32) (mo mf mt ma mc ms mq : Nat → Int32) (o f : Nat → Nat) (sd : Nat → Bool) (c₀ : Nat → Nat) (n : Nat) (hok : cd_md o f sd c₀ n mo mf mc ms) (sz : Nat) (k g : Nat) (hk : k < n) (hg : g < n) : Met l yX1_apart (.code yX1_apart cX1_apart 3 (some .boolean) :: tW) (rmL 2) (cw_Pc D cdCl (dkT cI cZ) (mdW h b1 b2 b3 b4 b5 b6 b7 cI cZ er mo mf mt ma mc ms mq n) sz [.ref h, .int (nI k), .int (nI g)]) (va_Qi (fun (r : Int32) (u : mdS) => r = cd_bI (k ≠ g ∧ ¬ (k ≠ g ∧ cd_mn o (o k) k < cd_ck o f (g + 1) (o k)) ∧ ¬ (g ≠ k ∧ cd_mn o (o g) g < cd_ck o f (k + 1) (o g))) ∧ u.1 = nI 0 ∧ mdP o f sd c₀ n u) (fun u t => va_P D cdCl (mdU h b1 b2 b3 b4 b5 b6 b7 cI cZ (n) u) t.heap) (va_A (mdW h b1 b2 b3 b4 b5 b6 b7 cI cZ er mo mf mt ma mc ms mq n) sz)) 0 0 (va_A (mdW h b1 b2 b3 b4 b5 b6 b7 cI cZ er mo mf mt ma mc ms mq n) sz) := by
  refine Met.ofW (cc := cX1_apart) (maxL := 3) (ret := (some .boolean)) (by decide) rfl ?_
  intro p e s m args below meth c s₁ B hml hv
  obtain ⟨rfl, hsz, hP, hK, hD0⟩ := hv
  have hx := B.exec
  have hb := B.bytes
  have hr := B.returns
  have hts := atoms_spec (ws := .code yX1_apart cX1_apart 3 (some .boolean) :: tW) B.pre
  have hown : s.vm.findClass RX1 = some m.cls := findClass_of_methodNamed B.named
  have hlocks := B.notSynchronized
  have hl := lv_entry ([.ref h, .int (nI k), .int (nI g)]) (n := 3) (Nat.le_of_ble_eq_true rfl)
  rw [lg_entry_eq]
  generalize (lg_sl ([.ref h, .int (nI k), .int (nI g)]) ++ List.replicate (3 - (lg_sl ([.ref h, .int (nI k), .int (nI g)])).length) Slot.unset).toArray = ls at hl ⊢
  have hl : lv_has ls 3 [(0, .ref h), (1, .int (nI k)), (2, .int (nI g))] := hl
  subst hsz
  have hD := hD0.self (sz := s.heap.size)
  generalize hAe : va_A (mdW h b1 b2 b3 b4 b5 b6 b7 cI cZ er mo mf mt ma mc ms mq n) s.heap.size = A at hD ⊢
  have hA : ∀ q : Nat, s.heap.size ≤ q → A q := fun q h => by rw [← hAe]; exact Or.inr h
  have hS : va_S A s.heap s.heap [] := va_S.rf
  have hok0 := hok
  obtain ⟨hn, hwf, hc2, hmo, hmf, hms, hmc⟩ := hok0
  refine lv_aload_n hx hb dX1_apart_0 rfl (lv_at hl 0 rfl) ?_
  refine lv_iconst (v := nI 0) hx hb dX1_apart_1 (by decide) ?_
  refine sX1_err hx hb hts hown hK hP hD hS 0 rfl rfl rfl (Nat.le_of_ble_eq_true rfl) dX1_apart_2 (fun H locs hP hD hS => ?_)
  have hP : va_P D cdCl (mdW h b1 b2 b3 b4 b5 b6 b7 cI cZ (nI 0) mo mf mt ma mc ms mq n) H := hP
  have hD : va_D A (mdW h b1 b2 b3 b4 b5 b6 b7 cI cZ (nI 0) mo mf mt ma mc ms mq n) := hD
  refine lv_aload_n hx hb dX1_apart_5 rfl (lv_at hl 0 rfl) ?_
  refine lv_aload_n hx hb dX1_apart_6 rfl (lv_at hl 0 rfl) ?_
  refine lv_iload_n hx hb dX1_apart_7 rfl (lv_at hl 1 rfl) ?_
  refine cw_callR (As := [.int (nI k)]) ⟨hx, hb, hml, hown, hts⟩ (c_X1_isEvent l D cI cZ h b1 b2 b3 b4 b5 b6 b7 (nI 0) mo mf mt ma mc ms mq o f sd c₀ n hok (nI k)) (kX1_X1_isEvent hts 1 0 0 30 ⟨by decide, by decide⟩) hK hP 0 rfl rfl rfl rfl hl.1 rfl (Nat.le_of_ble_eq_true rfl) dX1_apart_8 ⟨Nat.zero_le _, Nat.zero_le _⟩ ?_
  refine cw_topi (y := 1) (cd_bI_t ⟨nI_pos' (by omega), nI_lt (by omega) (by omega)⟩) ?_
  refine lv_if_eq (tgt := 22) hx hb dX1_apart_11 (by decide) (fun hc => ?_) (fun hc => ?_)
  · exact absurd hc (by decide)
  · refine lv_aload_n hx hb dX1_apart_14 rfl (lv_at hl 0 rfl) ?_
    refine lv_iload_n hx hb dX1_apart_15 rfl (lv_at hl 2 rfl) ?_
    refine cw_callR (As := [.int (nI g)]) ⟨hx, hb, hml, hown, hts⟩ (c_X1_isEvent l D cI cZ h b1 b2 b3 b4 b5 b6 b7 (nI 0) mo mf mt ma mc ms mq o f sd c₀ n hok (nI g)) (kX1_X1_isEvent hts 1 0 0 30 ⟨by decide, by decide⟩) hK hP 0 rfl rfl rfl rfl hl.1 rfl (Nat.le_of_ble_eq_true rfl) dX1_apart_16 ⟨Nat.zero_le _, Nat.zero_le _⟩ ?_
    refine cw_topi (y := 1) (cd_bI_t ⟨nI_pos' (by omega), nI_lt (by omega) (by omega)⟩) ?_
    refine lv_if_ne (tgt := 26) hx hb dX1_apart_19 (by decide) (fun hc => ?_) (fun hc => ?_)
    · refine lv_iconst (v := nI 0) hx hb dX1_apart_26 (by decide) ?_
      refine lv_iconst (v := nI 1) hx hb dX1_apart_27 (by decide) ?_
      refine cw_callR (As := [.int (nI 0), .int (nI 1)]) ⟨hx, hb, hml, hown, hts⟩ (c_X1_fails0 l D cI cZ h b1 b2 b3 b4 b5 b6 b7 mo mf mt ma mc ms mq o f sd c₀ n hok (nI 1)) (kX1_X1_fails hts 0 0 0 0 ⟨by decide, by decide⟩) hK hP 0 rfl rfl rfl rfl hl.1 rfl (Nat.le_of_ble_eq_true rfl) dX1_apart_28 ⟨Nat.zero_le _, Nat.zero_le _⟩ ?_
      refine lv_if_eq (tgt := 36) hx hb dX1_apart_31 (by decide) (fun hc => ?_) (fun hc => ?_)
      · refine lv_iload_n hx hb dX1_apart_36 rfl (lv_at hl 1 rfl) ?_
        refine lv_iload_n hx hb dX1_apart_37 rfl (lv_at hl 2 rfl) ?_
        refine cw_ne (tgt := 43) (x := k) (y := g) hx hb dX1_apart_38 (by decide) (by omega) (by omega) (fun hc7 => ?_) (fun hc7 => ?_)
        · refine lv_aload_n hx hb dX1_apart_43 rfl (lv_at hl 0 rfl) ?_
          refine lv_iload_n hx hb dX1_apart_44 rfl (lv_at hl 2 rfl) ?_
          refine cw_callWv (As := [.int (nI g)]) (S := ((Nat → Int32) × (Nat → Int32))) (BW := (fun u => (mdW h b1 b2 b3 b4 b5 b6 b7 cI cZ (nI 0) mo mf u.1 ma mc ms u.2 n))) (wr := []) ⟨hx, hb, hml, hown, hts⟩ (c_X1_back l D cI cZ h b1 b2 b3 b4 b5 b6 b7 (nI 0) mo mf mt ma mc ms mq o f sd c₀ n hok _ g hg) (kX1_X1_back hts 1 0 0 30 ⟨by decide, by decide⟩) hK hP hD hS hA [0, 1, 2, 3, 4, 5, 6, 7] [] rfl rfl (by decide) (by decide) (by decide) (fun _ => rfl) 0 rfl rfl rfl rfl hl.1 rfl (Nat.le_of_ble_eq_true rfl) dX1_apart_45 ⟨Nat.zero_le _, Nat.zero_le _⟩ (fun u H locs hu hP hD hS => ?_)
          obtain ⟨mt, mq⟩ := u
          have hq : ∀ i, i < n → mq i = cd_bI (i ≠ g ∧ cd_mn o (o i) i < cd_ck o f (g + 1) (o i)) := hu
          have hP : va_P D cdCl (mdW h b1 b2 b3 b4 b5 b6 b7 cI cZ (nI 0) mo mf mt ma mc ms mq n) H := hP
          have hD : va_D A (mdW h b1 b2 b3 b4 b5 b6 b7 cI cZ (nI 0) mo mf mt ma mc ms mq n) := hD
          refine lv_aload_n hx hb dX1_apart_48 rfl (lv_at hl 0 rfl) ?_
          refine gX1_seen hx hb hts hown hK hP 0 rfl rfl dX1_apart_49 ?_
          refine lv_iload_n hx hb dX1_apart_52 rfl (lv_at hl 1 rfl) ?_
          refine cw_zald hx hb hK hP 7 1 rfl rfl (k := k) (v := cd_bI (k ≠ g ∧ cd_mn o (o k) k < cd_ck o f (g + 1) (o k))) (by omega) (by decide) (hq k hk) dX1_apart_53 ?_
          refine lv_if_eq (tgt := 59) hx hb dX1_apart_54 (by decide) (fun h1 => ?_) (fun h1 => ?_)
          · refine lv_aload_n hx hb dX1_apart_59 rfl (lv_at hl 0 rfl) ?_
            refine lv_iload_n hx hb dX1_apart_60 rfl (lv_at hl 1 rfl) ?_
            refine cw_callWv (As := [.int (nI k)]) (S := ((Nat → Int32) × (Nat → Int32))) (BW := (fun u => (mdW h b1 b2 b3 b4 b5 b6 b7 cI cZ (nI 0) mo mf u.1 ma mc ms u.2 n))) (wr := []) ⟨hx, hb, hml, hown, hts⟩ (c_X1_back l D cI cZ h b1 b2 b3 b4 b5 b6 b7 (nI 0) mo mf mt ma mc ms mq o f sd c₀ n hok _ k hk) (kX1_X1_back hts 1 0 0 30 ⟨by decide, by decide⟩) hK hP hD hS hA [0, 1, 2, 3, 4, 5, 6, 7] [] rfl rfl (by decide) (by decide) (by decide) (fun _ => rfl) 0 rfl rfl rfl rfl hl.1 rfl (Nat.le_of_ble_eq_true rfl) dX1_apart_61 ⟨Nat.zero_le _, Nat.zero_le _⟩ (fun u H locs hu hP hD hS => ?_)
            obtain ⟨mt, mq⟩ := u
            have hq : ∀ i, i < n → mq i = cd_bI (i ≠ k ∧ cd_mn o (o i) i < cd_ck o f (k + 1) (o i)) := hu
            have hP : va_P D cdCl (mdW h b1 b2 b3 b4 b5 b6 b7 cI cZ (nI 0) mo mf mt ma mc ms mq n) H := hP
            have hD : va_D A (mdW h b1 b2 b3 b4 b5 b6 b7 cI cZ (nI 0) mo mf mt ma mc ms mq n) := hD
            refine lv_aload_n hx hb dX1_apart_64 rfl (lv_at hl 0 rfl) ?_
            refine gX1_seen hx hb hts hown hK hP 0 rfl rfl dX1_apart_65 ?_
            refine lv_iload_n hx hb dX1_apart_68 rfl (lv_at hl 2 rfl) ?_
            refine cw_zald hx hb hK hP 7 1 rfl rfl (k := g) (v := cd_bI (g ≠ k ∧ cd_mn o (o g) g < cd_ck o f (k + 1) (o g))) (by omega) (by decide) (hq g hg) dX1_apart_69 ?_
            refine lv_if_ne (tgt := 77) hx hb dX1_apart_70 (by decide) (fun h2 => ?_) (fun h2 => ?_)
            · refine lv_iconst (v := nI 0) hx hb dX1_apart_77 (by decide) ?_
              refine cw_topi (y := cd_bI (k ≠ g ∧ ¬ (k ≠ g ∧ cd_mn o (o k) k < cd_ck o f (g + 1) (o k)) ∧ ¬ (g ≠ k ∧ cd_mn o (o g) g < cd_ck o f (k + 1) (o g)))) (cd_bI_f (fun z => h2 (cd_bI_z.mpr z.2.2))).symm ?_
              exact W.zret (v := cd_bI (k ≠ g ∧ ¬ (k ≠ g ∧ cd_mn o (o k) k < cd_ck o f (g + 1) (o k)) ∧ ¬ (g ≠ k ∧ cd_mn o (o g) g < cd_ck o f (k + 1) (o g)))) hx hb hr (by first | rfl | exact cd_bI_nar) (fun t ht hW => ⟨⟨cd_bI (k ≠ g ∧ ¬ (k ≠ g ∧ cd_mn o (o k) k < cd_ck o f (g + 1) (o k)) ∧ ¬ (g ≠ k ∧ cd_mn o (o g) g < cd_ck o f (k + 1) (o g))), (nI 0, mo, mf, mt, ma, mc, ms, mq), rfl, ⟨rfl, rfl, hok⟩, by show va_P D cdCl _ t.heap; rw [ht]; exact hP⟩, hS.F ht⟩) hS.2.2 dX1_apart_78
            · refine lv_iconst (v := nI 1) hx hb dX1_apart_73 (by decide) ?_
              refine lv_goto (tgt := 78) hx hb dX1_apart_74 (by decide) ?_
              refine cw_topi (y := cd_bI (k ≠ g ∧ ¬ (k ≠ g ∧ cd_mn o (o k) k < cd_ck o f (g + 1) (o k)) ∧ ¬ (g ≠ k ∧ cd_mn o (o g) g < cd_ck o f (k + 1) (o g)))) (cd_bI_t ⟨hc7, cd_bI_z.mp h1, cd_bI_z.mp (by simpa using h2)⟩).symm ?_
              exact W.zret (v := cd_bI (k ≠ g ∧ ¬ (k ≠ g ∧ cd_mn o (o k) k < cd_ck o f (g + 1) (o k)) ∧ ¬ (g ≠ k ∧ cd_mn o (o g) g < cd_ck o f (k + 1) (o g)))) hx hb hr (by first | rfl | exact cd_bI_nar) (fun t ht hW => ⟨⟨cd_bI (k ≠ g ∧ ¬ (k ≠ g ∧ cd_mn o (o k) k < cd_ck o f (g + 1) (o k)) ∧ ¬ (g ≠ k ∧ cd_mn o (o g) g < cd_ck o f (k + 1) (o g))), (nI 0, mo, mf, mt, ma, mc, ms, mq), rfl, ⟨rfl, rfl, hok⟩, by show va_P D cdCl _ t.heap; rw [ht]; exact hP⟩, hS.F ht⟩) hS.2.2 dX1_apart_78
          · refine lv_iconst (v := nI 0) hx hb dX1_apart_57 (by decide) ?_
            refine cw_topi (y := cd_bI (k ≠ g ∧ ¬ (k ≠ g ∧ cd_mn o (o k) k < cd_ck o f (g + 1) (o k)) ∧ ¬ (g ≠ k ∧ cd_mn o (o g) g < cd_ck o f (k + 1) (o g)))) (cd_bI_f (fun z => h1 (cd_bI_z.mpr z.2.1))).symm ?_
            exact W.zret (v := cd_bI (k ≠ g ∧ ¬ (k ≠ g ∧ cd_mn o (o k) k < cd_ck o f (g + 1) (o k)) ∧ ¬ (g ≠ k ∧ cd_mn o (o g) g < cd_ck o f (k + 1) (o g)))) hx hb hr (by first | rfl | exact cd_bI_nar) (fun t ht hW => ⟨⟨cd_bI (k ≠ g ∧ ¬ (k ≠ g ∧ cd_mn o (o k) k < cd_ck o f (g + 1) (o k)) ∧ ¬ (g ≠ k ∧ cd_mn o (o g) g < cd_ck o f (k + 1) (o g))), (nI 0, mo, mf, mt, ma, mc, ms, mq), rfl, ⟨rfl, rfl, hok⟩, by show va_P D cdCl _ t.heap; rw [ht]; exact hP⟩, hS.F ht⟩) hS.2.2 dX1_apart_58
        · refine lv_iconst (v := nI 0) hx hb dX1_apart_41 (by decide) ?_
          refine cw_topi (y := cd_bI (k ≠ g ∧ ¬ (k ≠ g ∧ cd_mn o (o k) k < cd_ck o f (g + 1) (o k)) ∧ ¬ (g ≠ k ∧ cd_mn o (o g) g < cd_ck o f (k + 1) (o g)))) (cd_bI_f (fun z => z.1 hc7)).symm ?_
          exact W.zret (v := cd_bI (k ≠ g ∧ ¬ (k ≠ g ∧ cd_mn o (o k) k < cd_ck o f (g + 1) (o k)) ∧ ¬ (g ≠ k ∧ cd_mn o (o g) g < cd_ck o f (k + 1) (o g)))) hx hb hr (by first | rfl | exact cd_bI_nar) (fun t ht hW => ⟨⟨cd_bI (k ≠ g ∧ ¬ (k ≠ g ∧ cd_mn o (o k) k < cd_ck o f (g + 1) (o k)) ∧ ¬ (g ≠ k ∧ cd_mn o (o g) g < cd_ck o f (k + 1) (o g))), (nI 0, mo, mf, mt, ma, mc, ms, mq), rfl, ⟨rfl, rfl, hok⟩, by show va_P D cdCl _ t.heap; rw [ht]; exact hP⟩, hS.F ht⟩) hS.2.2 dX1_apart_42
      · exact absurd rfl hc
    · exact absurd hc (by decide)
set_option maxHeartbeats 4000000 in
set_option maxRecDepth 100000 in
/-- rank: no event -/
theorem m1_X1_rank (l : Launch) (D : va_G) (cI cZ : ClassId) (h b1 b2 b3 b4 b5 b6 b7 : Nat) (er : Int32) (mo mf mt ma mc ms mq : Nat → Int32) (o f : Nat → Nat) (sd : Nat → Bool) (c₀ : Nat → Nat) (n : Nat) (hok : cd_md o f sd c₀ n mo mf mc ms) (sz : Nat) (x : Int32) (hbad : ¬ (0 ≤ x ∧ x < nI n)) : Met l yX1_rank (.code yX1_rank cX1_rank 2 (some .int) :: tW) (rmL 2) (cw_Pc D cdCl (dkT cI cZ) (mdW h b1 b2 b3 b4 b5 b6 b7 cI cZ er mo mf mt ma mc ms mq n) sz [.ref h, .int x]) (va_Qi (fun (r : Int32) (u : mdS) => u.1 = nI 1 ∧ mdP o f sd c₀ n u) (fun u t => va_P D cdCl (mdU h b1 b2 b3 b4 b5 b6 b7 cI cZ (n) u) t.heap) (va_A (mdW h b1 b2 b3 b4 b5 b6 b7 cI cZ er mo mf mt ma mc ms mq n) sz)) 0 0 (va_A (mdW h b1 b2 b3 b4 b5 b6 b7 cI cZ er mo mf mt ma mc ms mq n) sz) := by
  refine Met.ofW (cc := cX1_rank) (maxL := 2) (ret := (some .int)) (by decide) rfl ?_
  intro p e s m args below meth c s₁ B hml hv
  obtain ⟨rfl, hsz, hP, hK, hD0⟩ := hv
  have hx := B.exec
  have hb := B.bytes
  have hr := B.returns
  have hts := atoms_spec (ws := .code yX1_rank cX1_rank 2 (some .int) :: tW) B.pre
  have hown : s.vm.findClass RX1 = some m.cls := findClass_of_methodNamed B.named
  have hlocks := B.notSynchronized
  have hl := lv_entry ([.ref h, .int x]) (n := 2) (Nat.le_of_ble_eq_true rfl)
  rw [lg_entry_eq]
  generalize (lg_sl ([.ref h, .int x]) ++ List.replicate (2 - (lg_sl ([.ref h, .int x])).length) Slot.unset).toArray = ls at hl ⊢
  have hl : lv_has ls 2 [(0, .ref h), (1, .int x)] := hl
  subst hsz
  have hD := hD0.self (sz := s.heap.size)
  generalize hAe : va_A (mdW h b1 b2 b3 b4 b5 b6 b7 cI cZ er mo mf mt ma mc ms mq n) s.heap.size = A at hD ⊢
  have hA : ∀ q : Nat, s.heap.size ≤ q → A q := fun q h => by rw [← hAe]; exact Or.inr h
  have hS : va_S A s.heap s.heap [] := va_S.rf
  have hok0 := hok
  obtain ⟨hn, hwf, hc2, hmo, hmf, hms, hmc⟩ := hok0
  refine lv_aload_n hx hb dX1_rank_0 rfl (lv_at hl 0 rfl) ?_
  refine lv_iconst (v := nI 0) hx hb dX1_rank_1 (by decide) ?_
  refine sX1_err hx hb hts hown hK hP hD hS 0 rfl rfl rfl (Nat.le_of_ble_eq_true rfl) dX1_rank_2 (fun H locs hP hD hS => ?_)
  have hP : va_P D cdCl (mdW h b1 b2 b3 b4 b5 b6 b7 cI cZ (nI 0) mo mf mt ma mc ms mq n) H := hP
  have hD : va_D A (mdW h b1 b2 b3 b4 b5 b6 b7 cI cZ (nI 0) mo mf mt ma mc ms mq n) := hD
  refine lv_aload_n hx hb dX1_rank_5 rfl (lv_at hl 0 rfl) ?_
  refine lv_aload_n hx hb dX1_rank_6 rfl (lv_at hl 0 rfl) ?_
  refine lv_iload_n hx hb dX1_rank_7 rfl (lv_at hl 1 rfl) ?_
  refine cw_callR (As := [.int (x)]) ⟨hx, hb, hml, hown, hts⟩ (c_X1_isEvent l D cI cZ h b1 b2 b3 b4 b5 b6 b7 (nI 0) mo mf mt ma mc ms mq o f sd c₀ n hok (x)) (kX1_X1_isEvent hts 1 0 0 30 ⟨by decide, by decide⟩) hK hP 0 rfl rfl rfl rfl hl.1 rfl (Nat.le_of_ble_eq_true rfl) dX1_rank_8 ⟨Nat.zero_le _, Nat.zero_le _⟩ ?_
  refine cw_topi (y := 0) (cd_bI_f hbad) ?_
  refine lv_if_ne (tgt := 18) hx hb dX1_rank_11 (by decide) (fun hc => ?_) (fun hc => ?_)
  · exact absurd rfl hc
  · refine lv_iconst (v := nI 1) hx hb dX1_rank_14 (by decide) ?_
    refine lv_goto (tgt := 19) hx hb dX1_rank_15 (by decide) ?_
    refine lv_iconst (v := nI 1) hx hb dX1_rank_19 (by decide) ?_
    refine cw_callWi (As := [.int (nI 1), .int (nI 1)]) (S := Unit) (BW := (fun u => (mdW h b1 b2 b3 b4 b5 b6 b7 cI cZ (nI 1) mo mf mt ma mc ms mq n))) (wr := []) ⟨hx, hb, hml, hown, hts⟩ (c_X1_fails1 l D cI cZ h b1 b2 b3 b4 b5 b6 b7 mo mf mt ma mc ms mq o f sd c₀ n hok _ 1 (by decide) (by decide)) (kX1_X1_fails hts 0 0 0 0 ⟨by decide, by decide⟩) hK hP hD hS hA [0, 1, 2, 3, 4, 5, 6, 7] [] rfl rfl (by decide) (by decide) (by decide) (fun _ => rfl) 0 rfl rfl rfl rfl hl.1 rfl (Nat.le_of_ble_eq_true rfl) dX1_rank_20 ⟨Nat.zero_le _, Nat.zero_le _⟩ (fun r u H locs hu hP hD hS => ?_)
    have hrr : r = 1 := hu
    subst hrr
    have hP : va_P D cdCl (mdW h b1 b2 b3 b4 b5 b6 b7 cI cZ (nI 1) mo mf mt ma mc ms mq n) H := hP
    have hD : va_D A (mdW h b1 b2 b3 b4 b5 b6 b7 cI cZ (nI 1) mo mf mt ma mc ms mq n) := hD
    refine lv_if_eq (tgt := 30) hx hb dX1_rank_23 (by decide) (fun hc => ?_) (fun hc => ?_)
    · exact absurd hc (by decide)
    · refine lv_iconst (v := nI 0) hx hb dX1_rank_26 (by decide) ?_
      refine lv_goto (tgt := 35) hx hb dX1_rank_27 (by decide) ?_
      exact W.iret (v := nI 0) hx hb hr (fun t ht hW => ⟨⟨nI 0, ((nI 1), mo, mf, mt, ma, mc, ms, mq), rfl, ⟨rfl, hok⟩, by show va_P D cdCl _ t.heap; rw [ht]; exact hP⟩, hS.F ht⟩) hS.2.2 dX1_rank_35
set_option maxHeartbeats 4000000 in
set_option maxRecDepth 100000 in
/-- rank -/
theorem m0_X1_rank (l : Launch) (D : va_G) (cI cZ : ClassId) (h b1 b2 b3 b4 b5 b6 b7 : Nat) (er : Int32) (mo mf mt ma mc ms mq : Nat → Int32) (o f : Nat → Nat) (sd : Nat → Bool) (c₀ : Nat → Nat) (n : Nat) (hok : cd_md o f sd c₀ n mo mf mc ms) (sz : Nat) (k : Nat) (hk : k < n) : Met l yX1_rank (.code yX1_rank cX1_rank 2 (some .int) :: tW) (rmL 2) (cw_Pc D cdCl (dkT cI cZ) (mdW h b1 b2 b3 b4 b5 b6 b7 cI cZ er mo mf mt ma mc ms mq n) sz [.ref h, .int (nI k)]) (va_Qi (fun (r : Int32) (u : mdS) => r = nI (cd_rk o f (k + 1)) ∧ u.1 = nI 0 ∧ mdP o f sd c₀ n u) (fun u t => va_P D cdCl (mdU h b1 b2 b3 b4 b5 b6 b7 cI cZ (n) u) t.heap) (va_A (mdW h b1 b2 b3 b4 b5 b6 b7 cI cZ er mo mf mt ma mc ms mq n) sz)) 0 0 (va_A (mdW h b1 b2 b3 b4 b5 b6 b7 cI cZ er mo mf mt ma mc ms mq n) sz) := by
  refine Met.ofW (cc := cX1_rank) (maxL := 2) (ret := (some .int)) (by decide) rfl ?_
  intro p e s m args below meth c s₁ B hml hv
  obtain ⟨rfl, hsz, hP, hK, hD0⟩ := hv
  have hx := B.exec
  have hb := B.bytes
  have hr := B.returns
  have hts := atoms_spec (ws := .code yX1_rank cX1_rank 2 (some .int) :: tW) B.pre
  have hown : s.vm.findClass RX1 = some m.cls := findClass_of_methodNamed B.named
  have hlocks := B.notSynchronized
  have hl := lv_entry ([.ref h, .int (nI k)]) (n := 2) (Nat.le_of_ble_eq_true rfl)
  rw [lg_entry_eq]
  generalize (lg_sl ([.ref h, .int (nI k)]) ++ List.replicate (2 - (lg_sl ([.ref h, .int (nI k)])).length) Slot.unset).toArray = ls at hl ⊢
  have hl : lv_has ls 2 [(0, .ref h), (1, .int (nI k))] := hl
  subst hsz
  have hD := hD0.self (sz := s.heap.size)
  generalize hAe : va_A (mdW h b1 b2 b3 b4 b5 b6 b7 cI cZ er mo mf mt ma mc ms mq n) s.heap.size = A at hD ⊢
  have hA : ∀ q : Nat, s.heap.size ≤ q → A q := fun q h => by rw [← hAe]; exact Or.inr h
  have hS : va_S A s.heap s.heap [] := va_S.rf
  have hok0 := hok
  obtain ⟨hn, hwf, hc2, hmo, hmf, hms, hmc⟩ := hok0
  refine lv_aload_n hx hb dX1_rank_0 rfl (lv_at hl 0 rfl) ?_
  refine lv_iconst (v := nI 0) hx hb dX1_rank_1 (by decide) ?_
  refine sX1_err hx hb hts hown hK hP hD hS 0 rfl rfl rfl (Nat.le_of_ble_eq_true rfl) dX1_rank_2 (fun H locs hP hD hS => ?_)
  have hP : va_P D cdCl (mdW h b1 b2 b3 b4 b5 b6 b7 cI cZ (nI 0) mo mf mt ma mc ms mq n) H := hP
  have hD : va_D A (mdW h b1 b2 b3 b4 b5 b6 b7 cI cZ (nI 0) mo mf mt ma mc ms mq n) := hD
  refine lv_aload_n hx hb dX1_rank_5 rfl (lv_at hl 0 rfl) ?_
  refine lv_aload_n hx hb dX1_rank_6 rfl (lv_at hl 0 rfl) ?_
  refine lv_iload_n hx hb dX1_rank_7 rfl (lv_at hl 1 rfl) ?_
  refine cw_callR (As := [.int (nI k)]) ⟨hx, hb, hml, hown, hts⟩ (c_X1_isEvent l D cI cZ h b1 b2 b3 b4 b5 b6 b7 (nI 0) mo mf mt ma mc ms mq o f sd c₀ n hok (nI k)) (kX1_X1_isEvent hts 1 0 0 30 ⟨by decide, by decide⟩) hK hP 0 rfl rfl rfl rfl hl.1 rfl (Nat.le_of_ble_eq_true rfl) dX1_rank_8 ⟨Nat.zero_le _, Nat.zero_le _⟩ ?_
  refine cw_topi (y := 1) (cd_bI_t ⟨nI_pos' (by omega), nI_lt (by omega) (by omega)⟩) ?_
  refine lv_if_ne (tgt := 18) hx hb dX1_rank_11 (by decide) (fun hc => ?_) (fun hc => ?_)
  · refine lv_iconst (v := nI 0) hx hb dX1_rank_18 (by decide) ?_
    refine lv_iconst (v := nI 1) hx hb dX1_rank_19 (by decide) ?_
    refine cw_callR (As := [.int (nI 0), .int (nI 1)]) ⟨hx, hb, hml, hown, hts⟩ (c_X1_fails0 l D cI cZ h b1 b2 b3 b4 b5 b6 b7 mo mf mt ma mc ms mq o f sd c₀ n hok (nI 1)) (kX1_X1_fails hts 0 0 0 0 ⟨by decide, by decide⟩) hK hP 0 rfl rfl rfl rfl hl.1 rfl (Nat.le_of_ble_eq_true rfl) dX1_rank_20 ⟨Nat.zero_le _, Nat.zero_le _⟩ ?_
    refine lv_if_eq (tgt := 30) hx hb dX1_rank_23 (by decide) (fun hc => ?_) (fun hc => ?_)
    · refine lv_aload_n hx hb dX1_rank_30 rfl (lv_at hl 0 rfl) ?_
      refine lv_iload_n hx hb dX1_rank_31 rfl (lv_at hl 1 rfl) ?_
      refine cw_callWi (As := [.int (nI k)]) (S := (Nat → Int32)) (BW := (fun u => (mdW h b1 b2 b3 b4 b5 b6 b7 cI cZ (nI 0) mo mf mt u mc ms mq n))) (wr := []) ⟨hx, hb, hml, hown, hts⟩ (c_X1_longest l D cI cZ h b1 b2 b3 b4 b5 b6 b7 (nI 0) mo mf mt ma mc ms mq o f sd c₀ n hok _ k hk) (kX1_X1_longest hts 1 0 0 30 ⟨by decide, by decide⟩) hK hP hD hS hA [0, 1, 2, 3, 4, 5, 6, 7] [] rfl rfl (by decide) (by decide) (by decide) (fun _ => rfl) 0 rfl rfl rfl rfl hl.1 rfl (Nat.le_of_ble_eq_true rfl) dX1_rank_32 ⟨Nat.zero_le _, Nat.zero_le _⟩ (fun r u H locs hu hP hD hS => ?_)
      obtain ⟨ma, rfl⟩ : ∃ z, z = u := ⟨_, rfl⟩
      have hrr : r = nI (cd_rk o f (k + 1)) := hu
      subst hrr
      have hP : va_P D cdCl (mdW h b1 b2 b3 b4 b5 b6 b7 cI cZ (nI 0) mo mf mt ma mc ms mq n) H := hP
      have hD : va_D A (mdW h b1 b2 b3 b4 b5 b6 b7 cI cZ (nI 0) mo mf mt ma mc ms mq n) := hD
      exact W.iret (v := nI (cd_rk o f (k + 1))) hx hb hr (fun t ht hW => ⟨⟨nI (cd_rk o f (k + 1)), (nI 0, mo, mf, mt, ma, mc, ms, mq), rfl, ⟨rfl, rfl, hok⟩, by show va_P D cdCl _ t.heap; rw [ht]; exact hP⟩, hS.F ht⟩) hS.2.2 dX1_rank_35
    · exact absurd rfl hc
  · exact absurd hc (by decide)
set_option maxHeartbeats 4000000 in
set_option maxRecDepth 100000 in
/-- clock: no process -/
theorem m1_X1_clock (l : Launch) (D : va_G) (cI cZ : ClassId) (h b1 b2 b3 b4 b5 b6 b7 : Nat) (er : Int32) (mo mf mt ma mc ms mq : Nat → Int32) (o f : Nat → Nat) (sd : Nat → Bool) (c₀ : Nat → Nat) (n : Nat) (hok : cd_md o f sd c₀ n mo mf mc ms) (sz : Nat) (y : Int32) (x : Int32) (hbad : ¬ (0 ≤ x ∧ x < nI 6)) : Met l yX1_clock (.code yX1_clock cX1_clock 5 (some .int) :: tW) (rmL 2) (cw_Pc D cdCl (dkT cI cZ) (mdW h b1 b2 b3 b4 b5 b6 b7 cI cZ er mo mf mt ma mc ms mq n) sz [.ref h, .int y, .int x]) (va_Qi (fun (r : Int32) (u : mdS) => u.1 = nI 1 ∧ mdP o f sd c₀ n u) (fun u t => va_P D cdCl (mdU h b1 b2 b3 b4 b5 b6 b7 cI cZ (n) u) t.heap) (va_A (mdW h b1 b2 b3 b4 b5 b6 b7 cI cZ er mo mf mt ma mc ms mq n) sz)) 0 0 (va_A (mdW h b1 b2 b3 b4 b5 b6 b7 cI cZ er mo mf mt ma mc ms mq n) sz) := by
  refine Met.ofW (cc := cX1_clock) (maxL := 5) (ret := (some .int)) (by decide) rfl ?_
  intro p e s m args below meth c s₁ B hml hv
  obtain ⟨rfl, hsz, hP, hK, hD0⟩ := hv
  have hx := B.exec
  have hb := B.bytes
  have hr := B.returns
  have hts := atoms_spec (ws := .code yX1_clock cX1_clock 5 (some .int) :: tW) B.pre
  have hown : s.vm.findClass RX1 = some m.cls := findClass_of_methodNamed B.named
  have hlocks := B.notSynchronized
  have hl := lv_entry ([.ref h, .int y, .int x]) (n := 5) (Nat.le_of_ble_eq_true rfl)
  rw [lg_entry_eq]
  generalize (lg_sl ([.ref h, .int y, .int x]) ++ List.replicate (5 - (lg_sl ([.ref h, .int y, .int x])).length) Slot.unset).toArray = ls at hl ⊢
  have hl : lv_has ls 5 [(0, .ref h), (1, .int y), (2, .int x)] := hl
  subst hsz
  have hD := hD0.self (sz := s.heap.size)
  generalize hAe : va_A (mdW h b1 b2 b3 b4 b5 b6 b7 cI cZ er mo mf mt ma mc ms mq n) s.heap.size = A at hD ⊢
  have hA : ∀ q : Nat, s.heap.size ≤ q → A q := fun q h => by rw [← hAe]; exact Or.inr h
  have hS : va_S A s.heap s.heap [] := va_S.rf
  have hok0 := hok
  obtain ⟨hn, hwf, hc2, hmo, hmf, hms, hmc⟩ := hok0
  refine lv_aload_n hx hb dX1_clock_0 rfl (lv_at hl 0 rfl) ?_
  refine lv_iconst (v := nI 0) hx hb dX1_clock_1 (by decide) ?_
  refine sX1_err hx hb hts hown hK hP hD hS 0 rfl rfl rfl (Nat.le_of_ble_eq_true rfl) dX1_clock_2 (fun H locs hP hD hS => ?_)
  have hP : va_P D cdCl (mdW h b1 b2 b3 b4 b5 b6 b7 cI cZ (nI 0) mo mf mt ma mc ms mq n) H := hP
  have hD : va_D A (mdW h b1 b2 b3 b4 b5 b6 b7 cI cZ (nI 0) mo mf mt ma mc ms mq n) := hD
  refine lv_aload_n hx hb dX1_clock_5 rfl (lv_at hl 0 rfl) ?_
  refine lv_iload_n hx hb dX1_clock_6 rfl (lv_at hl 2 rfl) ?_
  refine cw_callSr (As := [.int (x)]) ⟨hx, hb, hml, hown, hts⟩ (c_X1_isProcess l (x)) (kX1_X1_isProcess hts 1 0 0 30 ⟨by decide, by decide⟩) rfl hl.1 rfl (Nat.le_of_ble_eq_true rfl) dX1_clock_7 ⟨Nat.zero_le _, Nat.zero_le _⟩ ?_
  refine cw_topi (y := 0) (cd_bI_f hbad) ?_
  refine lv_if_ne (tgt := 17) hx hb dX1_clock_10 (by decide) (fun hc => ?_) (fun hc => ?_)
  · exact absurd rfl hc
  · refine lv_iconst (v := nI 1) hx hb dX1_clock_13 (by decide) ?_
    refine lv_goto (tgt := 18) hx hb dX1_clock_14 (by decide) ?_
    refine lv_iconst (v := nI 1) hx hb dX1_clock_18 (by decide) ?_
    refine cw_callWi (As := [.int (nI 1), .int (nI 1)]) (S := Unit) (BW := (fun u => (mdW h b1 b2 b3 b4 b5 b6 b7 cI cZ (nI 1) mo mf mt ma mc ms mq n))) (wr := []) ⟨hx, hb, hml, hown, hts⟩ (c_X1_fails1 l D cI cZ h b1 b2 b3 b4 b5 b6 b7 mo mf mt ma mc ms mq o f sd c₀ n hok _ 1 (by decide) (by decide)) (kX1_X1_fails hts 0 0 0 0 ⟨by decide, by decide⟩) hK hP hD hS hA [0, 1, 2, 3, 4, 5, 6, 7] [] rfl rfl (by decide) (by decide) (by decide) (fun _ => rfl) 0 rfl rfl rfl rfl hl.1 rfl (Nat.le_of_ble_eq_true rfl) dX1_clock_19 ⟨Nat.zero_le _, Nat.zero_le _⟩ (fun r u H locs hu hP hD hS => ?_)
    have hrr : r = 1 := hu
    subst hrr
    have hP : va_P D cdCl (mdW h b1 b2 b3 b4 b5 b6 b7 cI cZ (nI 1) mo mf mt ma mc ms mq n) H := hP
    have hD : va_D A (mdW h b1 b2 b3 b4 b5 b6 b7 cI cZ (nI 1) mo mf mt ma mc ms mq n) := hD
    refine lv_if_ne (tgt := 46) hx hb dX1_clock_22 (by decide) (fun hc => ?_) (fun hc => ?_)
    · refine lv_iconst (v := nI 0) hx hb dX1_clock_46 (by decide) ?_
      exact W.iret (v := nI 0) hx hb hr (fun t ht hW => ⟨⟨nI 0, ((nI 1), mo, mf, mt, ma, mc, ms, mq), rfl, ⟨rfl, hok⟩, by show va_P D cdCl _ t.heap; rw [ht]; exact hP⟩, hS.F ht⟩) hS.2.2 dX1_clock_47
    · exact absurd hc (by decide)
set_option maxHeartbeats 4000000 in
set_option maxRecDepth 100000 in
/-- clock: no event -/
theorem m2_X1_clock (l : Launch) (D : va_G) (cI cZ : ClassId) (h b1 b2 b3 b4 b5 b6 b7 : Nat) (er : Int32) (mo mf mt ma mc ms mq : Nat → Int32) (o f : Nat → Nat) (sd : Nat → Bool) (c₀ : Nat → Nat) (n : Nat) (hok : cd_md o f sd c₀ n mo mf mc ms) (sz : Nat) (p₁ : Nat) (hp : p₁ < 6) (x : Int32) (hbad : ¬ (0 ≤ x ∧ x < nI n)) : Met l yX1_clock (.code yX1_clock cX1_clock 5 (some .int) :: tW) (rmL 2) (cw_Pc D cdCl (dkT cI cZ) (mdW h b1 b2 b3 b4 b5 b6 b7 cI cZ er mo mf mt ma mc ms mq n) sz [.ref h, .int x, .int (nI p₁)]) (va_Qi (fun (r : Int32) (u : mdS) => u.1 = nI 2 ∧ mdP o f sd c₀ n u) (fun u t => va_P D cdCl (mdU h b1 b2 b3 b4 b5 b6 b7 cI cZ (n) u) t.heap) (va_A (mdW h b1 b2 b3 b4 b5 b6 b7 cI cZ er mo mf mt ma mc ms mq n) sz)) 0 0 (va_A (mdW h b1 b2 b3 b4 b5 b6 b7 cI cZ er mo mf mt ma mc ms mq n) sz) := by
  refine Met.ofW (cc := cX1_clock) (maxL := 5) (ret := (some .int)) (by decide) rfl ?_
  intro p e s m args below meth c s₁ B hml hv
  obtain ⟨rfl, hsz, hP, hK, hD0⟩ := hv
  have hx := B.exec
  have hb := B.bytes
  have hr := B.returns
  have hts := atoms_spec (ws := .code yX1_clock cX1_clock 5 (some .int) :: tW) B.pre
  have hown : s.vm.findClass RX1 = some m.cls := findClass_of_methodNamed B.named
  have hlocks := B.notSynchronized
  have hl := lv_entry ([.ref h, .int x, .int (nI p₁)]) (n := 5) (Nat.le_of_ble_eq_true rfl)
  rw [lg_entry_eq]
  generalize (lg_sl ([.ref h, .int x, .int (nI p₁)]) ++ List.replicate (5 - (lg_sl ([.ref h, .int x, .int (nI p₁)])).length) Slot.unset).toArray = ls at hl ⊢
  have hl : lv_has ls 5 [(0, .ref h), (1, .int x), (2, .int (nI p₁))] := hl
  subst hsz
  have hD := hD0.self (sz := s.heap.size)
  generalize hAe : va_A (mdW h b1 b2 b3 b4 b5 b6 b7 cI cZ er mo mf mt ma mc ms mq n) s.heap.size = A at hD ⊢
  have hA : ∀ q : Nat, s.heap.size ≤ q → A q := fun q h => by rw [← hAe]; exact Or.inr h
  have hS : va_S A s.heap s.heap [] := va_S.rf
  have hok0 := hok
  obtain ⟨hn, hwf, hc2, hmo, hmf, hms, hmc⟩ := hok0
  refine lv_aload_n hx hb dX1_clock_0 rfl (lv_at hl 0 rfl) ?_
  refine lv_iconst (v := nI 0) hx hb dX1_clock_1 (by decide) ?_
  refine sX1_err hx hb hts hown hK hP hD hS 0 rfl rfl rfl (Nat.le_of_ble_eq_true rfl) dX1_clock_2 (fun H locs hP hD hS => ?_)
  have hP : va_P D cdCl (mdW h b1 b2 b3 b4 b5 b6 b7 cI cZ (nI 0) mo mf mt ma mc ms mq n) H := hP
  have hD : va_D A (mdW h b1 b2 b3 b4 b5 b6 b7 cI cZ (nI 0) mo mf mt ma mc ms mq n) := hD
  refine lv_aload_n hx hb dX1_clock_5 rfl (lv_at hl 0 rfl) ?_
  refine lv_iload_n hx hb dX1_clock_6 rfl (lv_at hl 2 rfl) ?_
  refine cw_callSr (As := [.int (nI p₁)]) ⟨hx, hb, hml, hown, hts⟩ (c_X1_isProcess l (nI p₁)) (kX1_X1_isProcess hts 1 0 0 30 ⟨by decide, by decide⟩) rfl hl.1 rfl (Nat.le_of_ble_eq_true rfl) dX1_clock_7 ⟨Nat.zero_le _, Nat.zero_le _⟩ ?_
  refine cw_topi (y := 1) (cd_bI_t ⟨nI_pos' (by omega), nI_lt (by omega) (by decide)⟩) ?_
  refine lv_if_ne (tgt := 17) hx hb dX1_clock_10 (by decide) (fun hc => ?_) (fun hc => ?_)
  · refine lv_iconst (v := nI 0) hx hb dX1_clock_17 (by decide) ?_
    refine lv_iconst (v := nI 1) hx hb dX1_clock_18 (by decide) ?_
    refine cw_callR (As := [.int (nI 0), .int (nI 1)]) ⟨hx, hb, hml, hown, hts⟩ (c_X1_fails0 l D cI cZ h b1 b2 b3 b4 b5 b6 b7 mo mf mt ma mc ms mq o f sd c₀ n hok (nI 1)) (kX1_X1_fails hts 0 0 0 0 ⟨by decide, by decide⟩) hK hP 0 rfl rfl rfl rfl hl.1 rfl (Nat.le_of_ble_eq_true rfl) dX1_clock_19 ⟨Nat.zero_le _, Nat.zero_le _⟩ ?_
    refine lv_if_ne (tgt := 46) hx hb dX1_clock_22 (by decide) (fun hc => ?_) (fun hc => ?_)
    · exact absurd rfl hc
    · refine lv_aload_n hx hb dX1_clock_25 rfl (lv_at hl 0 rfl) ?_
      refine lv_aload_n hx hb dX1_clock_26 rfl (lv_at hl 0 rfl) ?_
      refine lv_iload_n hx hb dX1_clock_27 rfl (lv_at hl 1 rfl) ?_
      refine cw_callR (As := [.int (x)]) ⟨hx, hb, hml, hown, hts⟩ (c_X1_isEvent l D cI cZ h b1 b2 b3 b4 b5 b6 b7 (nI 0) mo mf mt ma mc ms mq o f sd c₀ n hok (x)) (kX1_X1_isEvent hts 1 0 0 30 ⟨by decide, by decide⟩) hK hP 0 rfl rfl rfl rfl hl.1 rfl (Nat.le_of_ble_eq_true rfl) dX1_clock_28 ⟨Nat.zero_le _, Nat.zero_le _⟩ ?_
      refine cw_topi (y := 0) (cd_bI_f hbad) ?_
      refine lv_if_ne (tgt := 38) hx hb dX1_clock_31 (by decide) (fun hc => ?_) (fun hc => ?_)
      · exact absurd rfl hc
      · refine lv_iconst (v := nI 1) hx hb dX1_clock_34 (by decide) ?_
        refine lv_goto (tgt := 39) hx hb dX1_clock_35 (by decide) ?_
        refine lv_iconst (v := nI 2) hx hb dX1_clock_39 (by decide) ?_
        refine cw_callWi (As := [.int (nI 1), .int (nI 2)]) (S := Unit) (BW := (fun u => (mdW h b1 b2 b3 b4 b5 b6 b7 cI cZ (nI 2) mo mf mt ma mc ms mq n))) (wr := []) ⟨hx, hb, hml, hown, hts⟩ (c_X1_fails1 l D cI cZ h b1 b2 b3 b4 b5 b6 b7 mo mf mt ma mc ms mq o f sd c₀ n hok _ 2 (by decide) (by decide)) (kX1_X1_fails hts 0 0 0 0 ⟨by decide, by decide⟩) hK hP hD hS hA [0, 1, 2, 3, 4, 5, 6, 7] [] rfl rfl (by decide) (by decide) (by decide) (fun _ => rfl) 0 rfl rfl rfl rfl hl.1 rfl (Nat.le_of_ble_eq_true rfl) dX1_clock_40 ⟨Nat.zero_le _, Nat.zero_le _⟩ (fun r u H locs hu hP hD hS => ?_)
        have hrr : r = 1 := hu
        subst hrr
        have hP : va_P D cdCl (mdW h b1 b2 b3 b4 b5 b6 b7 cI cZ (nI 2) mo mf mt ma mc ms mq n) H := hP
        have hD : va_D A (mdW h b1 b2 b3 b4 b5 b6 b7 cI cZ (nI 2) mo mf mt ma mc ms mq n) := hD
        refine lv_if_eq (tgt := 48) hx hb dX1_clock_43 (by decide) (fun hc => ?_) (fun hc => ?_)
        · exact absurd hc (by decide)
        · refine lv_iconst (v := nI 0) hx hb dX1_clock_46 (by decide) ?_
          exact W.iret (v := nI 0) hx hb hr (fun t ht hW => ⟨⟨nI 0, ((nI 2), mo, mf, mt, ma, mc, ms, mq), rfl, ⟨rfl, hok⟩, by show va_P D cdCl _ t.heap; rw [ht]; exact hP⟩, hS.F ht⟩) hS.2.2 dX1_clock_47
  · exact absurd hc (by decide)
set_option maxHeartbeats 4000000 in
set_option maxRecDepth 100000 in
/-- clock -/
theorem m0_X1_clock (l : Launch) (D : va_G) (cI cZ : ClassId) (h b1 b2 b3 b4 b5 b6 b7 : Nat) (er : Int32) (mo mf mt ma mc ms mq : Nat → Int32) (o f : Nat → Nat) (sd : Nat → Bool) (c₀ : Nat → Nat) (n : Nat) (hok : cd_md o f sd c₀ n mo mf mc ms) (sz : Nat) (k p₁ : Nat) (hk : k < n) (hp : p₁ < 6) : Met l yX1_clock (.code yX1_clock cX1_clock 5 (some .int) :: tW) (rmL 2) (cw_Pc D cdCl (dkT cI cZ) (mdW h b1 b2 b3 b4 b5 b6 b7 cI cZ er mo mf mt ma mc ms mq n) sz [.ref h, .int (nI k), .int (nI p₁)]) (va_Qi (fun (r : Int32) (u : mdS) => r = nI (cd_ck o f (k + 1) p₁) ∧ u.1 = nI 0 ∧ mdP o f sd c₀ n u) (fun u t => va_P D cdCl (mdU h b1 b2 b3 b4 b5 b6 b7 cI cZ (n) u) t.heap) (va_A (mdW h b1 b2 b3 b4 b5 b6 b7 cI cZ er mo mf mt ma mc ms mq n) sz)) 0 0 (va_A (mdW h b1 b2 b3 b4 b5 b6 b7 cI cZ er mo mf mt ma mc ms mq n) sz) := by
  refine Met.ofW (cc := cX1_clock) (maxL := 5) (ret := (some .int)) (by decide) rfl ?_
  intro p e s m args below meth c s₁ B hml hv
  obtain ⟨rfl, hsz, hP, hK, hD0⟩ := hv
  have hx := B.exec
  have hb := B.bytes
  have hr := B.returns
  have hts := atoms_spec (ws := .code yX1_clock cX1_clock 5 (some .int) :: tW) B.pre
  have hown : s.vm.findClass RX1 = some m.cls := findClass_of_methodNamed B.named
  have hlocks := B.notSynchronized
  have hl := lv_entry ([.ref h, .int (nI k), .int (nI p₁)]) (n := 5) (Nat.le_of_ble_eq_true rfl)
  rw [lg_entry_eq]
  generalize (lg_sl ([.ref h, .int (nI k), .int (nI p₁)]) ++ List.replicate (5 - (lg_sl ([.ref h, .int (nI k), .int (nI p₁)])).length) Slot.unset).toArray = ls at hl ⊢
  have hl : lv_has ls 5 [(0, .ref h), (1, .int (nI k)), (2, .int (nI p₁))] := hl
  subst hsz
  have hD := hD0.self (sz := s.heap.size)
  generalize hAe : va_A (mdW h b1 b2 b3 b4 b5 b6 b7 cI cZ er mo mf mt ma mc ms mq n) s.heap.size = A at hD ⊢
  have hA : ∀ q : Nat, s.heap.size ≤ q → A q := fun q h => by rw [← hAe]; exact Or.inr h
  have hS : va_S A s.heap s.heap [] := va_S.rf
  have hok0 := hok
  obtain ⟨hn, hwf, hc2, hmo, hmf, hms, hmc⟩ := hok0
  have loop : ∀ (d g : Nat) (mt mq : Nat → Int32) (H : Heap) (locs : List Loc) (ls : Array Slot), g + d = n → (∀ i, i < n → mq i = cd_bI (i ≠ k ∧ cd_mn o (o i) i < cd_ck o f (k + 1) (o i))) → va_P D cdCl (mdW h b1 b2 b3 b4 b5 b6 b7 cI cZ (nI 0) mo mf mt ma mc ms mq n) H → va_S A s.heap H locs → lv_has ls 5 [(4, .int (nI g)), (3, .int (nI ((if o k = p₁ then 1 else 0) + cd_ct (fun i => (i ≠ k ∧ cd_mn o (o i) i < cd_ck o f (k + 1) (o i)) ∧ o i = p₁) g))), (0, .ref h), (1, .int (nI k)), (2, .int (nI p₁))] → W p l e (rmL 2) s m (List.toArray [.ref h, .int (nI k), .int (nI p₁)]) below meth c H locs 0 0 (MQ below (va_Qi (fun (r : Int32) (u : mdS) => r = nI (cd_ck o f (k + 1) p₁) ∧ u.1 = nI 0 ∧ mdP o f sd c₀ n u) (fun u t => va_P D cdCl (mdU h b1 b2 b3 b4 b5 b6 b7 cI cZ (n) u) t.heap) (A)) (List.toArray [.ref h, .int (nI k), .int (nI p₁)]) s 0 0 A) (F0 m 72 ls []) := by
    intro d
    induction d with
    | zero =>
      intro g mt mq H locs ls hd hq hP hS hl
      have hD : va_D A (mdW h b1 b2 b3 b4 b5 b6 b7 cI cZ (nI 0) mo mf mt ma mc ms mq n) := cw_D_same hD rfl
      refine lv_iload hx hb dX1_clock_72 (lv_at hl 0 rfl) ?_
      refine lv_aload_n hx hb dX1_clock_74 rfl (lv_at hl 2 rfl) ?_
      refine gX1_events hx hb hts hown hK hP 0 rfl rfl dX1_clock_75 ?_
      refine cw_ge (tgt := 111) (x := g) (y := n) hx hb dX1_clock_78 (by decide) (by omega) (by omega) (fun hc => ?_) (fun hc => ?_)
      · refine lv_iload_n hx hb dX1_clock_111 rfl (lv_at hl 1 rfl) ?_
        refine cw_topi (y := nI (cd_ck o f (k + 1) p₁)) (by rw [show g = n by omega, cd_ck_ct_n hwf hk]) ?_
        exact W.iret (v := nI (cd_ck o f (k + 1) p₁)) hx hb hr (fun t ht hW => ⟨⟨nI (cd_ck o f (k + 1) p₁), ((nI 0), mo, mf, mt, ma, mc, ms, mq), rfl, ⟨rfl, rfl, hok⟩, by show va_P D cdCl _ t.heap; rw [ht]; exact hP⟩, hS.F ht⟩) hS.2.2 dX1_clock_112
      · exact absurd hc (by omega)
    | succ d ih =>
      intro g mt mq H locs ls hd hq hP hS hl
      have hD : va_D A (mdW h b1 b2 b3 b4 b5 b6 b7 cI cZ (nI 0) mo mf mt ma mc ms mq n) := cw_D_same hD rfl
      refine lv_iload hx hb dX1_clock_72 (lv_at hl 0 rfl) ?_
      refine lv_aload_n hx hb dX1_clock_74 rfl (lv_at hl 2 rfl) ?_
      refine gX1_events hx hb hts hown hK hP 0 rfl rfl dX1_clock_75 ?_
      refine cw_ge (tgt := 111) (x := g) (y := n) hx hb dX1_clock_78 (by decide) (by omega) (by omega) (fun hc => ?_) (fun hc => ?_)
      · exact absurd hc (by omega)
      · have hs : cd_ct (fun i => (i ≠ k ∧ cd_mn o (o i) i < cd_ck o f (k + 1) (o i)) ∧ o i = p₁) (g + 1) = cd_ct (fun i => (i ≠ k ∧ cd_mn o (o i) i < cd_ck o f (k + 1) (o i)) ∧ o i = p₁) g + (if (g ≠ k ∧ cd_mn o (o g) g < cd_ck o f (k + 1) (o g)) ∧ o g = p₁ then 1 else 0) := rfl
        have hog := (hwf g hc).1
        refine lv_aload_n hx hb dX1_clock_81 rfl (lv_at hl 2 rfl) ?_
        refine gX1_seen hx hb hts hown hK hP 0 rfl rfl dX1_clock_82 ?_
        refine lv_iload hx hb dX1_clock_85 (lv_at hl 0 rfl) ?_
        refine cw_zald hx hb hK hP 7 1 rfl rfl (k := g) (v := cd_bI (g ≠ k ∧ cd_mn o (o g) g < cd_ck o f (k + 1) (o g))) (by omega) (by decide) (hq g hc) dX1_clock_87 ?_
        refine lv_if_eq (tgt := 105) hx hb dX1_clock_88 (by decide) (fun h1 => ?_) (fun h1 => ?_)
        · rw [if_neg (fun z => cd_bI_z.mp h1 z.1)] at hs
          refine lv_iinc (k := 0) (v := nI (g + 1)) hx hb dX1_clock_105 hl rfl (cd_inc _) (by decide) rfl (fun ls hl => ?_)
          have hl : lv_has ls 5 [(4, .int (nI (g + 1))), (3, .int (nI ((if o k = p₁ then 1 else 0) + cd_ct (fun i => (i ≠ k ∧ cd_mn o (o i) i < cd_ck o f (k + 1) (o i)) ∧ o i = p₁) g))), (0, .ref h), (1, .int (nI k)), (2, .int (nI p₁))] := hl
          refine lv_goto (tgt := 72) hx hb dX1_clock_108 (by decide) ?_
          exact ih (g + 1) mt mq H locs ls (by omega) hq hP hS (by rw [hs]; exact (lv_sub hl [0, 1, 2, 3, 4] rfl))
        · refine lv_aload_n hx hb dX1_clock_91 rfl (lv_at hl 2 rfl) ?_
          refine gX1_of hx hb hts hown hK hP 0 rfl rfl dX1_clock_92 ?_
          refine lv_iload hx hb dX1_clock_95 (lv_at hl 0 rfl) ?_
          refine cw_iald hx hb hK hP 1 0 rfl rfl (k := g) (v := nI (o g)) (by omega) (by decide) (hmo g hc) dX1_clock_97 ?_
          refine lv_iload_n hx hb dX1_clock_98 rfl (lv_at hl 4 rfl) ?_
          refine cw_ne (tgt := 105) (x := (o g)) (y := p₁) hx hb dX1_clock_99 (by decide) (by omega) (by omega) (fun h2 => ?_) (fun h2 => ?_)
          · rw [if_neg (fun z => h2 z.2)] at hs
            refine lv_iinc (k := 0) (v := nI (g + 1)) hx hb dX1_clock_105 hl rfl (cd_inc _) (by decide) rfl (fun ls hl => ?_)
            have hl : lv_has ls 5 [(4, .int (nI (g + 1))), (3, .int (nI ((if o k = p₁ then 1 else 0) + cd_ct (fun i => (i ≠ k ∧ cd_mn o (o i) i < cd_ck o f (k + 1) (o i)) ∧ o i = p₁) g))), (0, .ref h), (1, .int (nI k)), (2, .int (nI p₁))] := hl
            refine lv_goto (tgt := 72) hx hb dX1_clock_108 (by decide) ?_
            exact ih (g + 1) mt mq H locs ls (by omega) hq hP hS (by rw [hs]; exact (lv_sub hl [0, 1, 2, 3, 4] rfl))
          · rw [if_pos ⟨Classical.byContradiction (fun z => h1 (cd_bI_z.mpr z)), h2⟩] at hs
            refine lv_iinc (k := 1) (v := nI (((if o k = p₁ then 1 else 0) + cd_ct (fun i => (i ≠ k ∧ cd_mn o (o i) i < cd_ck o f (k + 1) (o i)) ∧ o i = p₁) g) + 1)) hx hb dX1_clock_102 hl rfl (cd_inc _) (by decide) rfl (fun ls hl => ?_)
            have hl : lv_has ls 5 [(3, .int (nI (((if o k = p₁ then 1 else 0) + cd_ct (fun i => (i ≠ k ∧ cd_mn o (o i) i < cd_ck o f (k + 1) (o i)) ∧ o i = p₁) g) + 1))), (4, .int (nI g)), (0, .ref h), (1, .int (nI k)), (2, .int (nI p₁))] := hl
            refine lv_iinc (k := 1) (v := nI (g + 1)) hx hb dX1_clock_105 hl rfl (cd_inc _) (by decide) rfl (fun ls hl => ?_)
            have hl : lv_has ls 5 [(4, .int (nI (g + 1))), (3, .int (nI (((if o k = p₁ then 1 else 0) + cd_ct (fun i => (i ≠ k ∧ cd_mn o (o i) i < cd_ck o f (k + 1) (o i)) ∧ o i = p₁) g) + 1))), (0, .ref h), (1, .int (nI k)), (2, .int (nI p₁))] := hl
            refine lv_goto (tgt := 72) hx hb dX1_clock_108 (by decide) ?_
            exact ih (g + 1) mt mq H locs ls (by omega) hq hP hS (by rw [hs]; exact (lv_sub hl [0, 1, 2, 3, 4] rfl))
  refine lv_aload_n hx hb dX1_clock_0 rfl (lv_at hl 0 rfl) ?_
  refine lv_iconst (v := nI 0) hx hb dX1_clock_1 (by decide) ?_
  refine sX1_err hx hb hts hown hK hP hD hS 0 rfl rfl rfl (Nat.le_of_ble_eq_true rfl) dX1_clock_2 (fun H locs hP hD hS => ?_)
  have hP : va_P D cdCl (mdW h b1 b2 b3 b4 b5 b6 b7 cI cZ (nI 0) mo mf mt ma mc ms mq n) H := hP
  have hD : va_D A (mdW h b1 b2 b3 b4 b5 b6 b7 cI cZ (nI 0) mo mf mt ma mc ms mq n) := hD
  refine lv_aload_n hx hb dX1_clock_5 rfl (lv_at hl 0 rfl) ?_
  refine lv_iload_n hx hb dX1_clock_6 rfl (lv_at hl 2 rfl) ?_
  refine cw_callSr (As := [.int (nI p₁)]) ⟨hx, hb, hml, hown, hts⟩ (c_X1_isProcess l (nI p₁)) (kX1_X1_isProcess hts 1 0 0 30 ⟨by decide, by decide⟩) rfl hl.1 rfl (Nat.le_of_ble_eq_true rfl) dX1_clock_7 ⟨Nat.zero_le _, Nat.zero_le _⟩ ?_
  refine cw_topi (y := 1) (cd_bI_t ⟨nI_pos' (by omega), nI_lt (by omega) (by decide)⟩) ?_
  refine lv_if_ne (tgt := 17) hx hb dX1_clock_10 (by decide) (fun hc => ?_) (fun hc => ?_)
  · refine lv_iconst (v := nI 0) hx hb dX1_clock_17 (by decide) ?_
    refine lv_iconst (v := nI 1) hx hb dX1_clock_18 (by decide) ?_
    refine cw_callR (As := [.int (nI 0), .int (nI 1)]) ⟨hx, hb, hml, hown, hts⟩ (c_X1_fails0 l D cI cZ h b1 b2 b3 b4 b5 b6 b7 mo mf mt ma mc ms mq o f sd c₀ n hok (nI 1)) (kX1_X1_fails hts 0 0 0 0 ⟨by decide, by decide⟩) hK hP 0 rfl rfl rfl rfl hl.1 rfl (Nat.le_of_ble_eq_true rfl) dX1_clock_19 ⟨Nat.zero_le _, Nat.zero_le _⟩ ?_
    refine lv_if_ne (tgt := 46) hx hb dX1_clock_22 (by decide) (fun hc => ?_) (fun hc => ?_)
    · exact absurd rfl hc
    · refine lv_aload_n hx hb dX1_clock_25 rfl (lv_at hl 0 rfl) ?_
      refine lv_aload_n hx hb dX1_clock_26 rfl (lv_at hl 0 rfl) ?_
      refine lv_iload_n hx hb dX1_clock_27 rfl (lv_at hl 1 rfl) ?_
      refine cw_callR (As := [.int (nI k)]) ⟨hx, hb, hml, hown, hts⟩ (c_X1_isEvent l D cI cZ h b1 b2 b3 b4 b5 b6 b7 (nI 0) mo mf mt ma mc ms mq o f sd c₀ n hok (nI k)) (kX1_X1_isEvent hts 1 0 0 30 ⟨by decide, by decide⟩) hK hP 0 rfl rfl rfl rfl hl.1 rfl (Nat.le_of_ble_eq_true rfl) dX1_clock_28 ⟨Nat.zero_le _, Nat.zero_le _⟩ ?_
      refine cw_topi (y := 1) (cd_bI_t ⟨nI_pos' (by omega), nI_lt (by omega) (by omega)⟩) ?_
      refine lv_if_ne (tgt := 38) hx hb dX1_clock_31 (by decide) (fun hc => ?_) (fun hc => ?_)
      · refine lv_iconst (v := nI 0) hx hb dX1_clock_38 (by decide) ?_
        refine lv_iconst (v := nI 2) hx hb dX1_clock_39 (by decide) ?_
        refine cw_callR (As := [.int (nI 0), .int (nI 2)]) ⟨hx, hb, hml, hown, hts⟩ (c_X1_fails0 l D cI cZ h b1 b2 b3 b4 b5 b6 b7 mo mf mt ma mc ms mq o f sd c₀ n hok (nI 2)) (kX1_X1_fails hts 0 0 0 0 ⟨by decide, by decide⟩) hK hP 0 rfl rfl rfl rfl hl.1 rfl (Nat.le_of_ble_eq_true rfl) dX1_clock_40 ⟨Nat.zero_le _, Nat.zero_le _⟩ ?_
        refine lv_if_eq (tgt := 48) hx hb dX1_clock_43 (by decide) (fun hc => ?_) (fun hc => ?_)
        · refine lv_aload_n hx hb dX1_clock_48 rfl (lv_at hl 0 rfl) ?_
          refine lv_iload_n hx hb dX1_clock_49 rfl (lv_at hl 1 rfl) ?_
          refine cw_callWv (As := [.int (nI k)]) (S := ((Nat → Int32) × (Nat → Int32))) (BW := (fun u => (mdW h b1 b2 b3 b4 b5 b6 b7 cI cZ (nI 0) mo mf u.1 ma mc ms u.2 n))) (wr := []) ⟨hx, hb, hml, hown, hts⟩ (c_X1_back l D cI cZ h b1 b2 b3 b4 b5 b6 b7 (nI 0) mo mf mt ma mc ms mq o f sd c₀ n hok _ k hk) (kX1_X1_back hts 1 0 0 30 ⟨by decide, by decide⟩) hK hP hD hS hA [0, 1, 2, 3, 4, 5, 6, 7] [] rfl rfl (by decide) (by decide) (by decide) (fun _ => rfl) 0 rfl rfl rfl rfl hl.1 rfl (Nat.le_of_ble_eq_true rfl) dX1_clock_50 ⟨Nat.zero_le _, Nat.zero_le _⟩ (fun u H locs hu hP hD hS => ?_)
          obtain ⟨mt, mq⟩ := u
          have hq : ∀ i, i < n → mq i = cd_bI (i ≠ k ∧ cd_mn o (o i) i < cd_ck o f (k + 1) (o i)) := hu
          have hP : va_P D cdCl (mdW h b1 b2 b3 b4 b5 b6 b7 cI cZ (nI 0) mo mf mt ma mc ms mq n) H := hP
          have hD : va_D A (mdW h b1 b2 b3 b4 b5 b6 b7 cI cZ (nI 0) mo mf mt ma mc ms mq n) := hD
          refine lv_aload_n hx hb dX1_clock_53 rfl (lv_at hl 0 rfl) ?_
          refine gX1_of hx hb hts hown hK hP 0 rfl rfl dX1_clock_54 ?_
          refine lv_iload_n hx hb dX1_clock_57 rfl (lv_at hl 1 rfl) ?_
          refine cw_iald hx hb hK hP 1 0 rfl rfl (k := k) (v := nI (o k)) (by omega) (by decide) (hmo k hk) dX1_clock_58 ?_
          refine lv_iload_n hx hb dX1_clock_59 rfl (lv_at hl 2 rfl) ?_
          have hok1 := (hwf k hk).1
          refine cw_ne (tgt := 67) (x := (o k)) (y := p₁) hx hb dX1_clock_60 (by decide) (by omega) (by omega) (fun h5 => ?_) (fun h5 => ?_)
          · refine lv_iconst (v := nI 0) hx hb dX1_clock_67 (by decide) ?_
            refine cw_topi (y := nI ((if o k = p₁ then 1 else 0) + cd_ct (fun i => (i ≠ k ∧ cd_mn o (o i) i < cd_ck o f (k + 1) (o i)) ∧ o i = p₁) 0)) (by rw [if_neg h5]; rfl) ?_
            refine lv_istore_n hx hb dX1_clock_68 rfl hl (by decide) rfl (fun ls hl => ?_)
            have hl : lv_has ls 5 [(3, .int (nI ((if o k = p₁ then 1 else 0) + cd_ct (fun i => (i ≠ k ∧ cd_mn o (o i) i < cd_ck o f (k + 1) (o i)) ∧ o i = p₁) 0))), (0, .ref h), (1, .int (nI k)), (2, .int (nI p₁))] := hl
            refine lv_iconst (v := nI 0) hx hb dX1_clock_69 (by decide) ?_
            refine lv_istore hx hb dX1_clock_70 hl (by decide) rfl (fun ls hl => ?_)
            have hl : lv_has ls 5 [(4, .int (nI 0)), (3, .int (nI ((if o k = p₁ then 1 else 0) + cd_ct (fun i => (i ≠ k ∧ cd_mn o (o i) i < cd_ck o f (k + 1) (o i)) ∧ o i = p₁) 0))), (0, .ref h), (1, .int (nI k)), (2, .int (nI p₁))] := hl
            exact loop n 0 mt mq H locs ls (by omega) hq hP hS (lv_sub hl [0, 1, 2, 3, 4] rfl)
          · refine lv_iconst (v := nI 1) hx hb dX1_clock_63 (by decide) ?_
            refine lv_goto (tgt := 68) hx hb dX1_clock_64 (by decide) ?_
            refine cw_topi (y := nI ((if o k = p₁ then 1 else 0) + cd_ct (fun i => (i ≠ k ∧ cd_mn o (o i) i < cd_ck o f (k + 1) (o i)) ∧ o i = p₁) 0)) (by rw [if_pos h5]; rfl) ?_
            refine lv_istore_n hx hb dX1_clock_68 rfl hl (by decide) rfl (fun ls hl => ?_)
            have hl : lv_has ls 5 [(3, .int (nI ((if o k = p₁ then 1 else 0) + cd_ct (fun i => (i ≠ k ∧ cd_mn o (o i) i < cd_ck o f (k + 1) (o i)) ∧ o i = p₁) 0))), (0, .ref h), (1, .int (nI k)), (2, .int (nI p₁))] := hl
            refine lv_iconst (v := nI 0) hx hb dX1_clock_69 (by decide) ?_
            refine lv_istore hx hb dX1_clock_70 hl (by decide) rfl (fun ls hl => ?_)
            have hl : lv_has ls 5 [(4, .int (nI 0)), (3, .int (nI ((if o k = p₁ then 1 else 0) + cd_ct (fun i => (i ≠ k ∧ cd_mn o (o i) i < cd_ck o f (k + 1) (o i)) ∧ o i = p₁) 0))), (0, .ref h), (1, .int (nI k)), (2, .int (nI p₁))] := hl
            exact loop n 0 mt mq H locs ls (by omega) hq hP hS (lv_sub hl [0, 1, 2, 3, 4] rfl)
        · exact absurd rfl hc
      · exact absurd hc (by decide)
  · exact absurd hc (by decide)
set_option maxHeartbeats 4000000 in
set_option maxRecDepth 100000 in
/-- whole -/
theorem m0_X1_whole (l : Launch) (D : va_G) (cI cZ : ClassId) (h b1 b2 b3 b4 b5 b6 b7 : Nat) (er : Int32) (mo mf mt ma mc ms mq : Nat → Int32) (o f : Nat → Nat) (sd : Nat → Bool) (c₀ : Nat → Nat) (n : Nat) (hok : cd_md o f sd c₀ n mo mf mc ms) (sz : Nat) (r₀ : Int32) (hr1 : cd_wc o f c₀ n → r₀ = 1) (hr0 : ¬ cd_wc o f c₀ n → r₀ = 0) : Met l yX1_whole (.code yX1_whole cX1_whole 1 (some .boolean) :: tW) (rmL 3) (cw_Pc D cdCl (dkT cI cZ) (mdW h b1 b2 b3 b4 b5 b6 b7 cI cZ er mo mf mt ma mc ms mq n) sz [.ref h]) (va_Qi (fun (r : Int32) (u : mdS) => r = r₀ ∧ u.1 = nI 0 ∧ mdP o f sd c₀ n u) (fun u t => va_P D cdCl (mdU h b1 b2 b3 b4 b5 b6 b7 cI cZ (n) u) t.heap) (va_A (mdW h b1 b2 b3 b4 b5 b6 b7 cI cZ er mo mf mt ma mc ms mq n) sz)) 0 0 (va_A (mdW h b1 b2 b3 b4 b5 b6 b7 cI cZ er mo mf mt ma mc ms mq n) sz) := by
  refine Met.ofW (cc := cX1_whole) (maxL := 1) (ret := (some .boolean)) (by decide) rfl ?_
  intro p e s m args below meth c s₁ B hml hv
  obtain ⟨rfl, hsz, hP, hK, hD0⟩ := hv
  have hx := B.exec
  have hb := B.bytes
  have hr := B.returns
  have hts := atoms_spec (ws := .code yX1_whole cX1_whole 1 (some .boolean) :: tW) B.pre
  have hown : s.vm.findClass RX1 = some m.cls := findClass_of_methodNamed B.named
  have hlocks := B.notSynchronized
  have hl := lv_entry ([.ref h]) (n := 1) (Nat.le_of_ble_eq_true rfl)
  rw [lg_entry_eq]
  generalize (lg_sl ([.ref h]) ++ List.replicate (1 - (lg_sl ([.ref h])).length) Slot.unset).toArray = ls at hl ⊢
  have hl : lv_has ls 1 [(0, .ref h)] := hl
  subst hsz
  have hD := hD0.self (sz := s.heap.size)
  generalize hAe : va_A (mdW h b1 b2 b3 b4 b5 b6 b7 cI cZ er mo mf mt ma mc ms mq n) s.heap.size = A at hD ⊢
  have hA : ∀ q : Nat, s.heap.size ≤ q → A q := fun q h => by rw [← hAe]; exact Or.inr h
  have hS : va_S A s.heap s.heap [] := va_S.rf
  have hok0 := hok
  obtain ⟨hn, hwf, hc2, hmo, hmf, hms, hmc⟩ := hok0
  have hnr : narrow .boolean (.int r₀) = .int r₀ := by
    rcases Classical.em (cd_wc o f c₀ n) with z | z
    · rw [hr1 z]; rfl
    · rw [hr0 z]; rfl
  have hob : cd_o0 o f c₀ n 0 ≤ n := by
    cases hz : cd_o0 o f c₀ n 0 with
    | zero => exact Nat.zero_le _
    | succ j => have := (cd_o0_s n 0 j hz).2.2; omega
  refine lv_aload_n hx hb dX1_whole_0 rfl (lv_at hl 0 rfl) ?_
  refine lv_iconst (v := nI 0) hx hb dX1_whole_1 (by decide) ?_
  refine sX1_err hx hb hts hown hK hP hD hS 0 rfl rfl rfl (Nat.le_of_ble_eq_true rfl) dX1_whole_2 (fun H locs hP hD hS => ?_)
  have hP : va_P D cdCl (mdW h b1 b2 b3 b4 b5 b6 b7 cI cZ (nI 0) mo mf mt ma mc ms mq n) H := hP
  have hD : va_D A (mdW h b1 b2 b3 b4 b5 b6 b7 cI cZ (nI 0) mo mf mt ma mc ms mq n) := hD
  refine lv_aload_n hx hb dX1_whole_5 rfl (lv_at hl 0 rfl) ?_
  refine cw_callR (As := []) ⟨hx, hb, hml, hown, hts⟩ (c_X1_open0 l D cI cZ h b1 b2 b3 b4 b5 b6 b7 (nI 0) mo mf mt ma mc ms mq o f sd c₀ n hok ) (kX1_X1_open0 hts 2 0 0 60 ⟨by decide, by decide⟩) hK hP 0 rfl rfl rfl rfl hl.1 rfl (Nat.le_of_ble_eq_true rfl) dX1_whole_6 ⟨Nat.zero_le _, Nat.zero_le _⟩ ?_
  refine lv_if_ge (tgt := 16) hx hb dX1_whole_9 (by decide) (fun hc => ?_) (fun hc => ?_)
  · have h1 : ¬ cd_wc o f c₀ n := fun z => by
      have := (cd_pI_neg (show cd_o0 o f c₀ n 0 < 2 ^ 31 by omega)).mpr (cd_o0_wr.mpr ((cd_w_iff hwf).mpr z))
      have hg2 : (0 : Int32) ≤ cd_pI (cd_o0 o f c₀ n 0) := hc
      rw [Int32.lt_iff_toInt_lt] at this; rw [Int32.le_iff_toInt_le] at hg2; omega
    refine lv_iconst (v := nI 0) hx hb dX1_whole_16 (by decide) ?_
    refine cw_topi (y := r₀) (hr0 h1).symm ?_
    exact W.zret (v := r₀) hx hb hr hnr (fun t ht hW => ⟨⟨r₀, (nI 0, mo, mf, mt, ma, mc, ms, mq), rfl, ⟨rfl, rfl, hok⟩, by show va_P D cdCl _ t.heap; rw [ht]; exact hP⟩, hS.F ht⟩) hS.2.2 dX1_whole_17
  · have h1 : cd_wc o f c₀ n := (cd_w_iff hwf).mp (cd_o0_wr.mp ((cd_pI_neg (by omega)).mp (by rw [Int32.lt_iff_toInt_lt]; have hg2 : ¬ (0 : Int32) ≤ cd_pI (cd_o0 o f c₀ n 0) := hc; rw [Int32.le_iff_toInt_le] at hg2; omega)))
    refine lv_iconst (v := nI 1) hx hb dX1_whole_12 (by decide) ?_
    refine lv_goto (tgt := 17) hx hb dX1_whole_13 (by decide) ?_
    refine cw_topi (y := r₀) (hr1 h1).symm ?_
    exact W.zret (v := r₀) hx hb hr hnr (fun t ht hW => ⟨⟨r₀, (nI 0, mo, mf, mt, ma, mc, ms, mq), rfl, ⟨rfl, rfl, hok⟩, by show va_P D cdCl _ t.heap; rw [ht]; exact hP⟩, hS.F ht⟩) hS.2.2 dX1_whole_17
set_option maxHeartbeats 4000000 in
set_option maxRecDepth 100000 in
/-- close -/
theorem m0_X1_close (l : Launch) (D : va_G) (cI cZ : ClassId) (h b1 b2 b3 b4 b5 b6 b7 : Nat) (er : Int32) (mo mf mt ma mc ms mq : Nat → Int32) (o f : Nat → Nat) (sd : Nat → Bool) (c₀ : Nat → Nat) (n : Nat) (hok : cd_md o f sd c₀ n mo mf mc ms) (sz : Nat) (hbd : ∀ p, p < 6 → c₀ p ≤ cd_mn o p n) : Met l yX1_close (.code yX1_close cX1_close 2 (some .int) :: tW) (rmL 3) (cw_Pc D cdCl (dkT cI cZ) (mdW h b1 b2 b3 b4 b5 b6 b7 cI cZ er mo mf mt ma mc ms mq n) sz [.ref h]) (va_Qi (fun (r : Int32) (u : mdS) => r = nI (cd_s6 (cd_cl o f c₀ n)) ∧ u.1 = nI 0 ∧ mdP o f sd (cd_cl o f c₀ n) n u) (fun u t => va_P D cdCl (mdU h b1 b2 b3 b4 b5 b6 b7 cI cZ (n) u) t.heap) (va_A (mdW h b1 b2 b3 b4 b5 b6 b7 cI cZ er mo mf mt ma mc ms mq n) sz)) 0 0 (va_A (mdW h b1 b2 b3 b4 b5 b6 b7 cI cZ er mo mf mt ma mc ms mq n) sz) := by
  refine Met.ofW (cc := cX1_close) (maxL := 2) (ret := (some .int)) (by decide) rfl ?_
  intro p e s m args below meth c s₁ B hml hv
  obtain ⟨rfl, hsz, hP, hK, hD0⟩ := hv
  have hx := B.exec
  have hb := B.bytes
  have hr := B.returns
  have hts := atoms_spec (ws := .code yX1_close cX1_close 2 (some .int) :: tW) B.pre
  have hown : s.vm.findClass RX1 = some m.cls := findClass_of_methodNamed B.named
  have hlocks := B.notSynchronized
  have hl := lv_entry ([.ref h]) (n := 2) (Nat.le_of_ble_eq_true rfl)
  rw [lg_entry_eq]
  generalize (lg_sl ([.ref h]) ++ List.replicate (2 - (lg_sl ([.ref h])).length) Slot.unset).toArray = ls at hl ⊢
  have hl : lv_has ls 2 [(0, .ref h)] := hl
  subst hsz
  have hD := hD0.self (sz := s.heap.size)
  generalize hAe : va_A (mdW h b1 b2 b3 b4 b5 b6 b7 cI cZ er mo mf mt ma mc ms mq n) s.heap.size = A at hD ⊢
  have hA : ∀ q : Nat, s.heap.size ≤ q → A q := fun q h => by rw [← hAe]; exact Or.inr h
  have hS : va_S A s.heap s.heap [] := va_S.rf
  have hok0 := hok
  obtain ⟨hn, hwf, hc2, hmo, hmf, hms, hmc⟩ := hok0
  have loop : ∀ (N : Nat) (cc₁ : Nat → Nat) (mc : Nat → Int32) (H : Heap) (locs : List Loc) (ls : Array Slot), cd_s6 (fun p => (cd_cl o f c₀ n) p - cc₁ p) < N → cd_md o f sd cc₁ n mo mf mc ms → (∀ p, p < 6 → c₀ p ≤ cc₁ p) → (∀ p, p < 6 → cc₁ p ≤ (cd_cl o f c₀ n) p) → va_P D cdCl (mdW h b1 b2 b3 b4 b5 b6 b7 cI cZ (nI 0) mo mf mt ma mc ms mq n) H → va_S A s.heap H locs → lv_has ls 2 [(1, .int (cd_pI (cd_o0 o f cc₁ n 0))), (0, .ref h)] → W p l e (rmL 3) s m (List.toArray [.ref h]) below meth c H locs 0 0 (MQ below (va_Qi (fun (r : Int32) (u : mdS) => r = nI (cd_s6 (cd_cl o f c₀ n)) ∧ u.1 = nI 0 ∧ mdP o f sd (cd_cl o f c₀ n) n u) (fun u t => va_P D cdCl (mdU h b1 b2 b3 b4 b5 b6 b7 cI cZ (n) u) t.heap) (A)) (List.toArray [.ref h]) s 0 0 A) (F0 m 10 ls []) := by
    intro N
    induction N with
    | zero => intro cc₁ mc H locs ls hM; exact absurd hM (Nat.not_lt_zero _)
    | succ N ih =>
      intro cc₁ mc H locs ls hM hok hlo hle hP hS hl
      have hD : va_D A (mdW h b1 b2 b3 b4 b5 b6 b7 cI cZ (nI 0) mo mf mt ma mc ms mq n) := cw_D_same hD rfl
      obtain ⟨-, -, hc2', -, -, -, hmc⟩ := id hok
      have hob : cd_o0 o f cc₁ n 0 ≤ n := by
        cases hz : cd_o0 o f cc₁ n 0 with
        | zero => exact Nat.zero_le _
        | succ j => have := (cd_o0_s n 0 j hz).2.2; omega
      refine lv_iload_n hx hb dX1_close_10 rfl (lv_at hl 0 rfl) ?_
      refine lv_if_lt (tgt := 42) hx hb dX1_close_11 (by decide) (fun hc => ?_) (fun hc => ?_)
      · have h0 := (cd_pI_neg (by omega)).mp hc
        have he := cd_close_end hwf hbd hlo hle h0
        have hok := cd_md_c hok he
        obtain ⟨-, ib, -, -⟩ := cd_cl_inv hwf hbd n (Nat.le_refl _)
        have hb2 : ∀ p, p < 6 → (cd_cl o f c₀ n) p ≤ cd_mn o p n := ib
        refine lv_aload_n hx hb dX1_close_42 rfl (lv_at hl 1 rfl) ?_
        refine cw_callR (As := []) ⟨hx, hb, hml, hown, hts⟩ (c_X1_inCut l D cI cZ h b1 b2 b3 b4 b5 b6 b7 (nI 0) mo mf mt ma mc ms mq o f sd (cd_cl o f c₀ n) n hok ) (kX1_X1_inCut hts 2 0 0 60 ⟨by decide, by decide⟩) hK hP 0 rfl rfl rfl rfl hl.1 rfl (Nat.le_of_ble_eq_true rfl) dX1_close_43 ⟨Nat.zero_le _, Nat.zero_le _⟩ ?_
        refine cw_topi (y := nI (cd_s6 (cd_cl o f c₀ n))) (by rw [cd_in_s6 hwf hb2]) ?_
        exact W.iret (v := nI (cd_s6 (cd_cl o f c₀ n))) hx hb hr (fun t ht hW => ⟨⟨nI (cd_s6 (cd_cl o f c₀ n)), ((nI 0), mo, mf, mt, ma, mc, ms, mq), rfl, ⟨rfl, rfl, hok⟩, by show va_P D cdCl _ t.heap; rw [ht]; exact hP⟩, hS.F ht⟩) hS.2.2 dX1_close_46
      · obtain ⟨e₁, he₁⟩ : ∃ j, cd_o0 o f cc₁ n 0 = j + 1 := ⟨cd_o0 o f cc₁ n 0 - 1, by have : cd_o0 o f cc₁ n 0 ≠ 0 := fun z => hc ((cd_pI_neg (by omega)).mpr z); omega⟩
        obtain ⟨hop, -, hen⟩ := cd_o0_s n 0 e₁ he₁
        have hen : e₁ < n := by omega
        have hl : lv_has ls 2 [(1, .int (nI e₁)), (0, .ref h)] := by rw [he₁] at hl; exact hl
        obtain ⟨j, hj⟩ : ∃ j, f e₁ = j + 1 := ⟨f e₁ - 1, by have := hop.2.1; omega⟩
        have hfe := (hwf e₁ hen).2
        have hjn : j < n := by omega
        have hoj := (hwf j hjn).1
        have hstep := cd_close_step hwf hbd hle hen hj hop
        obtain ⟨-, ib, -, -⟩ := cd_cl_inv hwf hbd n (Nat.le_refl _)
        have ib2 := ib (o j) hoj
        have hml2 := cd_mn_le o (o j) n
        refine lv_aload_n hx hb dX1_close_14 rfl (lv_at hl 1 rfl) ?_
        refine gX1_cuts hx hb hts hown hK hP 0 rfl rfl dX1_close_15 ?_
        refine lv_aload_n hx hb dX1_close_18 rfl (lv_at hl 1 rfl) ?_
        refine gX1_of hx hb hts hown hK hP 0 rfl rfl dX1_close_19 ?_
        refine lv_aload_n hx hb dX1_close_22 rfl (lv_at hl 1 rfl) ?_
        refine gX1_from hx hb hts hown hK hP 0 rfl rfl dX1_close_23 ?_
        refine lv_iload_n hx hb dX1_close_26 rfl (lv_at hl 0 rfl) ?_
        refine cw_iald hx hb hK hP 2 0 rfl rfl (k := e₁) (v := nI j) (by omega) (by decide) (by rw [hmf e₁ hen, hj]; rfl) dX1_close_27 ?_
        refine cw_iald hx hb hK hP 1 0 rfl rfl (k := j) (v := nI (o j)) (by omega) (by decide) (hmo j hjn) dX1_close_28 ?_
        refine lv_dup2_11 hx hb dX1_close_29 rfl rfl ?_
        refine cw_iald hx hb hK hP 5 0 rfl rfl (k := (o j)) (v := nI (cc₁ (o j))) (by omega) (by decide) (hmc (o j) hoj) dX1_close_30 ?_
        refine lv_iconst (v := nI 1) hx hb dX1_close_31 (by decide) ?_
        refine lv_iadd hx hb dX1_close_32 ?_
        refine cw_topi (y := nI ((cc₁ (o j)) + 1)) (nI_add _ _) ?_
        refine cw_iast hx hb hK hP hD hS 5 0 rfl rfl (k := (o j)) (by omega) (by decide) dX1_close_33 (fun H locs hP hD hS => ?_)
        have hP : va_P D cdCl (mdW h b1 b2 b3 b4 b5 b6 b7 cI cZ (nI 0) mo mf mt ma (upd mc (o j) (nI ((cc₁ (o j)) + 1))) ms mq n) H := hP
        have hD : va_D A (mdW h b1 b2 b3 b4 b5 b6 b7 cI cZ (nI 0) mo mf mt ma (upd mc (o j) (nI ((cc₁ (o j)) + 1))) ms mq n) := hD
        have hok := cd_md_cu (q := o j) (v := cc₁ (o j) + 1) hok (by omega)
        have up1 : ∀ p, p ≠ (o j) → cd_up cc₁ (o j) (cc₁ (o j) + 1) p = cc₁ p := fun p hp => cd_up_n _ _ hp
        have up2 : cd_up cc₁ (o j) (cc₁ (o j) + 1) (o j) = (cc₁ (o j) + 1) := cd_up_s _ _ _
        have hlo' : ∀ p, p < 6 → c₀ p ≤ cd_up cc₁ (o j) (cc₁ (o j) + 1) p := fun p hp => by
          by_cases z : p = (o j)
          · rw [z, up2]; have := hlo (o j) hoj; omega
          · rw [up1 p z]; exact hlo p hp
        have hle' : ∀ p, p < 6 → cd_up cc₁ (o j) (cc₁ (o j) + 1) p ≤ (cd_cl o f c₀ n) p := fun p hp => by
          by_cases z : p = (o j)
          · rw [z, up2]; exact hstep
          · rw [up1 p z]; exact hle p hp
        have hM' : cd_s6 (fun p => (cd_cl o f c₀ n) p - cd_up cc₁ (o j) (cc₁ (o j) + 1) p) < N := by
          have := cd_s6_lt (g := fun p => (cd_cl o f c₀ n) p - cc₁ p) (g' := fun p => (cd_cl o f c₀ n) p - cd_up cc₁ (o j) (cc₁ (o j) + 1) p) (q := (o j)) hoj (fun p _ hp => by simp only [up1 p hp]) (by simp only [up2]; omega)
          omega
        refine lv_aload_n hx hb dX1_close_34 rfl (lv_at hl 1 rfl) ?_
        refine cw_callR (As := []) ⟨hx, hb, hml, hown, hts⟩ (c_X1_open0 l D cI cZ h b1 b2 b3 b4 b5 b6 b7 (nI 0) mo mf mt ma (upd mc (o j) (nI ((cc₁ (o j)) + 1))) ms mq o f sd (cd_up cc₁ (o j) (cc₁ (o j) + 1)) n hok ) (kX1_X1_open0 hts 2 0 0 60 ⟨by decide, by decide⟩) hK hP 0 rfl rfl rfl rfl hl.1 rfl (Nat.le_of_ble_eq_true rfl) dX1_close_35 ⟨Nat.zero_le _, Nat.zero_le _⟩ ?_
        refine lv_istore_n hx hb dX1_close_38 rfl hl (by decide) rfl (fun ls hl => ?_)
        have hl : lv_has ls 2 [(1, .int (cd_pI (cd_o0 o f (cd_up cc₁ (o j) (cc₁ (o j) + 1)) n 0))), (0, .ref h)] := hl
        refine lv_goto (tgt := 10) hx hb dX1_close_39 (by decide) ?_
        exact ih _ _ H locs ls hM' hok hlo' hle' hP hS hl
  refine lv_aload_n hx hb dX1_close_0 rfl (lv_at hl 0 rfl) ?_
  refine lv_iconst (v := nI 0) hx hb dX1_close_1 (by decide) ?_
  refine sX1_err hx hb hts hown hK hP hD hS 0 rfl rfl rfl (Nat.le_of_ble_eq_true rfl) dX1_close_2 (fun H locs hP hD hS => ?_)
  have hP : va_P D cdCl (mdW h b1 b2 b3 b4 b5 b6 b7 cI cZ (nI 0) mo mf mt ma mc ms mq n) H := hP
  have hD : va_D A (mdW h b1 b2 b3 b4 b5 b6 b7 cI cZ (nI 0) mo mf mt ma mc ms mq n) := hD
  refine lv_aload_n hx hb dX1_close_5 rfl (lv_at hl 0 rfl) ?_
  refine cw_callR (As := []) ⟨hx, hb, hml, hown, hts⟩ (c_X1_open0 l D cI cZ h b1 b2 b3 b4 b5 b6 b7 (nI 0) mo mf mt ma mc ms mq o f sd c₀ n hok ) (kX1_X1_open0 hts 2 0 0 60 ⟨by decide, by decide⟩) hK hP 0 rfl rfl rfl rfl hl.1 rfl (Nat.le_of_ble_eq_true rfl) dX1_close_6 ⟨Nat.zero_le _, Nat.zero_le _⟩ ?_
  refine lv_istore_n hx hb dX1_close_9 rfl hl (by decide) rfl (fun ls hl => ?_)
  have hl : lv_has ls 2 [(1, .int (cd_pI (cd_o0 o f c₀ n 0))), (0, .ref h)] := hl
  obtain ⟨ia, -, -, -⟩ := cd_cl_inv hwf hbd n (Nat.le_refl _)
  exact loop _ c₀ mc H locs ls (Nat.lt_succ_self _) hok (fun p hp => Nat.le_refl _) (fun p hp => ia p) hP hS hl
set_option maxHeartbeats 4000000 in
set_option maxRecDepth 100000 in
/-- open -/
theorem m0_X1_open (l : Launch) (D : va_G) (cI cZ : ClassId) (h b1 b2 b3 b4 b5 b6 b7 : Nat) (er : Int32) (mo mf mt ma mc ms mq : Nat → Int32) (o f : Nat → Nat) (sd : Nat → Bool) (c₀ : Nat → Nat) (n : Nat) (hok : cd_md o f sd c₀ n mo mf mc ms) (sz : Nat) (hbd : ∀ p, p < 6 → c₀ p ≤ cd_mn o p n) : Met l yX1_open (.code yX1_open cX1_open 2 (some .int) :: tW) (rmL 3) (cw_Pc D cdCl (dkT cI cZ) (mdW h b1 b2 b3 b4 b5 b6 b7 cI cZ er mo mf mt ma mc ms mq n) sz [.ref h]) (va_Qi (fun (r : Int32) (u : mdS) => r = nI (cd_s6 (cd_op o f c₀ n)) ∧ u.1 = nI 0 ∧ mdP o f sd (cd_op o f c₀ n) n u) (fun u t => va_P D cdCl (mdU h b1 b2 b3 b4 b5 b6 b7 cI cZ (n) u) t.heap) (va_A (mdW h b1 b2 b3 b4 b5 b6 b7 cI cZ er mo mf mt ma mc ms mq n) sz)) 0 0 (va_A (mdW h b1 b2 b3 b4 b5 b6 b7 cI cZ er mo mf mt ma mc ms mq n) sz) := by
  refine Met.ofW (cc := cX1_open) (maxL := 2) (ret := (some .int)) (by decide) rfl ?_
  intro p e s m args below meth c s₁ B hml hv
  obtain ⟨rfl, hsz, hP, hK, hD0⟩ := hv
  have hx := B.exec
  have hb := B.bytes
  have hr := B.returns
  have hts := atoms_spec (ws := .code yX1_open cX1_open 2 (some .int) :: tW) B.pre
  have hown : s.vm.findClass RX1 = some m.cls := findClass_of_methodNamed B.named
  have hlocks := B.notSynchronized
  have hl := lv_entry ([.ref h]) (n := 2) (Nat.le_of_ble_eq_true rfl)
  rw [lg_entry_eq]
  generalize (lg_sl ([.ref h]) ++ List.replicate (2 - (lg_sl ([.ref h])).length) Slot.unset).toArray = ls at hl ⊢
  have hl : lv_has ls 2 [(0, .ref h)] := hl
  subst hsz
  have hD := hD0.self (sz := s.heap.size)
  generalize hAe : va_A (mdW h b1 b2 b3 b4 b5 b6 b7 cI cZ er mo mf mt ma mc ms mq n) s.heap.size = A at hD ⊢
  have hA : ∀ q : Nat, s.heap.size ≤ q → A q := fun q h => by rw [← hAe]; exact Or.inr h
  have hS : va_S A s.heap s.heap [] := va_S.rf
  have hok0 := hok
  obtain ⟨hn, hwf, hc2, hmo, hmf, hms, hmc⟩ := hok0
  have loop : ∀ (N : Nat) (cc₁ : Nat → Nat) (mc : Nat → Int32) (H : Heap) (locs : List Loc) (ls : Array Slot), cd_s6 cc₁ < N → cd_md o f sd cc₁ n mo mf mc ms → (∀ p, p < 6 → (cd_op o f c₀ n) p ≤ cc₁ p) → (∀ p, p < 6 → cc₁ p ≤ c₀ p) → va_P D cdCl (mdW h b1 b2 b3 b4 b5 b6 b7 cI cZ (nI 0) mo mf mt ma mc ms mq n) H → va_S A s.heap H locs → lv_has ls 2 [(1, .int (cd_pI (cd_o0 o f cc₁ n 0))), (0, .ref h)] → W p l e (rmL 3) s m (List.toArray [.ref h]) below meth c H locs 0 0 (MQ below (va_Qi (fun (r : Int32) (u : mdS) => r = nI (cd_s6 (cd_op o f c₀ n)) ∧ u.1 = nI 0 ∧ mdP o f sd (cd_op o f c₀ n) n u) (fun u t => va_P D cdCl (mdU h b1 b2 b3 b4 b5 b6 b7 cI cZ (n) u) t.heap) (A)) (List.toArray [.ref h]) s 0 0 A) (F0 m 10 ls []) := by
    intro N
    induction N with
    | zero => intro cc₁ mc H locs ls hM; exact absurd hM (Nat.not_lt_zero _)
    | succ N ih =>
      intro cc₁ mc H locs ls hM hok hlo hle hP hS hl
      have hD : va_D A (mdW h b1 b2 b3 b4 b5 b6 b7 cI cZ (nI 0) mo mf mt ma mc ms mq n) := cw_D_same hD rfl
      obtain ⟨-, -, hc2', -, -, -, hmc⟩ := id hok
      have hob : cd_o0 o f cc₁ n 0 ≤ n := by
        cases hz : cd_o0 o f cc₁ n 0 with
        | zero => exact Nat.zero_le _
        | succ j => have := (cd_o0_s n 0 j hz).2.2; omega
      refine lv_iload_n hx hb dX1_open_10 rfl (lv_at hl 0 rfl) ?_
      refine lv_if_lt (tgt := 37) hx hb dX1_open_11 (by decide) (fun hc => ?_) (fun hc => ?_)
      · have h0 := (cd_pI_neg (by omega)).mp hc
        have he := cd_open_end hwf hlo hle h0
        have hok := cd_md_c hok he
        have hb2 : ∀ p, p < 6 → (cd_op o f c₀ n) p ≤ cd_mn o p n := fun p hp => by rw [← he p hp]; exact Nat.le_trans (hle p hp) (hbd p hp)
        refine lv_aload_n hx hb dX1_open_37 rfl (lv_at hl 1 rfl) ?_
        refine cw_callR (As := []) ⟨hx, hb, hml, hown, hts⟩ (c_X1_inCut l D cI cZ h b1 b2 b3 b4 b5 b6 b7 (nI 0) mo mf mt ma mc ms mq o f sd (cd_op o f c₀ n) n hok ) (kX1_X1_inCut hts 2 0 0 60 ⟨by decide, by decide⟩) hK hP 0 rfl rfl rfl rfl hl.1 rfl (Nat.le_of_ble_eq_true rfl) dX1_open_38 ⟨Nat.zero_le _, Nat.zero_le _⟩ ?_
        refine cw_topi (y := nI (cd_s6 (cd_op o f c₀ n))) (by rw [cd_in_s6 hwf hb2]) ?_
        exact W.iret (v := nI (cd_s6 (cd_op o f c₀ n))) hx hb hr (fun t ht hW => ⟨⟨nI (cd_s6 (cd_op o f c₀ n)), ((nI 0), mo, mf, mt, ma, mc, ms, mq), rfl, ⟨rfl, rfl, hok⟩, by show va_P D cdCl _ t.heap; rw [ht]; exact hP⟩, hS.F ht⟩) hS.2.2 dX1_open_41
      · obtain ⟨e₁, he₁⟩ : ∃ j, cd_o0 o f cc₁ n 0 = j + 1 := ⟨cd_o0 o f cc₁ n 0 - 1, by have : cd_o0 o f cc₁ n 0 ≠ 0 := fun z => hc ((cd_pI_neg (by omega)).mpr z); omega⟩
        obtain ⟨hop, -, hen⟩ := cd_o0_s n 0 e₁ he₁
        have hen : e₁ < n := by omega
        have hl : lv_has ls 2 [(1, .int (nI e₁)), (0, .ref h)] := by rw [he₁] at hl; exact hl
        have hoe := (hwf e₁ hen).1
        obtain ⟨hst1, hst2⟩ := cd_open_step hwf hlo hen hop
        have hcb := hc2' (o e₁) hoe
        refine lv_aload_n hx hb dX1_open_14 rfl (lv_at hl 1 rfl) ?_
        refine gX1_cuts hx hb hts hown hK hP 0 rfl rfl dX1_open_15 ?_
        refine lv_aload_n hx hb dX1_open_18 rfl (lv_at hl 1 rfl) ?_
        refine gX1_of hx hb hts hown hK hP 0 rfl rfl dX1_open_19 ?_
        refine lv_iload_n hx hb dX1_open_22 rfl (lv_at hl 0 rfl) ?_
        refine cw_iald hx hb hK hP 1 0 rfl rfl (k := e₁) (v := nI (o e₁)) (by omega) (by decide) (hmo e₁ hen) dX1_open_23 ?_
        refine lv_dup2_11 hx hb dX1_open_24 rfl rfl ?_
        refine cw_iald hx hb hK hP 5 0 rfl rfl (k := (o e₁)) (v := nI (cc₁ (o e₁))) (by omega) (by decide) (hmc (o e₁) hoe) dX1_open_25 ?_
        refine lv_iconst (v := nI 1) hx hb dX1_open_26 (by decide) ?_
        refine lv_isub hx hb dX1_open_27 ?_
        refine cw_topi (y := nI (cc₁ (o e₁) - 1)) (pk_sub (b := 1) (by omega)) ?_
        refine cw_iast hx hb hK hP hD hS 5 0 rfl rfl (k := (o e₁)) (by omega) (by decide) dX1_open_28 (fun H locs hP hD hS => ?_)
        have hP : va_P D cdCl (mdW h b1 b2 b3 b4 b5 b6 b7 cI cZ (nI 0) mo mf mt ma (upd mc (o e₁) (nI (cc₁ (o e₁) - 1))) ms mq n) H := hP
        have hD : va_D A (mdW h b1 b2 b3 b4 b5 b6 b7 cI cZ (nI 0) mo mf mt ma (upd mc (o e₁) (nI (cc₁ (o e₁) - 1))) ms mq n) := hD
        have hok := cd_md_cu (q := o e₁) (v := cc₁ (o e₁) - 1) hok (by omega)
        have up1 : ∀ p, p ≠ (o e₁) → cd_up cc₁ (o e₁) (cc₁ (o e₁) - 1) p = cc₁ p := fun p hp => cd_up_n _ _ hp
        have up2 : cd_up cc₁ (o e₁) (cc₁ (o e₁) - 1) (o e₁) = (cc₁ (o e₁) - 1) := cd_up_s _ _ _
        have hlo' : ∀ p, p < 6 → (cd_op o f c₀ n) p ≤ cd_up cc₁ (o e₁) (cc₁ (o e₁) - 1) p := fun p hp => by
          by_cases z : p = (o e₁)
          · rw [z, up2]; exact hst1
          · rw [up1 p z]; exact hlo p hp
        have hle' : ∀ p, p < 6 → cd_up cc₁ (o e₁) (cc₁ (o e₁) - 1) p ≤ c₀ p := fun p hp => by
          by_cases z : p = (o e₁)
          · rw [z, up2]; have := hle (o e₁) hoe; omega
          · rw [up1 p z]; exact hle p hp
        have hM' : cd_s6 (cd_up cc₁ (o e₁) (cc₁ (o e₁) - 1)) < N := by
          have := cd_s6_lt (g := cc₁) (g' := cd_up cc₁ (o e₁) (cc₁ (o e₁) - 1)) (q := (o e₁)) hoe (fun p _ hp => up1 p hp) (by rw [up2]; omega)
          omega
        refine lv_aload_n hx hb dX1_open_29 rfl (lv_at hl 1 rfl) ?_
        refine cw_callR (As := []) ⟨hx, hb, hml, hown, hts⟩ (c_X1_open0 l D cI cZ h b1 b2 b3 b4 b5 b6 b7 (nI 0) mo mf mt ma (upd mc (o e₁) (nI (cc₁ (o e₁) - 1))) ms mq o f sd (cd_up cc₁ (o e₁) (cc₁ (o e₁) - 1)) n hok ) (kX1_X1_open0 hts 2 0 0 60 ⟨by decide, by decide⟩) hK hP 0 rfl rfl rfl rfl hl.1 rfl (Nat.le_of_ble_eq_true rfl) dX1_open_30 ⟨Nat.zero_le _, Nat.zero_le _⟩ ?_
        refine lv_istore_n hx hb dX1_open_33 rfl hl (by decide) rfl (fun ls hl => ?_)
        have hl : lv_has ls 2 [(1, .int (cd_pI (cd_o0 o f (cd_up cc₁ (o e₁) (cc₁ (o e₁) - 1)) n 0))), (0, .ref h)] := hl
        refine lv_goto (tgt := 10) hx hb dX1_open_34 (by decide) ?_
        exact ih _ _ H locs ls hM' hok hlo' hle' hP hS hl
  refine lv_aload_n hx hb dX1_open_0 rfl (lv_at hl 0 rfl) ?_
  refine lv_iconst (v := nI 0) hx hb dX1_open_1 (by decide) ?_
  refine sX1_err hx hb hts hown hK hP hD hS 0 rfl rfl rfl (Nat.le_of_ble_eq_true rfl) dX1_open_2 (fun H locs hP hD hS => ?_)
  have hP : va_P D cdCl (mdW h b1 b2 b3 b4 b5 b6 b7 cI cZ (nI 0) mo mf mt ma mc ms mq n) H := hP
  have hD : va_D A (mdW h b1 b2 b3 b4 b5 b6 b7 cI cZ (nI 0) mo mf mt ma mc ms mq n) := hD
  refine lv_aload_n hx hb dX1_open_5 rfl (lv_at hl 0 rfl) ?_
  refine cw_callR (As := []) ⟨hx, hb, hml, hown, hts⟩ (c_X1_open0 l D cI cZ h b1 b2 b3 b4 b5 b6 b7 (nI 0) mo mf mt ma mc ms mq o f sd c₀ n hok ) (kX1_X1_open0 hts 2 0 0 60 ⟨by decide, by decide⟩) hK hP 0 rfl rfl rfl rfl hl.1 rfl (Nat.le_of_ble_eq_true rfl) dX1_open_6 ⟨Nat.zero_le _, Nat.zero_le _⟩ ?_
  refine lv_istore_n hx hb dX1_open_9 rfl hl (by decide) rfl (fun ls hl => ?_)
  have hl : lv_has ls 2 [(1, .int (cd_pI (cd_o0 o f c₀ n 0))), (0, .ref h)] := hl
  obtain ⟨ia, -, -⟩ := cd_op_inv (c := c₀) hwf n (Nat.le_refl _)
  exact loop _ c₀ mc H locs ls (Nat.lt_succ_self _) hok (fun p hp => ia p) (fun p hp => Nat.le_refl _) hP hS hl
set_option maxHeartbeats 4000000 in
set_option maxRecDepth 100000 in
/-- count: no such -/
theorem mx_X1_count (l : Launch) (D : va_G) (cI cZ : ClassId) (h b1 b2 b3 b4 b5 b6 b7 : Nat) (er : Int32) (mo mf mt ma mc ms mq : Nat → Int32) (o f : Nat → Nat) (sd : Nat → Bool) (c₀ : Nat → Nat) (n : Nat) (hok : cd_md o f sd c₀ n mo mf mc ms) (sz : Nat) (x : Int32) (hbad : ¬ (0 ≤ x ∧ x < nI 4)) : Met l yX1_count (.code yX1_count cX1_count 5 (some .int) :: tW) (rmL 3) (cw_Pc D cdCl (dkT cI cZ) (mdW h b1 b2 b3 b4 b5 b6 b7 cI cZ er mo mf mt ma mc ms mq n) sz [.ref h, .int x]) (va_Qi (fun (r : Int32) (u : mdS) => u.1 = nI 1 ∧ mdP o f sd c₀ n u) (fun u t => va_P D cdCl (mdU h b1 b2 b3 b4 b5 b6 b7 cI cZ (n) u) t.heap) (va_A (mdW h b1 b2 b3 b4 b5 b6 b7 cI cZ er mo mf mt ma mc ms mq n) sz)) 0 0 (va_A (mdW h b1 b2 b3 b4 b5 b6 b7 cI cZ er mo mf mt ma mc ms mq n) sz) := by
  refine Met.ofW (cc := cX1_count) (maxL := 5) (ret := (some .int)) (by decide) rfl ?_
  intro p e s m args below meth c s₁ B hml hv
  obtain ⟨rfl, hsz, hP, hK, hD0⟩ := hv
  have hx := B.exec
  have hb := B.bytes
  have hr := B.returns
  have hts := atoms_spec (ws := .code yX1_count cX1_count 5 (some .int) :: tW) B.pre
  have hown : s.vm.findClass RX1 = some m.cls := findClass_of_methodNamed B.named
  have hlocks := B.notSynchronized
  have hl := lv_entry ([.ref h, .int x]) (n := 5) (Nat.le_of_ble_eq_true rfl)
  rw [lg_entry_eq]
  generalize (lg_sl ([.ref h, .int x]) ++ List.replicate (5 - (lg_sl ([.ref h, .int x])).length) Slot.unset).toArray = ls at hl ⊢
  have hl : lv_has ls 5 [(0, .ref h), (1, .int x)] := hl
  subst hsz
  have hD := hD0.self (sz := s.heap.size)
  generalize hAe : va_A (mdW h b1 b2 b3 b4 b5 b6 b7 cI cZ er mo mf mt ma mc ms mq n) s.heap.size = A at hD ⊢
  have hA : ∀ q : Nat, s.heap.size ≤ q → A q := fun q h => by rw [← hAe]; exact Or.inr h
  have hS : va_S A s.heap s.heap [] := va_S.rf
  have hok0 := hok
  obtain ⟨hn, hwf, hc2, hmo, hmf, hms, hmc⟩ := hok0
  refine lv_aload_n hx hb dX1_count_0 rfl (lv_at hl 0 rfl) ?_
  refine lv_iconst (v := nI 0) hx hb dX1_count_1 (by decide) ?_
  refine sX1_err hx hb hts hown hK hP hD hS 0 rfl rfl rfl (Nat.le_of_ble_eq_true rfl) dX1_count_2 (fun H locs hP hD hS => ?_)
  have hP : va_P D cdCl (mdW h b1 b2 b3 b4 b5 b6 b7 cI cZ (nI 0) mo mf mt ma mc ms mq n) H := hP
  have hD : va_D A (mdW h b1 b2 b3 b4 b5 b6 b7 cI cZ (nI 0) mo mf mt ma mc ms mq n) := hD
  refine lv_aload_n hx hb dX1_count_5 rfl (lv_at hl 0 rfl) ?_
  refine lv_iload_n hx hb dX1_count_6 rfl (lv_at hl 1 rfl) ?_
  refine lv_i2l hx hb dX1_count_7 rfl ?_
  refine lv_lconst (v := (nI 0).toInt64) hx hb dX1_count_8 (by decide) ?_
  refine lv_ldc2 (v := (nI 3).toInt64) hx hb hown (hts _ (List.mem_cons_of_mem _ (by have z := tm_415; exact z))) dX1_count_9 ?_
  refine cw_callSr (As := [.long (x).toInt64, .long (nI 0).toInt64, .long (nI 3).toInt64]) ⟨hx, hb, hml, hown, hts⟩ (c_X1_in l (x).toInt64 (nI 0).toInt64 (nI 3).toInt64) (kX1_X1_in hts 0 0 0 0 ⟨by decide, by decide⟩) rfl hl.1 rfl (Nat.le_of_ble_eq_true rfl) dX1_count_12 ⟨Nat.zero_le _, Nat.zero_le _⟩ ?_
  refine cw_topi (y := 0) (cd_bI_f (fun z => hbad ⟨by have := cd_l_le.mp z.1; rw [Int32.le_iff_toInt_le]; exact this, by have := cd_l_le.mp z.2; rw [show (nI 3).toInt = 3 from by decide] at this; rw [Int32.lt_iff_toInt_lt, show (nI 4).toInt = 4 from by decide]; omega⟩)) ?_
  refine lv_if_ne (tgt := 22) hx hb dX1_count_15 (by decide) (fun hc => ?_) (fun hc => ?_)
  · exact absurd rfl hc
  · refine lv_iconst (v := nI 1) hx hb dX1_count_18 (by decide) ?_
    refine lv_goto (tgt := 23) hx hb dX1_count_19 (by decide) ?_
    refine lv_iconst (v := nI 1) hx hb dX1_count_23 (by decide) ?_
    refine cw_callWi (As := [.int (nI 1), .int (nI 1)]) (S := Unit) (BW := (fun u => (mdW h b1 b2 b3 b4 b5 b6 b7 cI cZ (nI 1) mo mf mt ma mc ms mq n))) (wr := []) ⟨hx, hb, hml, hown, hts⟩ (c_X1_fails1 l D cI cZ h b1 b2 b3 b4 b5 b6 b7 mo mf mt ma mc ms mq o f sd c₀ n hok _ 1 (by decide) (by decide)) (kX1_X1_fails hts 0 0 0 0 ⟨by decide, by decide⟩) hK hP hD hS hA [0, 1, 2, 3, 4, 5, 6, 7] [] rfl rfl (by decide) (by decide) (by decide) (fun _ => rfl) 0 rfl rfl rfl rfl hl.1 rfl (Nat.le_of_ble_eq_true rfl) dX1_count_24 ⟨Nat.zero_le _, Nat.zero_le _⟩ (fun r u H locs hu hP hD hS => ?_)
    have hrr : r = 1 := hu
    subst hrr
    have hP : va_P D cdCl (mdW h b1 b2 b3 b4 b5 b6 b7 cI cZ (nI 1) mo mf mt ma mc ms mq n) H := hP
    have hD : va_D A (mdW h b1 b2 b3 b4 b5 b6 b7 cI cZ (nI 1) mo mf mt ma mc ms mq n) := hD
    refine lv_if_eq (tgt := 32) hx hb dX1_count_27 (by decide) (fun hc => ?_) (fun hc => ?_)
    · exact absurd hc (by decide)
    · refine lv_iconst (v := nI 0) hx hb dX1_count_30 (by decide) ?_
      exact W.iret (v := nI 0) hx hb hr (fun t ht hW => ⟨⟨nI 0, ((nI 1), mo, mf, mt, ma, mc, ms, mq), rfl, ⟨rfl, hok⟩, by show va_P D cdCl _ t.heap; rw [ht]; exact hP⟩, hS.F ht⟩) hS.2.2 dX1_count_31
set_option maxHeartbeats 4000000 in
set_option maxRecDepth 100000 in
/-- count(0) -/
theorem m0_X1_count (l : Launch) (D : va_G) (cI cZ : ClassId) (h b1 b2 b3 b4 b5 b6 b7 : Nat) (er : Int32) (mo mf mt ma mc ms mq : Nat → Int32) (o f : Nat → Nat) (sd : Nat → Bool) (c₀ : Nat → Nat) (n : Nat) (hok : cd_md o f sd c₀ n mo mf mc ms) (sz : Nat)  : Met l yX1_count (.code yX1_count cX1_count 5 (some .int) :: tW) (rmL 3) (cw_Pc D cdCl (dkT cI cZ) (mdW h b1 b2 b3 b4 b5 b6 b7 cI cZ er mo mf mt ma mc ms mq n) sz [.ref h, .int (nI 0)]) (va_Qi (fun (r : Int32) (u : mdS) => r = nI n ∧ u.1 = nI 0 ∧ mdP o f sd c₀ n u) (fun u t => va_P D cdCl (mdU h b1 b2 b3 b4 b5 b6 b7 cI cZ (n) u) t.heap) (va_A (mdW h b1 b2 b3 b4 b5 b6 b7 cI cZ er mo mf mt ma mc ms mq n) sz)) 0 0 (va_A (mdW h b1 b2 b3 b4 b5 b6 b7 cI cZ er mo mf mt ma mc ms mq n) sz) := by
  refine Met.ofW (cc := cX1_count) (maxL := 5) (ret := (some .int)) (by decide) rfl ?_
  intro p e s m args below meth c s₁ B hml hv
  obtain ⟨rfl, hsz, hP, hK, hD0⟩ := hv
  have hx := B.exec
  have hb := B.bytes
  have hr := B.returns
  have hts := atoms_spec (ws := .code yX1_count cX1_count 5 (some .int) :: tW) B.pre
  have hown : s.vm.findClass RX1 = some m.cls := findClass_of_methodNamed B.named
  have hlocks := B.notSynchronized
  have hl := lv_entry ([.ref h, .int (nI 0)]) (n := 5) (Nat.le_of_ble_eq_true rfl)
  rw [lg_entry_eq]
  generalize (lg_sl ([.ref h, .int (nI 0)]) ++ List.replicate (5 - (lg_sl ([.ref h, .int (nI 0)])).length) Slot.unset).toArray = ls at hl ⊢
  have hl : lv_has ls 5 [(0, .ref h), (1, .int (nI 0))] := hl
  subst hsz
  have hD := hD0.self (sz := s.heap.size)
  generalize hAe : va_A (mdW h b1 b2 b3 b4 b5 b6 b7 cI cZ er mo mf mt ma mc ms mq n) s.heap.size = A at hD ⊢
  have hA : ∀ q : Nat, s.heap.size ≤ q → A q := fun q h => by rw [← hAe]; exact Or.inr h
  have hS : va_S A s.heap s.heap [] := va_S.rf
  have hok0 := hok
  obtain ⟨hn, hwf, hc2, hmo, hmf, hms, hmc⟩ := hok0
  refine lv_aload_n hx hb dX1_count_0 rfl (lv_at hl 0 rfl) ?_
  refine lv_iconst (v := nI 0) hx hb dX1_count_1 (by decide) ?_
  refine sX1_err hx hb hts hown hK hP hD hS 0 rfl rfl rfl (Nat.le_of_ble_eq_true rfl) dX1_count_2 (fun H locs hP hD hS => ?_)
  have hP : va_P D cdCl (mdW h b1 b2 b3 b4 b5 b6 b7 cI cZ (nI 0) mo mf mt ma mc ms mq n) H := hP
  have hD : va_D A (mdW h b1 b2 b3 b4 b5 b6 b7 cI cZ (nI 0) mo mf mt ma mc ms mq n) := hD
  refine lv_aload_n hx hb dX1_count_5 rfl (lv_at hl 0 rfl) ?_
  refine lv_iload_n hx hb dX1_count_6 rfl (lv_at hl 1 rfl) ?_
  refine lv_i2l hx hb dX1_count_7 rfl ?_
  refine lv_lconst (v := (nI 0).toInt64) hx hb dX1_count_8 (by decide) ?_
  refine lv_ldc2 (v := (nI 3).toInt64) hx hb hown (hts _ (List.mem_cons_of_mem _ (by have z := tm_415; exact z))) dX1_count_9 ?_
  refine cw_callSr (As := [.long (nI 0).toInt64, .long (nI 0).toInt64, .long (nI 3).toInt64]) ⟨hx, hb, hml, hown, hts⟩ (c_X1_in l (nI 0).toInt64 (nI 0).toInt64 (nI 3).toInt64) (kX1_X1_in hts 0 0 0 0 ⟨by decide, by decide⟩) rfl hl.1 rfl (Nat.le_of_ble_eq_true rfl) dX1_count_12 ⟨Nat.zero_le _, Nat.zero_le _⟩ ?_
  refine cw_topi (y := 1) (cd_bI_t ⟨cd_l_le.mpr (by decide), cd_l_le.mpr (by decide)⟩) ?_
  refine lv_if_ne (tgt := 22) hx hb dX1_count_15 (by decide) (fun hc => ?_) (fun hc => ?_)
  · refine lv_iconst (v := nI 0) hx hb dX1_count_22 (by decide) ?_
    refine lv_iconst (v := nI 1) hx hb dX1_count_23 (by decide) ?_
    refine cw_callR (As := [.int (nI 0), .int (nI 1)]) ⟨hx, hb, hml, hown, hts⟩ (c_X1_fails0 l D cI cZ h b1 b2 b3 b4 b5 b6 b7 mo mf mt ma mc ms mq o f sd c₀ n hok (nI 1)) (kX1_X1_fails hts 0 0 0 0 ⟨by decide, by decide⟩) hK hP 0 rfl rfl rfl rfl hl.1 rfl (Nat.le_of_ble_eq_true rfl) dX1_count_24 ⟨Nat.zero_le _, Nat.zero_le _⟩ ?_
    refine lv_if_eq (tgt := 32) hx hb dX1_count_27 (by decide) (fun hc => ?_) (fun hc => ?_)
    · refine lv_iload_n hx hb dX1_count_32 rfl (lv_at hl 1 rfl) ?_
      refine lv_if_ne (tgt := 41) hx hb dX1_count_33 (by decide) (fun hc => ?_) (fun hc => ?_)
      · exact absurd rfl hc
      · refine lv_aload_n hx hb dX1_count_36 rfl (lv_at hl 0 rfl) ?_
        refine gX1_events hx hb hts hown hK hP 0 rfl rfl dX1_count_37 ?_
        exact W.iret (v := nI n) hx hb hr (fun t ht hW => ⟨⟨nI n, (nI 0, mo, mf, mt, ma, mc, ms, mq), rfl, ⟨rfl, rfl, hok⟩, by show va_P D cdCl _ t.heap; rw [ht]; exact hP⟩, hS.F ht⟩) hS.2.2 dX1_count_40
    · exact absurd rfl hc
  · exact absurd hc (by decide)
set_option maxHeartbeats 4000000 in
set_option maxRecDepth 100000 in
/-- count(1) -/
theorem m1_X1_count (l : Launch) (D : va_G) (cI cZ : ClassId) (h b1 b2 b3 b4 b5 b6 b7 : Nat) (er : Int32) (mo mf mt ma mc ms mq : Nat → Int32) (o f : Nat → Nat) (sd : Nat → Bool) (c₀ : Nat → Nat) (n : Nat) (hok : cd_md o f sd c₀ n mo mf mc ms) (sz : Nat)  : Met l yX1_count (.code yX1_count cX1_count 5 (some .int) :: tW) (rmL 3) (cw_Pc D cdCl (dkT cI cZ) (mdW h b1 b2 b3 b4 b5 b6 b7 cI cZ er mo mf mt ma mc ms mq n) sz [.ref h, .int (nI 1)]) (va_Qi (fun (r : Int32) (u : mdS) => r = nI (cd_ap o f n) ∧ u.1 = nI 0 ∧ mdP o f sd c₀ n u) (fun u t => va_P D cdCl (mdU h b1 b2 b3 b4 b5 b6 b7 cI cZ (n) u) t.heap) (va_A (mdW h b1 b2 b3 b4 b5 b6 b7 cI cZ er mo mf mt ma mc ms mq n) sz)) 0 0 (va_A (mdW h b1 b2 b3 b4 b5 b6 b7 cI cZ er mo mf mt ma mc ms mq n) sz) := by
  refine Met.ofW (cc := cX1_count) (maxL := 5) (ret := (some .int)) (by decide) rfl ?_
  intro p e s m args below meth c s₁ B hml hv
  obtain ⟨rfl, hsz, hP, hK, hD0⟩ := hv
  have hx := B.exec
  have hb := B.bytes
  have hr := B.returns
  have hts := atoms_spec (ws := .code yX1_count cX1_count 5 (some .int) :: tW) B.pre
  have hown : s.vm.findClass RX1 = some m.cls := findClass_of_methodNamed B.named
  have hlocks := B.notSynchronized
  have hl := lv_entry ([.ref h, .int (nI 1)]) (n := 5) (Nat.le_of_ble_eq_true rfl)
  rw [lg_entry_eq]
  generalize (lg_sl ([.ref h, .int (nI 1)]) ++ List.replicate (5 - (lg_sl ([.ref h, .int (nI 1)])).length) Slot.unset).toArray = ls at hl ⊢
  have hl : lv_has ls 5 [(0, .ref h), (1, .int (nI 1))] := hl
  subst hsz
  have hD := hD0.self (sz := s.heap.size)
  generalize hAe : va_A (mdW h b1 b2 b3 b4 b5 b6 b7 cI cZ er mo mf mt ma mc ms mq n) s.heap.size = A at hD ⊢
  have hA : ∀ q : Nat, s.heap.size ≤ q → A q := fun q h => by rw [← hAe]; exact Or.inr h
  have hS : va_S A s.heap s.heap [] := va_S.rf
  have hok0 := hok
  obtain ⟨hn, hwf, hc2, hmo, hmf, hms, hmc⟩ := hok0
  have loop : ∀ (d g : Nat) (mt mq : Nat → Int32) (H : Heap) (locs : List Loc) (ls : Array Slot), g + d = n → va_P D cdCl (mdW h b1 b2 b3 b4 b5 b6 b7 cI cZ (nI 0) mo mf mt ma mc ms mq n) H → va_S A s.heap H locs → lv_has ls 5 [(3, .int (nI g)), (2, .int (nI (cd_ap o f g))), (0, .ref h), (1, .int (nI 1))] → W p l e (rmL 3) s m (List.toArray [.ref h, .int (nI 1)]) below meth c H locs 0 0 (MQ below (va_Qi (fun (r : Int32) (u : mdS) => r = nI (cd_ap o f n) ∧ u.1 = nI 0 ∧ mdP o f sd c₀ n u) (fun u t => va_P D cdCl (mdU h b1 b2 b3 b4 b5 b6 b7 cI cZ (n) u) t.heap) (A)) (List.toArray [.ref h, .int (nI 1)]) s 0 0 A) (F0 m 55 ls []) := by
    intro d
    induction d with
    | zero =>
      intro g mt mq H locs ls hd hP hS hl
      have hD : va_D A (mdW h b1 b2 b3 b4 b5 b6 b7 cI cZ (nI 0) mo mf mt ma mc ms mq n) := cw_D_same hD rfl
      refine lv_iload_n hx hb dX1_count_55 rfl (lv_at hl 0 rfl) ?_
      refine lv_aload_n hx hb dX1_count_56 rfl (lv_at hl 2 rfl) ?_
      refine gX1_events hx hb hts hown hK hP 0 rfl rfl dX1_count_57 ?_
      refine cw_ge (tgt := 125) (x := g) (y := n) hx hb dX1_count_60 (by decide) (by omega) (by omega) (fun hc => ?_) (fun hc => ?_)
      · refine lv_iload_n hx hb dX1_count_125 rfl (lv_at hl 1 rfl) ?_
        refine cw_topi (y := nI (cd_ap o f n)) (by rw [show g = n by omega]) ?_
        exact W.iret (v := nI (cd_ap o f n)) hx hb hr (fun t ht hW => ⟨⟨nI (cd_ap o f n), ((nI 0), mo, mf, mt, ma, mc, ms, mq), rfl, ⟨rfl, rfl, hok⟩, by show va_P D cdCl _ t.heap; rw [ht]; exact hP⟩, hS.F ht⟩) hS.2.2 dX1_count_126
      · exact absurd hc (by omega)
    | succ d ih =>
      intro g mt mq H locs ls hd hP hS hl
      have hD : va_D A (mdW h b1 b2 b3 b4 b5 b6 b7 cI cZ (nI 0) mo mf mt ma mc ms mq n) := cw_D_same hD rfl
      refine lv_iload_n hx hb dX1_count_55 rfl (lv_at hl 0 rfl) ?_
      refine lv_aload_n hx hb dX1_count_56 rfl (lv_at hl 2 rfl) ?_
      refine gX1_events hx hb hts hown hK hP 0 rfl rfl dX1_count_57 ?_
      refine cw_ge (tgt := 125) (x := g) (y := n) hx hb dX1_count_60 (by decide) (by omega) (by omega) (fun hc => ?_) (fun hc => ?_)
      · exact absurd hc (by omega)
      · refine lv_iload_n hx hb dX1_count_63 rfl (lv_at hl 3 rfl) ?_
        refine lv_iconst (v := nI 2) hx hb dX1_count_64 (by decide) ?_
        refine cw_ne (tgt := 78) (x := 1) (y := 2) hx hb dX1_count_65 (by decide) (by omega) (by omega) (fun h3 => ?_) (fun h3 => ?_)
        · refine lv_iload_n hx hb dX1_count_78 rfl (lv_at hl 3 rfl) ?_
          refine lv_iconst (v := nI 1) hx hb dX1_count_79 (by decide) ?_
          refine cw_eq (tgt := 86) (x := 1) (y := 1) hx hb dX1_count_80 (by decide) (by omega) (by omega) (fun h4 => ?_) (fun h4 => ?_)
          · refine lv_aload_n hx hb dX1_count_86 rfl (lv_at hl 2 rfl) ?_
            refine lv_iload_n hx hb dX1_count_87 rfl (lv_at hl 0 rfl) ?_
            refine cw_callWv (As := [.int (nI g)]) (S := ((Nat → Int32) × (Nat → Int32))) (BW := (fun u => (mdW h b1 b2 b3 b4 b5 b6 b7 cI cZ (nI 0) mo mf u.1 ma mc ms u.2 n))) (wr := []) ⟨hx, hb, hml, hown, hts⟩ (c_X1_back l D cI cZ h b1 b2 b3 b4 b5 b6 b7 (nI 0) mo mf mt ma mc ms mq o f sd c₀ n hok _ g hc) (kX1_X1_back hts 1 0 0 30 ⟨by decide, by decide⟩) hK hP hD hS hA [0, 1, 2, 3, 4, 5, 6, 7] [] rfl rfl (by decide) (by decide) (by decide) (fun _ => rfl) 0 rfl rfl rfl rfl hl.1 rfl (Nat.le_of_ble_eq_true rfl) dX1_count_88 ⟨Nat.zero_le _, Nat.zero_le _⟩ (fun u H locs hu hP hD hS => ?_)
            obtain ⟨mt, mq⟩ := u
            have hq : ∀ i, i < n → mq i = cd_bI (i ≠ g ∧ cd_mn o (o i) i < cd_ck o f (g + 1) (o i)) := hu
            have hP : va_P D cdCl (mdW h b1 b2 b3 b4 b5 b6 b7 cI cZ (nI 0) mo mf mt ma mc ms mq n) H := hP
            have hD : va_D A (mdW h b1 b2 b3 b4 b5 b6 b7 cI cZ (nI 0) mo mf mt ma mc ms mq n) := hD
            have inner : ∀ (d2 i : Nat) (ls : Array Slot), i + d2 = g → lv_has ls 5 [(4, .int (nI i)), (2, .int (nI (cd_ap o f g + cd_ct (fun e => ¬ (e ≠ g ∧ cd_mn o (o e) e < cd_ck o f (g + 1) (o e))) i))), (3, .int (nI g)), (0, .ref h), (1, .int (nI 1))] → W p l e (rmL 3) s m (List.toArray [.ref h, .int (nI 1)]) below meth c H locs 0 0 (MQ below (va_Qi (fun (r : Int32) (u : mdS) => r = nI (cd_ap o f n) ∧ u.1 = nI 0 ∧ mdP o f sd c₀ n u) (fun u t => va_P D cdCl (mdU h b1 b2 b3 b4 b5 b6 b7 cI cZ (n) u) t.heap) (A)) (List.toArray [.ref h, .int (nI 1)]) s 0 0 A) (F0 m 94 ls []) := by
              intro d2
              induction d2 with
              | zero =>
                intro i ls hi hl
                refine lv_iload hx hb dX1_count_94 (lv_at hl 0 rfl) ?_
                refine lv_iload_n hx hb dX1_count_96 rfl (lv_at hl 2 rfl) ?_
                refine cw_ge (tgt := 119) (x := i) (y := g) hx hb dX1_count_97 (by decide) (by omega) (by omega) (fun h6 => ?_) (fun h6 => ?_)
                · refine lv_iinc (k := 2) (v := nI (g + 1)) hx hb dX1_count_119 hl rfl (cd_inc _) (by decide) rfl (fun ls hl => ?_)
                  have hl : lv_has ls 5 [(3, .int (nI (g + 1))), (4, .int (nI i)), (2, .int (nI (cd_ap o f g + cd_ct (fun e => ¬ (e ≠ g ∧ cd_mn o (o e) e < cd_ck o f (g + 1) (o e))) i))), (0, .ref h), (1, .int (nI 1))] := hl
                  refine lv_goto (tgt := 55) hx hb dX1_count_122 (by decide) ?_
                  have e9 : cd_ap o f g + cd_ct (fun e => ¬ (e ≠ g ∧ cd_mn o (o e) e < cd_ck o f (g + 1) (o e))) i = cd_ap o f (g + 1) := by rw [show i = g by omega, cd_ap_ct hwf hc, cd_ap_s]
                  exact ih (g + 1) mt mq H locs ls (by omega) hP hS (by rw [← e9]; exact (lv_sub hl [0, 2, 3, 4] rfl))
                · exact absurd h6 (by omega)
              | succ d2 ih2 =>
                intro i ls hi hl
                refine lv_iload hx hb dX1_count_94 (lv_at hl 0 rfl) ?_
                refine lv_iload_n hx hb dX1_count_96 rfl (lv_at hl 2 rfl) ?_
                refine cw_ge (tgt := 119) (x := i) (y := g) hx hb dX1_count_97 (by decide) (by omega) (by omega) (fun h6 => ?_) (fun h6 => ?_)
                · exact absurd h6 (by omega)
                · have hs : cd_ct (fun e => ¬ (e ≠ g ∧ cd_mn o (o e) e < cd_ck o f (g + 1) (o e))) (i + 1) = cd_ct (fun e => ¬ (e ≠ g ∧ cd_mn o (o e) e < cd_ck o f (g + 1) (o e))) i + (if ¬ (i ≠ g ∧ cd_mn o (o i) i < cd_ck o f (g + 1) (o i)) then 1 else 0) := rfl
                  refine lv_aload_n hx hb dX1_count_100 rfl (lv_at hl 3 rfl) ?_
                  refine gX1_seen hx hb hts hown hK hP 0 rfl rfl dX1_count_101 ?_
                  refine lv_iload hx hb dX1_count_104 (lv_at hl 0 rfl) ?_
                  refine cw_zald hx hb hK hP 7 1 rfl rfl (k := i) (v := cd_bI (i ≠ g ∧ cd_mn o (o i) i < cd_ck o f (g + 1) (o i))) (by omega) (by decide) (hq i (by omega)) dX1_count_106 ?_
                  refine lv_if_ne (tgt := 113) hx hb dX1_count_107 (by decide) (fun h7 => ?_) (fun h7 => ?_)
                  · rw [if_neg (fun z => h7 (cd_bI_z.mpr z))] at hs
                    refine lv_iinc (k := 0) (v := nI (i + 1)) hx hb dX1_count_113 hl rfl (cd_inc _) (by decide) rfl (fun ls hl => ?_)
                    have hl : lv_has ls 5 [(4, .int (nI (i + 1))), (2, .int (nI (cd_ap o f g + cd_ct (fun e => ¬ (e ≠ g ∧ cd_mn o (o e) e < cd_ck o f (g + 1) (o e))) i))), (3, .int (nI g)), (0, .ref h), (1, .int (nI 1))] := hl
                    refine lv_goto (tgt := 94) hx hb dX1_count_116 (by decide) ?_
                    exact ih2 (i + 1) ls (by omega) (by rw [hs]; exact (lv_sub hl [0, 1, 2, 3, 4] rfl))
                  · rw [if_pos (cd_bI_z.mp h7)] at hs
                    refine lv_iinc (k := 1) (v := nI ((cd_ap o f g + cd_ct (fun e => ¬ (e ≠ g ∧ cd_mn o (o e) e < cd_ck o f (g + 1) (o e))) i) + 1)) hx hb dX1_count_110 hl rfl (cd_inc _) (by decide) rfl (fun ls hl => ?_)
                    have hl : lv_has ls 5 [(2, .int (nI ((cd_ap o f g + cd_ct (fun e => ¬ (e ≠ g ∧ cd_mn o (o e) e < cd_ck o f (g + 1) (o e))) i) + 1))), (4, .int (nI i)), (3, .int (nI g)), (0, .ref h), (1, .int (nI 1))] := hl
                    refine lv_iinc (k := 1) (v := nI (i + 1)) hx hb dX1_count_113 hl rfl (cd_inc _) (by decide) rfl (fun ls hl => ?_)
                    have hl : lv_has ls 5 [(4, .int (nI (i + 1))), (2, .int (nI ((cd_ap o f g + cd_ct (fun e => ¬ (e ≠ g ∧ cd_mn o (o e) e < cd_ck o f (g + 1) (o e))) i) + 1))), (3, .int (nI g)), (0, .ref h), (1, .int (nI 1))] := hl
                    refine lv_goto (tgt := 94) hx hb dX1_count_116 (by decide) ?_
                    exact ih2 (i + 1) ls (by omega) (by rw [hs]; exact (lv_sub hl [0, 1, 2, 3, 4] rfl))
            refine lv_iconst (v := nI 0) hx hb dX1_count_91 (by decide) ?_
            refine lv_istore hx hb dX1_count_92 hl (by decide) rfl (fun ls hl => ?_)
            have hl : lv_has ls 5 [(4, .int (nI 0)), (3, .int (nI g)), (2, .int (nI (cd_ap o f g))), (0, .ref h), (1, .int (nI 1))] := hl
            exact inner g 0 ls (by omega) (lv_sub hl [0, 2, 1, 3, 4] rfl)
          · exact absurd rfl h4
        · exact absurd h3 (by decide)
  refine lv_aload_n hx hb dX1_count_0 rfl (lv_at hl 0 rfl) ?_
  refine lv_iconst (v := nI 0) hx hb dX1_count_1 (by decide) ?_
  refine sX1_err hx hb hts hown hK hP hD hS 0 rfl rfl rfl (Nat.le_of_ble_eq_true rfl) dX1_count_2 (fun H locs hP hD hS => ?_)
  have hP : va_P D cdCl (mdW h b1 b2 b3 b4 b5 b6 b7 cI cZ (nI 0) mo mf mt ma mc ms mq n) H := hP
  have hD : va_D A (mdW h b1 b2 b3 b4 b5 b6 b7 cI cZ (nI 0) mo mf mt ma mc ms mq n) := hD
  refine lv_aload_n hx hb dX1_count_5 rfl (lv_at hl 0 rfl) ?_
  refine lv_iload_n hx hb dX1_count_6 rfl (lv_at hl 1 rfl) ?_
  refine lv_i2l hx hb dX1_count_7 rfl ?_
  refine lv_lconst (v := (nI 0).toInt64) hx hb dX1_count_8 (by decide) ?_
  refine lv_ldc2 (v := (nI 3).toInt64) hx hb hown (hts _ (List.mem_cons_of_mem _ (by have z := tm_415; exact z))) dX1_count_9 ?_
  refine cw_callSr (As := [.long (nI 1).toInt64, .long (nI 0).toInt64, .long (nI 3).toInt64]) ⟨hx, hb, hml, hown, hts⟩ (c_X1_in l (nI 1).toInt64 (nI 0).toInt64 (nI 3).toInt64) (kX1_X1_in hts 0 0 0 0 ⟨by decide, by decide⟩) rfl hl.1 rfl (Nat.le_of_ble_eq_true rfl) dX1_count_12 ⟨Nat.zero_le _, Nat.zero_le _⟩ ?_
  refine cw_topi (y := 1) (cd_bI_t ⟨cd_l_le.mpr (by decide), cd_l_le.mpr (by decide)⟩) ?_
  refine lv_if_ne (tgt := 22) hx hb dX1_count_15 (by decide) (fun hc => ?_) (fun hc => ?_)
  · refine lv_iconst (v := nI 0) hx hb dX1_count_22 (by decide) ?_
    refine lv_iconst (v := nI 1) hx hb dX1_count_23 (by decide) ?_
    refine cw_callR (As := [.int (nI 0), .int (nI 1)]) ⟨hx, hb, hml, hown, hts⟩ (c_X1_fails0 l D cI cZ h b1 b2 b3 b4 b5 b6 b7 mo mf mt ma mc ms mq o f sd c₀ n hok (nI 1)) (kX1_X1_fails hts 0 0 0 0 ⟨by decide, by decide⟩) hK hP 0 rfl rfl rfl rfl hl.1 rfl (Nat.le_of_ble_eq_true rfl) dX1_count_24 ⟨Nat.zero_le _, Nat.zero_le _⟩ ?_
    refine lv_if_eq (tgt := 32) hx hb dX1_count_27 (by decide) (fun hc => ?_) (fun hc => ?_)
    · refine lv_iload_n hx hb dX1_count_32 rfl (lv_at hl 1 rfl) ?_
      refine lv_if_ne (tgt := 41) hx hb dX1_count_33 (by decide) (fun hc => ?_) (fun hc => ?_)
      · refine lv_iload_n hx hb dX1_count_41 rfl (lv_at hl 1 rfl) ?_
        refine lv_iconst (v := nI 3) hx hb dX1_count_42 (by decide) ?_
        refine cw_ne (tgt := 51) (x := 1) (y := 3) hx hb dX1_count_43 (by decide) (by omega) (by omega) (fun h3 => ?_) (fun h3 => ?_)
        · refine lv_iconst (v := nI 0) hx hb dX1_count_51 (by decide) ?_
          refine lv_istore_n hx hb dX1_count_52 rfl hl (by decide) rfl (fun ls hl => ?_)
          have hl : lv_has ls 5 [(2, .int (nI 0)), (0, .ref h), (1, .int (nI 1))] := hl
          refine lv_iconst (v := nI 0) hx hb dX1_count_53 (by decide) ?_
          refine lv_istore_n hx hb dX1_count_54 rfl hl (by decide) rfl (fun ls hl => ?_)
          have hl : lv_has ls 5 [(3, .int (nI 0)), (2, .int (nI 0)), (0, .ref h), (1, .int (nI 1))] := hl
          exact loop n 0 mt mq H locs ls (by omega) hP hS (lv_sub hl [0, 1, 2, 3] rfl)
        · exact absurd h3 (by decide)
      · exact absurd hc (by decide)
    · exact absurd rfl hc
  · exact absurd hc (by decide)
set_option maxHeartbeats 4000000 in
set_option maxRecDepth 100000 in
/-- count(2) -/
theorem m2_X1_count (l : Launch) (D : va_G) (cI cZ : ClassId) (h b1 b2 b3 b4 b5 b6 b7 : Nat) (er : Int32) (mo mf mt ma mc ms mq : Nat → Int32) (o f : Nat → Nat) (sd : Nat → Bool) (c₀ : Nat → Nat) (n : Nat) (hok : cd_md o f sd c₀ n mo mf mc ms) (sz : Nat)  : Met l yX1_count (.code yX1_count cX1_count 5 (some .int) :: tW) (rmL 3) (cw_Pc D cdCl (dkT cI cZ) (mdW h b1 b2 b3 b4 b5 b6 b7 cI cZ er mo mf mt ma mc ms mq n) sz [.ref h, .int (nI 2)]) (va_Qi (fun (r : Int32) (u : mdS) => r = nI (cd_gr o f n) ∧ u.1 = nI 0 ∧ mdP o f sd c₀ n u) (fun u t => va_P D cdCl (mdU h b1 b2 b3 b4 b5 b6 b7 cI cZ (n) u) t.heap) (va_A (mdW h b1 b2 b3 b4 b5 b6 b7 cI cZ er mo mf mt ma mc ms mq n) sz)) 0 0 (va_A (mdW h b1 b2 b3 b4 b5 b6 b7 cI cZ er mo mf mt ma mc ms mq n) sz) := by
  refine Met.ofW (cc := cX1_count) (maxL := 5) (ret := (some .int)) (by decide) rfl ?_
  intro p e s m args below meth c s₁ B hml hv
  obtain ⟨rfl, hsz, hP, hK, hD0⟩ := hv
  have hx := B.exec
  have hb := B.bytes
  have hr := B.returns
  have hts := atoms_spec (ws := .code yX1_count cX1_count 5 (some .int) :: tW) B.pre
  have hown : s.vm.findClass RX1 = some m.cls := findClass_of_methodNamed B.named
  have hlocks := B.notSynchronized
  have hl := lv_entry ([.ref h, .int (nI 2)]) (n := 5) (Nat.le_of_ble_eq_true rfl)
  rw [lg_entry_eq]
  generalize (lg_sl ([.ref h, .int (nI 2)]) ++ List.replicate (5 - (lg_sl ([.ref h, .int (nI 2)])).length) Slot.unset).toArray = ls at hl ⊢
  have hl : lv_has ls 5 [(0, .ref h), (1, .int (nI 2))] := hl
  subst hsz
  have hD := hD0.self (sz := s.heap.size)
  generalize hAe : va_A (mdW h b1 b2 b3 b4 b5 b6 b7 cI cZ er mo mf mt ma mc ms mq n) s.heap.size = A at hD ⊢
  have hA : ∀ q : Nat, s.heap.size ≤ q → A q := fun q h => by rw [← hAe]; exact Or.inr h
  have hS : va_S A s.heap s.heap [] := va_S.rf
  have hok0 := hok
  obtain ⟨hn, hwf, hc2, hmo, hmf, hms, hmc⟩ := hok0
  have loop : ∀ (d g : Nat) (ma : Nat → Int32) (H : Heap) (locs : List Loc) (ls : Array Slot), g + d = n → cd_gr o f g ≤ 200 → va_P D cdCl (mdW h b1 b2 b3 b4 b5 b6 b7 cI cZ (nI 0) mo mf mt ma mc ms mq n) H → va_S A s.heap H locs → lv_has ls 5 [(3, .int (nI g)), (2, .int (nI (cd_gr o f g))), (0, .ref h), (1, .int (nI 2))] → W p l e (rmL 3) s m (List.toArray [.ref h, .int (nI 2)]) below meth c H locs 0 0 (MQ below (va_Qi (fun (r : Int32) (u : mdS) => r = nI (cd_gr o f n) ∧ u.1 = nI 0 ∧ mdP o f sd c₀ n u) (fun u t => va_P D cdCl (mdU h b1 b2 b3 b4 b5 b6 b7 cI cZ (n) u) t.heap) (A)) (List.toArray [.ref h, .int (nI 2)]) s 0 0 A) (F0 m 55 ls []) := by
    intro d
    induction d with
    | zero =>
      intro g ma H locs ls hd hg2 hP hS hl
      have hD : va_D A (mdW h b1 b2 b3 b4 b5 b6 b7 cI cZ (nI 0) mo mf mt ma mc ms mq n) := cw_D_same hD rfl
      refine lv_iload_n hx hb dX1_count_55 rfl (lv_at hl 0 rfl) ?_
      refine lv_aload_n hx hb dX1_count_56 rfl (lv_at hl 2 rfl) ?_
      refine gX1_events hx hb hts hown hK hP 0 rfl rfl dX1_count_57 ?_
      refine cw_ge (tgt := 125) (x := g) (y := n) hx hb dX1_count_60 (by decide) (by omega) (by omega) (fun hc => ?_) (fun hc => ?_)
      · refine lv_iload_n hx hb dX1_count_125 rfl (lv_at hl 1 rfl) ?_
        refine cw_topi (y := nI (cd_gr o f n)) (by rw [show g = n by omega]) ?_
        exact W.iret (v := nI (cd_gr o f n)) hx hb hr (fun t ht hW => ⟨⟨nI (cd_gr o f n), ((nI 0), mo, mf, mt, ma, mc, ms, mq), rfl, ⟨rfl, rfl, hok⟩, by show va_P D cdCl _ t.heap; rw [ht]; exact hP⟩, hS.F ht⟩) hS.2.2 dX1_count_126
      · exact absurd hc (by omega)
    | succ d ih =>
      intro g ma H locs ls hd hg2 hP hS hl
      have hD : va_D A (mdW h b1 b2 b3 b4 b5 b6 b7 cI cZ (nI 0) mo mf mt ma mc ms mq n) := cw_D_same hD rfl
      refine lv_iload_n hx hb dX1_count_55 rfl (lv_at hl 0 rfl) ?_
      refine lv_aload_n hx hb dX1_count_56 rfl (lv_at hl 2 rfl) ?_
      refine gX1_events hx hb hts hown hK hP 0 rfl rfl dX1_count_57 ?_
      refine cw_ge (tgt := 125) (x := g) (y := n) hx hb dX1_count_60 (by decide) (by omega) (by omega) (fun hc => ?_) (fun hc => ?_)
      · exact absurd hc (by omega)
      · refine lv_iload_n hx hb dX1_count_63 rfl (lv_at hl 3 rfl) ?_
        refine lv_iconst (v := nI 2) hx hb dX1_count_64 (by decide) ?_
        refine cw_ne (tgt := 78) (x := 2) (y := 2) hx hb dX1_count_65 (by decide) (by omega) (by omega) (fun h3 => ?_) (fun h3 => ?_)
        · exact absurd rfl h3
        · have hrl := cd_rk_le hwf (g + 1) hc
          refine lv_iload_n hx hb dX1_count_68 rfl (lv_at hl 1 rfl) ?_
          refine lv_aload_n hx hb dX1_count_69 rfl (lv_at hl 2 rfl) ?_
          refine lv_iload_n hx hb dX1_count_70 rfl (lv_at hl 0 rfl) ?_
          refine cw_callWi (As := [.int (nI g)]) (S := (Nat → Int32)) (BW := (fun u => (mdW h b1 b2 b3 b4 b5 b6 b7 cI cZ (nI 0) mo mf mt u mc ms mq n))) (wr := []) ⟨hx, hb, hml, hown, hts⟩ (c_X1_longest l D cI cZ h b1 b2 b3 b4 b5 b6 b7 (nI 0) mo mf mt ma mc ms mq o f sd c₀ n hok _ g hc) (kX1_X1_longest hts 1 0 0 30 ⟨by decide, by decide⟩) hK hP hD hS hA [0, 1, 2, 3, 4, 5, 6, 7] [] rfl rfl (by decide) (by decide) (by decide) (fun _ => rfl) 0 rfl rfl rfl rfl hl.1 rfl (Nat.le_of_ble_eq_true rfl) dX1_count_71 ⟨Nat.zero_le _, Nat.zero_le _⟩ (fun r u H locs hu hP hD hS => ?_)
          obtain ⟨ma, rfl⟩ : ∃ z, z = u := ⟨_, rfl⟩
          have hrr : r = nI (cd_rk o f (g + 1)) := hu
          subst hrr
          have hP : va_P D cdCl (mdW h b1 b2 b3 b4 b5 b6 b7 cI cZ (nI 0) mo mf mt ma mc ms mq n) H := hP
          have hD : va_D A (mdW h b1 b2 b3 b4 b5 b6 b7 cI cZ (nI 0) mo mf mt ma mc ms mq n) := hD
          refine va_mmax hx hb (hml.trans hl.1.symm) hown (hts _ (List.mem_cons_of_mem _ tm_378)) (hts _ (List.mem_cons_of_mem _ tm_67)) (hts _ (List.mem_cons_of_mem _ tm_8)) (hts _ (List.mem_cons_of_mem _ tm_68)) (Nat.le_of_ble_eq_true rfl) (Nat.le_of_ble_eq_true rfl) (Nat.zero_le _) (Nat.zero_le _) dX1_count_74 ?_
          refine cw_topi (y := nI (cd_gr o f (g + 1))) (cd_max (by omega) (by omega)) ?_
          refine lv_istore_n hx hb dX1_count_77 rfl hl (by decide) rfl (fun ls hl => ?_)
          have hl : lv_has ls 5 [(2, .int (nI (cd_gr o f (g + 1)))), (3, .int (nI g)), (0, .ref h), (1, .int (nI 2))] := hl
          refine lv_iload_n hx hb dX1_count_78 rfl (lv_at hl 3 rfl) ?_
          refine lv_iconst (v := nI 1) hx hb dX1_count_79 (by decide) ?_
          refine cw_eq (tgt := 86) (x := 2) (y := 1) hx hb dX1_count_80 (by decide) (by omega) (by omega) (fun h4 => ?_) (fun h4 => ?_)
          · exact absurd h4 (by decide)
          · refine lv_goto (tgt := 119) hx hb dX1_count_83 (by decide) ?_
            refine lv_iinc (k := 1) (v := nI (g + 1)) hx hb dX1_count_119 hl rfl (cd_inc _) (by decide) rfl (fun ls hl => ?_)
            have hl : lv_has ls 5 [(3, .int (nI (g + 1))), (2, .int (nI (cd_gr o f (g + 1)))), (0, .ref h), (1, .int (nI 2))] := hl
            refine lv_goto (tgt := 55) hx hb dX1_count_122 (by decide) ?_
            exact ih (g + 1) ma H locs ls (by omega) (by show max _ _ ≤ _; omega) hP hS (lv_sub hl [0, 1, 2, 3] rfl)
  refine lv_aload_n hx hb dX1_count_0 rfl (lv_at hl 0 rfl) ?_
  refine lv_iconst (v := nI 0) hx hb dX1_count_1 (by decide) ?_
  refine sX1_err hx hb hts hown hK hP hD hS 0 rfl rfl rfl (Nat.le_of_ble_eq_true rfl) dX1_count_2 (fun H locs hP hD hS => ?_)
  have hP : va_P D cdCl (mdW h b1 b2 b3 b4 b5 b6 b7 cI cZ (nI 0) mo mf mt ma mc ms mq n) H := hP
  have hD : va_D A (mdW h b1 b2 b3 b4 b5 b6 b7 cI cZ (nI 0) mo mf mt ma mc ms mq n) := hD
  refine lv_aload_n hx hb dX1_count_5 rfl (lv_at hl 0 rfl) ?_
  refine lv_iload_n hx hb dX1_count_6 rfl (lv_at hl 1 rfl) ?_
  refine lv_i2l hx hb dX1_count_7 rfl ?_
  refine lv_lconst (v := (nI 0).toInt64) hx hb dX1_count_8 (by decide) ?_
  refine lv_ldc2 (v := (nI 3).toInt64) hx hb hown (hts _ (List.mem_cons_of_mem _ (by have z := tm_415; exact z))) dX1_count_9 ?_
  refine cw_callSr (As := [.long (nI 2).toInt64, .long (nI 0).toInt64, .long (nI 3).toInt64]) ⟨hx, hb, hml, hown, hts⟩ (c_X1_in l (nI 2).toInt64 (nI 0).toInt64 (nI 3).toInt64) (kX1_X1_in hts 0 0 0 0 ⟨by decide, by decide⟩) rfl hl.1 rfl (Nat.le_of_ble_eq_true rfl) dX1_count_12 ⟨Nat.zero_le _, Nat.zero_le _⟩ ?_
  refine cw_topi (y := 1) (cd_bI_t ⟨cd_l_le.mpr (by decide), cd_l_le.mpr (by decide)⟩) ?_
  refine lv_if_ne (tgt := 22) hx hb dX1_count_15 (by decide) (fun hc => ?_) (fun hc => ?_)
  · refine lv_iconst (v := nI 0) hx hb dX1_count_22 (by decide) ?_
    refine lv_iconst (v := nI 1) hx hb dX1_count_23 (by decide) ?_
    refine cw_callR (As := [.int (nI 0), .int (nI 1)]) ⟨hx, hb, hml, hown, hts⟩ (c_X1_fails0 l D cI cZ h b1 b2 b3 b4 b5 b6 b7 mo mf mt ma mc ms mq o f sd c₀ n hok (nI 1)) (kX1_X1_fails hts 0 0 0 0 ⟨by decide, by decide⟩) hK hP 0 rfl rfl rfl rfl hl.1 rfl (Nat.le_of_ble_eq_true rfl) dX1_count_24 ⟨Nat.zero_le _, Nat.zero_le _⟩ ?_
    refine lv_if_eq (tgt := 32) hx hb dX1_count_27 (by decide) (fun hc => ?_) (fun hc => ?_)
    · refine lv_iload_n hx hb dX1_count_32 rfl (lv_at hl 1 rfl) ?_
      refine lv_if_ne (tgt := 41) hx hb dX1_count_33 (by decide) (fun hc => ?_) (fun hc => ?_)
      · refine lv_iload_n hx hb dX1_count_41 rfl (lv_at hl 1 rfl) ?_
        refine lv_iconst (v := nI 3) hx hb dX1_count_42 (by decide) ?_
        refine cw_ne (tgt := 51) (x := 2) (y := 3) hx hb dX1_count_43 (by decide) (by omega) (by omega) (fun h3 => ?_) (fun h3 => ?_)
        · refine lv_iconst (v := nI 0) hx hb dX1_count_51 (by decide) ?_
          refine lv_istore_n hx hb dX1_count_52 rfl hl (by decide) rfl (fun ls hl => ?_)
          have hl : lv_has ls 5 [(2, .int (nI 0)), (0, .ref h), (1, .int (nI 2))] := hl
          refine lv_iconst (v := nI 0) hx hb dX1_count_53 (by decide) ?_
          refine lv_istore_n hx hb dX1_count_54 rfl hl (by decide) rfl (fun ls hl => ?_)
          have hl : lv_has ls 5 [(3, .int (nI 0)), (2, .int (nI 0)), (0, .ref h), (1, .int (nI 2))] := hl
          exact loop n 0 ma H locs ls (by omega) (Nat.zero_le _) hP hS (lv_sub hl [0, 1, 2, 3] rfl)
        · exact absurd h3 (by decide)
      · exact absurd hc (by decide)
    · exact absurd rfl hc
  · exact absurd hc (by decide)
set_option maxHeartbeats 4000000 in
set_option maxRecDepth 100000 in
/-- count(3) -/
theorem m3_X1_count (l : Launch) (D : va_G) (cI cZ : ClassId) (h b1 b2 b3 b4 b5 b6 b7 : Nat) (er : Int32) (mo mf mt ma mc ms mq : Nat → Int32) (o f : Nat → Nat) (sd : Nat → Bool) (c₀ : Nat → Nat) (n : Nat) (hok : cd_md o f sd c₀ n mo mf mc ms) (sz : Nat) (hbd : ∀ p, p < 6 → c₀ p ≤ cd_mn o p n) : Met l yX1_count (.code yX1_count cX1_count 5 (some .int) :: tW) (rmL 3) (cw_Pc D cdCl (dkT cI cZ) (mdW h b1 b2 b3 b4 b5 b6 b7 cI cZ er mo mf mt ma mc ms mq n) sz [.ref h, .int (nI 3)]) (va_Qi (fun (r : Int32) (u : mdS) => r = nI (cd_s6 c₀) ∧ u.1 = nI 0 ∧ mdP o f sd c₀ n u) (fun u t => va_P D cdCl (mdU h b1 b2 b3 b4 b5 b6 b7 cI cZ (n) u) t.heap) (va_A (mdW h b1 b2 b3 b4 b5 b6 b7 cI cZ er mo mf mt ma mc ms mq n) sz)) 0 0 (va_A (mdW h b1 b2 b3 b4 b5 b6 b7 cI cZ er mo mf mt ma mc ms mq n) sz) := by
  refine Met.ofW (cc := cX1_count) (maxL := 5) (ret := (some .int)) (by decide) rfl ?_
  intro p e s m args below meth c s₁ B hml hv
  obtain ⟨rfl, hsz, hP, hK, hD0⟩ := hv
  have hx := B.exec
  have hb := B.bytes
  have hr := B.returns
  have hts := atoms_spec (ws := .code yX1_count cX1_count 5 (some .int) :: tW) B.pre
  have hown : s.vm.findClass RX1 = some m.cls := findClass_of_methodNamed B.named
  have hlocks := B.notSynchronized
  have hl := lv_entry ([.ref h, .int (nI 3)]) (n := 5) (Nat.le_of_ble_eq_true rfl)
  rw [lg_entry_eq]
  generalize (lg_sl ([.ref h, .int (nI 3)]) ++ List.replicate (5 - (lg_sl ([.ref h, .int (nI 3)])).length) Slot.unset).toArray = ls at hl ⊢
  have hl : lv_has ls 5 [(0, .ref h), (1, .int (nI 3))] := hl
  subst hsz
  have hD := hD0.self (sz := s.heap.size)
  generalize hAe : va_A (mdW h b1 b2 b3 b4 b5 b6 b7 cI cZ er mo mf mt ma mc ms mq n) s.heap.size = A at hD ⊢
  have hA : ∀ q : Nat, s.heap.size ≤ q → A q := fun q h => by rw [← hAe]; exact Or.inr h
  have hS : va_S A s.heap s.heap [] := va_S.rf
  have hok0 := hok
  obtain ⟨hn, hwf, hc2, hmo, hmf, hms, hmc⟩ := hok0
  refine lv_aload_n hx hb dX1_count_0 rfl (lv_at hl 0 rfl) ?_
  refine lv_iconst (v := nI 0) hx hb dX1_count_1 (by decide) ?_
  refine sX1_err hx hb hts hown hK hP hD hS 0 rfl rfl rfl (Nat.le_of_ble_eq_true rfl) dX1_count_2 (fun H locs hP hD hS => ?_)
  have hP : va_P D cdCl (mdW h b1 b2 b3 b4 b5 b6 b7 cI cZ (nI 0) mo mf mt ma mc ms mq n) H := hP
  have hD : va_D A (mdW h b1 b2 b3 b4 b5 b6 b7 cI cZ (nI 0) mo mf mt ma mc ms mq n) := hD
  refine lv_aload_n hx hb dX1_count_5 rfl (lv_at hl 0 rfl) ?_
  refine lv_iload_n hx hb dX1_count_6 rfl (lv_at hl 1 rfl) ?_
  refine lv_i2l hx hb dX1_count_7 rfl ?_
  refine lv_lconst (v := (nI 0).toInt64) hx hb dX1_count_8 (by decide) ?_
  refine lv_ldc2 (v := (nI 3).toInt64) hx hb hown (hts _ (List.mem_cons_of_mem _ (by have z := tm_415; exact z))) dX1_count_9 ?_
  refine cw_callSr (As := [.long (nI 3).toInt64, .long (nI 0).toInt64, .long (nI 3).toInt64]) ⟨hx, hb, hml, hown, hts⟩ (c_X1_in l (nI 3).toInt64 (nI 0).toInt64 (nI 3).toInt64) (kX1_X1_in hts 0 0 0 0 ⟨by decide, by decide⟩) rfl hl.1 rfl (Nat.le_of_ble_eq_true rfl) dX1_count_12 ⟨Nat.zero_le _, Nat.zero_le _⟩ ?_
  refine cw_topi (y := 1) (cd_bI_t ⟨cd_l_le.mpr (by decide), cd_l_le.mpr (by decide)⟩) ?_
  refine lv_if_ne (tgt := 22) hx hb dX1_count_15 (by decide) (fun hc => ?_) (fun hc => ?_)
  · refine lv_iconst (v := nI 0) hx hb dX1_count_22 (by decide) ?_
    refine lv_iconst (v := nI 1) hx hb dX1_count_23 (by decide) ?_
    refine cw_callR (As := [.int (nI 0), .int (nI 1)]) ⟨hx, hb, hml, hown, hts⟩ (c_X1_fails0 l D cI cZ h b1 b2 b3 b4 b5 b6 b7 mo mf mt ma mc ms mq o f sd c₀ n hok (nI 1)) (kX1_X1_fails hts 0 0 0 0 ⟨by decide, by decide⟩) hK hP 0 rfl rfl rfl rfl hl.1 rfl (Nat.le_of_ble_eq_true rfl) dX1_count_24 ⟨Nat.zero_le _, Nat.zero_le _⟩ ?_
    refine lv_if_eq (tgt := 32) hx hb dX1_count_27 (by decide) (fun hc => ?_) (fun hc => ?_)
    · refine lv_iload_n hx hb dX1_count_32 rfl (lv_at hl 1 rfl) ?_
      refine lv_if_ne (tgt := 41) hx hb dX1_count_33 (by decide) (fun hc => ?_) (fun hc => ?_)
      · refine lv_iload_n hx hb dX1_count_41 rfl (lv_at hl 1 rfl) ?_
        refine lv_iconst (v := nI 3) hx hb dX1_count_42 (by decide) ?_
        refine cw_ne (tgt := 51) (x := 3) (y := 3) hx hb dX1_count_43 (by decide) (by omega) (by omega) (fun h3 => ?_) (fun h3 => ?_)
        · exact absurd rfl h3
        · refine lv_aload_n hx hb dX1_count_46 rfl (lv_at hl 0 rfl) ?_
          refine cw_callR (As := []) ⟨hx, hb, hml, hown, hts⟩ (c_X1_inCut l D cI cZ h b1 b2 b3 b4 b5 b6 b7 (nI 0) mo mf mt ma mc ms mq o f sd c₀ n hok ) (kX1_X1_inCut hts 2 0 0 60 ⟨by decide, by decide⟩) hK hP 0 rfl rfl rfl rfl hl.1 rfl (Nat.le_of_ble_eq_true rfl) dX1_count_47 ⟨Nat.zero_le _, Nat.zero_le _⟩ ?_
          refine cw_topi (y := nI (cd_s6 c₀)) (by rw [cd_in_s6 hwf hbd]) ?_
          exact W.iret (v := nI (cd_s6 c₀)) hx hb hr (fun t ht hW => ⟨⟨nI (cd_s6 c₀), (nI 0, mo, mf, mt, ma, mc, ms, mq), rfl, ⟨rfl, rfl, hok⟩, by show va_P D cdCl _ t.heap; rw [ht]; exact hP⟩, hS.F ht⟩) hS.2.2 dX1_count_50
      · exact absurd hc (by decide)
    · exact absurd rfl hc
  · exact absurd hc (by decide)
