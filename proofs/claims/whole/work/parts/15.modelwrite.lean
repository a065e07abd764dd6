/-! THE MODEL: fails1, made, own, receive, undo, cut -/
set_option maxHeartbeats 4000000 in
set_option maxRecDepth 100000 in
/-- fails: something is wrong -/
theorem c_X1_fails1 (l : Launch) (D : va_G) (cI cZ : ClassId) (h b1 b2 b3 b4 b5 b6 b7 : Nat) (mo mf mt ma mc ms mq : Nat → Int32) (o f : Nat → Nat) (sd : Nat → Bool) (c₀ : Nat → Nat) (n : Nat) (hok : cd_md o f sd c₀ n mo mf mc ms) (sz : Nat) (cd : Nat) (h0 : 0 < cd) (h3 : cd < 3) : Met l yX1_fails (.code yX1_fails cX1_fails 3 (some .boolean) :: tW) (rmL 0) (cw_Pc D cdCl (dkT cI cZ) (mdW h b1 b2 b3 b4 b5 b6 b7 cI cZ (nI 0) mo mf mt ma mc ms mq n) sz [.ref h, .int (nI 1), .int (nI cd)]) (va_Qi (fun (r : Int32) (u : Unit) => r = 1) (fun u t => va_P D cdCl ((fun u => (mdW h b1 b2 b3 b4 b5 b6 b7 cI cZ (nI cd) mo mf mt ma mc ms mq n)) u) t.heap) (va_A (mdW h b1 b2 b3 b4 b5 b6 b7 cI cZ (nI 0) mo mf mt ma mc ms mq n) sz)) 0 0 (va_A (mdW h b1 b2 b3 b4 b5 b6 b7 cI cZ (nI 0) mo mf mt ma mc ms mq n) sz) := by
  refine Met.ofW (cc := cX1_fails) (maxL := 3) (ret := (some .boolean)) (by decide) rfl ?_
  intro p e s m args below meth c s₁ B hml hv
  obtain ⟨rfl, hsz, hP, hK, hD0⟩ := hv
  have hx := B.exec
  have hb := B.bytes
  have hr := B.returns
  have hts := atoms_spec (ws := .code yX1_fails cX1_fails 3 (some .boolean) :: tW) B.pre
  have hown : s.vm.findClass RX1 = some m.cls := findClass_of_methodNamed B.named
  have hlocks := B.notSynchronized
  have hl := lv_entry ([.ref h, .int (nI 1), .int (nI cd)]) (n := 3) (Nat.le_of_ble_eq_true rfl)
  rw [lg_entry_eq]
  generalize (lg_sl ([.ref h, .int (nI 1), .int (nI cd)]) ++ List.replicate (3 - (lg_sl ([.ref h, .int (nI 1), .int (nI cd)])).length) Slot.unset).toArray = ls at hl ⊢
  have hl : lv_has ls 3 [(0, .ref h), (1, .int (nI 1)), (2, .int (nI cd))] := hl
  subst hsz
  have hD := hD0.self (sz := s.heap.size)
  generalize hAe : va_A (mdW h b1 b2 b3 b4 b5 b6 b7 cI cZ (nI 0) mo mf mt ma mc ms mq n) s.heap.size = A at hD ⊢
  have hA : ∀ q : Nat, s.heap.size ≤ q → A q := fun q h => by rw [← hAe]; exact Or.inr h
  have hS : va_S A s.heap s.heap [] := va_S.rf
  have hok0 := hok
  obtain ⟨hn, hwf, hc2, hmo, hmf, hms, hmc⟩ := hok0
  refine lv_iload_n hx hb dX1_fails_0 rfl (lv_at hl 1 rfl) ?_
  refine lv_if_eq (tgt := 16) hx hb dX1_fails_1 (by decide) (fun hc => ?_) (fun hc => ?_)
  · exact absurd hc (by decide)
  · refine lv_aload_n hx hb dX1_fails_4 rfl (lv_at hl 0 rfl) ?_
    refine gX1_err hx hb hts hown hK hP 0 rfl rfl dX1_fails_5 ?_
    refine lv_if_ne (tgt := 16) hx hb dX1_fails_8 (by decide) (fun hc3 => ?_) (fun hc3 => ?_)
    · exact absurd rfl hc3
    · refine lv_aload_n hx hb dX1_fails_11 rfl (lv_at hl 0 rfl) ?_
      refine lv_iload_n hx hb dX1_fails_12 rfl (lv_at hl 2 rfl) ?_
      refine sX1_err hx hb hts hown hK hP hD hS 0 rfl rfl rfl (Nat.le_of_ble_eq_true rfl) dX1_fails_13 (fun H locs hP hD hS => ?_)
      have hP : va_P D cdCl (mdW h b1 b2 b3 b4 b5 b6 b7 cI cZ (nI cd) mo mf mt ma mc ms mq n) H := hP
      have hD : va_D A (mdW h b1 b2 b3 b4 b5 b6 b7 cI cZ (nI cd) mo mf mt ma mc ms mq n) := hD
      refine lv_aload_n hx hb dX1_fails_16 rfl (lv_at hl 0 rfl) ?_
      refine gX1_err hx hb hts hown hK hP 0 rfl rfl dX1_fails_17 ?_
      refine lv_if_eq (tgt := 27) hx hb dX1_fails_20 (by decide) (fun hc4 => ?_) (fun hc4 => ?_)
      · exact absurd hc4 (nI_ne0 h0 (by omega))
      · refine lv_iconst (v := nI 1) hx hb dX1_fails_23 (by decide) ?_
        refine lv_goto (tgt := 28) hx hb dX1_fails_24 (by decide) ?_
        refine cw_topi (y := 1) (by decide) ?_
        exact W.zret (v := 1) hx hb hr (by first | rfl | exact cd_bI_nar) (fun t ht hW => ⟨⟨1, (), rfl, rfl, by show va_P D cdCl _ t.heap; rw [ht]; exact hP⟩, hS.F ht⟩) hS.2.2 dX1_fails_28
set_option maxHeartbeats 4000000 in
set_option maxRecDepth 100000 in
/-- made -/
theorem c_X1_made (l : Launch) (D : va_G) (cI cZ : ClassId) (h b1 b2 b3 b4 b5 b6 b7 : Nat) (er : Int32) (mo mf mt ma mc ms mq : Nat → Int32) (o f : Nat → Nat) (sd : Nat → Bool) (c₀ : Nat → Nat) (n : Nat) (hok : cd_md o f sd c₀ n mo mf mc ms) (sz : Nat) (p₁ j : Nat) (b : Bool) (hr2 : n < 200) : Met l yX1_made (.code yX1_made cX1_made 4 (some .int) :: tW) (rmL 0) (cw_Pc D cdCl (dkT cI cZ) (mdW h b1 b2 b3 b4 b5 b6 b7 cI cZ er mo mf mt ma mc ms mq n) sz [.ref h, .int (nI p₁), .int (cd_pI j), .int (cd_bI (b = true))]) (va_Qi (fun (r : Int32) (u : Unit) => r = nI n) (fun u t => va_P D cdCl ((fun u => (mdW h b1 b2 b3 b4 b5 b6 b7 cI cZ er (upd mo n (nI p₁)) (upd mf n (cd_pI j)) mt ma mc (upd ms n (cd_bI (b = true))) mq (n + 1))) u) t.heap) (va_A (mdW h b1 b2 b3 b4 b5 b6 b7 cI cZ er mo mf mt ma mc ms mq n) sz)) 0 0 (va_A (mdW h b1 b2 b3 b4 b5 b6 b7 cI cZ er mo mf mt ma mc ms mq n) sz) := by
  refine Met.ofW (cc := cX1_made) (maxL := 4) (ret := (some .int)) (by decide) rfl ?_
  intro p e s m args below meth c s₁ B hml hv
  obtain ⟨rfl, hsz, hP, hK, hD0⟩ := hv
  have hx := B.exec
  have hb := B.bytes
  have hr := B.returns
  have hts := atoms_spec (ws := .code yX1_made cX1_made 4 (some .int) :: tW) B.pre
  have hown : s.vm.findClass RX1 = some m.cls := findClass_of_methodNamed B.named
  have hlocks := B.notSynchronized
  have hl := lv_entry ([.ref h, .int (nI p₁), .int (cd_pI j), .int (cd_bI (b = true))]) (n := 4) (Nat.le_of_ble_eq_true rfl)
  rw [lg_entry_eq]
  generalize (lg_sl ([.ref h, .int (nI p₁), .int (cd_pI j), .int (cd_bI (b = true))]) ++ List.replicate (4 - (lg_sl ([.ref h, .int (nI p₁), .int (cd_pI j), .int (cd_bI (b = true))])).length) Slot.unset).toArray = ls at hl ⊢
  have hl : lv_has ls 4 [(0, .ref h), (1, .int (nI p₁)), (2, .int (cd_pI j)), (3, .int (cd_bI (b = true)))] := hl
  subst hsz
  have hD := hD0.self (sz := s.heap.size)
  generalize hAe : va_A (mdW h b1 b2 b3 b4 b5 b6 b7 cI cZ er mo mf mt ma mc ms mq n) s.heap.size = A at hD ⊢
  have hA : ∀ q : Nat, s.heap.size ≤ q → A q := fun q h => by rw [← hAe]; exact Or.inr h
  have hS : va_S A s.heap s.heap [] := va_S.rf
  have hok0 := hok
  obtain ⟨hn, hwf, hc2, hmo, hmf, hms, hmc⟩ := hok0
  refine lv_aload_n hx hb dX1_made_0 rfl (lv_at hl 0 rfl) ?_
  refine gX1_of hx hb hts hown hK hP 0 rfl rfl dX1_made_1 ?_
  refine lv_aload_n hx hb dX1_made_4 rfl (lv_at hl 0 rfl) ?_
  refine gX1_events hx hb hts hown hK hP 0 rfl rfl dX1_made_5 ?_
  refine lv_iload_n hx hb dX1_made_8 rfl (lv_at hl 1 rfl) ?_
  refine cw_iast hx hb hK hP hD hS 1 0 rfl rfl (k := n) (by omega) (by decide) dX1_made_9 (fun H locs hP hD hS => ?_)
  have hP : va_P D cdCl (mdW h b1 b2 b3 b4 b5 b6 b7 cI cZ er (upd mo n (nI p₁)) mf mt ma mc ms mq n) H := hP
  have hD : va_D A (mdW h b1 b2 b3 b4 b5 b6 b7 cI cZ er (upd mo n (nI p₁)) mf mt ma mc ms mq n) := hD
  refine lv_aload_n hx hb dX1_made_10 rfl (lv_at hl 0 rfl) ?_
  refine gX1_from hx hb hts hown hK hP 0 rfl rfl dX1_made_11 ?_
  refine lv_aload_n hx hb dX1_made_14 rfl (lv_at hl 0 rfl) ?_
  refine gX1_events hx hb hts hown hK hP 0 rfl rfl dX1_made_15 ?_
  refine lv_iload_n hx hb dX1_made_18 rfl (lv_at hl 2 rfl) ?_
  refine cw_iast hx hb hK hP hD hS 2 0 rfl rfl (k := n) (by omega) (by decide) dX1_made_19 (fun H locs hP hD hS => ?_)
  have hP : va_P D cdCl (mdW h b1 b2 b3 b4 b5 b6 b7 cI cZ er (upd mo n (nI p₁)) (upd mf n (cd_pI j)) mt ma mc ms mq n) H := hP
  have hD : va_D A (mdW h b1 b2 b3 b4 b5 b6 b7 cI cZ er (upd mo n (nI p₁)) (upd mf n (cd_pI j)) mt ma mc ms mq n) := hD
  refine lv_aload_n hx hb dX1_made_20 rfl (lv_at hl 0 rfl) ?_
  refine gX1_sends hx hb hts hown hK hP 0 rfl rfl dX1_made_21 ?_
  refine lv_aload_n hx hb dX1_made_24 rfl (lv_at hl 0 rfl) ?_
  refine gX1_events hx hb hts hown hK hP 0 rfl rfl dX1_made_25 ?_
  refine lv_iload_n hx hb dX1_made_28 rfl (lv_at hl 3 rfl) ?_
  refine cw_zast hx hb hK hP hD hS 6 1 rfl rfl (k := n) (by omega) (by decide) (by first | rfl | (unfold cd_bI; split <;> rfl)) dX1_made_29 (fun H locs hP hD hS => ?_)
  have hP : va_P D cdCl (mdW h b1 b2 b3 b4 b5 b6 b7 cI cZ er (upd mo n (nI p₁)) (upd mf n (cd_pI j)) mt ma mc (upd ms n (cd_bI (b = true))) mq n) H := hP
  have hD : va_D A (mdW h b1 b2 b3 b4 b5 b6 b7 cI cZ er (upd mo n (nI p₁)) (upd mf n (cd_pI j)) mt ma mc (upd ms n (cd_bI (b = true))) mq n) := hD
  refine lv_aload_n hx hb dX1_made_30 rfl (lv_at hl 0 rfl) ?_
  refine lv_dup hx hb dX1_made_31 rfl ?_
  refine gX1_events hx hb hts hown hK hP 0 rfl rfl dX1_made_32 ?_
  refine lv_dup_x1 hx hb dX1_made_35 rfl rfl ?_
  refine lv_iconst (v := nI 1) hx hb dX1_made_36 (by decide) ?_
  refine lv_iadd hx hb dX1_made_37 ?_
  refine cw_topi (y := nI (n + 1)) (nI_add _ _) ?_
  refine sX1_events hx hb hts hown hK hP hD hS 0 rfl rfl rfl (Nat.le_of_ble_eq_true rfl) dX1_made_38 (fun H locs hP hD hS => ?_)
  have hP : va_P D cdCl (mdW h b1 b2 b3 b4 b5 b6 b7 cI cZ er (upd mo n (nI p₁)) (upd mf n (cd_pI j)) mt ma mc (upd ms n (cd_bI (b = true))) mq (n + 1)) H := hP
  have hD : va_D A (mdW h b1 b2 b3 b4 b5 b6 b7 cI cZ er (upd mo n (nI p₁)) (upd mf n (cd_pI j)) mt ma mc (upd ms n (cd_bI (b = true))) mq (n + 1)) := hD
  exact W.iret (v := nI n) hx hb hr (fun t ht hW => ⟨⟨nI n, (), rfl, rfl, by show va_P D cdCl _ t.heap; rw [ht]; exact hP⟩, hS.F ht⟩) hS.2.2 dX1_made_41
set_option maxHeartbeats 4000000 in
set_option maxRecDepth 100000 in
/-- own: no process -/
theorem m1_X1_own (l : Launch) (D : va_G) (cI cZ : ClassId) (h b1 b2 b3 b4 b5 b6 b7 : Nat) (er : Int32) (mo mf mt ma mc ms mq : Nat → Int32) (o f : Nat → Nat) (sd : Nat → Bool) (c₀ : Nat → Nat) (n : Nat) (hok : cd_md o f sd c₀ n mo mf mc ms) (sz : Nat) (x : Int32) (hbad : ¬ (0 ≤ x ∧ x < nI 6)) : Met l yX1_own (.code yX1_own cX1_own 2 (some .int) :: tW) (rmL 2) (cw_Pc D cdCl (dkT cI cZ) (mdW h b1 b2 b3 b4 b5 b6 b7 cI cZ er mo mf mt ma mc ms mq n) sz [.ref h, .int x]) (va_Qi (fun (r : Int32) (u : mdS) => u.1 = nI 1 ∧ mdP o f sd c₀ n u) (fun u t => va_P D cdCl (mdU h b1 b2 b3 b4 b5 b6 b7 cI cZ (n) u) t.heap) (va_A (mdW h b1 b2 b3 b4 b5 b6 b7 cI cZ er mo mf mt ma mc ms mq n) sz)) 0 0 (va_A (mdW h b1 b2 b3 b4 b5 b6 b7 cI cZ er mo mf mt ma mc ms mq n) sz) := by
  refine Met.ofW (cc := cX1_own) (maxL := 2) (ret := (some .int)) (by decide) rfl ?_
  intro p e s m args below meth c s₁ B hml hv
  obtain ⟨rfl, hsz, hP, hK, hD0⟩ := hv
  have hx := B.exec
  have hb := B.bytes
  have hr := B.returns
  have hts := atoms_spec (ws := .code yX1_own cX1_own 2 (some .int) :: tW) B.pre
  have hown : s.vm.findClass RX1 = some m.cls := findClass_of_methodNamed B.named
  have hlocks := B.notSynchronized
  have hl := lv_entry ([.ref h, .int x]) (n := 2) (Nat.le_of_ble_eq_true rfl)
  rw [lg_entry_eq]
  generalize (lg_sl ([.ref h, .int x]) ++ List.replicate (2 - (lg_sl ([.ref h, .int x])).length) Slot.unset).toArray = ls at hl ⊢
  have hl : lv_has ls 2 [(0, .ref h), (1, .int x)] := hl
  subst hsz
  have hD := hD0.self (sz := s.heap.size)
  generalize hAe : va_A (mdW h b1 b2 b3 b4 b5 b6 b7 cI cZ er mo mf mt ma mc ms mq n) s.heap.size = A at hD ⊢
  have hA : ∀ q : Nat, s.heap.size ≤ q → A q := fun q h => by rw [← hAe]; exact Or.inr h
  have hS : va_S A s.heap s.heap [] := va_S.rf
  have hok0 := hok
  obtain ⟨hn, hwf, hc2, hmo, hmf, hms, hmc⟩ := hok0
  refine lv_aload_n hx hb dX1_own_0 rfl (lv_at hl 0 rfl) ?_
  refine lv_iconst (v := nI 0) hx hb dX1_own_1 (by decide) ?_
  refine sX1_err hx hb hts hown hK hP hD hS 0 rfl rfl rfl (Nat.le_of_ble_eq_true rfl) dX1_own_2 (fun H locs hP hD hS => ?_)
  have hP : va_P D cdCl (mdW h b1 b2 b3 b4 b5 b6 b7 cI cZ (nI 0) mo mf mt ma mc ms mq n) H := hP
  have hD : va_D A (mdW h b1 b2 b3 b4 b5 b6 b7 cI cZ (nI 0) mo mf mt ma mc ms mq n) := hD
  refine lv_aload_n hx hb dX1_own_5 rfl (lv_at hl 0 rfl) ?_
  refine lv_iload_n hx hb dX1_own_6 rfl (lv_at hl 1 rfl) ?_
  refine cw_callSr (As := [.int (x)]) ⟨hx, hb, hml, hown, hts⟩ (c_X1_isProcess l (x)) (kX1_X1_isProcess hts 1 0 0 30 ⟨by decide, by decide⟩) rfl hl.1 rfl (Nat.le_of_ble_eq_true rfl) dX1_own_7 ⟨Nat.zero_le _, Nat.zero_le _⟩ ?_
  refine cw_topi (y := 0) (cd_bI_f hbad) ?_
  refine lv_if_ne (tgt := 17) hx hb dX1_own_10 (by decide) (fun hc => ?_) (fun hc => ?_)
  · exact absurd rfl hc
  · refine lv_iconst (v := nI 1) hx hb dX1_own_13 (by decide) ?_
    refine lv_goto (tgt := 18) hx hb dX1_own_14 (by decide) ?_
    refine lv_iconst (v := nI 1) hx hb dX1_own_18 (by decide) ?_
    refine cw_callWi (As := [.int (nI 1), .int (nI 1)]) (S := Unit) (BW := (fun u => (mdW h b1 b2 b3 b4 b5 b6 b7 cI cZ (nI 1) mo mf mt ma mc ms mq n))) (wr := []) ⟨hx, hb, hml, hown, hts⟩ (c_X1_fails1 l D cI cZ h b1 b2 b3 b4 b5 b6 b7 mo mf mt ma mc ms mq o f sd c₀ n hok _ 1 (by decide) (by decide)) (kX1_X1_fails hts 0 0 0 0 ⟨by decide, by decide⟩) hK hP hD hS hA [0, 1, 2, 3, 4, 5, 6, 7] [] rfl rfl (by decide) (by decide) (by decide) (fun _ => rfl) 0 rfl rfl rfl rfl hl.1 rfl (Nat.le_of_ble_eq_true rfl) dX1_own_19 ⟨Nat.zero_le _, Nat.zero_le _⟩ (fun r u H locs hu hP hD hS => ?_)
    have hrr : r = 1 := hu
    subst hrr
    have hP : va_P D cdCl (mdW h b1 b2 b3 b4 b5 b6 b7 cI cZ (nI 1) mo mf mt ma mc ms mq n) H := hP
    have hD : va_D A (mdW h b1 b2 b3 b4 b5 b6 b7 cI cZ (nI 1) mo mf mt ma mc ms mq n) := hD
    refine lv_if_ne (tgt := 48) hx hb dX1_own_22 (by decide) (fun hc => ?_) (fun hc => ?_)
    · refine lv_iconst (v := nI 0) hx hb dX1_own_48 (by decide) ?_
      exact W.iret (v := nI 0) hx hb hr (fun t ht hW => ⟨⟨nI 0, ((nI 1), mo, mf, mt, ma, mc, ms, mq), rfl, ⟨rfl, hok⟩, by show va_P D cdCl _ t.heap; rw [ht]; exact hP⟩, hS.F ht⟩) hS.2.2 dX1_own_49
    · exact absurd hc (by decide)
set_option maxHeartbeats 4000000 in
set_option maxRecDepth 100000 in
/-- own: no room -/
theorem m2_X1_own (l : Launch) (D : va_G) (cI cZ : ClassId) (h b1 b2 b3 b4 b5 b6 b7 : Nat) (er : Int32) (mo mf mt ma mc ms mq : Nat → Int32) (o f : Nat → Nat) (sd : Nat → Bool) (c₀ : Nat → Nat) (n : Nat) (hok : cd_md o f sd c₀ n mo mf mc ms) (sz : Nat) (p₁ : Nat) (hp : p₁ < 6) (hr2 : n = 200) : Met l yX1_own (.code yX1_own cX1_own 2 (some .int) :: tW) (rmL 2) (cw_Pc D cdCl (dkT cI cZ) (mdW h b1 b2 b3 b4 b5 b6 b7 cI cZ er mo mf mt ma mc ms mq n) sz [.ref h, .int (nI p₁)]) (va_Qi (fun (r : Int32) (u : mdS) => u.1 = nI 2 ∧ mdP o f sd c₀ n u) (fun u t => va_P D cdCl (mdU h b1 b2 b3 b4 b5 b6 b7 cI cZ (n) u) t.heap) (va_A (mdW h b1 b2 b3 b4 b5 b6 b7 cI cZ er mo mf mt ma mc ms mq n) sz)) 0 0 (va_A (mdW h b1 b2 b3 b4 b5 b6 b7 cI cZ er mo mf mt ma mc ms mq n) sz) := by
  refine Met.ofW (cc := cX1_own) (maxL := 2) (ret := (some .int)) (by decide) rfl ?_
  intro p e s m args below meth c s₁ B hml hv
  obtain ⟨rfl, hsz, hP, hK, hD0⟩ := hv
  have hx := B.exec
  have hb := B.bytes
  have hr := B.returns
  have hts := atoms_spec (ws := .code yX1_own cX1_own 2 (some .int) :: tW) B.pre
  have hown : s.vm.findClass RX1 = some m.cls := findClass_of_methodNamed B.named
  have hlocks := B.notSynchronized
  have hl := lv_entry ([.ref h, .int (nI p₁)]) (n := 2) (Nat.le_of_ble_eq_true rfl)
  rw [lg_entry_eq]
  generalize (lg_sl ([.ref h, .int (nI p₁)]) ++ List.replicate (2 - (lg_sl ([.ref h, .int (nI p₁)])).length) Slot.unset).toArray = ls at hl ⊢
  have hl : lv_has ls 2 [(0, .ref h), (1, .int (nI p₁))] := hl
  subst hsz
  have hD := hD0.self (sz := s.heap.size)
  generalize hAe : va_A (mdW h b1 b2 b3 b4 b5 b6 b7 cI cZ er mo mf mt ma mc ms mq n) s.heap.size = A at hD ⊢
  have hA : ∀ q : Nat, s.heap.size ≤ q → A q := fun q h => by rw [← hAe]; exact Or.inr h
  have hS : va_S A s.heap s.heap [] := va_S.rf
  have hok0 := hok
  obtain ⟨hn, hwf, hc2, hmo, hmf, hms, hmc⟩ := hok0
  refine lv_aload_n hx hb dX1_own_0 rfl (lv_at hl 0 rfl) ?_
  refine lv_iconst (v := nI 0) hx hb dX1_own_1 (by decide) ?_
  refine sX1_err hx hb hts hown hK hP hD hS 0 rfl rfl rfl (Nat.le_of_ble_eq_true rfl) dX1_own_2 (fun H locs hP hD hS => ?_)
  have hP : va_P D cdCl (mdW h b1 b2 b3 b4 b5 b6 b7 cI cZ (nI 0) mo mf mt ma mc ms mq n) H := hP
  have hD : va_D A (mdW h b1 b2 b3 b4 b5 b6 b7 cI cZ (nI 0) mo mf mt ma mc ms mq n) := hD
  refine lv_aload_n hx hb dX1_own_5 rfl (lv_at hl 0 rfl) ?_
  refine lv_iload_n hx hb dX1_own_6 rfl (lv_at hl 1 rfl) ?_
  refine cw_callSr (As := [.int (nI p₁)]) ⟨hx, hb, hml, hown, hts⟩ (c_X1_isProcess l (nI p₁)) (kX1_X1_isProcess hts 1 0 0 30 ⟨by decide, by decide⟩) rfl hl.1 rfl (Nat.le_of_ble_eq_true rfl) dX1_own_7 ⟨Nat.zero_le _, Nat.zero_le _⟩ ?_
  refine cw_topi (y := 1) (cd_bI_t ⟨nI_pos' (by omega), nI_lt (by omega) (by decide)⟩) ?_
  refine lv_if_ne (tgt := 17) hx hb dX1_own_10 (by decide) (fun hc => ?_) (fun hc => ?_)
  · refine lv_iconst (v := nI 0) hx hb dX1_own_17 (by decide) ?_
    refine lv_iconst (v := nI 1) hx hb dX1_own_18 (by decide) ?_
    refine cw_callR (As := [.int (nI 0), .int (nI 1)]) ⟨hx, hb, hml, hown, hts⟩ (c_X1_fails0 l D cI cZ h b1 b2 b3 b4 b5 b6 b7 mo mf mt ma mc ms mq o f sd c₀ n hok (nI 1)) (kX1_X1_fails hts 0 0 0 0 ⟨by decide, by decide⟩) hK hP 0 rfl rfl rfl rfl hl.1 rfl (Nat.le_of_ble_eq_true rfl) dX1_own_19 ⟨Nat.zero_le _, Nat.zero_le _⟩ ?_
    refine lv_if_ne (tgt := 48) hx hb dX1_own_22 (by decide) (fun hc => ?_) (fun hc => ?_)
    · exact absurd rfl hc
    · refine lv_aload_n hx hb dX1_own_25 rfl (lv_at hl 0 rfl) ?_
      refine lv_aload_n hx hb dX1_own_26 rfl (lv_at hl 0 rfl) ?_
      refine gX1_events hx hb hts hown hK hP 0 rfl rfl dX1_own_27 ?_
      refine lv_sipush (v := nI 200) hx hb dX1_own_30 (by decide) ?_
      refine cw_ne (tgt := 40) (x := n) (y := 200) hx hb dX1_own_33 (by decide) (by omega) (by omega) (fun hc4 => ?_) (fun hc4 => ?_)
      · exact absurd hr2 hc4
      · refine lv_iconst (v := nI 1) hx hb dX1_own_36 (by decide) ?_
        refine lv_goto (tgt := 41) hx hb dX1_own_37 (by decide) ?_
        refine lv_iconst (v := nI 2) hx hb dX1_own_41 (by decide) ?_
        refine cw_callWi (As := [.int (nI 1), .int (nI 2)]) (S := Unit) (BW := (fun u => (mdW h b1 b2 b3 b4 b5 b6 b7 cI cZ (nI 2) mo mf mt ma mc ms mq n))) (wr := []) ⟨hx, hb, hml, hown, hts⟩ (c_X1_fails1 l D cI cZ h b1 b2 b3 b4 b5 b6 b7 mo mf mt ma mc ms mq o f sd c₀ n hok _ 2 (by decide) (by decide)) (kX1_X1_fails hts 0 0 0 0 ⟨by decide, by decide⟩) hK hP hD hS hA [0, 1, 2, 3, 4, 5, 6, 7] [] rfl rfl (by decide) (by decide) (by decide) (fun _ => rfl) 0 rfl rfl rfl rfl hl.1 rfl (Nat.le_of_ble_eq_true rfl) dX1_own_42 ⟨Nat.zero_le _, Nat.zero_le _⟩ (fun r u H locs hu hP hD hS => ?_)
        have hrr : r = 1 := hu
        subst hrr
        have hP : va_P D cdCl (mdW h b1 b2 b3 b4 b5 b6 b7 cI cZ (nI 2) mo mf mt ma mc ms mq n) H := hP
        have hD : va_D A (mdW h b1 b2 b3 b4 b5 b6 b7 cI cZ (nI 2) mo mf mt ma mc ms mq n) := hD
        refine lv_if_eq (tgt := 50) hx hb dX1_own_45 (by decide) (fun hc => ?_) (fun hc => ?_)
        · exact absurd hc (by decide)
        · refine lv_iconst (v := nI 0) hx hb dX1_own_48 (by decide) ?_
          exact W.iret (v := nI 0) hx hb hr (fun t ht hW => ⟨⟨nI 0, ((nI 2), mo, mf, mt, ma, mc, ms, mq), rfl, ⟨rfl, hok⟩, by show va_P D cdCl _ t.heap; rw [ht]; exact hP⟩, hS.F ht⟩) hS.2.2 dX1_own_49
  · exact absurd hc (by decide)
set_option maxHeartbeats 4000000 in
set_option maxRecDepth 100000 in
/-- own -/
theorem m0_X1_own (l : Launch) (D : va_G) (cI cZ : ClassId) (h b1 b2 b3 b4 b5 b6 b7 : Nat) (er : Int32) (mo mf mt ma mc ms mq : Nat → Int32) (o f : Nat → Nat) (sd : Nat → Bool) (c₀ : Nat → Nat) (n : Nat) (hok : cd_md o f sd c₀ n mo mf mc ms) (sz : Nat) (p₁ : Nat) (hp : p₁ < 6) (hr2 : n < 200) : Met l yX1_own (.code yX1_own cX1_own 2 (some .int) :: tW) (rmL 2) (cw_Pc D cdCl (dkT cI cZ) (mdW h b1 b2 b3 b4 b5 b6 b7 cI cZ er mo mf mt ma mc ms mq n) sz [.ref h, .int (nI p₁)]) (va_Qi (fun (r : Int32) (u : mdS) => r = nI n ∧ u.1 = nI 0 ∧ mdP (cd_up o n p₁) (cd_up f n 0) (cd_up sd n false) c₀ (n + 1) u) (fun u t => va_P D cdCl (mdU h b1 b2 b3 b4 b5 b6 b7 cI cZ (n + 1) u) t.heap) (va_A (mdW h b1 b2 b3 b4 b5 b6 b7 cI cZ er mo mf mt ma mc ms mq n) sz)) 0 0 (va_A (mdW h b1 b2 b3 b4 b5 b6 b7 cI cZ er mo mf mt ma mc ms mq n) sz) := by
  refine Met.ofW (cc := cX1_own) (maxL := 2) (ret := (some .int)) (by decide) rfl ?_
  intro p e s m args below meth c s₁ B hml hv
  obtain ⟨rfl, hsz, hP, hK, hD0⟩ := hv
  have hx := B.exec
  have hb := B.bytes
  have hr := B.returns
  have hts := atoms_spec (ws := .code yX1_own cX1_own 2 (some .int) :: tW) B.pre
  have hown : s.vm.findClass RX1 = some m.cls := findClass_of_methodNamed B.named
  have hlocks := B.notSynchronized
  have hl := lv_entry ([.ref h, .int (nI p₁)]) (n := 2) (Nat.le_of_ble_eq_true rfl)
  rw [lg_entry_eq]
  generalize (lg_sl ([.ref h, .int (nI p₁)]) ++ List.replicate (2 - (lg_sl ([.ref h, .int (nI p₁)])).length) Slot.unset).toArray = ls at hl ⊢
  have hl : lv_has ls 2 [(0, .ref h), (1, .int (nI p₁))] := hl
  subst hsz
  have hD := hD0.self (sz := s.heap.size)
  generalize hAe : va_A (mdW h b1 b2 b3 b4 b5 b6 b7 cI cZ er mo mf mt ma mc ms mq n) s.heap.size = A at hD ⊢
  have hA : ∀ q : Nat, s.heap.size ≤ q → A q := fun q h => by rw [← hAe]; exact Or.inr h
  have hS : va_S A s.heap s.heap [] := va_S.rf
  have hok0 := hok
  obtain ⟨hn, hwf, hc2, hmo, hmf, hms, hmc⟩ := hok0
  refine lv_aload_n hx hb dX1_own_0 rfl (lv_at hl 0 rfl) ?_
  refine lv_iconst (v := nI 0) hx hb dX1_own_1 (by decide) ?_
  refine sX1_err hx hb hts hown hK hP hD hS 0 rfl rfl rfl (Nat.le_of_ble_eq_true rfl) dX1_own_2 (fun H locs hP hD hS => ?_)
  have hP : va_P D cdCl (mdW h b1 b2 b3 b4 b5 b6 b7 cI cZ (nI 0) mo mf mt ma mc ms mq n) H := hP
  have hD : va_D A (mdW h b1 b2 b3 b4 b5 b6 b7 cI cZ (nI 0) mo mf mt ma mc ms mq n) := hD
  refine lv_aload_n hx hb dX1_own_5 rfl (lv_at hl 0 rfl) ?_
  refine lv_iload_n hx hb dX1_own_6 rfl (lv_at hl 1 rfl) ?_
  refine cw_callSr (As := [.int (nI p₁)]) ⟨hx, hb, hml, hown, hts⟩ (c_X1_isProcess l (nI p₁)) (kX1_X1_isProcess hts 1 0 0 30 ⟨by decide, by decide⟩) rfl hl.1 rfl (Nat.le_of_ble_eq_true rfl) dX1_own_7 ⟨Nat.zero_le _, Nat.zero_le _⟩ ?_
  refine cw_topi (y := 1) (cd_bI_t ⟨nI_pos' (by omega), nI_lt (by omega) (by decide)⟩) ?_
  refine lv_if_ne (tgt := 17) hx hb dX1_own_10 (by decide) (fun hc => ?_) (fun hc => ?_)
  · refine lv_iconst (v := nI 0) hx hb dX1_own_17 (by decide) ?_
    refine lv_iconst (v := nI 1) hx hb dX1_own_18 (by decide) ?_
    refine cw_callR (As := [.int (nI 0), .int (nI 1)]) ⟨hx, hb, hml, hown, hts⟩ (c_X1_fails0 l D cI cZ h b1 b2 b3 b4 b5 b6 b7 mo mf mt ma mc ms mq o f sd c₀ n hok (nI 1)) (kX1_X1_fails hts 0 0 0 0 ⟨by decide, by decide⟩) hK hP 0 rfl rfl rfl rfl hl.1 rfl (Nat.le_of_ble_eq_true rfl) dX1_own_19 ⟨Nat.zero_le _, Nat.zero_le _⟩ ?_
    refine lv_if_ne (tgt := 48) hx hb dX1_own_22 (by decide) (fun hc => ?_) (fun hc => ?_)
    · exact absurd rfl hc
    · refine lv_aload_n hx hb dX1_own_25 rfl (lv_at hl 0 rfl) ?_
      refine lv_aload_n hx hb dX1_own_26 rfl (lv_at hl 0 rfl) ?_
      refine gX1_events hx hb hts hown hK hP 0 rfl rfl dX1_own_27 ?_
      refine lv_sipush (v := nI 200) hx hb dX1_own_30 (by decide) ?_
      refine cw_ne (tgt := 40) (x := n) (y := 200) hx hb dX1_own_33 (by decide) (by omega) (by omega) (fun hc4 => ?_) (fun hc4 => ?_)
      · refine lv_iconst (v := nI 0) hx hb dX1_own_40 (by decide) ?_
        refine lv_iconst (v := nI 2) hx hb dX1_own_41 (by decide) ?_
        refine cw_callR (As := [.int (nI 0), .int (nI 2)]) ⟨hx, hb, hml, hown, hts⟩ (c_X1_fails0 l D cI cZ h b1 b2 b3 b4 b5 b6 b7 mo mf mt ma mc ms mq o f sd c₀ n hok (nI 2)) (kX1_X1_fails hts 0 0 0 0 ⟨by decide, by decide⟩) hK hP 0 rfl rfl rfl rfl hl.1 rfl (Nat.le_of_ble_eq_true rfl) dX1_own_42 ⟨Nat.zero_le _, Nat.zero_le _⟩ ?_
        refine lv_if_eq (tgt := 50) hx hb dX1_own_45 (by decide) (fun hc => ?_) (fun hc => ?_)
        · refine lv_aload_n hx hb dX1_own_50 rfl (lv_at hl 0 rfl) ?_
          refine lv_iload_n hx hb dX1_own_51 rfl (lv_at hl 1 rfl) ?_
          refine lv_iconst (v := (-1)) hx hb dX1_own_52 (by decide) ?_
          refine lv_iconst (v := nI 0) hx hb dX1_own_53 (by decide) ?_
          refine cw_callWi (As := [.int (nI p₁), .int (cd_pI 0), .int (cd_bI (false = true))]) (S := Unit) (BW := (fun u => (mdW h b1 b2 b3 b4 b5 b6 b7 cI cZ (nI 0) (upd mo n (nI p₁)) (upd mf n (cd_pI 0)) mt ma mc (upd ms n (cd_bI (false = true))) mq (n + 1)))) (wr := []) ⟨hx, hb, hml, hown, hts⟩ (c_X1_made l D cI cZ h b1 b2 b3 b4 b5 b6 b7 (nI 0) mo mf mt ma mc ms mq o f sd c₀ n hok _ p₁ 0 false hr2) (kX1_X1_made hts 0 0 0 0 ⟨by decide, by decide⟩) hK hP hD hS hA [0, 1, 2, 3, 4, 5, 6, 7] [] rfl rfl (by decide) (by decide) (by decide) (fun _ => rfl) 0 rfl rfl rfl rfl hl.1 rfl (Nat.le_of_ble_eq_true rfl) dX1_own_54 ⟨Nat.zero_le _, Nat.zero_le _⟩ (fun r u H locs hu hP hD hS => ?_)
          have hrr : r = nI n := hu
          subst hrr
          have hP : va_P D cdCl (mdW h b1 b2 b3 b4 b5 b6 b7 cI cZ (nI 0) (upd mo n (nI p₁)) (upd mf n (cd_pI 0)) mt ma mc (upd ms n (cd_bI (false = true))) mq (n + 1)) H := hP
          have hD : va_D A (mdW h b1 b2 b3 b4 b5 b6 b7 cI cZ (nI 0) (upd mo n (nI p₁)) (upd mf n (cd_pI 0)) mt ma mc (upd ms n (cd_bI (false = true))) mq (n + 1)) := hD
          have hok := cd_md_add (b := false) hok hr2 hp (j := 0) (by omega)
          exact W.iret (v := nI n) hx hb hr (fun t ht hW => ⟨⟨nI n, (nI 0, (upd mo n (nI p₁)), (upd mf n (cd_pI 0)), mt, ma, mc, (upd ms n (cd_bI (false = true))), mq), rfl, ⟨rfl, rfl, hok⟩, by show va_P D cdCl _ t.heap; rw [ht]; exact hP⟩, hS.F ht⟩) hS.2.2 dX1_own_57
        · exact absurd rfl hc
      · exact absurd hc4 (by omega)
  · exact absurd hc (by decide)
set_option maxHeartbeats 4000000 in
set_option maxRecDepth 100000 in
/-- send: no process -/
theorem m1_X1_send (l : Launch) (D : va_G) (cI cZ : ClassId) (h b1 b2 b3 b4 b5 b6 b7 : Nat) (er : Int32) (mo mf mt ma mc ms mq : Nat → Int32) (o f : Nat → Nat) (sd : Nat → Bool) (c₀ : Nat → Nat) (n : Nat) (hok : cd_md o f sd c₀ n mo mf mc ms) (sz : Nat) (x : Int32) (hbad : ¬ (0 ≤ x ∧ x < nI 6)) : Met l yX1_send (.code yX1_send cX1_send 2 (some .int) :: tW) (rmL 2) (cw_Pc D cdCl (dkT cI cZ) (mdW h b1 b2 b3 b4 b5 b6 b7 cI cZ er mo mf mt ma mc ms mq n) sz [.ref h, .int x]) (va_Qi (fun (r : Int32) (u : mdS) => u.1 = nI 1 ∧ mdP o f sd c₀ n u) (fun u t => va_P D cdCl (mdU h b1 b2 b3 b4 b5 b6 b7 cI cZ (n) u) t.heap) (va_A (mdW h b1 b2 b3 b4 b5 b6 b7 cI cZ er mo mf mt ma mc ms mq n) sz)) 0 0 (va_A (mdW h b1 b2 b3 b4 b5 b6 b7 cI cZ er mo mf mt ma mc ms mq n) sz) := by
  refine Met.ofW (cc := cX1_send) (maxL := 2) (ret := (some .int)) (by decide) rfl ?_
  intro p e s m args below meth c s₁ B hml hv
  obtain ⟨rfl, hsz, hP, hK, hD0⟩ := hv
  have hx := B.exec
  have hb := B.bytes
  have hr := B.returns
  have hts := atoms_spec (ws := .code yX1_send cX1_send 2 (some .int) :: tW) B.pre
  have hown : s.vm.findClass RX1 = some m.cls := findClass_of_methodNamed B.named
  have hlocks := B.notSynchronized
  have hl := lv_entry ([.ref h, .int x]) (n := 2) (Nat.le_of_ble_eq_true rfl)
  rw [lg_entry_eq]
  generalize (lg_sl ([.ref h, .int x]) ++ List.replicate (2 - (lg_sl ([.ref h, .int x])).length) Slot.unset).toArray = ls at hl ⊢
  have hl : lv_has ls 2 [(0, .ref h), (1, .int x)] := hl
  subst hsz
  have hD := hD0.self (sz := s.heap.size)
  generalize hAe : va_A (mdW h b1 b2 b3 b4 b5 b6 b7 cI cZ er mo mf mt ma mc ms mq n) s.heap.size = A at hD ⊢
  have hA : ∀ q : Nat, s.heap.size ≤ q → A q := fun q h => by rw [← hAe]; exact Or.inr h
  have hS : va_S A s.heap s.heap [] := va_S.rf
  have hok0 := hok
  obtain ⟨hn, hwf, hc2, hmo, hmf, hms, hmc⟩ := hok0
  refine lv_aload_n hx hb dX1_send_0 rfl (lv_at hl 0 rfl) ?_
  refine lv_iconst (v := nI 0) hx hb dX1_send_1 (by decide) ?_
  refine sX1_err hx hb hts hown hK hP hD hS 0 rfl rfl rfl (Nat.le_of_ble_eq_true rfl) dX1_send_2 (fun H locs hP hD hS => ?_)
  have hP : va_P D cdCl (mdW h b1 b2 b3 b4 b5 b6 b7 cI cZ (nI 0) mo mf mt ma mc ms mq n) H := hP
  have hD : va_D A (mdW h b1 b2 b3 b4 b5 b6 b7 cI cZ (nI 0) mo mf mt ma mc ms mq n) := hD
  refine lv_aload_n hx hb dX1_send_5 rfl (lv_at hl 0 rfl) ?_
  refine lv_iload_n hx hb dX1_send_6 rfl (lv_at hl 1 rfl) ?_
  refine cw_callSr (As := [.int (x)]) ⟨hx, hb, hml, hown, hts⟩ (c_X1_isProcess l (x)) (kX1_X1_isProcess hts 1 0 0 30 ⟨by decide, by decide⟩) rfl hl.1 rfl (Nat.le_of_ble_eq_true rfl) dX1_send_7 ⟨Nat.zero_le _, Nat.zero_le _⟩ ?_
  refine cw_topi (y := 0) (cd_bI_f hbad) ?_
  refine lv_if_ne (tgt := 17) hx hb dX1_send_10 (by decide) (fun hc => ?_) (fun hc => ?_)
  · exact absurd rfl hc
  · refine lv_iconst (v := nI 1) hx hb dX1_send_13 (by decide) ?_
    refine lv_goto (tgt := 18) hx hb dX1_send_14 (by decide) ?_
    refine lv_iconst (v := nI 1) hx hb dX1_send_18 (by decide) ?_
    refine cw_callWi (As := [.int (nI 1), .int (nI 1)]) (S := Unit) (BW := (fun u => (mdW h b1 b2 b3 b4 b5 b6 b7 cI cZ (nI 1) mo mf mt ma mc ms mq n))) (wr := []) ⟨hx, hb, hml, hown, hts⟩ (c_X1_fails1 l D cI cZ h b1 b2 b3 b4 b5 b6 b7 mo mf mt ma mc ms mq o f sd c₀ n hok _ 1 (by decide) (by decide)) (kX1_X1_fails hts 0 0 0 0 ⟨by decide, by decide⟩) hK hP hD hS hA [0, 1, 2, 3, 4, 5, 6, 7] [] rfl rfl (by decide) (by decide) (by decide) (fun _ => rfl) 0 rfl rfl rfl rfl hl.1 rfl (Nat.le_of_ble_eq_true rfl) dX1_send_19 ⟨Nat.zero_le _, Nat.zero_le _⟩ (fun r u H locs hu hP hD hS => ?_)
    have hrr : r = 1 := hu
    subst hrr
    have hP : va_P D cdCl (mdW h b1 b2 b3 b4 b5 b6 b7 cI cZ (nI 1) mo mf mt ma mc ms mq n) H := hP
    have hD : va_D A (mdW h b1 b2 b3 b4 b5 b6 b7 cI cZ (nI 1) mo mf mt ma mc ms mq n) := hD
    refine lv_if_ne (tgt := 48) hx hb dX1_send_22 (by decide) (fun hc => ?_) (fun hc => ?_)
    · refine lv_iconst (v := nI 0) hx hb dX1_send_48 (by decide) ?_
      exact W.iret (v := nI 0) hx hb hr (fun t ht hW => ⟨⟨nI 0, ((nI 1), mo, mf, mt, ma, mc, ms, mq), rfl, ⟨rfl, hok⟩, by show va_P D cdCl _ t.heap; rw [ht]; exact hP⟩, hS.F ht⟩) hS.2.2 dX1_send_49
    · exact absurd hc (by decide)
set_option maxHeartbeats 4000000 in
set_option maxRecDepth 100000 in
/-- send: no room -/
theorem m2_X1_send (l : Launch) (D : va_G) (cI cZ : ClassId) (h b1 b2 b3 b4 b5 b6 b7 : Nat) (er : Int32) (mo mf mt ma mc ms mq : Nat → Int32) (o f : Nat → Nat) (sd : Nat → Bool) (c₀ : Nat → Nat) (n : Nat) (hok : cd_md o f sd c₀ n mo mf mc ms) (sz : Nat) (p₁ : Nat) (hp : p₁ < 6) (hr2 : n = 200) : Met l yX1_send (.code yX1_send cX1_send 2 (some .int) :: tW) (rmL 2) (cw_Pc D cdCl (dkT cI cZ) (mdW h b1 b2 b3 b4 b5 b6 b7 cI cZ er mo mf mt ma mc ms mq n) sz [.ref h, .int (nI p₁)]) (va_Qi (fun (r : Int32) (u : mdS) => u.1 = nI 2 ∧ mdP o f sd c₀ n u) (fun u t => va_P D cdCl (mdU h b1 b2 b3 b4 b5 b6 b7 cI cZ (n) u) t.heap) (va_A (mdW h b1 b2 b3 b4 b5 b6 b7 cI cZ er mo mf mt ma mc ms mq n) sz)) 0 0 (va_A (mdW h b1 b2 b3 b4 b5 b6 b7 cI cZ er mo mf mt ma mc ms mq n) sz) := by
  refine Met.ofW (cc := cX1_send) (maxL := 2) (ret := (some .int)) (by decide) rfl ?_
  intro p e s m args below meth c s₁ B hml hv
  obtain ⟨rfl, hsz, hP, hK, hD0⟩ := hv
  have hx := B.exec
  have hb := B.bytes
  have hr := B.returns
  have hts := atoms_spec (ws := .code yX1_send cX1_send 2 (some .int) :: tW) B.pre
  have hown : s.vm.findClass RX1 = some m.cls := findClass_of_methodNamed B.named
  have hlocks := B.notSynchronized
  have hl := lv_entry ([.ref h, .int (nI p₁)]) (n := 2) (Nat.le_of_ble_eq_true rfl)
  rw [lg_entry_eq]
  generalize (lg_sl ([.ref h, .int (nI p₁)]) ++ List.replicate (2 - (lg_sl ([.ref h, .int (nI p₁)])).length) Slot.unset).toArray = ls at hl ⊢
  have hl : lv_has ls 2 [(0, .ref h), (1, .int (nI p₁))] := hl
  subst hsz
  have hD := hD0.self (sz := s.heap.size)
  generalize hAe : va_A (mdW h b1 b2 b3 b4 b5 b6 b7 cI cZ er mo mf mt ma mc ms mq n) s.heap.size = A at hD ⊢
  have hA : ∀ q : Nat, s.heap.size ≤ q → A q := fun q h => by rw [← hAe]; exact Or.inr h
  have hS : va_S A s.heap s.heap [] := va_S.rf
  have hok0 := hok
  obtain ⟨hn, hwf, hc2, hmo, hmf, hms, hmc⟩ := hok0
  refine lv_aload_n hx hb dX1_send_0 rfl (lv_at hl 0 rfl) ?_
  refine lv_iconst (v := nI 0) hx hb dX1_send_1 (by decide) ?_
  refine sX1_err hx hb hts hown hK hP hD hS 0 rfl rfl rfl (Nat.le_of_ble_eq_true rfl) dX1_send_2 (fun H locs hP hD hS => ?_)
  have hP : va_P D cdCl (mdW h b1 b2 b3 b4 b5 b6 b7 cI cZ (nI 0) mo mf mt ma mc ms mq n) H := hP
  have hD : va_D A (mdW h b1 b2 b3 b4 b5 b6 b7 cI cZ (nI 0) mo mf mt ma mc ms mq n) := hD
  refine lv_aload_n hx hb dX1_send_5 rfl (lv_at hl 0 rfl) ?_
  refine lv_iload_n hx hb dX1_send_6 rfl (lv_at hl 1 rfl) ?_
  refine cw_callSr (As := [.int (nI p₁)]) ⟨hx, hb, hml, hown, hts⟩ (c_X1_isProcess l (nI p₁)) (kX1_X1_isProcess hts 1 0 0 30 ⟨by decide, by decide⟩) rfl hl.1 rfl (Nat.le_of_ble_eq_true rfl) dX1_send_7 ⟨Nat.zero_le _, Nat.zero_le _⟩ ?_
  refine cw_topi (y := 1) (cd_bI_t ⟨nI_pos' (by omega), nI_lt (by omega) (by decide)⟩) ?_
  refine lv_if_ne (tgt := 17) hx hb dX1_send_10 (by decide) (fun hc => ?_) (fun hc => ?_)
  · refine lv_iconst (v := nI 0) hx hb dX1_send_17 (by decide) ?_
    refine lv_iconst (v := nI 1) hx hb dX1_send_18 (by decide) ?_
    refine cw_callR (As := [.int (nI 0), .int (nI 1)]) ⟨hx, hb, hml, hown, hts⟩ (c_X1_fails0 l D cI cZ h b1 b2 b3 b4 b5 b6 b7 mo mf mt ma mc ms mq o f sd c₀ n hok (nI 1)) (kX1_X1_fails hts 0 0 0 0 ⟨by decide, by decide⟩) hK hP 0 rfl rfl rfl rfl hl.1 rfl (Nat.le_of_ble_eq_true rfl) dX1_send_19 ⟨Nat.zero_le _, Nat.zero_le _⟩ ?_
    refine lv_if_ne (tgt := 48) hx hb dX1_send_22 (by decide) (fun hc => ?_) (fun hc => ?_)
    · exact absurd rfl hc
    · refine lv_aload_n hx hb dX1_send_25 rfl (lv_at hl 0 rfl) ?_
      refine lv_aload_n hx hb dX1_send_26 rfl (lv_at hl 0 rfl) ?_
      refine gX1_events hx hb hts hown hK hP 0 rfl rfl dX1_send_27 ?_
      refine lv_sipush (v := nI 200) hx hb dX1_send_30 (by decide) ?_
      refine cw_ne (tgt := 40) (x := n) (y := 200) hx hb dX1_send_33 (by decide) (by omega) (by omega) (fun hc4 => ?_) (fun hc4 => ?_)
      · exact absurd hr2 hc4
      · refine lv_iconst (v := nI 1) hx hb dX1_send_36 (by decide) ?_
        refine lv_goto (tgt := 41) hx hb dX1_send_37 (by decide) ?_
        refine lv_iconst (v := nI 2) hx hb dX1_send_41 (by decide) ?_
        refine cw_callWi (As := [.int (nI 1), .int (nI 2)]) (S := Unit) (BW := (fun u => (mdW h b1 b2 b3 b4 b5 b6 b7 cI cZ (nI 2) mo mf mt ma mc ms mq n))) (wr := []) ⟨hx, hb, hml, hown, hts⟩ (c_X1_fails1 l D cI cZ h b1 b2 b3 b4 b5 b6 b7 mo mf mt ma mc ms mq o f sd c₀ n hok _ 2 (by decide) (by decide)) (kX1_X1_fails hts 0 0 0 0 ⟨by decide, by decide⟩) hK hP hD hS hA [0, 1, 2, 3, 4, 5, 6, 7] [] rfl rfl (by decide) (by decide) (by decide) (fun _ => rfl) 0 rfl rfl rfl rfl hl.1 rfl (Nat.le_of_ble_eq_true rfl) dX1_send_42 ⟨Nat.zero_le _, Nat.zero_le _⟩ (fun r u H locs hu hP hD hS => ?_)
        have hrr : r = 1 := hu
        subst hrr
        have hP : va_P D cdCl (mdW h b1 b2 b3 b4 b5 b6 b7 cI cZ (nI 2) mo mf mt ma mc ms mq n) H := hP
        have hD : va_D A (mdW h b1 b2 b3 b4 b5 b6 b7 cI cZ (nI 2) mo mf mt ma mc ms mq n) := hD
        refine lv_if_eq (tgt := 50) hx hb dX1_send_45 (by decide) (fun hc => ?_) (fun hc => ?_)
        · exact absurd hc (by decide)
        · refine lv_iconst (v := nI 0) hx hb dX1_send_48 (by decide) ?_
          exact W.iret (v := nI 0) hx hb hr (fun t ht hW => ⟨⟨nI 0, ((nI 2), mo, mf, mt, ma, mc, ms, mq), rfl, ⟨rfl, hok⟩, by show va_P D cdCl _ t.heap; rw [ht]; exact hP⟩, hS.F ht⟩) hS.2.2 dX1_send_49
  · exact absurd hc (by decide)
set_option maxHeartbeats 4000000 in
set_option maxRecDepth 100000 in
/-- send -/
theorem m0_X1_send (l : Launch) (D : va_G) (cI cZ : ClassId) (h b1 b2 b3 b4 b5 b6 b7 : Nat) (er : Int32) (mo mf mt ma mc ms mq : Nat → Int32) (o f : Nat → Nat) (sd : Nat → Bool) (c₀ : Nat → Nat) (n : Nat) (hok : cd_md o f sd c₀ n mo mf mc ms) (sz : Nat) (p₁ : Nat) (hp : p₁ < 6) (hr2 : n < 200) : Met l yX1_send (.code yX1_send cX1_send 2 (some .int) :: tW) (rmL 2) (cw_Pc D cdCl (dkT cI cZ) (mdW h b1 b2 b3 b4 b5 b6 b7 cI cZ er mo mf mt ma mc ms mq n) sz [.ref h, .int (nI p₁)]) (va_Qi (fun (r : Int32) (u : mdS) => r = nI n ∧ u.1 = nI 0 ∧ mdP (cd_up o n p₁) (cd_up f n 0) (cd_up sd n true) c₀ (n + 1) u) (fun u t => va_P D cdCl (mdU h b1 b2 b3 b4 b5 b6 b7 cI cZ (n + 1) u) t.heap) (va_A (mdW h b1 b2 b3 b4 b5 b6 b7 cI cZ er mo mf mt ma mc ms mq n) sz)) 0 0 (va_A (mdW h b1 b2 b3 b4 b5 b6 b7 cI cZ er mo mf mt ma mc ms mq n) sz) := by
  refine Met.ofW (cc := cX1_send) (maxL := 2) (ret := (some .int)) (by decide) rfl ?_
  intro p e s m args below meth c s₁ B hml hv
  obtain ⟨rfl, hsz, hP, hK, hD0⟩ := hv
  have hx := B.exec
  have hb := B.bytes
  have hr := B.returns
  have hts := atoms_spec (ws := .code yX1_send cX1_send 2 (some .int) :: tW) B.pre
  have hown : s.vm.findClass RX1 = some m.cls := findClass_of_methodNamed B.named
  have hlocks := B.notSynchronized
  have hl := lv_entry ([.ref h, .int (nI p₁)]) (n := 2) (Nat.le_of_ble_eq_true rfl)
  rw [lg_entry_eq]
  generalize (lg_sl ([.ref h, .int (nI p₁)]) ++ List.replicate (2 - (lg_sl ([.ref h, .int (nI p₁)])).length) Slot.unset).toArray = ls at hl ⊢
  have hl : lv_has ls 2 [(0, .ref h), (1, .int (nI p₁))] := hl
  subst hsz
  have hD := hD0.self (sz := s.heap.size)
  generalize hAe : va_A (mdW h b1 b2 b3 b4 b5 b6 b7 cI cZ er mo mf mt ma mc ms mq n) s.heap.size = A at hD ⊢
  have hA : ∀ q : Nat, s.heap.size ≤ q → A q := fun q h => by rw [← hAe]; exact Or.inr h
  have hS : va_S A s.heap s.heap [] := va_S.rf
  have hok0 := hok
  obtain ⟨hn, hwf, hc2, hmo, hmf, hms, hmc⟩ := hok0
  refine lv_aload_n hx hb dX1_send_0 rfl (lv_at hl 0 rfl) ?_
  refine lv_iconst (v := nI 0) hx hb dX1_send_1 (by decide) ?_
  refine sX1_err hx hb hts hown hK hP hD hS 0 rfl rfl rfl (Nat.le_of_ble_eq_true rfl) dX1_send_2 (fun H locs hP hD hS => ?_)
  have hP : va_P D cdCl (mdW h b1 b2 b3 b4 b5 b6 b7 cI cZ (nI 0) mo mf mt ma mc ms mq n) H := hP
  have hD : va_D A (mdW h b1 b2 b3 b4 b5 b6 b7 cI cZ (nI 0) mo mf mt ma mc ms mq n) := hD
  refine lv_aload_n hx hb dX1_send_5 rfl (lv_at hl 0 rfl) ?_
  refine lv_iload_n hx hb dX1_send_6 rfl (lv_at hl 1 rfl) ?_
  refine cw_callSr (As := [.int (nI p₁)]) ⟨hx, hb, hml, hown, hts⟩ (c_X1_isProcess l (nI p₁)) (kX1_X1_isProcess hts 1 0 0 30 ⟨by decide, by decide⟩) rfl hl.1 rfl (Nat.le_of_ble_eq_true rfl) dX1_send_7 ⟨Nat.zero_le _, Nat.zero_le _⟩ ?_
  refine cw_topi (y := 1) (cd_bI_t ⟨nI_pos' (by omega), nI_lt (by omega) (by decide)⟩) ?_
  refine lv_if_ne (tgt := 17) hx hb dX1_send_10 (by decide) (fun hc => ?_) (fun hc => ?_)
  · refine lv_iconst (v := nI 0) hx hb dX1_send_17 (by decide) ?_
    refine lv_iconst (v := nI 1) hx hb dX1_send_18 (by decide) ?_
    refine cw_callR (As := [.int (nI 0), .int (nI 1)]) ⟨hx, hb, hml, hown, hts⟩ (c_X1_fails0 l D cI cZ h b1 b2 b3 b4 b5 b6 b7 mo mf mt ma mc ms mq o f sd c₀ n hok (nI 1)) (kX1_X1_fails hts 0 0 0 0 ⟨by decide, by decide⟩) hK hP 0 rfl rfl rfl rfl hl.1 rfl (Nat.le_of_ble_eq_true rfl) dX1_send_19 ⟨Nat.zero_le _, Nat.zero_le _⟩ ?_
    refine lv_if_ne (tgt := 48) hx hb dX1_send_22 (by decide) (fun hc => ?_) (fun hc => ?_)
    · exact absurd rfl hc
    · refine lv_aload_n hx hb dX1_send_25 rfl (lv_at hl 0 rfl) ?_
      refine lv_aload_n hx hb dX1_send_26 rfl (lv_at hl 0 rfl) ?_
      refine gX1_events hx hb hts hown hK hP 0 rfl rfl dX1_send_27 ?_
      refine lv_sipush (v := nI 200) hx hb dX1_send_30 (by decide) ?_
      refine cw_ne (tgt := 40) (x := n) (y := 200) hx hb dX1_send_33 (by decide) (by omega) (by omega) (fun hc4 => ?_) (fun hc4 => ?_)
      · refine lv_iconst (v := nI 0) hx hb dX1_send_40 (by decide) ?_
        refine lv_iconst (v := nI 2) hx hb dX1_send_41 (by decide) ?_
        refine cw_callR (As := [.int (nI 0), .int (nI 2)]) ⟨hx, hb, hml, hown, hts⟩ (c_X1_fails0 l D cI cZ h b1 b2 b3 b4 b5 b6 b7 mo mf mt ma mc ms mq o f sd c₀ n hok (nI 2)) (kX1_X1_fails hts 0 0 0 0 ⟨by decide, by decide⟩) hK hP 0 rfl rfl rfl rfl hl.1 rfl (Nat.le_of_ble_eq_true rfl) dX1_send_42 ⟨Nat.zero_le _, Nat.zero_le _⟩ ?_
        refine lv_if_eq (tgt := 50) hx hb dX1_send_45 (by decide) (fun hc => ?_) (fun hc => ?_)
        · refine lv_aload_n hx hb dX1_send_50 rfl (lv_at hl 0 rfl) ?_
          refine lv_iload_n hx hb dX1_send_51 rfl (lv_at hl 1 rfl) ?_
          refine lv_iconst (v := (-1)) hx hb dX1_send_52 (by decide) ?_
          refine lv_iconst (v := nI 1) hx hb dX1_send_53 (by decide) ?_
          refine cw_callWi (As := [.int (nI p₁), .int (cd_pI 0), .int (cd_bI (true = true))]) (S := Unit) (BW := (fun u => (mdW h b1 b2 b3 b4 b5 b6 b7 cI cZ (nI 0) (upd mo n (nI p₁)) (upd mf n (cd_pI 0)) mt ma mc (upd ms n (cd_bI (true = true))) mq (n + 1)))) (wr := []) ⟨hx, hb, hml, hown, hts⟩ (c_X1_made l D cI cZ h b1 b2 b3 b4 b5 b6 b7 (nI 0) mo mf mt ma mc ms mq o f sd c₀ n hok _ p₁ 0 true hr2) (kX1_X1_made hts 0 0 0 0 ⟨by decide, by decide⟩) hK hP hD hS hA [0, 1, 2, 3, 4, 5, 6, 7] [] rfl rfl (by decide) (by decide) (by decide) (fun _ => rfl) 0 rfl rfl rfl rfl hl.1 rfl (Nat.le_of_ble_eq_true rfl) dX1_send_54 ⟨Nat.zero_le _, Nat.zero_le _⟩ (fun r u H locs hu hP hD hS => ?_)
          have hrr : r = nI n := hu
          subst hrr
          have hP : va_P D cdCl (mdW h b1 b2 b3 b4 b5 b6 b7 cI cZ (nI 0) (upd mo n (nI p₁)) (upd mf n (cd_pI 0)) mt ma mc (upd ms n (cd_bI (true = true))) mq (n + 1)) H := hP
          have hD : va_D A (mdW h b1 b2 b3 b4 b5 b6 b7 cI cZ (nI 0) (upd mo n (nI p₁)) (upd mf n (cd_pI 0)) mt ma mc (upd ms n (cd_bI (true = true))) mq (n + 1)) := hD
          have hok := cd_md_add (b := true) hok hr2 hp (j := 0) (by omega)
          exact W.iret (v := nI n) hx hb hr (fun t ht hW => ⟨⟨nI n, (nI 0, (upd mo n (nI p₁)), (upd mf n (cd_pI 0)), mt, ma, mc, (upd ms n (cd_bI (true = true))), mq), rfl, ⟨rfl, rfl, hok⟩, by show va_P D cdCl _ t.heap; rw [ht]; exact hP⟩, hS.F ht⟩) hS.2.2 dX1_send_57
        · exact absurd rfl hc
      · exact absurd hc4 (by omega)
  · exact absurd hc (by decide)
set_option maxHeartbeats 4000000 in
set_option maxRecDepth 100000 in
/-- receive: no process -/
theorem m1_X1_receive (l : Launch) (D : va_G) (cI cZ : ClassId) (h b1 b2 b3 b4 b5 b6 b7 : Nat) (er : Int32) (mo mf mt ma mc ms mq : Nat → Int32) (o f : Nat → Nat) (sd : Nat → Bool) (c₀ : Nat → Nat) (n : Nat) (hok : cd_md o f sd c₀ n mo mf mc ms) (sz : Nat) (x : Int32) (hbad : ¬ (0 ≤ x ∧ x < nI 6)) (y : Int32) : Met l yX1_receive (.code yX1_receive cX1_receive 3 (some .int) :: tW) (rmL 2) (cw_Pc D cdCl (dkT cI cZ) (mdW h b1 b2 b3 b4 b5 b6 b7 cI cZ er mo mf mt ma mc ms mq n) sz [.ref h, .int x, .int y]) (va_Qi (fun (r : Int32) (u : mdS) => u.1 = nI 1 ∧ mdP o f sd c₀ n u) (fun u t => va_P D cdCl (mdU h b1 b2 b3 b4 b5 b6 b7 cI cZ (n) u) t.heap) (va_A (mdW h b1 b2 b3 b4 b5 b6 b7 cI cZ er mo mf mt ma mc ms mq n) sz)) 0 0 (va_A (mdW h b1 b2 b3 b4 b5 b6 b7 cI cZ er mo mf mt ma mc ms mq n) sz) := by
  refine Met.ofW (cc := cX1_receive) (maxL := 3) (ret := (some .int)) (by decide) rfl ?_
  intro p e s m args below meth c s₁ B hml hv
  obtain ⟨rfl, hsz, hP, hK, hD0⟩ := hv
  have hx := B.exec
  have hb := B.bytes
  have hr := B.returns
  have hts := atoms_spec (ws := .code yX1_receive cX1_receive 3 (some .int) :: tW) B.pre
  have hown : s.vm.findClass RX1 = some m.cls := findClass_of_methodNamed B.named
  have hlocks := B.notSynchronized
  have hl := lv_entry ([.ref h, .int x, .int y]) (n := 3) (Nat.le_of_ble_eq_true rfl)
  rw [lg_entry_eq]
  generalize (lg_sl ([.ref h, .int x, .int y]) ++ List.replicate (3 - (lg_sl ([.ref h, .int x, .int y])).length) Slot.unset).toArray = ls at hl ⊢
  have hl : lv_has ls 3 [(0, .ref h), (1, .int x), (2, .int y)] := hl
  subst hsz
  have hD := hD0.self (sz := s.heap.size)
  generalize hAe : va_A (mdW h b1 b2 b3 b4 b5 b6 b7 cI cZ er mo mf mt ma mc ms mq n) s.heap.size = A at hD ⊢
  have hA : ∀ q : Nat, s.heap.size ≤ q → A q := fun q h => by rw [← hAe]; exact Or.inr h
  have hS : va_S A s.heap s.heap [] := va_S.rf
  have hok0 := hok
  obtain ⟨hn, hwf, hc2, hmo, hmf, hms, hmc⟩ := hok0
  refine lv_aload_n hx hb dX1_receive_0 rfl (lv_at hl 0 rfl) ?_
  refine lv_iconst (v := nI 0) hx hb dX1_receive_1 (by decide) ?_
  refine sX1_err hx hb hts hown hK hP hD hS 0 rfl rfl rfl (Nat.le_of_ble_eq_true rfl) dX1_receive_2 (fun H locs hP hD hS => ?_)
  have hP : va_P D cdCl (mdW h b1 b2 b3 b4 b5 b6 b7 cI cZ (nI 0) mo mf mt ma mc ms mq n) H := hP
  have hD : va_D A (mdW h b1 b2 b3 b4 b5 b6 b7 cI cZ (nI 0) mo mf mt ma mc ms mq n) := hD
  refine lv_aload_n hx hb dX1_receive_5 rfl (lv_at hl 0 rfl) ?_
  refine lv_iload_n hx hb dX1_receive_6 rfl (lv_at hl 1 rfl) ?_
  refine cw_callSr (As := [.int (x)]) ⟨hx, hb, hml, hown, hts⟩ (c_X1_isProcess l (x)) (kX1_X1_isProcess hts 1 0 0 30 ⟨by decide, by decide⟩) rfl hl.1 rfl (Nat.le_of_ble_eq_true rfl) dX1_receive_7 ⟨Nat.zero_le _, Nat.zero_le _⟩ ?_
  refine cw_topi (y := 0) (cd_bI_f hbad) ?_
  refine lv_if_eq (tgt := 40) hx hb dX1_receive_10 (by decide) (fun hc => ?_) (fun hc => ?_)
  · refine lv_iconst (v := nI 1) hx hb dX1_receive_40 (by decide) ?_
    refine lv_goto (tgt := 45) hx hb dX1_receive_41 (by decide) ?_
    refine lv_iconst (v := nI 1) hx hb dX1_receive_45 (by decide) ?_
    refine cw_callWi (As := [.int (nI 1), .int (nI 1)]) (S := Unit) (BW := (fun u => (mdW h b1 b2 b3 b4 b5 b6 b7 cI cZ (nI 1) mo mf mt ma mc ms mq n))) (wr := []) ⟨hx, hb, hml, hown, hts⟩ (c_X1_fails1 l D cI cZ h b1 b2 b3 b4 b5 b6 b7 mo mf mt ma mc ms mq o f sd c₀ n hok _ 1 (by decide) (by decide)) (kX1_X1_fails hts 0 0 0 0 ⟨by decide, by decide⟩) hK hP hD hS hA [0, 1, 2, 3, 4, 5, 6, 7] [] rfl rfl (by decide) (by decide) (by decide) (fun _ => rfl) 0 rfl rfl rfl rfl hl.1 rfl (Nat.le_of_ble_eq_true rfl) dX1_receive_46 ⟨Nat.zero_le _, Nat.zero_le _⟩ (fun r u H locs hu hP hD hS => ?_)
    have hrr : r = 1 := hu
    subst hrr
    have hP : va_P D cdCl (mdW h b1 b2 b3 b4 b5 b6 b7 cI cZ (nI 1) mo mf mt ma mc ms mq n) H := hP
    have hD : va_D A (mdW h b1 b2 b3 b4 b5 b6 b7 cI cZ (nI 1) mo mf mt ma mc ms mq n) := hD
    refine lv_if_ne (tgt := 75) hx hb dX1_receive_49 (by decide) (fun hc => ?_) (fun hc => ?_)
    · refine lv_iconst (v := nI 0) hx hb dX1_receive_75 (by decide) ?_
      exact W.iret (v := nI 0) hx hb hr (fun t ht hW => ⟨⟨nI 0, ((nI 1), mo, mf, mt, ma, mc, ms, mq), rfl, ⟨rfl, hok⟩, by show va_P D cdCl _ t.heap; rw [ht]; exact hP⟩, hS.F ht⟩) hS.2.2 dX1_receive_76
    · exact absurd hc (by decide)
  · exact absurd rfl hc
set_option maxHeartbeats 4000000 in
set_option maxRecDepth 100000 in
/-- receive: nothing to receive -/
theorem m3_X1_receive (l : Launch) (D : va_G) (cI cZ : ClassId) (h b1 b2 b3 b4 b5 b6 b7 : Nat) (er : Int32) (mo mf mt ma mc ms mq : Nat → Int32) (o f : Nat → Nat) (sd : Nat → Bool) (c₀ : Nat → Nat) (n : Nat) (hok : cd_md o f sd c₀ n mo mf mc ms) (sz : Nat) (p₁ : Nat) (hp : p₁ < 6) (x : Int32) (hb3 : ∀ k, k < n → x = nI k → sd k = true → o k ≠ p₁ → False) : Met l yX1_receive (.code yX1_receive cX1_receive 3 (some .int) :: tW) (rmL 2) (cw_Pc D cdCl (dkT cI cZ) (mdW h b1 b2 b3 b4 b5 b6 b7 cI cZ er mo mf mt ma mc ms mq n) sz [.ref h, .int (nI p₁), .int x]) (va_Qi (fun (r : Int32) (u : mdS) => u.1 = nI 1 ∧ mdP o f sd c₀ n u) (fun u t => va_P D cdCl (mdU h b1 b2 b3 b4 b5 b6 b7 cI cZ (n) u) t.heap) (va_A (mdW h b1 b2 b3 b4 b5 b6 b7 cI cZ er mo mf mt ma mc ms mq n) sz)) 0 0 (va_A (mdW h b1 b2 b3 b4 b5 b6 b7 cI cZ er mo mf mt ma mc ms mq n) sz) := by
  refine Met.ofW (cc := cX1_receive) (maxL := 3) (ret := (some .int)) (by decide) rfl ?_
  intro p e s m args below meth c s₁ B hml hv
  obtain ⟨rfl, hsz, hP, hK, hD0⟩ := hv
  have hx := B.exec
  have hb := B.bytes
  have hr := B.returns
  have hts := atoms_spec (ws := .code yX1_receive cX1_receive 3 (some .int) :: tW) B.pre
  have hown : s.vm.findClass RX1 = some m.cls := findClass_of_methodNamed B.named
  have hlocks := B.notSynchronized
  have hl := lv_entry ([.ref h, .int (nI p₁), .int x]) (n := 3) (Nat.le_of_ble_eq_true rfl)
  rw [lg_entry_eq]
  generalize (lg_sl ([.ref h, .int (nI p₁), .int x]) ++ List.replicate (3 - (lg_sl ([.ref h, .int (nI p₁), .int x])).length) Slot.unset).toArray = ls at hl ⊢
  have hl : lv_has ls 3 [(0, .ref h), (1, .int (nI p₁)), (2, .int x)] := hl
  subst hsz
  have hD := hD0.self (sz := s.heap.size)
  generalize hAe : va_A (mdW h b1 b2 b3 b4 b5 b6 b7 cI cZ er mo mf mt ma mc ms mq n) s.heap.size = A at hD ⊢
  have hA : ∀ q : Nat, s.heap.size ≤ q → A q := fun q h => by rw [← hAe]; exact Or.inr h
  have hS : va_S A s.heap s.heap [] := va_S.rf
  have hok0 := hok
  obtain ⟨hn, hwf, hc2, hmo, hmf, hms, hmc⟩ := hok0
  refine lv_aload_n hx hb dX1_receive_0 rfl (lv_at hl 0 rfl) ?_
  refine lv_iconst (v := nI 0) hx hb dX1_receive_1 (by decide) ?_
  refine sX1_err hx hb hts hown hK hP hD hS 0 rfl rfl rfl (Nat.le_of_ble_eq_true rfl) dX1_receive_2 (fun H locs hP hD hS => ?_)
  have hP : va_P D cdCl (mdW h b1 b2 b3 b4 b5 b6 b7 cI cZ (nI 0) mo mf mt ma mc ms mq n) H := hP
  have hD : va_D A (mdW h b1 b2 b3 b4 b5 b6 b7 cI cZ (nI 0) mo mf mt ma mc ms mq n) := hD
  refine lv_aload_n hx hb dX1_receive_5 rfl (lv_at hl 0 rfl) ?_
  refine lv_iload_n hx hb dX1_receive_6 rfl (lv_at hl 1 rfl) ?_
  refine cw_callSr (As := [.int (nI p₁)]) ⟨hx, hb, hml, hown, hts⟩ (c_X1_isProcess l (nI p₁)) (kX1_X1_isProcess hts 1 0 0 30 ⟨by decide, by decide⟩) rfl hl.1 rfl (Nat.le_of_ble_eq_true rfl) dX1_receive_7 ⟨Nat.zero_le _, Nat.zero_le _⟩ ?_
  refine cw_topi (y := 1) (cd_bI_t ⟨nI_pos' (by omega), nI_lt (by omega) (by decide)⟩) ?_
  refine lv_if_eq (tgt := 40) hx hb dX1_receive_10 (by decide) (fun hc => ?_) (fun hc => ?_)
  · exact absurd hc (by decide)
  · refine lv_aload_n hx hb dX1_receive_13 rfl (lv_at hl 0 rfl) ?_
    refine lv_iload_n hx hb dX1_receive_14 rfl (lv_at hl 2 rfl) ?_
    rcases cd_ix x (n := n) (by omega) with ⟨k, hk, rfl⟩ | hbad
    · refine cw_callR (As := [.int (nI k)]) ⟨hx, hb, hml, hown, hts⟩ (c_X1_isEvent l D cI cZ h b1 b2 b3 b4 b5 b6 b7 (nI 0) mo mf mt ma mc ms mq o f sd c₀ n hok (nI k)) (kX1_X1_isEvent hts 1 0 0 30 ⟨by decide, by decide⟩) hK hP 0 rfl rfl rfl rfl hl.1 rfl (Nat.le_of_ble_eq_true rfl) dX1_receive_15 ⟨Nat.zero_le _, Nat.zero_le _⟩ ?_
      refine cw_topi (y := 1) (cd_bI_t ⟨nI_pos' (by omega), nI_lt (by omega) (by omega)⟩) ?_
      refine lv_if_eq (tgt := 40) hx hb dX1_receive_18 (by decide) (fun hc => ?_) (fun hc => ?_)
      · exact absurd hc (by decide)
      · refine lv_aload_n hx hb dX1_receive_21 rfl (lv_at hl 0 rfl) ?_
        refine gX1_sends hx hb hts hown hK hP 0 rfl rfl dX1_receive_22 ?_
        refine lv_iload_n hx hb dX1_receive_25 rfl (lv_at hl 2 rfl) ?_
        refine cw_zald hx hb hK hP 6 1 rfl rfl (k := k) (v := cd_bI (sd k = true)) (by omega) (by decide) (hms k hk) dX1_receive_26 ?_
        refine lv_if_eq (tgt := 40) hx hb dX1_receive_27 (by decide) (fun h1 => ?_) (fun h1 => ?_)
        · refine lv_iconst (v := nI 1) hx hb dX1_receive_40 (by decide) ?_
          refine lv_goto (tgt := 45) hx hb dX1_receive_41 (by decide) ?_
          refine lv_iconst (v := nI 1) hx hb dX1_receive_45 (by decide) ?_
          refine cw_callWi (As := [.int (nI 1), .int (nI 1)]) (S := Unit) (BW := (fun u => (mdW h b1 b2 b3 b4 b5 b6 b7 cI cZ (nI 1) mo mf mt ma mc ms mq n))) (wr := []) ⟨hx, hb, hml, hown, hts⟩ (c_X1_fails1 l D cI cZ h b1 b2 b3 b4 b5 b6 b7 mo mf mt ma mc ms mq o f sd c₀ n hok _ 1 (by decide) (by decide)) (kX1_X1_fails hts 0 0 0 0 ⟨by decide, by decide⟩) hK hP hD hS hA [0, 1, 2, 3, 4, 5, 6, 7] [] rfl rfl (by decide) (by decide) (by decide) (fun _ => rfl) 0 rfl rfl rfl rfl hl.1 rfl (Nat.le_of_ble_eq_true rfl) dX1_receive_46 ⟨Nat.zero_le _, Nat.zero_le _⟩ (fun r u H locs hu hP hD hS => ?_)
          have hrr : r = 1 := hu
          subst hrr
          have hP : va_P D cdCl (mdW h b1 b2 b3 b4 b5 b6 b7 cI cZ (nI 1) mo mf mt ma mc ms mq n) H := hP
          have hD : va_D A (mdW h b1 b2 b3 b4 b5 b6 b7 cI cZ (nI 1) mo mf mt ma mc ms mq n) := hD
          refine lv_if_ne (tgt := 75) hx hb dX1_receive_49 (by decide) (fun hc => ?_) (fun hc => ?_)
          · refine lv_iconst (v := nI 0) hx hb dX1_receive_75 (by decide) ?_
            exact W.iret (v := nI 0) hx hb hr (fun t ht hW => ⟨⟨nI 0, ((nI 1), mo, mf, mt, ma, mc, ms, mq), rfl, ⟨rfl, hok⟩, by show va_P D cdCl _ t.heap; rw [ht]; exact hP⟩, hS.F ht⟩) hS.2.2 dX1_receive_76
          · exact absurd hc (by decide)
        · have h1 : sd k = true := Classical.byContradiction (fun z => h1 (cd_bI_z.mpr z))
          have ho := (hwf k hk).1
          refine lv_aload_n hx hb dX1_receive_30 rfl (lv_at hl 0 rfl) ?_
          refine gX1_of hx hb hts hown hK hP 0 rfl rfl dX1_receive_31 ?_
          refine lv_iload_n hx hb dX1_receive_34 rfl (lv_at hl 2 rfl) ?_
          refine cw_iald hx hb hK hP 1 0 rfl rfl (k := k) (v := nI (o k)) (by omega) (by decide) (hmo k hk) dX1_receive_35 ?_
          refine lv_iload_n hx hb dX1_receive_36 rfl (lv_at hl 1 rfl) ?_
          refine cw_ne (tgt := 44) (x := (o k)) (y := p₁) hx hb dX1_receive_37 (by decide) (by omega) (by omega) (fun hc5 => ?_) (fun hc5 => ?_)
          · exact (hb3 k hk rfl h1 hc5).elim
          · refine lv_iconst (v := nI 1) hx hb dX1_receive_40 (by decide) ?_
            refine lv_goto (tgt := 45) hx hb dX1_receive_41 (by decide) ?_
            refine lv_iconst (v := nI 1) hx hb dX1_receive_45 (by decide) ?_
            refine cw_callWi (As := [.int (nI 1), .int (nI 1)]) (S := Unit) (BW := (fun u => (mdW h b1 b2 b3 b4 b5 b6 b7 cI cZ (nI 1) mo mf mt ma mc ms mq n))) (wr := []) ⟨hx, hb, hml, hown, hts⟩ (c_X1_fails1 l D cI cZ h b1 b2 b3 b4 b5 b6 b7 mo mf mt ma mc ms mq o f sd c₀ n hok _ 1 (by decide) (by decide)) (kX1_X1_fails hts 0 0 0 0 ⟨by decide, by decide⟩) hK hP hD hS hA [0, 1, 2, 3, 4, 5, 6, 7] [] rfl rfl (by decide) (by decide) (by decide) (fun _ => rfl) 0 rfl rfl rfl rfl hl.1 rfl (Nat.le_of_ble_eq_true rfl) dX1_receive_46 ⟨Nat.zero_le _, Nat.zero_le _⟩ (fun r u H locs hu hP hD hS => ?_)
            have hrr : r = 1 := hu
            subst hrr
            have hP : va_P D cdCl (mdW h b1 b2 b3 b4 b5 b6 b7 cI cZ (nI 1) mo mf mt ma mc ms mq n) H := hP
            have hD : va_D A (mdW h b1 b2 b3 b4 b5 b6 b7 cI cZ (nI 1) mo mf mt ma mc ms mq n) := hD
            refine lv_if_ne (tgt := 75) hx hb dX1_receive_49 (by decide) (fun hc => ?_) (fun hc => ?_)
            · refine lv_iconst (v := nI 0) hx hb dX1_receive_75 (by decide) ?_
              exact W.iret (v := nI 0) hx hb hr (fun t ht hW => ⟨⟨nI 0, ((nI 1), mo, mf, mt, ma, mc, ms, mq), rfl, ⟨rfl, hok⟩, by show va_P D cdCl _ t.heap; rw [ht]; exact hP⟩, hS.F ht⟩) hS.2.2 dX1_receive_76
            · exact absurd hc (by decide)
    · refine cw_callR (As := [.int (x)]) ⟨hx, hb, hml, hown, hts⟩ (c_X1_isEvent l D cI cZ h b1 b2 b3 b4 b5 b6 b7 (nI 0) mo mf mt ma mc ms mq o f sd c₀ n hok (x)) (kX1_X1_isEvent hts 1 0 0 30 ⟨by decide, by decide⟩) hK hP 0 rfl rfl rfl rfl hl.1 rfl (Nat.le_of_ble_eq_true rfl) dX1_receive_15 ⟨Nat.zero_le _, Nat.zero_le _⟩ ?_
      refine cw_topi (y := 0) (cd_bI_f hbad) ?_
      refine lv_if_eq (tgt := 40) hx hb dX1_receive_18 (by decide) (fun hc => ?_) (fun hc => ?_)
      · refine lv_iconst (v := nI 1) hx hb dX1_receive_40 (by decide) ?_
        refine lv_goto (tgt := 45) hx hb dX1_receive_41 (by decide) ?_
        refine lv_iconst (v := nI 1) hx hb dX1_receive_45 (by decide) ?_
        refine cw_callWi (As := [.int (nI 1), .int (nI 1)]) (S := Unit) (BW := (fun u => (mdW h b1 b2 b3 b4 b5 b6 b7 cI cZ (nI 1) mo mf mt ma mc ms mq n))) (wr := []) ⟨hx, hb, hml, hown, hts⟩ (c_X1_fails1 l D cI cZ h b1 b2 b3 b4 b5 b6 b7 mo mf mt ma mc ms mq o f sd c₀ n hok _ 1 (by decide) (by decide)) (kX1_X1_fails hts 0 0 0 0 ⟨by decide, by decide⟩) hK hP hD hS hA [0, 1, 2, 3, 4, 5, 6, 7] [] rfl rfl (by decide) (by decide) (by decide) (fun _ => rfl) 0 rfl rfl rfl rfl hl.1 rfl (Nat.le_of_ble_eq_true rfl) dX1_receive_46 ⟨Nat.zero_le _, Nat.zero_le _⟩ (fun r u H locs hu hP hD hS => ?_)
        have hrr : r = 1 := hu
        subst hrr
        have hP : va_P D cdCl (mdW h b1 b2 b3 b4 b5 b6 b7 cI cZ (nI 1) mo mf mt ma mc ms mq n) H := hP
        have hD : va_D A (mdW h b1 b2 b3 b4 b5 b6 b7 cI cZ (nI 1) mo mf mt ma mc ms mq n) := hD
        refine lv_if_ne (tgt := 75) hx hb dX1_receive_49 (by decide) (fun hc => ?_) (fun hc => ?_)
        · refine lv_iconst (v := nI 0) hx hb dX1_receive_75 (by decide) ?_
          exact W.iret (v := nI 0) hx hb hr (fun t ht hW => ⟨⟨nI 0, ((nI 1), mo, mf, mt, ma, mc, ms, mq), rfl, ⟨rfl, hok⟩, by show va_P D cdCl _ t.heap; rw [ht]; exact hP⟩, hS.F ht⟩) hS.2.2 dX1_receive_76
        · exact absurd hc (by decide)
      · exact absurd rfl hc
set_option maxHeartbeats 4000000 in
set_option maxRecDepth 100000 in
/-- receive -/
theorem m2_X1_receive (l : Launch) (D : va_G) (cI cZ : ClassId) (h b1 b2 b3 b4 b5 b6 b7 : Nat) (er : Int32) (mo mf mt ma mc ms mq : Nat → Int32) (o f : Nat → Nat) (sd : Nat → Bool) (c₀ : Nat → Nat) (n : Nat) (hok : cd_md o f sd c₀ n mo mf mc ms) (sz : Nat) (p₁ k : Nat) (hp : p₁ < 6) (hk : k < n) (hsk : sd k = true) (hok2 : o k ≠ p₁) (hr2 : n = 200) : Met l yX1_receive (.code yX1_receive cX1_receive 3 (some .int) :: tW) (rmL 2) (cw_Pc D cdCl (dkT cI cZ) (mdW h b1 b2 b3 b4 b5 b6 b7 cI cZ er mo mf mt ma mc ms mq n) sz [.ref h, .int (nI p₁), .int (nI k)]) (va_Qi (fun (r : Int32) (u : mdS) => u.1 = nI 2 ∧ mdP o f sd c₀ n u) (fun u t => va_P D cdCl (mdU h b1 b2 b3 b4 b5 b6 b7 cI cZ (n) u) t.heap) (va_A (mdW h b1 b2 b3 b4 b5 b6 b7 cI cZ er mo mf mt ma mc ms mq n) sz)) 0 0 (va_A (mdW h b1 b2 b3 b4 b5 b6 b7 cI cZ er mo mf mt ma mc ms mq n) sz) := by
  refine Met.ofW (cc := cX1_receive) (maxL := 3) (ret := (some .int)) (by decide) rfl ?_
  intro p e s m args below meth c s₁ B hml hv
  obtain ⟨rfl, hsz, hP, hK, hD0⟩ := hv
  have hx := B.exec
  have hb := B.bytes
  have hr := B.returns
  have hts := atoms_spec (ws := .code yX1_receive cX1_receive 3 (some .int) :: tW) B.pre
  have hown : s.vm.findClass RX1 = some m.cls := findClass_of_methodNamed B.named
  have hlocks := B.notSynchronized
  have hl := lv_entry ([.ref h, .int (nI p₁), .int (nI k)]) (n := 3) (Nat.le_of_ble_eq_true rfl)
  rw [lg_entry_eq]
  generalize (lg_sl ([.ref h, .int (nI p₁), .int (nI k)]) ++ List.replicate (3 - (lg_sl ([.ref h, .int (nI p₁), .int (nI k)])).length) Slot.unset).toArray = ls at hl ⊢
  have hl : lv_has ls 3 [(0, .ref h), (1, .int (nI p₁)), (2, .int (nI k))] := hl
  subst hsz
  have hD := hD0.self (sz := s.heap.size)
  generalize hAe : va_A (mdW h b1 b2 b3 b4 b5 b6 b7 cI cZ er mo mf mt ma mc ms mq n) s.heap.size = A at hD ⊢
  have hA : ∀ q : Nat, s.heap.size ≤ q → A q := fun q h => by rw [← hAe]; exact Or.inr h
  have hS : va_S A s.heap s.heap [] := va_S.rf
  have hok0 := hok
  obtain ⟨hn, hwf, hc2, hmo, hmf, hms, hmc⟩ := hok0
  refine lv_aload_n hx hb dX1_receive_0 rfl (lv_at hl 0 rfl) ?_
  refine lv_iconst (v := nI 0) hx hb dX1_receive_1 (by decide) ?_
  refine sX1_err hx hb hts hown hK hP hD hS 0 rfl rfl rfl (Nat.le_of_ble_eq_true rfl) dX1_receive_2 (fun H locs hP hD hS => ?_)
  have hP : va_P D cdCl (mdW h b1 b2 b3 b4 b5 b6 b7 cI cZ (nI 0) mo mf mt ma mc ms mq n) H := hP
  have hD : va_D A (mdW h b1 b2 b3 b4 b5 b6 b7 cI cZ (nI 0) mo mf mt ma mc ms mq n) := hD
  refine lv_aload_n hx hb dX1_receive_5 rfl (lv_at hl 0 rfl) ?_
  refine lv_iload_n hx hb dX1_receive_6 rfl (lv_at hl 1 rfl) ?_
  refine cw_callSr (As := [.int (nI p₁)]) ⟨hx, hb, hml, hown, hts⟩ (c_X1_isProcess l (nI p₁)) (kX1_X1_isProcess hts 1 0 0 30 ⟨by decide, by decide⟩) rfl hl.1 rfl (Nat.le_of_ble_eq_true rfl) dX1_receive_7 ⟨Nat.zero_le _, Nat.zero_le _⟩ ?_
  refine cw_topi (y := 1) (cd_bI_t ⟨nI_pos' (by omega), nI_lt (by omega) (by decide)⟩) ?_
  refine lv_if_eq (tgt := 40) hx hb dX1_receive_10 (by decide) (fun hc => ?_) (fun hc => ?_)
  · exact absurd hc (by decide)
  · refine lv_aload_n hx hb dX1_receive_13 rfl (lv_at hl 0 rfl) ?_
    refine lv_iload_n hx hb dX1_receive_14 rfl (lv_at hl 2 rfl) ?_
    refine cw_callR (As := [.int (nI k)]) ⟨hx, hb, hml, hown, hts⟩ (c_X1_isEvent l D cI cZ h b1 b2 b3 b4 b5 b6 b7 (nI 0) mo mf mt ma mc ms mq o f sd c₀ n hok (nI k)) (kX1_X1_isEvent hts 1 0 0 30 ⟨by decide, by decide⟩) hK hP 0 rfl rfl rfl rfl hl.1 rfl (Nat.le_of_ble_eq_true rfl) dX1_receive_15 ⟨Nat.zero_le _, Nat.zero_le _⟩ ?_
    refine cw_topi (y := 1) (cd_bI_t ⟨nI_pos' (by omega), nI_lt (by omega) (by omega)⟩) ?_
    refine lv_if_eq (tgt := 40) hx hb dX1_receive_18 (by decide) (fun hc => ?_) (fun hc => ?_)
    · exact absurd hc (by decide)
    · refine lv_aload_n hx hb dX1_receive_21 rfl (lv_at hl 0 rfl) ?_
      refine gX1_sends hx hb hts hown hK hP 0 rfl rfl dX1_receive_22 ?_
      refine lv_iload_n hx hb dX1_receive_25 rfl (lv_at hl 2 rfl) ?_
      refine cw_zald hx hb hK hP 6 1 rfl rfl (k := k) (v := cd_bI (sd k = true)) (by omega) (by decide) (hms k hk) dX1_receive_26 ?_
      refine cw_topi (y := 1) (cd_bI_t hsk) ?_
      refine lv_if_eq (tgt := 40) hx hb dX1_receive_27 (by decide) (fun hc => ?_) (fun hc => ?_)
      · exact absurd hc (by decide)
      · have ho := (hwf k hk).1
        refine lv_aload_n hx hb dX1_receive_30 rfl (lv_at hl 0 rfl) ?_
        refine gX1_of hx hb hts hown hK hP 0 rfl rfl dX1_receive_31 ?_
        refine lv_iload_n hx hb dX1_receive_34 rfl (lv_at hl 2 rfl) ?_
        refine cw_iald hx hb hK hP 1 0 rfl rfl (k := k) (v := nI (o k)) (by omega) (by decide) (hmo k hk) dX1_receive_35 ?_
        refine lv_iload_n hx hb dX1_receive_36 rfl (lv_at hl 1 rfl) ?_
        refine cw_ne (tgt := 44) (x := (o k)) (y := p₁) hx hb dX1_receive_37 (by decide) (by omega) (by omega) (fun hc5 => ?_) (fun hc5 => ?_)
        · refine lv_iconst (v := nI 0) hx hb dX1_receive_44 (by decide) ?_
          refine lv_iconst (v := nI 1) hx hb dX1_receive_45 (by decide) ?_
          refine cw_callR (As := [.int (nI 0), .int (nI 1)]) ⟨hx, hb, hml, hown, hts⟩ (c_X1_fails0 l D cI cZ h b1 b2 b3 b4 b5 b6 b7 mo mf mt ma mc ms mq o f sd c₀ n hok (nI 1)) (kX1_X1_fails hts 0 0 0 0 ⟨by decide, by decide⟩) hK hP 0 rfl rfl rfl rfl hl.1 rfl (Nat.le_of_ble_eq_true rfl) dX1_receive_46 ⟨Nat.zero_le _, Nat.zero_le _⟩ ?_
          refine lv_if_ne (tgt := 75) hx hb dX1_receive_49 (by decide) (fun hc => ?_) (fun hc => ?_)
          · exact absurd rfl hc
          · refine lv_aload_n hx hb dX1_receive_52 rfl (lv_at hl 0 rfl) ?_
            refine lv_aload_n hx hb dX1_receive_53 rfl (lv_at hl 0 rfl) ?_
            refine gX1_events hx hb hts hown hK hP 0 rfl rfl dX1_receive_54 ?_
            refine lv_sipush (v := nI 200) hx hb dX1_receive_57 (by decide) ?_
            refine cw_ne (tgt := 67) (x := n) (y := 200) hx hb dX1_receive_60 (by decide) (by omega) (by omega) (fun hc4 => ?_) (fun hc4 => ?_)
            · exact absurd hr2 hc4
            · refine lv_iconst (v := nI 1) hx hb dX1_receive_63 (by decide) ?_
              refine lv_goto (tgt := 68) hx hb dX1_receive_64 (by decide) ?_
              refine lv_iconst (v := nI 2) hx hb dX1_receive_68 (by decide) ?_
              refine cw_callWi (As := [.int (nI 1), .int (nI 2)]) (S := Unit) (BW := (fun u => (mdW h b1 b2 b3 b4 b5 b6 b7 cI cZ (nI 2) mo mf mt ma mc ms mq n))) (wr := []) ⟨hx, hb, hml, hown, hts⟩ (c_X1_fails1 l D cI cZ h b1 b2 b3 b4 b5 b6 b7 mo mf mt ma mc ms mq o f sd c₀ n hok _ 2 (by decide) (by decide)) (kX1_X1_fails hts 0 0 0 0 ⟨by decide, by decide⟩) hK hP hD hS hA [0, 1, 2, 3, 4, 5, 6, 7] [] rfl rfl (by decide) (by decide) (by decide) (fun _ => rfl) 0 rfl rfl rfl rfl hl.1 rfl (Nat.le_of_ble_eq_true rfl) dX1_receive_69 ⟨Nat.zero_le _, Nat.zero_le _⟩ (fun r u H locs hu hP hD hS => ?_)
              have hrr : r = 1 := hu
              subst hrr
              have hP : va_P D cdCl (mdW h b1 b2 b3 b4 b5 b6 b7 cI cZ (nI 2) mo mf mt ma mc ms mq n) H := hP
              have hD : va_D A (mdW h b1 b2 b3 b4 b5 b6 b7 cI cZ (nI 2) mo mf mt ma mc ms mq n) := hD
              refine lv_if_eq (tgt := 77) hx hb dX1_receive_72 (by decide) (fun hc => ?_) (fun hc => ?_)
              · exact absurd hc (by decide)
              · refine lv_iconst (v := nI 0) hx hb dX1_receive_75 (by decide) ?_
                exact W.iret (v := nI 0) hx hb hr (fun t ht hW => ⟨⟨nI 0, ((nI 2), mo, mf, mt, ma, mc, ms, mq), rfl, ⟨rfl, hok⟩, by show va_P D cdCl _ t.heap; rw [ht]; exact hP⟩, hS.F ht⟩) hS.2.2 dX1_receive_76
        · exact absurd hc5 hok2
set_option maxHeartbeats 4000000 in
set_option maxRecDepth 100000 in
/-- receive -/
theorem m0_X1_receive (l : Launch) (D : va_G) (cI cZ : ClassId) (h b1 b2 b3 b4 b5 b6 b7 : Nat) (er : Int32) (mo mf mt ma mc ms mq : Nat → Int32) (o f : Nat → Nat) (sd : Nat → Bool) (c₀ : Nat → Nat) (n : Nat) (hok : cd_md o f sd c₀ n mo mf mc ms) (sz : Nat) (p₁ k : Nat) (hp : p₁ < 6) (hk : k < n) (hsk : sd k = true) (hok2 : o k ≠ p₁) (hr2 : n < 200) : Met l yX1_receive (.code yX1_receive cX1_receive 3 (some .int) :: tW) (rmL 2) (cw_Pc D cdCl (dkT cI cZ) (mdW h b1 b2 b3 b4 b5 b6 b7 cI cZ er mo mf mt ma mc ms mq n) sz [.ref h, .int (nI p₁), .int (nI k)]) (va_Qi (fun (r : Int32) (u : mdS) => r = nI n ∧ u.1 = nI 0 ∧ mdP (cd_up o n p₁) (cd_up f n (k + 1)) (cd_up sd n false) c₀ (n + 1) u) (fun u t => va_P D cdCl (mdU h b1 b2 b3 b4 b5 b6 b7 cI cZ (n + 1) u) t.heap) (va_A (mdW h b1 b2 b3 b4 b5 b6 b7 cI cZ er mo mf mt ma mc ms mq n) sz)) 0 0 (va_A (mdW h b1 b2 b3 b4 b5 b6 b7 cI cZ er mo mf mt ma mc ms mq n) sz) := by
  refine Met.ofW (cc := cX1_receive) (maxL := 3) (ret := (some .int)) (by decide) rfl ?_
  intro p e s m args below meth c s₁ B hml hv
  obtain ⟨rfl, hsz, hP, hK, hD0⟩ := hv
  have hx := B.exec
  have hb := B.bytes
  have hr := B.returns
  have hts := atoms_spec (ws := .code yX1_receive cX1_receive 3 (some .int) :: tW) B.pre
  have hown : s.vm.findClass RX1 = some m.cls := findClass_of_methodNamed B.named
  have hlocks := B.notSynchronized
  have hl := lv_entry ([.ref h, .int (nI p₁), .int (nI k)]) (n := 3) (Nat.le_of_ble_eq_true rfl)
  rw [lg_entry_eq]
  generalize (lg_sl ([.ref h, .int (nI p₁), .int (nI k)]) ++ List.replicate (3 - (lg_sl ([.ref h, .int (nI p₁), .int (nI k)])).length) Slot.unset).toArray = ls at hl ⊢
  have hl : lv_has ls 3 [(0, .ref h), (1, .int (nI p₁)), (2, .int (nI k))] := hl
  subst hsz
  have hD := hD0.self (sz := s.heap.size)
  generalize hAe : va_A (mdW h b1 b2 b3 b4 b5 b6 b7 cI cZ er mo mf mt ma mc ms mq n) s.heap.size = A at hD ⊢
  have hA : ∀ q : Nat, s.heap.size ≤ q → A q := fun q h => by rw [← hAe]; exact Or.inr h
  have hS : va_S A s.heap s.heap [] := va_S.rf
  have hok0 := hok
  obtain ⟨hn, hwf, hc2, hmo, hmf, hms, hmc⟩ := hok0
  refine lv_aload_n hx hb dX1_receive_0 rfl (lv_at hl 0 rfl) ?_
  refine lv_iconst (v := nI 0) hx hb dX1_receive_1 (by decide) ?_
  refine sX1_err hx hb hts hown hK hP hD hS 0 rfl rfl rfl (Nat.le_of_ble_eq_true rfl) dX1_receive_2 (fun H locs hP hD hS => ?_)
  have hP : va_P D cdCl (mdW h b1 b2 b3 b4 b5 b6 b7 cI cZ (nI 0) mo mf mt ma mc ms mq n) H := hP
  have hD : va_D A (mdW h b1 b2 b3 b4 b5 b6 b7 cI cZ (nI 0) mo mf mt ma mc ms mq n) := hD
  refine lv_aload_n hx hb dX1_receive_5 rfl (lv_at hl 0 rfl) ?_
  refine lv_iload_n hx hb dX1_receive_6 rfl (lv_at hl 1 rfl) ?_
  refine cw_callSr (As := [.int (nI p₁)]) ⟨hx, hb, hml, hown, hts⟩ (c_X1_isProcess l (nI p₁)) (kX1_X1_isProcess hts 1 0 0 30 ⟨by decide, by decide⟩) rfl hl.1 rfl (Nat.le_of_ble_eq_true rfl) dX1_receive_7 ⟨Nat.zero_le _, Nat.zero_le _⟩ ?_
  refine cw_topi (y := 1) (cd_bI_t ⟨nI_pos' (by omega), nI_lt (by omega) (by decide)⟩) ?_
  refine lv_if_eq (tgt := 40) hx hb dX1_receive_10 (by decide) (fun hc => ?_) (fun hc => ?_)
  · exact absurd hc (by decide)
  · refine lv_aload_n hx hb dX1_receive_13 rfl (lv_at hl 0 rfl) ?_
    refine lv_iload_n hx hb dX1_receive_14 rfl (lv_at hl 2 rfl) ?_
    refine cw_callR (As := [.int (nI k)]) ⟨hx, hb, hml, hown, hts⟩ (c_X1_isEvent l D cI cZ h b1 b2 b3 b4 b5 b6 b7 (nI 0) mo mf mt ma mc ms mq o f sd c₀ n hok (nI k)) (kX1_X1_isEvent hts 1 0 0 30 ⟨by decide, by decide⟩) hK hP 0 rfl rfl rfl rfl hl.1 rfl (Nat.le_of_ble_eq_true rfl) dX1_receive_15 ⟨Nat.zero_le _, Nat.zero_le _⟩ ?_
    refine cw_topi (y := 1) (cd_bI_t ⟨nI_pos' (by omega), nI_lt (by omega) (by omega)⟩) ?_
    refine lv_if_eq (tgt := 40) hx hb dX1_receive_18 (by decide) (fun hc => ?_) (fun hc => ?_)
    · exact absurd hc (by decide)
    · refine lv_aload_n hx hb dX1_receive_21 rfl (lv_at hl 0 rfl) ?_
      refine gX1_sends hx hb hts hown hK hP 0 rfl rfl dX1_receive_22 ?_
      refine lv_iload_n hx hb dX1_receive_25 rfl (lv_at hl 2 rfl) ?_
      refine cw_zald hx hb hK hP 6 1 rfl rfl (k := k) (v := cd_bI (sd k = true)) (by omega) (by decide) (hms k hk) dX1_receive_26 ?_
      refine cw_topi (y := 1) (cd_bI_t hsk) ?_
      refine lv_if_eq (tgt := 40) hx hb dX1_receive_27 (by decide) (fun hc => ?_) (fun hc => ?_)
      · exact absurd hc (by decide)
      · have ho := (hwf k hk).1
        refine lv_aload_n hx hb dX1_receive_30 rfl (lv_at hl 0 rfl) ?_
        refine gX1_of hx hb hts hown hK hP 0 rfl rfl dX1_receive_31 ?_
        refine lv_iload_n hx hb dX1_receive_34 rfl (lv_at hl 2 rfl) ?_
        refine cw_iald hx hb hK hP 1 0 rfl rfl (k := k) (v := nI (o k)) (by omega) (by decide) (hmo k hk) dX1_receive_35 ?_
        refine lv_iload_n hx hb dX1_receive_36 rfl (lv_at hl 1 rfl) ?_
        refine cw_ne (tgt := 44) (x := (o k)) (y := p₁) hx hb dX1_receive_37 (by decide) (by omega) (by omega) (fun hc5 => ?_) (fun hc5 => ?_)
        · refine lv_iconst (v := nI 0) hx hb dX1_receive_44 (by decide) ?_
          refine lv_iconst (v := nI 1) hx hb dX1_receive_45 (by decide) ?_
          refine cw_callR (As := [.int (nI 0), .int (nI 1)]) ⟨hx, hb, hml, hown, hts⟩ (c_X1_fails0 l D cI cZ h b1 b2 b3 b4 b5 b6 b7 mo mf mt ma mc ms mq o f sd c₀ n hok (nI 1)) (kX1_X1_fails hts 0 0 0 0 ⟨by decide, by decide⟩) hK hP 0 rfl rfl rfl rfl hl.1 rfl (Nat.le_of_ble_eq_true rfl) dX1_receive_46 ⟨Nat.zero_le _, Nat.zero_le _⟩ ?_
          refine lv_if_ne (tgt := 75) hx hb dX1_receive_49 (by decide) (fun hc => ?_) (fun hc => ?_)
          · exact absurd rfl hc
          · refine lv_aload_n hx hb dX1_receive_52 rfl (lv_at hl 0 rfl) ?_
            refine lv_aload_n hx hb dX1_receive_53 rfl (lv_at hl 0 rfl) ?_
            refine gX1_events hx hb hts hown hK hP 0 rfl rfl dX1_receive_54 ?_
            refine lv_sipush (v := nI 200) hx hb dX1_receive_57 (by decide) ?_
            refine cw_ne (tgt := 67) (x := n) (y := 200) hx hb dX1_receive_60 (by decide) (by omega) (by omega) (fun hc4 => ?_) (fun hc4 => ?_)
            · refine lv_iconst (v := nI 0) hx hb dX1_receive_67 (by decide) ?_
              refine lv_iconst (v := nI 2) hx hb dX1_receive_68 (by decide) ?_
              refine cw_callR (As := [.int (nI 0), .int (nI 2)]) ⟨hx, hb, hml, hown, hts⟩ (c_X1_fails0 l D cI cZ h b1 b2 b3 b4 b5 b6 b7 mo mf mt ma mc ms mq o f sd c₀ n hok (nI 2)) (kX1_X1_fails hts 0 0 0 0 ⟨by decide, by decide⟩) hK hP 0 rfl rfl rfl rfl hl.1 rfl (Nat.le_of_ble_eq_true rfl) dX1_receive_69 ⟨Nat.zero_le _, Nat.zero_le _⟩ ?_
              refine lv_if_eq (tgt := 77) hx hb dX1_receive_72 (by decide) (fun hc => ?_) (fun hc => ?_)
              · refine lv_aload_n hx hb dX1_receive_77 rfl (lv_at hl 0 rfl) ?_
                refine lv_iload_n hx hb dX1_receive_78 rfl (lv_at hl 1 rfl) ?_
                refine lv_iload_n hx hb dX1_receive_79 rfl (lv_at hl 2 rfl) ?_
                refine lv_iconst (v := nI 0) hx hb dX1_receive_80 (by decide) ?_
                refine cw_callWi (As := [.int (nI p₁), .int (cd_pI (k + 1)), .int (cd_bI (false = true))]) (S := Unit) (BW := (fun u => (mdW h b1 b2 b3 b4 b5 b6 b7 cI cZ (nI 0) (upd mo n (nI p₁)) (upd mf n (cd_pI (k + 1))) mt ma mc (upd ms n (cd_bI (false = true))) mq (n + 1)))) (wr := []) ⟨hx, hb, hml, hown, hts⟩ (c_X1_made l D cI cZ h b1 b2 b3 b4 b5 b6 b7 (nI 0) mo mf mt ma mc ms mq o f sd c₀ n hok _ p₁ (k + 1) false hr2) (kX1_X1_made hts 0 0 0 0 ⟨by decide, by decide⟩) hK hP hD hS hA [0, 1, 2, 3, 4, 5, 6, 7] [] rfl rfl (by decide) (by decide) (by decide) (fun _ => rfl) 0 rfl rfl rfl rfl hl.1 rfl (Nat.le_of_ble_eq_true rfl) dX1_receive_81 ⟨Nat.zero_le _, Nat.zero_le _⟩ (fun r u H locs hu hP hD hS => ?_)
                have hrr : r = nI n := hu
                subst hrr
                have hP : va_P D cdCl (mdW h b1 b2 b3 b4 b5 b6 b7 cI cZ (nI 0) (upd mo n (nI p₁)) (upd mf n (cd_pI (k + 1))) mt ma mc (upd ms n (cd_bI (false = true))) mq (n + 1)) H := hP
                have hD : va_D A (mdW h b1 b2 b3 b4 b5 b6 b7 cI cZ (nI 0) (upd mo n (nI p₁)) (upd mf n (cd_pI (k + 1))) mt ma mc (upd ms n (cd_bI (false = true))) mq (n + 1)) := hD
                have hok := cd_md_add (b := false) hok hr2 hp (j := k + 1) (by omega)
                exact W.iret (v := nI n) hx hb hr (fun t ht hW => ⟨⟨nI n, (nI 0, (upd mo n (nI p₁)), (upd mf n (cd_pI (k + 1))), mt, ma, mc, (upd ms n (cd_bI (false = true))), mq), rfl, ⟨rfl, rfl, hok⟩, by show va_P D cdCl _ t.heap; rw [ht]; exact hP⟩, hS.F ht⟩) hS.2.2 dX1_receive_84
              · exact absurd rfl hc
            · exact absurd hc4 (by omega)
        · exact absurd hc5 hok2
set_option maxHeartbeats 4000000 in
set_option maxRecDepth 100000 in
/-- undo: too many -/
theorem m1_X1_undo (l : Launch) (D : va_G) (cI cZ : ClassId) (h b1 b2 b3 b4 b5 b6 b7 : Nat) (er : Int32) (mo mf mt ma mc ms mq : Nat → Int32) (o f : Nat → Nat) (sd : Nat → Bool) (c₀ : Nat → Nat) (n : Nat) (hok : cd_md o f sd c₀ n mo mf mc ms) (sz : Nat) (x : Int32) (hbad : ¬ (0 ≤ x ∧ x ≤ nI n)) : Met l yX1_undo (.code yX1_undo cX1_undo 3 none :: tW) (rmL 2) (cw_Pc D cdCl (dkT cI cZ) (mdW h b1 b2 b3 b4 b5 b6 b7 cI cZ er mo mf mt ma mc ms mq n) sz [.ref h, .int x]) (va_Qv (fun (u : mdS) => u.1 = nI 1 ∧ mdP o f sd c₀ n u) (fun u t => va_P D cdCl (mdU h b1 b2 b3 b4 b5 b6 b7 cI cZ (n) u) t.heap) (va_A (mdW h b1 b2 b3 b4 b5 b6 b7 cI cZ er mo mf mt ma mc ms mq n) sz)) 0 0 (va_A (mdW h b1 b2 b3 b4 b5 b6 b7 cI cZ er mo mf mt ma mc ms mq n) sz) := by
  refine Met.ofW (cc := cX1_undo) (maxL := 3) (ret := none) (by decide) rfl ?_
  intro p e s m args below meth c s₁ B hml hv
  obtain ⟨rfl, hsz, hP, hK, hD0⟩ := hv
  have hx := B.exec
  have hb := B.bytes
  have hr := B.returns
  have hts := atoms_spec (ws := .code yX1_undo cX1_undo 3 none :: tW) B.pre
  have hown : s.vm.findClass RX1 = some m.cls := findClass_of_methodNamed B.named
  have hlocks := B.notSynchronized
  have hl := lv_entry ([.ref h, .int x]) (n := 3) (Nat.le_of_ble_eq_true rfl)
  rw [lg_entry_eq]
  generalize (lg_sl ([.ref h, .int x]) ++ List.replicate (3 - (lg_sl ([.ref h, .int x])).length) Slot.unset).toArray = ls at hl ⊢
  have hl : lv_has ls 3 [(0, .ref h), (1, .int x)] := hl
  subst hsz
  have hD := hD0.self (sz := s.heap.size)
  generalize hAe : va_A (mdW h b1 b2 b3 b4 b5 b6 b7 cI cZ er mo mf mt ma mc ms mq n) s.heap.size = A at hD ⊢
  have hA : ∀ q : Nat, s.heap.size ≤ q → A q := fun q h => by rw [← hAe]; exact Or.inr h
  have hS : va_S A s.heap s.heap [] := va_S.rf
  have hok0 := hok
  obtain ⟨hn, hwf, hc2, hmo, hmf, hms, hmc⟩ := hok0
  refine lv_aload_n hx hb dX1_undo_0 rfl (lv_at hl 0 rfl) ?_
  refine lv_iconst (v := nI 0) hx hb dX1_undo_1 (by decide) ?_
  refine sX1_err hx hb hts hown hK hP hD hS 0 rfl rfl rfl (Nat.le_of_ble_eq_true rfl) dX1_undo_2 (fun H locs hP hD hS => ?_)
  have hP : va_P D cdCl (mdW h b1 b2 b3 b4 b5 b6 b7 cI cZ (nI 0) mo mf mt ma mc ms mq n) H := hP
  have hD : va_D A (mdW h b1 b2 b3 b4 b5 b6 b7 cI cZ (nI 0) mo mf mt ma mc ms mq n) := hD
  refine lv_aload_n hx hb dX1_undo_5 rfl (lv_at hl 0 rfl) ?_
  refine lv_iload_n hx hb dX1_undo_6 rfl (lv_at hl 1 rfl) ?_
  refine lv_i2l hx hb dX1_undo_7 rfl ?_
  refine lv_lconst (v := (nI 0).toInt64) hx hb dX1_undo_8 (by decide) ?_
  refine lv_aload_n hx hb dX1_undo_9 rfl (lv_at hl 0 rfl) ?_
  refine gX1_events hx hb hts hown hK hP 0 rfl rfl dX1_undo_10 ?_
  refine lv_i2l hx hb dX1_undo_13 rfl ?_
  refine cw_callSr (As := [.long (x).toInt64, .long (nI 0).toInt64, .long (nI n).toInt64]) ⟨hx, hb, hml, hown, hts⟩ (c_X1_in l (x).toInt64 (nI 0).toInt64 (nI n).toInt64) (kX1_X1_in hts 0 0 0 0 ⟨by decide, by decide⟩) rfl hl.1 rfl (Nat.le_of_ble_eq_true rfl) dX1_undo_14 ⟨Nat.zero_le _, Nat.zero_le _⟩ ?_
  refine cw_topi (y := 0) (cd_bI_f (fun z => hbad ⟨by have := cd_l_le.mp z.1; rw [Int32.le_iff_toInt_le]; exact this, by have := cd_l_le.mp z.2; rw [Int32.le_iff_toInt_le]; exact this⟩)) ?_
  refine lv_if_ne (tgt := 24) hx hb dX1_undo_17 (by decide) (fun hc => ?_) (fun hc => ?_)
  · exact absurd rfl hc
  · refine lv_iconst (v := nI 1) hx hb dX1_undo_20 (by decide) ?_
    refine lv_goto (tgt := 25) hx hb dX1_undo_21 (by decide) ?_
    refine lv_iconst (v := nI 1) hx hb dX1_undo_25 (by decide) ?_
    refine cw_callWi (As := [.int (nI 1), .int (nI 1)]) (S := Unit) (BW := (fun u => (mdW h b1 b2 b3 b4 b5 b6 b7 cI cZ (nI 1) mo mf mt ma mc ms mq n))) (wr := []) ⟨hx, hb, hml, hown, hts⟩ (c_X1_fails1 l D cI cZ h b1 b2 b3 b4 b5 b6 b7 mo mf mt ma mc ms mq o f sd c₀ n hok _ 1 (by decide) (by decide)) (kX1_X1_fails hts 0 0 0 0 ⟨by decide, by decide⟩) hK hP hD hS hA [0, 1, 2, 3, 4, 5, 6, 7] [] rfl rfl (by decide) (by decide) (by decide) (fun _ => rfl) 0 rfl rfl rfl rfl hl.1 rfl (Nat.le_of_ble_eq_true rfl) dX1_undo_26 ⟨Nat.zero_le _, Nat.zero_le _⟩ (fun r u H locs hu hP hD hS => ?_)
    have hrr : r = 1 := hu
    subst hrr
    have hP : va_P D cdCl (mdW h b1 b2 b3 b4 b5 b6 b7 cI cZ (nI 1) mo mf mt ma mc ms mq n) H := hP
    have hD : va_D A (mdW h b1 b2 b3 b4 b5 b6 b7 cI cZ (nI 1) mo mf mt ma mc ms mq n) := hD
    refine lv_if_eq (tgt := 33) hx hb dX1_undo_29 (by decide) (fun hc => ?_) (fun hc => ?_)
    · exact absurd hc (by decide)
    · exact W.vret hx hb hr (fun t ht hW => ⟨⟨((nI 1), mo, mf, mt, ma, mc, ms, mq), rfl, ⟨rfl, hok⟩, by show va_P D cdCl _ t.heap; rw [ht]; exact hP⟩, hS.F ht⟩) hS.2.2 dX1_undo_32
set_option maxHeartbeats 4000000 in
set_option maxRecDepth 100000 in
/-- undo -/
theorem m0_X1_undo (l : Launch) (D : va_G) (cI cZ : ClassId) (h b1 b2 b3 b4 b5 b6 b7 : Nat) (er : Int32) (mo mf mt ma mc ms mq : Nat → Int32) (o f : Nat → Nat) (sd : Nat → Bool) (c₀ : Nat → Nat) (n : Nat) (hok : cd_md o f sd c₀ n mo mf mc ms) (sz : Nat) (x : Nat) (hx2 : x ≤ n) : Met l yX1_undo (.code yX1_undo cX1_undo 3 none :: tW) (rmL 2) (cw_Pc D cdCl (dkT cI cZ) (mdW h b1 b2 b3 b4 b5 b6 b7 cI cZ er mo mf mt ma mc ms mq n) sz [.ref h, .int (nI x)]) (va_Qv (fun (u : mdS) => u.1 = nI 0 ∧ mdP o f sd (fun p => min (c₀ p) (cd_mn o p (n - x))) (n - x) u) (fun u t => va_P D cdCl (mdU h b1 b2 b3 b4 b5 b6 b7 cI cZ (n - x) u) t.heap) (va_A (mdW h b1 b2 b3 b4 b5 b6 b7 cI cZ er mo mf mt ma mc ms mq n) sz)) 0 0 (va_A (mdW h b1 b2 b3 b4 b5 b6 b7 cI cZ er mo mf mt ma mc ms mq n) sz) := by
  refine Met.ofW (cc := cX1_undo) (maxL := 3) (ret := none) (by decide) rfl ?_
  intro p e s m args below meth c s₁ B hml hv
  obtain ⟨rfl, hsz, hP, hK, hD0⟩ := hv
  have hx := B.exec
  have hb := B.bytes
  have hr := B.returns
  have hts := atoms_spec (ws := .code yX1_undo cX1_undo 3 none :: tW) B.pre
  have hown : s.vm.findClass RX1 = some m.cls := findClass_of_methodNamed B.named
  have hlocks := B.notSynchronized
  have hl := lv_entry ([.ref h, .int (nI x)]) (n := 3) (Nat.le_of_ble_eq_true rfl)
  rw [lg_entry_eq]
  generalize (lg_sl ([.ref h, .int (nI x)]) ++ List.replicate (3 - (lg_sl ([.ref h, .int (nI x)])).length) Slot.unset).toArray = ls at hl ⊢
  have hl : lv_has ls 3 [(0, .ref h), (1, .int (nI x))] := hl
  subst hsz
  have hD := hD0.self (sz := s.heap.size)
  generalize hAe : va_A (mdW h b1 b2 b3 b4 b5 b6 b7 cI cZ er mo mf mt ma mc ms mq n) s.heap.size = A at hD ⊢
  have hA : ∀ q : Nat, s.heap.size ≤ q → A q := fun q h => by rw [← hAe]; exact Or.inr h
  have hS : va_S A s.heap s.heap [] := va_S.rf
  have hok0 := hok
  obtain ⟨hn, hwf, hc2, hmo, hmf, hms, hmc⟩ := hok0
  have loop : ∀ (d p₁ : Nat) (mc : Nat → Int32) (H : Heap) (locs : List Loc) (ls : Array Slot), p₁ + d = 6 → cd_md o f sd (cd_uw o c₀ (n - x) p₁) (n - x) mo mf mc ms → va_P D cdCl (mdW h b1 b2 b3 b4 b5 b6 b7 cI cZ (nI 0) mo mf mt ma mc ms mq (n - x)) H → va_S A s.heap H locs → lv_has ls 3 [(2, .int (nI p₁)), (0, .ref h), (1, .int (nI x))] → W p l e (rmL 2) s m (List.toArray [.ref h, .int (nI x)]) below meth c H locs 0 0 (MQ below (va_Qv (fun (u : mdS) => u.1 = nI 0 ∧ mdP o f sd (fun p => min (c₀ p) (cd_mn o p (n - x))) (n - x) u) (fun u t => va_P D cdCl (mdU h b1 b2 b3 b4 b5 b6 b7 cI cZ (n - x) u) t.heap) (A)) (List.toArray [.ref h, .int (nI x)]) s 0 0 A) (F0 m 45 ls []) := by
    intro d
    induction d with
    | zero =>
      intro p₁ mc H locs ls hd hok hP hS hl
      have hD : va_D A (mdW h b1 b2 b3 b4 b5 b6 b7 cI cZ (nI 0) mo mf mt ma mc ms mq (n - x)) := cw_D_same hD rfl
      have hmc := hok.2.2.2.2.2.2
      refine lv_iload_n hx hb dX1_undo_45 rfl (lv_at hl 0 rfl) ?_
      refine lv_bipush (v := nI 6) hx hb dX1_undo_46 (by decide) ?_
      refine cw_ge (tgt := 81) (x := p₁) (y := 6) hx hb dX1_undo_48 (by decide) (by omega) (by omega) (fun hc => ?_) (fun hc => ?_)
      · have hok := cd_md_c (c' := (fun p => min (c₀ p) (cd_mn o p (n - x)))) hok (fun p hp => by show (if _ then _ else _) = _; rw [if_pos (by omega)])
        exact W.vret hx hb hr (fun t ht hW => ⟨⟨((nI 0), mo, mf, mt, ma, mc, ms, mq), rfl, ⟨rfl, hok⟩, by show va_P D cdCl _ t.heap; rw [ht]; exact hP⟩, hS.F ht⟩) hS.2.2 dX1_undo_81
      · exact absurd hc (by omega)
    | succ d ih =>
      intro p₁ mc H locs ls hd hok hP hS hl
      have hD : va_D A (mdW h b1 b2 b3 b4 b5 b6 b7 cI cZ (nI 0) mo mf mt ma mc ms mq (n - x)) := cw_D_same hD rfl
      have hmc := hok.2.2.2.2.2.2
      refine lv_iload_n hx hb dX1_undo_45 rfl (lv_at hl 0 rfl) ?_
      refine lv_bipush (v := nI 6) hx hb dX1_undo_46 (by decide) ?_
      refine cw_ge (tgt := 81) (x := p₁) (y := 6) hx hb dX1_undo_48 (by decide) (by omega) (by omega) (fun hc => ?_) (fun hc => ?_)
      · exact absurd hc (by omega)
      · have h200 := cd_mn_le o p₁ (n - x)
        have hcc := hc2 p₁ hc
        have eg : cd_uw o c₀ (n - x) p₁ p₁ = c₀ p₁ := if_neg (by omega)
        refine lv_aload_n hx hb dX1_undo_51 rfl (lv_at hl 1 rfl) ?_
        refine gX1_cuts hx hb hts hown hK hP 0 rfl rfl dX1_undo_52 ?_
        refine lv_iload_n hx hb dX1_undo_55 rfl (lv_at hl 0 rfl) ?_
        refine lv_aload_n hx hb dX1_undo_56 rfl (lv_at hl 1 rfl) ?_
        refine gX1_cuts hx hb hts hown hK hP 0 rfl rfl dX1_undo_57 ?_
        refine lv_iload_n hx hb dX1_undo_60 rfl (lv_at hl 0 rfl) ?_
        refine cw_iald hx hb hK hP 5 0 rfl rfl (k := p₁) (v := nI (c₀ p₁)) (by omega) (by decide) (by rw [hmc p₁ hc, eg]) dX1_undo_61 ?_
        refine lv_aload_n hx hb dX1_undo_62 rfl (lv_at hl 1 rfl) ?_
        refine lv_iload_n hx hb dX1_undo_63 rfl (lv_at hl 0 rfl) ?_
        refine lv_aload_n hx hb dX1_undo_64 rfl (lv_at hl 1 rfl) ?_
        refine gX1_events hx hb hts hown hK hP 0 rfl rfl dX1_undo_65 ?_
        refine cw_callR (As := [.int (nI p₁), .int (nI (n - x))]) ⟨hx, hb, hml, hown, hts⟩ (c_X1_many l D cI cZ h b1 b2 b3 b4 b5 b6 b7 (nI 0) mo mf mt ma mc ms mq o f sd (cd_uw o c₀ (n - x) p₁) (n - x) hok p₁ (n - x) hc (Nat.le_refl _)) (kX1_X1_many hts 0 0 0 0 ⟨by decide, by decide⟩) hK hP 0 rfl rfl rfl rfl hl.1 rfl (Nat.le_of_ble_eq_true rfl) dX1_undo_68 ⟨Nat.zero_le _, Nat.zero_le _⟩ ?_
        refine va_mmin hx hb (hml.trans hl.1.symm) hown (hts _ (List.mem_cons_of_mem _ tm_353)) (hts _ (List.mem_cons_of_mem _ tm_212)) (hts _ (List.mem_cons_of_mem _ tm_8)) (hts _ (List.mem_cons_of_mem _ tm_213)) (Nat.le_of_ble_eq_true rfl) (Nat.le_of_ble_eq_true rfl) (Nat.zero_le _) (Nat.zero_le _) dX1_undo_71 ?_
        refine cw_topi (y := nI (min (c₀ p₁) (cd_mn o p₁ (n - x)))) (cd_min (by omega) (by omega)) ?_
        refine cw_iast hx hb hK hP hD hS 5 0 rfl rfl (k := p₁) (by omega) (by decide) dX1_undo_74 (fun H locs hP hD hS => ?_)
        have hP : va_P D cdCl (mdW h b1 b2 b3 b4 b5 b6 b7 cI cZ (nI 0) mo mf mt ma (upd mc p₁ (nI (min (c₀ p₁) (cd_mn o p₁ (n - x))))) ms mq (n - x)) H := hP
        have hD : va_D A (mdW h b1 b2 b3 b4 b5 b6 b7 cI cZ (nI 0) mo mf mt ma (upd mc p₁ (nI (min (c₀ p₁) (cd_mn o p₁ (n - x))))) ms mq (n - x)) := hD
        have hok := cd_md_cu (q := p₁) (v := min (c₀ p₁) (cd_mn o p₁ (n - x))) hok (by omega)
        rw [← cd_uw_s] at hok
        refine lv_iinc (k := 0) (v := nI (p₁ + 1)) hx hb dX1_undo_75 hl rfl (cd_inc _) (by decide) rfl (fun ls hl => ?_)
        have hl : lv_has ls 3 [(2, .int (nI (p₁ + 1))), (0, .ref h), (1, .int (nI x))] := hl
        refine lv_goto (tgt := 45) hx hb dX1_undo_78 (by decide) ?_
        exact ih (p₁ + 1) _ H locs ls (by omega) hok hP hS hl
  refine lv_aload_n hx hb dX1_undo_0 rfl (lv_at hl 0 rfl) ?_
  refine lv_iconst (v := nI 0) hx hb dX1_undo_1 (by decide) ?_
  refine sX1_err hx hb hts hown hK hP hD hS 0 rfl rfl rfl (Nat.le_of_ble_eq_true rfl) dX1_undo_2 (fun H locs hP hD hS => ?_)
  have hP : va_P D cdCl (mdW h b1 b2 b3 b4 b5 b6 b7 cI cZ (nI 0) mo mf mt ma mc ms mq n) H := hP
  have hD : va_D A (mdW h b1 b2 b3 b4 b5 b6 b7 cI cZ (nI 0) mo mf mt ma mc ms mq n) := hD
  refine lv_aload_n hx hb dX1_undo_5 rfl (lv_at hl 0 rfl) ?_
  refine lv_iload_n hx hb dX1_undo_6 rfl (lv_at hl 1 rfl) ?_
  refine lv_i2l hx hb dX1_undo_7 rfl ?_
  refine lv_lconst (v := (nI 0).toInt64) hx hb dX1_undo_8 (by decide) ?_
  refine lv_aload_n hx hb dX1_undo_9 rfl (lv_at hl 0 rfl) ?_
  refine gX1_events hx hb hts hown hK hP 0 rfl rfl dX1_undo_10 ?_
  refine lv_i2l hx hb dX1_undo_13 rfl ?_
  refine cw_callSr (As := [.long (nI x).toInt64, .long (nI 0).toInt64, .long (nI n).toInt64]) ⟨hx, hb, hml, hown, hts⟩ (c_X1_in l (nI x).toInt64 (nI 0).toInt64 (nI n).toInt64) (kX1_X1_in hts 0 0 0 0 ⟨by decide, by decide⟩) rfl hl.1 rfl (Nat.le_of_ble_eq_true rfl) dX1_undo_14 ⟨Nat.zero_le _, Nat.zero_le _⟩ ?_
  refine cw_topi (y := 1) (cd_bI_t ⟨cd_l_le.mpr (by rw [nI_toInt (by omega), nI_toInt (by omega)]; omega), cd_l_le.mpr (by rw [nI_toInt (by omega), nI_toInt (by omega)]; omega)⟩) ?_
  refine lv_if_ne (tgt := 24) hx hb dX1_undo_17 (by decide) (fun hc => ?_) (fun hc => ?_)
  · refine lv_iconst (v := nI 0) hx hb dX1_undo_24 (by decide) ?_
    refine lv_iconst (v := nI 1) hx hb dX1_undo_25 (by decide) ?_
    refine cw_callR (As := [.int (nI 0), .int (nI 1)]) ⟨hx, hb, hml, hown, hts⟩ (c_X1_fails0 l D cI cZ h b1 b2 b3 b4 b5 b6 b7 mo mf mt ma mc ms mq o f sd c₀ n hok (nI 1)) (kX1_X1_fails hts 0 0 0 0 ⟨by decide, by decide⟩) hK hP 0 rfl rfl rfl rfl hl.1 rfl (Nat.le_of_ble_eq_true rfl) dX1_undo_26 ⟨Nat.zero_le _, Nat.zero_le _⟩ ?_
    refine lv_if_eq (tgt := 33) hx hb dX1_undo_29 (by decide) (fun hc => ?_) (fun hc => ?_)
    · refine lv_aload_n hx hb dX1_undo_33 rfl (lv_at hl 0 rfl) ?_
      refine lv_dup hx hb dX1_undo_34 rfl ?_
      refine gX1_events hx hb hts hown hK hP 0 rfl rfl dX1_undo_35 ?_
      refine lv_iload_n hx hb dX1_undo_38 rfl (lv_at hl 1 rfl) ?_
      refine lv_isub hx hb dX1_undo_39 ?_
      refine cw_topi (y := nI (n - x)) (pk_sub hx2) ?_
      refine sX1_events hx hb hts hown hK hP hD hS 0 rfl rfl rfl (Nat.le_of_ble_eq_true rfl) dX1_undo_40 (fun H locs hP hD hS => ?_)
      have hP : va_P D cdCl (mdW h b1 b2 b3 b4 b5 b6 b7 cI cZ (nI 0) mo mf mt ma mc ms mq (n - x)) H := hP
      have hD : va_D A (mdW h b1 b2 b3 b4 b5 b6 b7 cI cZ (nI 0) mo mf mt ma mc ms mq (n - x)) := hD
      refine lv_iconst (v := nI 0) hx hb dX1_undo_43 (by decide) ?_
      refine lv_istore_n hx hb dX1_undo_44 rfl hl (by decide) rfl (fun ls hl => ?_)
      have hl : lv_has ls 3 [(2, .int (nI 0)), (0, .ref h), (1, .int (nI x))] := hl
      exact loop 6 0 mc H locs ls (by omega) (cd_md_c (cd_md_n hok (by omega)) (fun p hp => (if_neg (by omega)).symm)) hP hS hl
    · exact absurd rfl hc
  · exact absurd hc (by decide)
set_option maxHeartbeats 4000000 in
set_option maxRecDepth 100000 in
/-- cut: no process -/
theorem m1_X1_cut (l : Launch) (D : va_G) (cI cZ : ClassId) (h b1 b2 b3 b4 b5 b6 b7 : Nat) (er : Int32) (mo mf mt ma mc ms mq : Nat → Int32) (o f : Nat → Nat) (sd : Nat → Bool) (c₀ : Nat → Nat) (n : Nat) (hok : cd_md o f sd c₀ n mo mf mc ms) (sz : Nat) (x : Int32) (hbad : ¬ (0 ≤ x ∧ x < nI 6)) (y : Int32) : Met l yX1_cut (.code yX1_cut cX1_cut 3 none :: tW) (rmL 2) (cw_Pc D cdCl (dkT cI cZ) (mdW h b1 b2 b3 b4 b5 b6 b7 cI cZ er mo mf mt ma mc ms mq n) sz [.ref h, .int x, .int y]) (va_Qv (fun (u : mdS) => u.1 = nI 1 ∧ mdP o f sd c₀ n u) (fun u t => va_P D cdCl (mdU h b1 b2 b3 b4 b5 b6 b7 cI cZ (n) u) t.heap) (va_A (mdW h b1 b2 b3 b4 b5 b6 b7 cI cZ er mo mf mt ma mc ms mq n) sz)) 0 0 (va_A (mdW h b1 b2 b3 b4 b5 b6 b7 cI cZ er mo mf mt ma mc ms mq n) sz) := by
  refine Met.ofW (cc := cX1_cut) (maxL := 3) (ret := none) (by decide) rfl ?_
  intro p e s m args below meth c s₁ B hml hv
  obtain ⟨rfl, hsz, hP, hK, hD0⟩ := hv
  have hx := B.exec
  have hb := B.bytes
  have hr := B.returns
  have hts := atoms_spec (ws := .code yX1_cut cX1_cut 3 none :: tW) B.pre
  have hown : s.vm.findClass RX1 = some m.cls := findClass_of_methodNamed B.named
  have hlocks := B.notSynchronized
  have hl := lv_entry ([.ref h, .int x, .int y]) (n := 3) (Nat.le_of_ble_eq_true rfl)
  rw [lg_entry_eq]
  generalize (lg_sl ([.ref h, .int x, .int y]) ++ List.replicate (3 - (lg_sl ([.ref h, .int x, .int y])).length) Slot.unset).toArray = ls at hl ⊢
  have hl : lv_has ls 3 [(0, .ref h), (1, .int x), (2, .int y)] := hl
  subst hsz
  have hD := hD0.self (sz := s.heap.size)
  generalize hAe : va_A (mdW h b1 b2 b3 b4 b5 b6 b7 cI cZ er mo mf mt ma mc ms mq n) s.heap.size = A at hD ⊢
  have hA : ∀ q : Nat, s.heap.size ≤ q → A q := fun q h => by rw [← hAe]; exact Or.inr h
  have hS : va_S A s.heap s.heap [] := va_S.rf
  have hok0 := hok
  obtain ⟨hn, hwf, hc2, hmo, hmf, hms, hmc⟩ := hok0
  refine lv_aload_n hx hb dX1_cut_0 rfl (lv_at hl 0 rfl) ?_
  refine lv_iconst (v := nI 0) hx hb dX1_cut_1 (by decide) ?_
  refine sX1_err hx hb hts hown hK hP hD hS 0 rfl rfl rfl (Nat.le_of_ble_eq_true rfl) dX1_cut_2 (fun H locs hP hD hS => ?_)
  have hP : va_P D cdCl (mdW h b1 b2 b3 b4 b5 b6 b7 cI cZ (nI 0) mo mf mt ma mc ms mq n) H := hP
  have hD : va_D A (mdW h b1 b2 b3 b4 b5 b6 b7 cI cZ (nI 0) mo mf mt ma mc ms mq n) := hD
  refine lv_aload_n hx hb dX1_cut_5 rfl (lv_at hl 0 rfl) ?_
  refine lv_iload_n hx hb dX1_cut_6 rfl (lv_at hl 1 rfl) ?_
  refine cw_callSr (As := [.int (x)]) ⟨hx, hb, hml, hown, hts⟩ (c_X1_isProcess l (x)) (kX1_X1_isProcess hts 1 0 0 30 ⟨by decide, by decide⟩) rfl hl.1 rfl (Nat.le_of_ble_eq_true rfl) dX1_cut_7 ⟨Nat.zero_le _, Nat.zero_le _⟩ ?_
  refine cw_topi (y := 0) (cd_bI_f hbad) ?_
  refine lv_if_eq (tgt := 32) hx hb dX1_cut_10 (by decide) (fun hc => ?_) (fun hc => ?_)
  · refine lv_iconst (v := nI 1) hx hb dX1_cut_32 (by decide) ?_
    refine lv_goto (tgt := 37) hx hb dX1_cut_33 (by decide) ?_
    refine lv_iconst (v := nI 1) hx hb dX1_cut_37 (by decide) ?_
    refine cw_callWi (As := [.int (nI 1), .int (nI 1)]) (S := Unit) (BW := (fun u => (mdW h b1 b2 b3 b4 b5 b6 b7 cI cZ (nI 1) mo mf mt ma mc ms mq n))) (wr := []) ⟨hx, hb, hml, hown, hts⟩ (c_X1_fails1 l D cI cZ h b1 b2 b3 b4 b5 b6 b7 mo mf mt ma mc ms mq o f sd c₀ n hok _ 1 (by decide) (by decide)) (kX1_X1_fails hts 0 0 0 0 ⟨by decide, by decide⟩) hK hP hD hS hA [0, 1, 2, 3, 4, 5, 6, 7] [] rfl rfl (by decide) (by decide) (by decide) (fun _ => rfl) 0 rfl rfl rfl rfl hl.1 rfl (Nat.le_of_ble_eq_true rfl) dX1_cut_38 ⟨Nat.zero_le _, Nat.zero_le _⟩ (fun r u H locs hu hP hD hS => ?_)
    have hrr : r = 1 := hu
    subst hrr
    have hP : va_P D cdCl (mdW h b1 b2 b3 b4 b5 b6 b7 cI cZ (nI 1) mo mf mt ma mc ms mq n) H := hP
    have hD : va_D A (mdW h b1 b2 b3 b4 b5 b6 b7 cI cZ (nI 1) mo mf mt ma mc ms mq n) := hD
    refine lv_if_eq (tgt := 45) hx hb dX1_cut_41 (by decide) (fun hc => ?_) (fun hc => ?_)
    · exact absurd hc (by decide)
    · exact W.vret hx hb hr (fun t ht hW => ⟨⟨((nI 1), mo, mf, mt, ma, mc, ms, mq), rfl, ⟨rfl, hok⟩, by show va_P D cdCl _ t.heap; rw [ht]; exact hP⟩, hS.F ht⟩) hS.2.2 dX1_cut_44
  · exact absurd rfl hc
set_option maxHeartbeats 4000000 in
set_option maxRecDepth 100000 in
/-- cut -/
theorem m2_X1_cut (l : Launch) (D : va_G) (cI cZ : ClassId) (h b1 b2 b3 b4 b5 b6 b7 : Nat) (er : Int32) (mo mf mt ma mc ms mq : Nat → Int32) (o f : Nat → Nat) (sd : Nat → Bool) (c₀ : Nat → Nat) (n : Nat) (hok : cd_md o f sd c₀ n mo mf mc ms) (sz : Nat) (p₁ : Nat) (hp : p₁ < 6) (x : Int32) (hbad : ¬ (0 ≤ x ∧ x ≤ nI (cd_mn o p₁ n))) : Met l yX1_cut (.code yX1_cut cX1_cut 3 none :: tW) (rmL 2) (cw_Pc D cdCl (dkT cI cZ) (mdW h b1 b2 b3 b4 b5 b6 b7 cI cZ er mo mf mt ma mc ms mq n) sz [.ref h, .int (nI p₁), .int x]) (va_Qv (fun (u : mdS) => u.1 = nI 1 ∧ mdP o f sd c₀ n u) (fun u t => va_P D cdCl (mdU h b1 b2 b3 b4 b5 b6 b7 cI cZ (n) u) t.heap) (va_A (mdW h b1 b2 b3 b4 b5 b6 b7 cI cZ er mo mf mt ma mc ms mq n) sz)) 0 0 (va_A (mdW h b1 b2 b3 b4 b5 b6 b7 cI cZ er mo mf mt ma mc ms mq n) sz) := by
  refine Met.ofW (cc := cX1_cut) (maxL := 3) (ret := none) (by decide) rfl ?_
  intro p e s m args below meth c s₁ B hml hv
  obtain ⟨rfl, hsz, hP, hK, hD0⟩ := hv
  have hx := B.exec
  have hb := B.bytes
  have hr := B.returns
  have hts := atoms_spec (ws := .code yX1_cut cX1_cut 3 none :: tW) B.pre
  have hown : s.vm.findClass RX1 = some m.cls := findClass_of_methodNamed B.named
  have hlocks := B.notSynchronized
  have hl := lv_entry ([.ref h, .int (nI p₁), .int x]) (n := 3) (Nat.le_of_ble_eq_true rfl)
  rw [lg_entry_eq]
  generalize (lg_sl ([.ref h, .int (nI p₁), .int x]) ++ List.replicate (3 - (lg_sl ([.ref h, .int (nI p₁), .int x])).length) Slot.unset).toArray = ls at hl ⊢
  have hl : lv_has ls 3 [(0, .ref h), (1, .int (nI p₁)), (2, .int x)] := hl
  subst hsz
  have hD := hD0.self (sz := s.heap.size)
  generalize hAe : va_A (mdW h b1 b2 b3 b4 b5 b6 b7 cI cZ er mo mf mt ma mc ms mq n) s.heap.size = A at hD ⊢
  have hA : ∀ q : Nat, s.heap.size ≤ q → A q := fun q h => by rw [← hAe]; exact Or.inr h
  have hS : va_S A s.heap s.heap [] := va_S.rf
  have hok0 := hok
  obtain ⟨hn, hwf, hc2, hmo, hmf, hms, hmc⟩ := hok0
  have h200 := cd_mn_le o p₁ n
  refine lv_aload_n hx hb dX1_cut_0 rfl (lv_at hl 0 rfl) ?_
  refine lv_iconst (v := nI 0) hx hb dX1_cut_1 (by decide) ?_
  refine sX1_err hx hb hts hown hK hP hD hS 0 rfl rfl rfl (Nat.le_of_ble_eq_true rfl) dX1_cut_2 (fun H locs hP hD hS => ?_)
  have hP : va_P D cdCl (mdW h b1 b2 b3 b4 b5 b6 b7 cI cZ (nI 0) mo mf mt ma mc ms mq n) H := hP
  have hD : va_D A (mdW h b1 b2 b3 b4 b5 b6 b7 cI cZ (nI 0) mo mf mt ma mc ms mq n) := hD
  refine lv_aload_n hx hb dX1_cut_5 rfl (lv_at hl 0 rfl) ?_
  refine lv_iload_n hx hb dX1_cut_6 rfl (lv_at hl 1 rfl) ?_
  refine cw_callSr (As := [.int (nI p₁)]) ⟨hx, hb, hml, hown, hts⟩ (c_X1_isProcess l (nI p₁)) (kX1_X1_isProcess hts 1 0 0 30 ⟨by decide, by decide⟩) rfl hl.1 rfl (Nat.le_of_ble_eq_true rfl) dX1_cut_7 ⟨Nat.zero_le _, Nat.zero_le _⟩ ?_
  refine cw_topi (y := 1) (cd_bI_t ⟨nI_pos' (by omega), nI_lt (by omega) (by decide)⟩) ?_
  refine lv_if_eq (tgt := 32) hx hb dX1_cut_10 (by decide) (fun hc => ?_) (fun hc => ?_)
  · exact absurd hc (by decide)
  · refine lv_iload_n hx hb dX1_cut_13 rfl (lv_at hl 2 rfl) ?_
    refine lv_i2l hx hb dX1_cut_14 rfl ?_
    refine lv_lconst (v := (nI 0).toInt64) hx hb dX1_cut_15 (by decide) ?_
    refine lv_aload_n hx hb dX1_cut_16 rfl (lv_at hl 0 rfl) ?_
    refine lv_iload_n hx hb dX1_cut_17 rfl (lv_at hl 1 rfl) ?_
    refine lv_aload_n hx hb dX1_cut_18 rfl (lv_at hl 0 rfl) ?_
    refine gX1_events hx hb hts hown hK hP 0 rfl rfl dX1_cut_19 ?_
    refine cw_callR (As := [.int (nI p₁), .int (nI n)]) ⟨hx, hb, hml, hown, hts⟩ (c_X1_many l D cI cZ h b1 b2 b3 b4 b5 b6 b7 (nI 0) mo mf mt ma mc ms mq o f sd c₀ n hok p₁ n hp (Nat.le_refl _)) (kX1_X1_many hts 0 0 0 0 ⟨by decide, by decide⟩) hK hP 0 rfl rfl rfl rfl hl.1 rfl (Nat.le_of_ble_eq_true rfl) dX1_cut_22 ⟨Nat.zero_le _, Nat.zero_le _⟩ ?_
    refine lv_i2l hx hb dX1_cut_25 rfl ?_
    refine cw_callSr (As := [.long (x).toInt64, .long (nI 0).toInt64, .long (nI (cd_mn o p₁ n)).toInt64]) ⟨hx, hb, hml, hown, hts⟩ (c_X1_in l (x).toInt64 (nI 0).toInt64 (nI (cd_mn o p₁ n)).toInt64) (kX1_X1_in hts 0 0 0 0 ⟨by decide, by decide⟩) rfl hl.1 rfl (Nat.le_of_ble_eq_true rfl) dX1_cut_26 ⟨Nat.zero_le _, Nat.zero_le _⟩ ?_
    refine cw_topi (y := 0) (cd_bI_f (fun z => hbad ⟨by have := cd_l_le.mp z.1; rw [Int32.le_iff_toInt_le]; exact this, by have := cd_l_le.mp z.2; rw [Int32.le_iff_toInt_le]; exact this⟩)) ?_
    refine lv_if_ne (tgt := 36) hx hb dX1_cut_29 (by decide) (fun hc => ?_) (fun hc => ?_)
    · exact absurd rfl hc
    · refine lv_iconst (v := nI 1) hx hb dX1_cut_32 (by decide) ?_
      refine lv_goto (tgt := 37) hx hb dX1_cut_33 (by decide) ?_
      refine lv_iconst (v := nI 1) hx hb dX1_cut_37 (by decide) ?_
      refine cw_callWi (As := [.int (nI 1), .int (nI 1)]) (S := Unit) (BW := (fun u => (mdW h b1 b2 b3 b4 b5 b6 b7 cI cZ (nI 1) mo mf mt ma mc ms mq n))) (wr := []) ⟨hx, hb, hml, hown, hts⟩ (c_X1_fails1 l D cI cZ h b1 b2 b3 b4 b5 b6 b7 mo mf mt ma mc ms mq o f sd c₀ n hok _ 1 (by decide) (by decide)) (kX1_X1_fails hts 0 0 0 0 ⟨by decide, by decide⟩) hK hP hD hS hA [0, 1, 2, 3, 4, 5, 6, 7] [] rfl rfl (by decide) (by decide) (by decide) (fun _ => rfl) 0 rfl rfl rfl rfl hl.1 rfl (Nat.le_of_ble_eq_true rfl) dX1_cut_38 ⟨Nat.zero_le _, Nat.zero_le _⟩ (fun r u H locs hu hP hD hS => ?_)
      have hrr : r = 1 := hu
      subst hrr
      have hP : va_P D cdCl (mdW h b1 b2 b3 b4 b5 b6 b7 cI cZ (nI 1) mo mf mt ma mc ms mq n) H := hP
      have hD : va_D A (mdW h b1 b2 b3 b4 b5 b6 b7 cI cZ (nI 1) mo mf mt ma mc ms mq n) := hD
      refine lv_if_eq (tgt := 45) hx hb dX1_cut_41 (by decide) (fun hc => ?_) (fun hc => ?_)
      · exact absurd hc (by decide)
      · exact W.vret hx hb hr (fun t ht hW => ⟨⟨((nI 1), mo, mf, mt, ma, mc, ms, mq), rfl, ⟨rfl, hok⟩, by show va_P D cdCl _ t.heap; rw [ht]; exact hP⟩, hS.F ht⟩) hS.2.2 dX1_cut_44
set_option maxHeartbeats 4000000 in
set_option maxRecDepth 100000 in
/-- cut -/
theorem m0_X1_cut (l : Launch) (D : va_G) (cI cZ : ClassId) (h b1 b2 b3 b4 b5 b6 b7 : Nat) (er : Int32) (mo mf mt ma mc ms mq : Nat → Int32) (o f : Nat → Nat) (sd : Nat → Bool) (c₀ : Nat → Nat) (n : Nat) (hok : cd_md o f sd c₀ n mo mf mc ms) (sz : Nat) (p₁ : Nat) (hp : p₁ < 6) (v : Nat) (hv : v ≤ cd_mn o p₁ n) : Met l yX1_cut (.code yX1_cut cX1_cut 3 none :: tW) (rmL 2) (cw_Pc D cdCl (dkT cI cZ) (mdW h b1 b2 b3 b4 b5 b6 b7 cI cZ er mo mf mt ma mc ms mq n) sz [.ref h, .int (nI p₁), .int (nI v)]) (va_Qv (fun (u : mdS) => u.1 = nI 0 ∧ mdP o f sd (cd_up c₀ p₁ v) n u) (fun u t => va_P D cdCl (mdU h b1 b2 b3 b4 b5 b6 b7 cI cZ (n) u) t.heap) (va_A (mdW h b1 b2 b3 b4 b5 b6 b7 cI cZ er mo mf mt ma mc ms mq n) sz)) 0 0 (va_A (mdW h b1 b2 b3 b4 b5 b6 b7 cI cZ er mo mf mt ma mc ms mq n) sz) := by
  refine Met.ofW (cc := cX1_cut) (maxL := 3) (ret := none) (by decide) rfl ?_
  intro p e s m args below meth c s₁ B hml hv
  obtain ⟨rfl, hsz, hP, hK, hD0⟩ := hv
  have hx := B.exec
  have hb := B.bytes
  have hr := B.returns
  have hts := atoms_spec (ws := .code yX1_cut cX1_cut 3 none :: tW) B.pre
  have hown : s.vm.findClass RX1 = some m.cls := findClass_of_methodNamed B.named
  have hlocks := B.notSynchronized
  have hl := lv_entry ([.ref h, .int (nI p₁), .int (nI v)]) (n := 3) (Nat.le_of_ble_eq_true rfl)
  rw [lg_entry_eq]
  generalize (lg_sl ([.ref h, .int (nI p₁), .int (nI v)]) ++ List.replicate (3 - (lg_sl ([.ref h, .int (nI p₁), .int (nI v)])).length) Slot.unset).toArray = ls at hl ⊢
  have hl : lv_has ls 3 [(0, .ref h), (1, .int (nI p₁)), (2, .int (nI v))] := hl
  subst hsz
  have hD := hD0.self (sz := s.heap.size)
  generalize hAe : va_A (mdW h b1 b2 b3 b4 b5 b6 b7 cI cZ er mo mf mt ma mc ms mq n) s.heap.size = A at hD ⊢
  have hA : ∀ q : Nat, s.heap.size ≤ q → A q := fun q h => by rw [← hAe]; exact Or.inr h
  have hS : va_S A s.heap s.heap [] := va_S.rf
  have hok0 := hok
  obtain ⟨hn, hwf, hc2, hmo, hmf, hms, hmc⟩ := hok0
  have h200 := cd_mn_le o p₁ n
  refine lv_aload_n hx hb dX1_cut_0 rfl (lv_at hl 0 rfl) ?_
  refine lv_iconst (v := nI 0) hx hb dX1_cut_1 (by decide) ?_
  refine sX1_err hx hb hts hown hK hP hD hS 0 rfl rfl rfl (Nat.le_of_ble_eq_true rfl) dX1_cut_2 (fun H locs hP hD hS => ?_)
  have hP : va_P D cdCl (mdW h b1 b2 b3 b4 b5 b6 b7 cI cZ (nI 0) mo mf mt ma mc ms mq n) H := hP
  have hD : va_D A (mdW h b1 b2 b3 b4 b5 b6 b7 cI cZ (nI 0) mo mf mt ma mc ms mq n) := hD
  refine lv_aload_n hx hb dX1_cut_5 rfl (lv_at hl 0 rfl) ?_
  refine lv_iload_n hx hb dX1_cut_6 rfl (lv_at hl 1 rfl) ?_
  refine cw_callSr (As := [.int (nI p₁)]) ⟨hx, hb, hml, hown, hts⟩ (c_X1_isProcess l (nI p₁)) (kX1_X1_isProcess hts 1 0 0 30 ⟨by decide, by decide⟩) rfl hl.1 rfl (Nat.le_of_ble_eq_true rfl) dX1_cut_7 ⟨Nat.zero_le _, Nat.zero_le _⟩ ?_
  refine cw_topi (y := 1) (cd_bI_t ⟨nI_pos' (by omega), nI_lt (by omega) (by decide)⟩) ?_
  refine lv_if_eq (tgt := 32) hx hb dX1_cut_10 (by decide) (fun hc => ?_) (fun hc => ?_)
  · exact absurd hc (by decide)
  · refine lv_iload_n hx hb dX1_cut_13 rfl (lv_at hl 2 rfl) ?_
    refine lv_i2l hx hb dX1_cut_14 rfl ?_
    refine lv_lconst (v := (nI 0).toInt64) hx hb dX1_cut_15 (by decide) ?_
    refine lv_aload_n hx hb dX1_cut_16 rfl (lv_at hl 0 rfl) ?_
    refine lv_iload_n hx hb dX1_cut_17 rfl (lv_at hl 1 rfl) ?_
    refine lv_aload_n hx hb dX1_cut_18 rfl (lv_at hl 0 rfl) ?_
    refine gX1_events hx hb hts hown hK hP 0 rfl rfl dX1_cut_19 ?_
    refine cw_callR (As := [.int (nI p₁), .int (nI n)]) ⟨hx, hb, hml, hown, hts⟩ (c_X1_many l D cI cZ h b1 b2 b3 b4 b5 b6 b7 (nI 0) mo mf mt ma mc ms mq o f sd c₀ n hok p₁ n hp (Nat.le_refl _)) (kX1_X1_many hts 0 0 0 0 ⟨by decide, by decide⟩) hK hP 0 rfl rfl rfl rfl hl.1 rfl (Nat.le_of_ble_eq_true rfl) dX1_cut_22 ⟨Nat.zero_le _, Nat.zero_le _⟩ ?_
    refine lv_i2l hx hb dX1_cut_25 rfl ?_
    refine cw_callSr (As := [.long (nI v).toInt64, .long (nI 0).toInt64, .long (nI (cd_mn o p₁ n)).toInt64]) ⟨hx, hb, hml, hown, hts⟩ (c_X1_in l (nI v).toInt64 (nI 0).toInt64 (nI (cd_mn o p₁ n)).toInt64) (kX1_X1_in hts 0 0 0 0 ⟨by decide, by decide⟩) rfl hl.1 rfl (Nat.le_of_ble_eq_true rfl) dX1_cut_26 ⟨Nat.zero_le _, Nat.zero_le _⟩ ?_
    refine cw_topi (y := 1) (cd_bI_t ⟨cd_l_le.mpr (by rw [nI_toInt (by omega), nI_toInt (by omega)]; omega), cd_l_le.mpr (by rw [nI_toInt (by omega), nI_toInt (by omega)]; omega)⟩) ?_
    refine lv_if_ne (tgt := 36) hx hb dX1_cut_29 (by decide) (fun hc => ?_) (fun hc => ?_)
    · refine lv_iconst (v := nI 0) hx hb dX1_cut_36 (by decide) ?_
      refine lv_iconst (v := nI 1) hx hb dX1_cut_37 (by decide) ?_
      refine cw_callR (As := [.int (nI 0), .int (nI 1)]) ⟨hx, hb, hml, hown, hts⟩ (c_X1_fails0 l D cI cZ h b1 b2 b3 b4 b5 b6 b7 mo mf mt ma mc ms mq o f sd c₀ n hok (nI 1)) (kX1_X1_fails hts 0 0 0 0 ⟨by decide, by decide⟩) hK hP 0 rfl rfl rfl rfl hl.1 rfl (Nat.le_of_ble_eq_true rfl) dX1_cut_38 ⟨Nat.zero_le _, Nat.zero_le _⟩ ?_
      refine lv_if_eq (tgt := 45) hx hb dX1_cut_41 (by decide) (fun hc => ?_) (fun hc => ?_)
      · refine lv_aload_n hx hb dX1_cut_45 rfl (lv_at hl 0 rfl) ?_
        refine gX1_cuts hx hb hts hown hK hP 0 rfl rfl dX1_cut_46 ?_
        refine lv_iload_n hx hb dX1_cut_49 rfl (lv_at hl 1 rfl) ?_
        refine lv_iload_n hx hb dX1_cut_50 rfl (lv_at hl 2 rfl) ?_
        refine cw_iast hx hb hK hP hD hS 5 0 rfl rfl (k := p₁) (by omega) (by decide) dX1_cut_51 (fun H locs hP hD hS => ?_)
        have hP : va_P D cdCl (mdW h b1 b2 b3 b4 b5 b6 b7 cI cZ (nI 0) mo mf mt ma (upd mc p₁ (nI v)) ms mq n) H := hP
        have hD : va_D A (mdW h b1 b2 b3 b4 b5 b6 b7 cI cZ (nI 0) mo mf mt ma (upd mc p₁ (nI v)) ms mq n) := hD
        have hok := cd_md_cu (q := p₁) (v := v) hok (by omega)
        exact W.vret hx hb hr (fun t ht hW => ⟨⟨(nI 0, mo, mf, mt, ma, (upd mc p₁ (nI v)), ms, mq), rfl, ⟨rfl, hok⟩, by show va_P D cdCl _ t.heap; rw [ht]; exact hP⟩, hS.F ht⟩) hS.2.2 dX1_cut_52
      · exact absurd rfl hc
    · exact absurd hc (by decide)
