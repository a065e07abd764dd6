/-! THE MODEL: its methods that only read -/
set_option maxHeartbeats 4000000 in
set_option maxRecDepth 100000 in
theorem c_X1_in (l : Launch) (v a b : Int64) : Met l yX1_in (.code yX1_in cX1_in 6 (some .boolean) :: tW) (rmL 0) (va_Pc [.long v, .long a, .long b] (fun _ => True)) (QcRead (cd_bI (a ≤ v ∧ v ≤ b))) 0 0 (fun _ => False) := by
  refine Met.ofW (cc := cX1_in) (maxL := 6) (ret := (some .boolean)) (by decide) rfl ?_
  intro p e s m args below meth c s₁ B hml hv
  obtain ⟨rfl, -⟩ := hv
  have hx := B.exec
  have hb := B.bytes
  have hr := B.returns
  have hts := atoms_spec (ws := .code yX1_in cX1_in 6 (some .boolean) :: tW) B.pre
  have hown : s.vm.findClass RX1 = some m.cls := findClass_of_methodNamed B.named
  have hlocks := B.notSynchronized
  have hl := lv_entry ([.long v, .long a, .long b]) (n := 6) (Nat.le_of_ble_eq_true rfl)
  rw [lg_entry_eq]
  generalize (lg_sl ([.long v, .long a, .long b]) ++ List.replicate (6 - (lg_sl ([.long v, .long a, .long b])).length) Slot.unset).toArray = ls at hl ⊢
  have hl : lv_has ls 6 [(0, .long v), (2, .long a), (4, .long b)] := hl
  refine lv_lload_n hx hb dX1_in_0 rfl (lv_at hl 0 rfl) ?_
  refine lv_lload_n hx hb dX1_in_1 rfl (lv_at hl 1 rfl) ?_
  refine W.lcmp hx hb dX1_in_2 ?_
  refine lv_if_lt (tgt := 17) hx hb dX1_in_3 (by decide) (fun hc => ?_) (fun hc => ?_)
  · refine lv_iconst (v := nI 0) hx hb dX1_in_17 (by decide) ?_
    refine cw_topi (y := cd_bI (a ≤ v ∧ v ≤ b)) (cd_bI_f (fun z => by have z1 := z.1; have h1 := (lg_cmp_lt _ _).mp hc; rw [Int64.le_iff_toInt_le] at z1; rw [Int64.lt_iff_toInt_lt] at h1; omega)).symm ?_
    exact W.zret (v := cd_bI (a ≤ v ∧ v ≤ b)) hx hb hr (by first | rfl | exact cd_bI_nar) (fun t ht hW => ⟨rfl, ht⟩) (fun q hq => by cases hq) dX1_in_18
  · refine lv_lload_n hx hb dX1_in_6 rfl (lv_at hl 0 rfl) ?_
    refine lv_lload hx hb dX1_in_7 (lv_at hl 2 rfl) ?_
    refine W.lcmp hx hb dX1_in_9 ?_
    refine lv_if_gt (tgt := 17) hx hb dX1_in_10 (by decide) (fun hc3 => ?_) (fun hc3 => ?_)
    · refine lv_iconst (v := nI 0) hx hb dX1_in_17 (by decide) ?_
      refine cw_topi (y := cd_bI (a ≤ v ∧ v ≤ b)) (cd_bI_f (fun z => by have z1 := z.2; have h1 := (lg_cmp_gt _ _).mp hc3; rw [Int64.le_iff_toInt_le] at z1; rw [Int64.lt_iff_toInt_lt] at h1; omega)).symm ?_
      exact W.zret (v := cd_bI (a ≤ v ∧ v ≤ b)) hx hb hr (by first | rfl | exact cd_bI_nar) (fun t ht hW => ⟨rfl, ht⟩) (fun q hq => by cases hq) dX1_in_18
    · refine lv_iconst (v := nI 1) hx hb dX1_in_13 (by decide) ?_
      refine lv_goto (tgt := 18) hx hb dX1_in_14 (by decide) ?_
      refine cw_topi (y := cd_bI (a ≤ v ∧ v ≤ b)) (cd_bI_t ⟨by have h1 : ¬ v < a := fun z => hc ((lg_cmp_lt _ _).mpr z); rw [Int64.lt_iff_toInt_lt] at h1; rw [Int64.le_iff_toInt_le]; omega, by have h1 : ¬ b < v := fun z => hc3 ((lg_cmp_gt _ _).mpr z); rw [Int64.lt_iff_toInt_lt] at h1; rw [Int64.le_iff_toInt_le]; omega⟩).symm ?_
      exact W.zret (v := cd_bI (a ≤ v ∧ v ≤ b)) hx hb hr (by first | rfl | exact cd_bI_nar) (fun t ht hW => ⟨rfl, ht⟩) (fun q hq => by cases hq) dX1_in_18
set_option maxHeartbeats 4000000 in
set_option maxRecDepth 100000 in
theorem c_X1_isProcess (l : Launch) (x : Int32) : Met l yX1_isProcess (.code yX1_isProcess cX1_isProcess 1 (some .boolean) :: tW) (rmL 1) (va_Pc [.int x] (fun _ => True)) (QcRead (cd_bI (0 ≤ x ∧ x < nI 6))) 0 0 (fun _ => False) := by
  refine Met.ofW (cc := cX1_isProcess) (maxL := 1) (ret := (some .boolean)) (by decide) rfl ?_
  intro p e s m args below meth c s₁ B hml hv
  obtain ⟨rfl, -⟩ := hv
  have hx := B.exec
  have hb := B.bytes
  have hr := B.returns
  have hts := atoms_spec (ws := .code yX1_isProcess cX1_isProcess 1 (some .boolean) :: tW) B.pre
  have hown : s.vm.findClass RX1 = some m.cls := findClass_of_methodNamed B.named
  have hlocks := B.notSynchronized
  have hl := lv_entry ([.int x]) (n := 1) (Nat.le_of_ble_eq_true rfl)
  rw [lg_entry_eq]
  generalize (lg_sl ([.int x]) ++ List.replicate (1 - (lg_sl ([.int x])).length) Slot.unset).toArray = ls at hl ⊢
  have hl : lv_has ls 1 [(0, .int x)] := hl
  refine lv_iload_n hx hb dX1_isProcess_0 rfl (lv_at hl 0 rfl) ?_
  refine lv_i2l hx hb dX1_isProcess_1 rfl ?_
  refine lv_lconst (v := (nI 0).toInt64) hx hb dX1_isProcess_2 (by decide) ?_
  refine lv_ldc2 (v := (nI 5).toInt64) hx hb hown (hts _ (List.mem_cons_of_mem _ (by have z := tm_321; exact z))) dX1_isProcess_3 ?_
  refine cw_callSr (As := [.long x.toInt64, .long (nI 0).toInt64, .long (nI 5).toInt64]) ⟨hx, hb, hml, hown, hts⟩ (c_X1_in l x.toInt64 (nI 0).toInt64 (nI 5).toInt64) (kX1_X1_in hts 0 0 0 0 ⟨by decide, by decide⟩) rfl hl.1 rfl (Nat.le_of_ble_eq_true rfl) dX1_isProcess_6 ⟨Nat.zero_le _, Nat.zero_le _⟩ ?_
  refine cw_topi (y := cd_bI (0 ≤ x ∧ x < nI 6)) (cd_bI_congr (by rw [cd_l_le, cd_l_le, Int32.le_iff_toInt_le, Int32.lt_iff_toInt_lt, show (0 : Int32).toInt = 0 from by decide, show (nI 0).toInt = 0 from by decide, show (nI 5).toInt = 5 from by decide, show (nI 6).toInt = 6 from by decide]; omega)) ?_
  exact W.zret (v := cd_bI (0 ≤ x ∧ x < nI 6)) hx hb hr (by first | rfl | exact cd_bI_nar) (fun t ht hW => ⟨rfl, ht⟩) (fun q hq => by cases hq) dX1_isProcess_9
set_option maxHeartbeats 4000000 in
set_option maxRecDepth 100000 in
/-- isEvent -/
theorem c_X1_isEvent (l : Launch) (D : va_G) (cI cZ : ClassId) (h b1 b2 b3 b4 b5 b6 b7 : Nat) (er : Int32) (mo mf mt ma mc ms mq : Nat → Int32) (o f : Nat → Nat) (sd : Nat → Bool) (c₀ : Nat → Nat) (n : Nat) (hok : cd_md o f sd c₀ n mo mf mc ms) (x : Int32) : Met l yX1_isEvent (.code yX1_isEvent cX1_isEvent 2 (some .boolean) :: tW) (rmL 1) (va_Pc [.ref h, .int x] (fun U => va_P D cdCl (mdW h b1 b2 b3 b4 b5 b6 b7 cI cZ er mo mf mt ma mc ms mq n) U.heap ∧ va_K D cdCl (dkT cI cZ) U)) (QcRead (cd_bI (0 ≤ x ∧ x < nI n))) 0 0 (fun _ => False) := by
  refine Met.ofW (cc := cX1_isEvent) (maxL := 2) (ret := (some .boolean)) (by decide) rfl ?_
  intro p e s m args below meth c s₁ B hml hv
  obtain ⟨rfl, hP, hK⟩ := hv
  have hx := B.exec
  have hb := B.bytes
  have hr := B.returns
  have hts := atoms_spec (ws := .code yX1_isEvent cX1_isEvent 2 (some .boolean) :: tW) B.pre
  have hown : s.vm.findClass RX1 = some m.cls := findClass_of_methodNamed B.named
  have hlocks := B.notSynchronized
  have hl := lv_entry ([.ref h, .int x]) (n := 2) (Nat.le_of_ble_eq_true rfl)
  rw [lg_entry_eq]
  generalize (lg_sl ([.ref h, .int x]) ++ List.replicate (2 - (lg_sl ([.ref h, .int x])).length) Slot.unset).toArray = ls at hl ⊢
  have hl : lv_has ls 2 [(0, .ref h), (1, .int x)] := hl
  have hok0 := hok
  obtain ⟨hn, hwf, hc2, hmo, hmf, hms, hmc⟩ := hok0
  refine lv_iload_n hx hb dX1_isEvent_0 rfl (lv_at hl 1 rfl) ?_
  refine lv_i2l hx hb dX1_isEvent_1 rfl ?_
  refine lv_lconst (v := (nI 0).toInt64) hx hb dX1_isEvent_2 (by decide) ?_
  refine lv_aload_n hx hb dX1_isEvent_3 rfl (lv_at hl 0 rfl) ?_
  refine gX1_events hx hb hts hown hK hP 0 rfl rfl dX1_isEvent_4 ?_
  refine lv_iconst (v := nI 1) hx hb dX1_isEvent_7 (by decide) ?_
  refine lv_isub hx hb dX1_isEvent_8 ?_
  refine cw_topi (y := cd_pI n) (cd_pI_sub n) ?_
  refine lv_i2l hx hb dX1_isEvent_9 rfl ?_
  refine cw_callSr (As := [.long x.toInt64, .long (nI 0).toInt64, .long (cd_pI n).toInt64]) ⟨hx, hb, hml, hown, hts⟩ (c_X1_in l x.toInt64 (nI 0).toInt64 (cd_pI n).toInt64) (kX1_X1_in hts 0 0 0 0 ⟨by decide, by decide⟩) rfl hl.1 rfl (Nat.le_of_ble_eq_true rfl) dX1_isEvent_10 ⟨Nat.zero_le _, Nat.zero_le _⟩ ?_
  refine cw_topi (y := cd_bI (0 ≤ x ∧ x < nI n)) (cd_bI_congr (by rw [cd_l_le, cd_l_le, Int32.le_iff_toInt_le, Int32.lt_iff_toInt_lt, show (0 : Int32).toInt = 0 from by decide, show (nI 0).toInt = 0 from by decide, cd_pI_toInt (show n < 2 ^ 31 by omega), nI_toInt (show n < 2 ^ 31 by omega)]; omega)) ?_
  exact W.zret (v := cd_bI (0 ≤ x ∧ x < nI n)) hx hb hr (by first | rfl | exact cd_bI_nar) (fun t ht hW => ⟨rfl, ht⟩) (fun q hq => by cases hq) dX1_isEvent_13
set_option maxHeartbeats 4000000 in
set_option maxRecDepth 100000 in
/-- thrown -/
theorem c_X1_thrown (l : Launch) (D : va_G) (cI cZ : ClassId) (h b1 b2 b3 b4 b5 b6 b7 : Nat) (er : Int32) (mo mf mt ma mc ms mq : Nat → Int32) (o f : Nat → Nat) (sd : Nat → Bool) (c₀ : Nat → Nat) (n : Nat) (hok : cd_md o f sd c₀ n mo mf mc ms)  : Met l yX1_thrown (.code yX1_thrown cX1_thrown 1 (some .int) :: tW) (rmL 0) (va_Pc [.ref h] (fun U => va_P D cdCl (mdW h b1 b2 b3 b4 b5 b6 b7 cI cZ er mo mf mt ma mc ms mq n) U.heap ∧ va_K D cdCl (dkT cI cZ) U)) (QcRead (er)) 0 0 (fun _ => False) := by
  refine Met.ofW (cc := cX1_thrown) (maxL := 1) (ret := (some .int)) (by decide) rfl ?_
  intro p e s m args below meth c s₁ B hml hv
  obtain ⟨rfl, hP, hK⟩ := hv
  have hx := B.exec
  have hb := B.bytes
  have hr := B.returns
  have hts := atoms_spec (ws := .code yX1_thrown cX1_thrown 1 (some .int) :: tW) B.pre
  have hown : s.vm.findClass RX1 = some m.cls := findClass_of_methodNamed B.named
  have hlocks := B.notSynchronized
  have hl := lv_entry ([.ref h]) (n := 1) (Nat.le_of_ble_eq_true rfl)
  rw [lg_entry_eq]
  generalize (lg_sl ([.ref h]) ++ List.replicate (1 - (lg_sl ([.ref h])).length) Slot.unset).toArray = ls at hl ⊢
  have hl : lv_has ls 1 [(0, .ref h)] := hl
  have hok0 := hok
  obtain ⟨hn, hwf, hc2, hmo, hmf, hms, hmc⟩ := hok0
  refine lv_aload_n hx hb dX1_thrown_0 rfl (lv_at hl 0 rfl) ?_
  refine gX1_err hx hb hts hown hK hP 0 rfl rfl dX1_thrown_1 ?_
  exact W.iret (v := er) hx hb hr (fun t ht hW => ⟨rfl, ht⟩) (fun q hq => by cases hq) dX1_thrown_4
set_option maxHeartbeats 4000000 in
set_option maxRecDepth 100000 in
/-- fails: nothing is wrong -/
theorem c_X1_fails0 (l : Launch) (D : va_G) (cI cZ : ClassId) (h b1 b2 b3 b4 b5 b6 b7 : Nat) (mo mf mt ma mc ms mq : Nat → Int32) (o f : Nat → Nat) (sd : Nat → Bool) (c₀ : Nat → Nat) (n : Nat) (hok : cd_md o f sd c₀ n mo mf mc ms) (v : Int32) : Met l yX1_fails (.code yX1_fails cX1_fails 3 (some .boolean) :: tW) (rmL 0) (va_Pc [.ref h, .int (nI 0), .int v] (fun U => va_P D cdCl (mdW h b1 b2 b3 b4 b5 b6 b7 cI cZ (nI 0) mo mf mt ma mc ms mq n) U.heap ∧ va_K D cdCl (dkT cI cZ) U)) (QcRead (0)) 0 0 (fun _ => False) := by
  refine Met.ofW (cc := cX1_fails) (maxL := 3) (ret := (some .boolean)) (by decide) rfl ?_
  intro p e s m args below meth c s₁ B hml hv
  obtain ⟨rfl, hP, hK⟩ := hv
  have hx := B.exec
  have hb := B.bytes
  have hr := B.returns
  have hts := atoms_spec (ws := .code yX1_fails cX1_fails 3 (some .boolean) :: tW) B.pre
  have hown : s.vm.findClass RX1 = some m.cls := findClass_of_methodNamed B.named
  have hlocks := B.notSynchronized
  have hl := lv_entry ([.ref h, .int (nI 0), .int v]) (n := 3) (Nat.le_of_ble_eq_true rfl)
  rw [lg_entry_eq]
  generalize (lg_sl ([.ref h, .int (nI 0), .int v]) ++ List.replicate (3 - (lg_sl ([.ref h, .int (nI 0), .int v])).length) Slot.unset).toArray = ls at hl ⊢
  have hl : lv_has ls 3 [(0, .ref h), (1, .int (nI 0)), (2, .int v)] := hl
  have hok0 := hok
  obtain ⟨hn, hwf, hc2, hmo, hmf, hms, hmc⟩ := hok0
  refine lv_iload_n hx hb dX1_fails_0 rfl (lv_at hl 1 rfl) ?_
  refine lv_if_eq (tgt := 16) hx hb dX1_fails_1 (by decide) (fun hc => ?_) (fun hc => ?_)
  · refine lv_aload_n hx hb dX1_fails_16 rfl (lv_at hl 0 rfl) ?_
    refine gX1_err hx hb hts hown hK hP 0 rfl rfl dX1_fails_17 ?_
    refine lv_if_eq (tgt := 27) hx hb dX1_fails_20 (by decide) (fun hc3 => ?_) (fun hc3 => ?_)
    · refine lv_iconst (v := nI 0) hx hb dX1_fails_27 (by decide) ?_
      refine cw_topi (y := 0) (by decide) ?_
      exact W.zret (v := 0) hx hb hr rfl (fun t ht hW => ⟨rfl, ht⟩) (fun q hq => by cases hq) dX1_fails_28
    · exact absurd rfl hc3
  · exact absurd rfl hc
set_option maxHeartbeats 4000000 in
set_option maxRecDepth 100000 in
/-- many -/
theorem c_X1_many (l : Launch) (D : va_G) (cI cZ : ClassId) (h b1 b2 b3 b4 b5 b6 b7 : Nat) (er : Int32) (mo mf mt ma mc ms mq : Nat → Int32) (o f : Nat → Nat) (sd : Nat → Bool) (c₀ : Nat → Nat) (n : Nat) (hok : cd_md o f sd c₀ n mo mf mc ms) (p₁ j : Nat) (hp : p₁ < 6) (hj : j ≤ n) : Met l yX1_many (.code yX1_many cX1_many 5 (some .int) :: tW) (rmL 0) (va_Pc [.ref h, .int (nI p₁), .int (nI j)] (fun U => va_P D cdCl (mdW h b1 b2 b3 b4 b5 b6 b7 cI cZ er mo mf mt ma mc ms mq n) U.heap ∧ va_K D cdCl (dkT cI cZ) U)) (QcRead (nI (cd_mn o p₁ j))) 0 0 (fun _ => False) := by
  refine Met.ofW (cc := cX1_many) (maxL := 5) (ret := (some .int)) (by decide) rfl ?_
  intro p e s m args below meth c s₁ B hml hv
  obtain ⟨rfl, hP, hK⟩ := hv
  have hx := B.exec
  have hb := B.bytes
  have hr := B.returns
  have hts := atoms_spec (ws := .code yX1_many cX1_many 5 (some .int) :: tW) B.pre
  have hown : s.vm.findClass RX1 = some m.cls := findClass_of_methodNamed B.named
  have hlocks := B.notSynchronized
  have hl := lv_entry ([.ref h, .int (nI p₁), .int (nI j)]) (n := 5) (Nat.le_of_ble_eq_true rfl)
  rw [lg_entry_eq]
  generalize (lg_sl ([.ref h, .int (nI p₁), .int (nI j)]) ++ List.replicate (5 - (lg_sl ([.ref h, .int (nI p₁), .int (nI j)])).length) Slot.unset).toArray = ls at hl ⊢
  have hl : lv_has ls 5 [(0, .ref h), (1, .int (nI p₁)), (2, .int (nI j))] := hl
  have hok0 := hok
  obtain ⟨hn, hwf, hc2, hmo, hmf, hms, hmc⟩ := hok0
  have loop : ∀ (d g : Nat) (ls : Array Slot), g + d = j → lv_has ls 5 [(4, .int (nI g)), (3, .int (nI (cd_mn o p₁ g))), (0, .ref h), (1, .int (nI p₁)), (2, .int (nI j))] → W p l e (rmL 0) s m (List.toArray [.ref h, .int (nI p₁), .int (nI j)]) below meth c s.heap [] 0 0 (MQ below (QcRead (nI (cd_mn o p₁ j))) (List.toArray [.ref h, .int (nI p₁), .int (nI j)]) s 0 0 (fun _ => False)) (F0 m 5 ls []) := by
    intro d
    induction d with
    | zero =>
      intro g ls hd hl
      refine lv_iload hx hb dX1_many_5 (lv_at hl 0 rfl) ?_
      refine lv_iload_n hx hb dX1_many_7 rfl (lv_at hl 4 rfl) ?_
      refine cw_ge (tgt := 31) (x := g) (y := j) hx hb dX1_many_8 (by decide) (by omega) (by omega) (fun hc => ?_) (fun hc => ?_)
      · refine lv_iload_n hx hb dX1_many_31 rfl (lv_at hl 1 rfl) ?_
        refine cw_topi (y := nI (cd_mn o p₁ j)) (by rw [show g = j by omega]) ?_
        exact W.iret (v := nI (cd_mn o p₁ j)) hx hb hr (fun t ht hW => ⟨rfl, ht⟩) (fun q hq => by cases hq) dX1_many_32
      · exact absurd hc (by omega)
    | succ d ih =>
      intro g ls hd hl
      refine lv_iload hx hb dX1_many_5 (lv_at hl 0 rfl) ?_
      refine lv_iload_n hx hb dX1_many_7 rfl (lv_at hl 4 rfl) ?_
      refine cw_ge (tgt := 31) (x := g) (y := j) hx hb dX1_many_8 (by decide) (by omega) (by omega) (fun hc => ?_) (fun hc => ?_)
      · exact absurd hc (by omega)
      · have ho := (hwf g (by omega)).1
        refine lv_aload_n hx hb dX1_many_11 rfl (lv_at hl 2 rfl) ?_
        refine gX1_of hx hb hts hown hK hP 0 rfl rfl dX1_many_12 ?_
        refine lv_iload hx hb dX1_many_15 (lv_at hl 0 rfl) ?_
        refine cw_iald hx hb hK hP 1 0 rfl rfl (k := g) (v := nI (o g)) (by omega) (by decide) (hmo g (by omega)) dX1_many_17 ?_
        refine lv_iload_n hx hb dX1_many_18 rfl (lv_at hl 3 rfl) ?_
        refine cw_ne (tgt := 25) (x := (o g)) (y := p₁) hx hb dX1_many_19 (by decide) (by omega) (by omega) (fun hc3 => ?_) (fun hc3 => ?_)
        · refine lv_iinc (k := 0) (v := nI (g + 1)) hx hb dX1_many_25 hl rfl (cd_inc _) (by decide) rfl (fun ls hl => ?_)
          have hl : lv_has ls 5 [(4, .int (nI (g + 1))), (3, .int (nI (cd_mn o p₁ g))), (0, .ref h), (1, .int (nI p₁)), (2, .int (nI j))] := hl
          refine lv_goto (tgt := 5) hx hb dX1_many_28 (by decide) ?_
          exact ih (g + 1) ls (by omega) (by rw [cd_mn_ne hc3]; exact hl)
        · refine lv_iinc (k := 1) (v := nI ((cd_mn o p₁ g) + 1)) hx hb dX1_many_22 hl rfl (cd_inc _) (by decide) rfl (fun ls hl => ?_)
          have hl : lv_has ls 5 [(3, .int (nI ((cd_mn o p₁ g) + 1))), (4, .int (nI g)), (0, .ref h), (1, .int (nI p₁)), (2, .int (nI j))] := hl
          refine lv_iinc (k := 1) (v := nI (g + 1)) hx hb dX1_many_25 hl rfl (cd_inc _) (by decide) rfl (fun ls hl => ?_)
          have hl : lv_has ls 5 [(4, .int (nI (g + 1))), (3, .int (nI ((cd_mn o p₁ g) + 1))), (0, .ref h), (1, .int (nI p₁)), (2, .int (nI j))] := hl
          refine lv_goto (tgt := 5) hx hb dX1_many_28 (by decide) ?_
          exact ih (g + 1) ls (by omega) (lv_sub (by rw [← cd_mn_eq hc3] at hl; exact hl) [0, 1, 2, 3, 4] rfl)
  refine lv_iconst (v := nI 0) hx hb dX1_many_0 (by decide) ?_
  refine lv_istore_n hx hb dX1_many_1 rfl hl (by decide) rfl (fun ls hl => ?_)
  have hl : lv_has ls 5 [(3, .int (nI 0)), (0, .ref h), (1, .int (nI p₁)), (2, .int (nI j))] := hl
  refine lv_iconst (v := nI 0) hx hb dX1_many_2 (by decide) ?_
  refine lv_istore hx hb dX1_many_3 hl (by decide) rfl (fun ls hl => ?_)
  have hl : lv_has ls 5 [(4, .int (nI 0)), (3, .int (nI 0)), (0, .ref h), (1, .int (nI p₁)), (2, .int (nI j))] := hl
  exact loop j 0 ls (by omega) hl
set_option maxHeartbeats 4000000 in
set_option maxRecDepth 100000 in
/-- former -/
theorem c_X1_former (l : Launch) (D : va_G) (cI cZ : ClassId) (h b1 b2 b3 b4 b5 b6 b7 : Nat) (er : Int32) (mo mf mt ma mc ms mq : Nat → Int32) (o f : Nat → Nat) (sd : Nat → Bool) (c₀ : Nat → Nat) (n : Nat) (hok : cd_md o f sd c₀ n mo mf mc ms) (k : Nat) (hk : k < n) : Met l yX1_former (.code yX1_former cX1_former 3 (some .int) :: tW) (rmL 0) (va_Pc [.ref h, .int (nI k)] (fun U => va_P D cdCl (mdW h b1 b2 b3 b4 b5 b6 b7 cI cZ er mo mf mt ma mc ms mq n) U.heap ∧ va_K D cdCl (dkT cI cZ) U)) (QcRead (cd_pI (cd_fm o (o k) k))) 0 0 (fun _ => False) := by
  refine Met.ofW (cc := cX1_former) (maxL := 3) (ret := (some .int)) (by decide) rfl ?_
  intro p e s m args below meth c s₁ B hml hv
  obtain ⟨rfl, hP, hK⟩ := hv
  have hx := B.exec
  have hb := B.bytes
  have hr := B.returns
  have hts := atoms_spec (ws := .code yX1_former cX1_former 3 (some .int) :: tW) B.pre
  have hown : s.vm.findClass RX1 = some m.cls := findClass_of_methodNamed B.named
  have hlocks := B.notSynchronized
  have hl := lv_entry ([.ref h, .int (nI k)]) (n := 3) (Nat.le_of_ble_eq_true rfl)
  rw [lg_entry_eq]
  generalize (lg_sl ([.ref h, .int (nI k)]) ++ List.replicate (3 - (lg_sl ([.ref h, .int (nI k)])).length) Slot.unset).toArray = ls at hl ⊢
  have hl : lv_has ls 3 [(0, .ref h), (1, .int (nI k))] := hl
  have hok0 := hok
  obtain ⟨hn, hwf, hc2, hmo, hmf, hms, hmc⟩ := hok0
  have hok1 := (hwf k hk).1
  have loop : ∀ (g : Nat) (ls : Array Slot), g ≤ k → cd_fm o (o k) k = cd_fm o (o k) g → lv_has ls 3 [(2, .int (cd_pI g)), (0, .ref h), (1, .int (nI k))] → W p l e (rmL 0) s m (List.toArray [.ref h, .int (nI k)]) below meth c s.heap [] 0 0 (MQ below (QcRead (cd_pI (cd_fm o (o k) k))) (List.toArray [.ref h, .int (nI k)]) s 0 0 (fun _ => False)) (F0 m 4 ls []) := by
    intro g
    induction g with
    | zero =>
      intro ls _ hf hl
      rw [hf]
      refine lv_iload_n hx hb dX1_former_4 rfl (lv_at hl 0 rfl) ?_
      refine lv_if_lt (tgt := 31) hx hb dX1_former_5 (by decide) (fun hc => ?_) (fun hc => ?_)
      · refine lv_iconst (v := (-1)) hx hb dX1_former_31 (by decide) ?_
        exact W.iret (v := cd_pI 0) hx hb hr (fun t ht hW => ⟨rfl, ht⟩) (fun q hq => by cases hq) dX1_former_32
      · exact absurd ((cd_pI_neg (by omega)).mpr rfl) hc
    | succ g ih =>
      intro ls hg hf hl
      have hl : lv_has ls 3 [(2, .int (nI g)), (0, .ref h), (1, .int (nI k))] := hl
      refine lv_iload_n hx hb dX1_former_4 rfl (lv_at hl 0 rfl) ?_
      refine lv_if_lt (tgt := 31) hx hb dX1_former_5 (by decide) (fun hc => ?_) (fun hc => ?_)
      · exact absurd hc (nI_pos (by omega))
      · refine lv_aload_n hx hb dX1_former_8 rfl (lv_at hl 1 rfl) ?_
        refine gX1_of hx hb hts hown hK hP 0 rfl rfl dX1_former_9 ?_
        refine lv_iload_n hx hb dX1_former_12 rfl (lv_at hl 0 rfl) ?_
        refine cw_iald hx hb hK hP 1 0 rfl rfl (k := g) (v := nI (o g)) (by omega) (by decide) (hmo g (by omega)) dX1_former_13 ?_
        refine lv_aload_n hx hb dX1_former_14 rfl (lv_at hl 1 rfl) ?_
        refine gX1_of hx hb hts hown hK hP 0 rfl rfl dX1_former_15 ?_
        refine lv_iload_n hx hb dX1_former_18 rfl (lv_at hl 2 rfl) ?_
        refine cw_iald hx hb hK hP 1 0 rfl rfl (k := k) (v := nI (o k)) (by omega) (by decide) (hmo k hk) dX1_former_19 ?_
        have ho := (hwf g (by omega)).1
        refine cw_ne (tgt := 25) (x := (o g)) (y := (o k)) hx hb dX1_former_20 (by decide) (by omega) (by omega) (fun hc3 => ?_) (fun hc3 => ?_)
        · rw [cd_fm_ne hc3] at hf
          refine lv_iinc (k := 0) (v := cd_pI g) hx hb dX1_former_25 hl rfl (cd_pI_dec _) (by decide) rfl (fun ls hl => ?_)
          have hl : lv_has ls 3 [(2, .int (cd_pI g)), (0, .ref h), (1, .int (nI k))] := hl
          refine lv_goto (tgt := 4) hx hb dX1_former_28 (by decide) ?_
          exact ih ls (by omega) hf hl
        · rw [hf, cd_fm_eq hc3]
          refine lv_iload_n hx hb dX1_former_23 rfl (lv_at hl 0 rfl) ?_
          exact W.iret (v := nI g) hx hb hr (fun t ht hW => ⟨rfl, ht⟩) (fun q hq => by cases hq) dX1_former_24
  refine lv_iload_n hx hb dX1_former_0 rfl (lv_at hl 1 rfl) ?_
  refine lv_iconst (v := nI 1) hx hb dX1_former_1 (by decide) ?_
  refine lv_isub hx hb dX1_former_2 ?_
  refine cw_topi (y := cd_pI k) (cd_pI_sub k) ?_
  refine lv_istore_n hx hb dX1_former_3 rfl hl (by decide) rfl (fun ls hl => ?_)
  have hl : lv_has ls 3 [(2, .int (cd_pI k)), (0, .ref h), (1, .int (nI k))] := hl
  exact loop k ls (Nat.le_refl _) rfl hl
set_option maxHeartbeats 4000000 in
set_option maxRecDepth 100000 in
/-- isIn -/
theorem c_X1_isIn (l : Launch) (D : va_G) (cI cZ : ClassId) (h b1 b2 b3 b4 b5 b6 b7 : Nat) (er : Int32) (mo mf mt ma mc ms mq : Nat → Int32) (o f : Nat → Nat) (sd : Nat → Bool) (c₀ : Nat → Nat) (n : Nat) (hok : cd_md o f sd c₀ n mo mf mc ms) (k : Nat) (hk : k < n) : Met l yX1_isIn (.code yX1_isIn cX1_isIn 2 (some .boolean) :: tW) (rmL 1) (va_Pc [.ref h, .int (nI k)] (fun U => va_P D cdCl (mdW h b1 b2 b3 b4 b5 b6 b7 cI cZ er mo mf mt ma mc ms mq n) U.heap ∧ va_K D cdCl (dkT cI cZ) U)) (QcRead (cd_bI (cd_mn o (o k) k < c₀ (o k)))) 0 0 (fun _ => False) := by
  refine Met.ofW (cc := cX1_isIn) (maxL := 2) (ret := (some .boolean)) (by decide) rfl ?_
  intro p e s m args below meth c s₁ B hml hv
  obtain ⟨rfl, hP, hK⟩ := hv
  have hx := B.exec
  have hb := B.bytes
  have hr := B.returns
  have hts := atoms_spec (ws := .code yX1_isIn cX1_isIn 2 (some .boolean) :: tW) B.pre
  have hown : s.vm.findClass RX1 = some m.cls := findClass_of_methodNamed B.named
  have hlocks := B.notSynchronized
  have hl := lv_entry ([.ref h, .int (nI k)]) (n := 2) (Nat.le_of_ble_eq_true rfl)
  rw [lg_entry_eq]
  generalize (lg_sl ([.ref h, .int (nI k)]) ++ List.replicate (2 - (lg_sl ([.ref h, .int (nI k)])).length) Slot.unset).toArray = ls at hl ⊢
  have hl : lv_has ls 2 [(0, .ref h), (1, .int (nI k))] := hl
  have hok0 := hok
  obtain ⟨hn, hwf, hc2, hmo, hmf, hms, hmc⟩ := hok0
  have ho := (hwf k hk).1
  have hm := cd_mn_le o (o k) k
  have hcc := hc2 (o k) ho
  refine lv_aload_n hx hb dX1_isIn_0 rfl (lv_at hl 0 rfl) ?_
  refine lv_aload_n hx hb dX1_isIn_1 rfl (lv_at hl 0 rfl) ?_
  refine gX1_of hx hb hts hown hK hP 0 rfl rfl dX1_isIn_2 ?_
  refine lv_iload_n hx hb dX1_isIn_5 rfl (lv_at hl 1 rfl) ?_
  refine cw_iald hx hb hK hP 1 0 rfl rfl (k := k) (v := nI (o k)) (by omega) (by decide) (hmo k hk) dX1_isIn_6 ?_
  refine lv_iload_n hx hb dX1_isIn_7 rfl (lv_at hl 1 rfl) ?_
  refine cw_callR (As := [.int (nI (o k)), .int (nI k)]) ⟨hx, hb, hml, hown, hts⟩ (c_X1_many l D cI cZ h b1 b2 b3 b4 b5 b6 b7 er mo mf mt ma mc ms mq o f sd c₀ n hok (o k) k ho (by omega)) (kX1_X1_many hts 0 0 0 0 ⟨by decide, by decide⟩) hK hP 0 rfl rfl rfl rfl hl.1 rfl (Nat.le_of_ble_eq_true rfl) dX1_isIn_8 ⟨Nat.zero_le _, Nat.zero_le _⟩ ?_
  refine lv_aload_n hx hb dX1_isIn_11 rfl (lv_at hl 0 rfl) ?_
  refine gX1_cuts hx hb hts hown hK hP 0 rfl rfl dX1_isIn_12 ?_
  refine lv_aload_n hx hb dX1_isIn_15 rfl (lv_at hl 0 rfl) ?_
  refine gX1_of hx hb hts hown hK hP 0 rfl rfl dX1_isIn_16 ?_
  refine lv_iload_n hx hb dX1_isIn_19 rfl (lv_at hl 1 rfl) ?_
  refine cw_iald hx hb hK hP 1 0 rfl rfl (k := k) (v := nI (o k)) (by omega) (by decide) (hmo k hk) dX1_isIn_20 ?_
  refine cw_iald hx hb hK hP 5 0 rfl rfl (k := (o k)) (v := nI (c₀ (o k))) (by omega) (by decide) (hmc (o k) ho) dX1_isIn_21 ?_
  refine cw_ge (tgt := 29) (x := (cd_mn o (o k) k)) (y := (c₀ (o k))) hx hb dX1_isIn_22 (by decide) (by omega) (by omega) (fun hc => ?_) (fun hc => ?_)
  · refine lv_iconst (v := nI 0) hx hb dX1_isIn_29 (by decide) ?_
    refine cw_topi (y := cd_bI (cd_mn o (o k) k < c₀ (o k))) (cd_bI_f (by omega)).symm ?_
    exact W.zret (v := cd_bI (cd_mn o (o k) k < c₀ (o k))) hx hb hr (by first | rfl | exact cd_bI_nar) (fun t ht hW => ⟨rfl, ht⟩) (fun q hq => by cases hq) dX1_isIn_30
  · refine lv_iconst (v := nI 1) hx hb dX1_isIn_25 (by decide) ?_
    refine lv_goto (tgt := 30) hx hb dX1_isIn_26 (by decide) ?_
    refine cw_topi (y := cd_bI (cd_mn o (o k) k < c₀ (o k))) (cd_bI_t (by omega)).symm ?_
    exact W.zret (v := cd_bI (cd_mn o (o k) k < c₀ (o k))) hx hb hr (by first | rfl | exact cd_bI_nar) (fun t ht hW => ⟨rfl, ht⟩) (fun q hq => by cases hq) dX1_isIn_30
set_option maxHeartbeats 4000000 in
set_option maxRecDepth 100000 in
/-- open0 -/
theorem c_X1_open0 (l : Launch) (D : va_G) (cI cZ : ClassId) (h b1 b2 b3 b4 b5 b6 b7 : Nat) (er : Int32) (mo mf mt ma mc ms mq : Nat → Int32) (o f : Nat → Nat) (sd : Nat → Bool) (c₀ : Nat → Nat) (n : Nat) (hok : cd_md o f sd c₀ n mo mf mc ms)  : Met l yX1_open0 (.code yX1_open0 cX1_open0 2 (some .int) :: tW) (rmL 2) (va_Pc [.ref h] (fun U => va_P D cdCl (mdW h b1 b2 b3 b4 b5 b6 b7 cI cZ er mo mf mt ma mc ms mq n) U.heap ∧ va_K D cdCl (dkT cI cZ) U)) (QcRead (cd_pI (cd_o0 o f c₀ n 0))) 0 0 (fun _ => False) := by
  refine Met.ofW (cc := cX1_open0) (maxL := 2) (ret := (some .int)) (by decide) rfl ?_
  intro p e s m args below meth c s₁ B hml hv
  obtain ⟨rfl, hP, hK⟩ := hv
  have hx := B.exec
  have hb := B.bytes
  have hr := B.returns
  have hts := atoms_spec (ws := .code yX1_open0 cX1_open0 2 (some .int) :: tW) B.pre
  have hown : s.vm.findClass RX1 = some m.cls := findClass_of_methodNamed B.named
  have hlocks := B.notSynchronized
  have hl := lv_entry ([.ref h]) (n := 2) (Nat.le_of_ble_eq_true rfl)
  rw [lg_entry_eq]
  generalize (lg_sl ([.ref h]) ++ List.replicate (2 - (lg_sl ([.ref h])).length) Slot.unset).toArray = ls at hl ⊢
  have hl : lv_has ls 2 [(0, .ref h)] := hl
  have hok0 := hok
  obtain ⟨hn, hwf, hc2, hmo, hmf, hms, hmc⟩ := hok0
  have loop : ∀ (d g : Nat) (ls : Array Slot), g + d = n → cd_o0 o f c₀ n 0 = cd_o0 o f c₀ d g → lv_has ls 2 [(1, .int (nI g)), (0, .ref h)] → W p l e (rmL 2) s m (List.toArray [.ref h]) below meth c s.heap [] 0 0 (MQ below (QcRead (cd_pI (cd_o0 o f c₀ n 0))) (List.toArray [.ref h]) s 0 0 (fun _ => False)) (F0 m 2 ls []) := by
    intro d
    induction d with
    | zero =>
      intro g ls hd hq hl
      refine lv_iload_n hx hb dX1_open0_2 rfl (lv_at hl 0 rfl) ?_
      refine lv_aload_n hx hb dX1_open0_3 rfl (lv_at hl 1 rfl) ?_
      refine gX1_events hx hb hts hown hK hP 0 rfl rfl dX1_open0_4 ?_
      refine cw_ge (tgt := 48) (x := g) (y := n) hx hb dX1_open0_7 (by decide) (by omega) (by omega) (fun hc => ?_) (fun hc => ?_)
      · rw [hq]
        refine lv_iconst (v := (-1)) hx hb dX1_open0_48 (by decide) ?_
        exact W.iret (v := cd_pI 0) hx hb hr (fun t ht hW => ⟨rfl, ht⟩) (fun q hq => by cases hq) dX1_open0_49
      · exact absurd hc (by omega)
    | succ d ih =>
      intro g ls hd hq hl
      refine lv_iload_n hx hb dX1_open0_2 rfl (lv_at hl 0 rfl) ?_
      refine lv_aload_n hx hb dX1_open0_3 rfl (lv_at hl 1 rfl) ?_
      refine gX1_events hx hb hts hown hK hP 0 rfl rfl dX1_open0_4 ?_
      refine cw_ge (tgt := 48) (x := g) (y := n) hx hb dX1_open0_7 (by decide) (by omega) (by omega) (fun hc => ?_) (fun hc => ?_)
      · exact absurd hc (by omega)
      · have hq : cd_o0 o f c₀ n 0 = if cd_opn o f c₀ g then g + 1 else cd_o0 o f c₀ d (g + 1) := hq
        have hfg := (hwf g hc).2
        refine lv_aload_n hx hb dX1_open0_10 rfl (lv_at hl 1 rfl) ?_
        refine lv_iload_n hx hb dX1_open0_11 rfl (lv_at hl 0 rfl) ?_
        refine cw_callR (As := [.int (nI g)]) ⟨hx, hb, hml, hown, hts⟩ (c_X1_isIn l D cI cZ h b1 b2 b3 b4 b5 b6 b7 er mo mf mt ma mc ms mq o f sd c₀ n hok g hc) (kX1_X1_isIn hts 1 0 0 30 ⟨by decide, by decide⟩) hK hP 0 rfl rfl rfl rfl hl.1 rfl (Nat.le_of_ble_eq_true rfl) dX1_open0_12 ⟨Nat.zero_le _, Nat.zero_le _⟩ ?_
        refine lv_if_eq (tgt := 42) hx hb dX1_open0_15 (by decide) (fun h1 => ?_) (fun h1 => ?_)
        · rw [if_neg (fun z => cd_bI_z.mp h1 z.1)] at hq
          refine lv_iinc (k := 0) (v := nI (g + 1)) hx hb dX1_open0_42 hl rfl (cd_inc _) (by decide) rfl (fun ls hl => ?_)
          have hl : lv_has ls 2 [(1, .int (nI (g + 1))), (0, .ref h)] := hl
          refine lv_goto (tgt := 2) hx hb dX1_open0_45 (by decide) ?_
          exact ih (g + 1) ls (by omega) hq hl
        · have h1 : cd_mn o (o g) g < c₀ (o g) := Classical.byContradiction (fun z => h1 (cd_bI_z.mpr z))
          refine lv_aload_n hx hb dX1_open0_18 rfl (lv_at hl 1 rfl) ?_
          refine gX1_from hx hb hts hown hK hP 0 rfl rfl dX1_open0_19 ?_
          refine lv_iload_n hx hb dX1_open0_22 rfl (lv_at hl 0 rfl) ?_
          refine cw_iald hx hb hK hP 2 0 rfl rfl (k := g) (v := cd_pI (f g)) (by omega) (by decide) (hmf g hc) dX1_open0_23 ?_
          refine lv_if_lt (tgt := 42) hx hb dX1_open0_24 (by decide) (fun h2 => ?_) (fun h2 => ?_)
          · rw [if_neg (fun z => z.2.1 ((cd_pI_neg (by omega)).mp h2))] at hq
            refine lv_iinc (k := 0) (v := nI (g + 1)) hx hb dX1_open0_42 hl rfl (cd_inc _) (by decide) rfl (fun ls hl => ?_)
            have hl : lv_has ls 2 [(1, .int (nI (g + 1))), (0, .ref h)] := hl
            refine lv_goto (tgt := 2) hx hb dX1_open0_45 (by decide) ?_
            exact ih (g + 1) ls (by omega) hq hl
          · obtain ⟨j, hj⟩ : ∃ j, f g = j + 1 := ⟨f g - 1, by have : f g ≠ 0 := fun z => h2 ((cd_pI_neg (by omega)).mpr z); omega⟩
            refine lv_aload_n hx hb dX1_open0_27 rfl (lv_at hl 1 rfl) ?_
            refine lv_aload_n hx hb dX1_open0_28 rfl (lv_at hl 1 rfl) ?_
            refine gX1_from hx hb hts hown hK hP 0 rfl rfl dX1_open0_29 ?_
            refine lv_iload_n hx hb dX1_open0_32 rfl (lv_at hl 0 rfl) ?_
            refine cw_iald hx hb hK hP 2 0 rfl rfl (k := g) (v := nI j) (by omega) (by decide) (by rw [hmf g hc, hj]; rfl) dX1_open0_33 ?_
            refine cw_callR (As := [.int (nI j)]) ⟨hx, hb, hml, hown, hts⟩ (c_X1_isIn l D cI cZ h b1 b2 b3 b4 b5 b6 b7 er mo mf mt ma mc ms mq o f sd c₀ n hok j (by omega)) (kX1_X1_isIn hts 1 0 0 30 ⟨by decide, by decide⟩) hK hP 0 rfl rfl rfl rfl hl.1 rfl (Nat.le_of_ble_eq_true rfl) dX1_open0_34 ⟨Nat.zero_le _, Nat.zero_le _⟩ ?_
            refine lv_if_ne (tgt := 42) hx hb dX1_open0_37 (by decide) (fun h3 => ?_) (fun h3 => ?_)
            · rw [if_neg (fun z => h3 (cd_bI_z.mpr (by have z3 := z.2.2; rw [hj, Nat.add_sub_cancel] at z3; exact z3)))] at hq
              refine lv_iinc (k := 0) (v := nI (g + 1)) hx hb dX1_open0_42 hl rfl (cd_inc _) (by decide) rfl (fun ls hl => ?_)
              have hl : lv_has ls 2 [(1, .int (nI (g + 1))), (0, .ref h)] := hl
              refine lv_goto (tgt := 2) hx hb dX1_open0_45 (by decide) ?_
              exact ih (g + 1) ls (by omega) hq hl
            · have h3 := cd_bI_z.mp h3
              rw [if_pos ⟨h1, by omega, by rw [hj, Nat.add_sub_cancel]; exact h3⟩] at hq
              rw [hq]
              refine lv_iload_n hx hb dX1_open0_40 rfl (lv_at hl 0 rfl) ?_
              exact W.iret (v := nI g) hx hb hr (fun t ht hW => ⟨rfl, ht⟩) (fun q hq => by cases hq) dX1_open0_41
  refine lv_iconst (v := nI 0) hx hb dX1_open0_0 (by decide) ?_
  refine lv_istore_n hx hb dX1_open0_1 rfl hl (by decide) rfl (fun ls hl => ?_)
  have hl : lv_has ls 2 [(1, .int (nI 0)), (0, .ref h)] := hl
  exact loop n 0 ls (by omega) rfl hl
set_option maxHeartbeats 4000000 in
set_option maxRecDepth 100000 in
/-- inCut -/
theorem c_X1_inCut (l : Launch) (D : va_G) (cI cZ : ClassId) (h b1 b2 b3 b4 b5 b6 b7 : Nat) (er : Int32) (mo mf mt ma mc ms mq : Nat → Int32) (o f : Nat → Nat) (sd : Nat → Bool) (c₀ : Nat → Nat) (n : Nat) (hok : cd_md o f sd c₀ n mo mf mc ms)  : Met l yX1_inCut (.code yX1_inCut cX1_inCut 3 (some .int) :: tW) (rmL 2) (va_Pc [.ref h] (fun U => va_P D cdCl (mdW h b1 b2 b3 b4 b5 b6 b7 cI cZ er mo mf mt ma mc ms mq n) U.heap ∧ va_K D cdCl (dkT cI cZ) U)) (QcRead (nI (cd_ct (fun e => cd_mn o (o e) e < c₀ (o e)) n))) 0 0 (fun _ => False) := by
  refine Met.ofW (cc := cX1_inCut) (maxL := 3) (ret := (some .int)) (by decide) rfl ?_
  intro p e s m args below meth c s₁ B hml hv
  obtain ⟨rfl, hP, hK⟩ := hv
  have hx := B.exec
  have hb := B.bytes
  have hr := B.returns
  have hts := atoms_spec (ws := .code yX1_inCut cX1_inCut 3 (some .int) :: tW) B.pre
  have hown : s.vm.findClass RX1 = some m.cls := findClass_of_methodNamed B.named
  have hlocks := B.notSynchronized
  have hl := lv_entry ([.ref h]) (n := 3) (Nat.le_of_ble_eq_true rfl)
  rw [lg_entry_eq]
  generalize (lg_sl ([.ref h]) ++ List.replicate (3 - (lg_sl ([.ref h])).length) Slot.unset).toArray = ls at hl ⊢
  have hl : lv_has ls 3 [(0, .ref h)] := hl
  have hok0 := hok
  obtain ⟨hn, hwf, hc2, hmo, hmf, hms, hmc⟩ := hok0
  have loop : ∀ (d g : Nat) (ls : Array Slot), g + d = n → lv_has ls 3 [(2, .int (nI g)), (1, .int (nI (cd_ct (fun e => cd_mn o (o e) e < c₀ (o e)) g))), (0, .ref h)] → W p l e (rmL 2) s m (List.toArray [.ref h]) below meth c s.heap [] 0 0 (MQ below (QcRead (nI (cd_ct (fun e => cd_mn o (o e) e < c₀ (o e)) n))) (List.toArray [.ref h]) s 0 0 (fun _ => False)) (F0 m 4 ls []) := by
    intro d
    induction d with
    | zero =>
      intro g ls hd hl
      refine lv_iload_n hx hb dX1_inCut_4 rfl (lv_at hl 0 rfl) ?_
      refine lv_aload_n hx hb dX1_inCut_5 rfl (lv_at hl 2 rfl) ?_
      refine gX1_events hx hb hts hown hK hP 0 rfl rfl dX1_inCut_6 ?_
      refine cw_ge (tgt := 29) (x := g) (y := n) hx hb dX1_inCut_9 (by decide) (by omega) (by omega) (fun hc => ?_) (fun hc => ?_)
      · refine lv_iload_n hx hb dX1_inCut_29 rfl (lv_at hl 1 rfl) ?_
        refine cw_topi (y := nI (cd_ct (fun e => cd_mn o (o e) e < c₀ (o e)) n)) (by rw [show g = n by omega]) ?_
        exact W.iret (v := nI (cd_ct (fun e => cd_mn o (o e) e < c₀ (o e)) n)) hx hb hr (fun t ht hW => ⟨rfl, ht⟩) (fun q hq => by cases hq) dX1_inCut_30
      · exact absurd hc (by omega)
    | succ d ih =>
      intro g ls hd hl
      refine lv_iload_n hx hb dX1_inCut_4 rfl (lv_at hl 0 rfl) ?_
      refine lv_aload_n hx hb dX1_inCut_5 rfl (lv_at hl 2 rfl) ?_
      refine gX1_events hx hb hts hown hK hP 0 rfl rfl dX1_inCut_6 ?_
      refine cw_ge (tgt := 29) (x := g) (y := n) hx hb dX1_inCut_9 (by decide) (by omega) (by omega) (fun hc => ?_) (fun hc => ?_)
      · exact absurd hc (by omega)
      · have hs : cd_ct (fun e => cd_mn o (o e) e < c₀ (o e)) (g + 1) = cd_ct (fun e => cd_mn o (o e) e < c₀ (o e)) g + (if cd_mn o (o g) g < c₀ (o g) then 1 else 0) := rfl
        refine lv_aload_n hx hb dX1_inCut_12 rfl (lv_at hl 2 rfl) ?_
        refine lv_iload_n hx hb dX1_inCut_13 rfl (lv_at hl 0 rfl) ?_
        refine cw_callR (As := [.int (nI g)]) ⟨hx, hb, hml, hown, hts⟩ (c_X1_isIn l D cI cZ h b1 b2 b3 b4 b5 b6 b7 er mo mf mt ma mc ms mq o f sd c₀ n hok g hc) (kX1_X1_isIn hts 1 0 0 30 ⟨by decide, by decide⟩) hK hP 0 rfl rfl rfl rfl hl.1 rfl (Nat.le_of_ble_eq_true rfl) dX1_inCut_14 ⟨Nat.zero_le _, Nat.zero_le _⟩ ?_
        refine lv_if_eq (tgt := 23) hx hb dX1_inCut_17 (by decide) (fun h1 => ?_) (fun h1 => ?_)
        · rw [if_neg (cd_bI_z.mp h1)] at hs
          refine lv_iinc (k := 0) (v := nI (g + 1)) hx hb dX1_inCut_23 hl rfl (cd_inc _) (by decide) rfl (fun ls hl => ?_)
          have hl : lv_has ls 3 [(2, .int (nI (g + 1))), (1, .int (nI (cd_ct (fun e => cd_mn o (o e) e < c₀ (o e)) g))), (0, .ref h)] := hl
          refine lv_goto (tgt := 4) hx hb dX1_inCut_26 (by decide) ?_
          exact ih (g + 1) ls (by omega) (by rw [hs]; exact hl)
        · rw [if_pos (Classical.byContradiction (fun z => h1 (cd_bI_z.mpr z)))] at hs
          refine lv_iinc (k := 1) (v := nI ((cd_ct (fun e => cd_mn o (o e) e < c₀ (o e)) g) + 1)) hx hb dX1_inCut_20 hl rfl (cd_inc _) (by decide) rfl (fun ls hl => ?_)
          have hl : lv_has ls 3 [(1, .int (nI ((cd_ct (fun e => cd_mn o (o e) e < c₀ (o e)) g) + 1))), (2, .int (nI g)), (0, .ref h)] := hl
          refine lv_iinc (k := 1) (v := nI (g + 1)) hx hb dX1_inCut_23 hl rfl (cd_inc _) (by decide) rfl (fun ls hl => ?_)
          have hl : lv_has ls 3 [(2, .int (nI (g + 1))), (1, .int (nI ((cd_ct (fun e => cd_mn o (o e) e < c₀ (o e)) g) + 1))), (0, .ref h)] := hl
          refine lv_goto (tgt := 4) hx hb dX1_inCut_26 (by decide) ?_
          exact ih (g + 1) ls (by omega) (by rw [hs]; exact lv_sub hl [0, 1, 2] rfl)
  refine lv_iconst (v := nI 0) hx hb dX1_inCut_0 (by decide) ?_
  refine lv_istore_n hx hb dX1_inCut_1 rfl hl (by decide) rfl (fun ls hl => ?_)
  have hl : lv_has ls 3 [(1, .int (nI 0)), (0, .ref h)] := hl
  refine lv_iconst (v := nI 0) hx hb dX1_inCut_2 (by decide) ?_
  refine lv_istore_n hx hb dX1_inCut_3 rfl hl (by decide) rfl (fun ls hl => ?_)
  have hl : lv_has ls 3 [(2, .int (nI 0)), (1, .int (nI 0)), (0, .ref h)] := hl
  exact loop n 0 ls (by omega) hl
