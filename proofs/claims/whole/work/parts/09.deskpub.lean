/-! THE DESK: its guards, its reading face, all its throws -/
abbrev rmX (k : Nat) : Room := { frames := 6 + k, cells := 1, slots := 6, locals := 90 + 30 * k }
theorem c_X0_needProcess (l : Launch) (p₁ : Nat) (hp : p₁ < 6) : Met l yX0_needProcess (.code yX0_needProcess cX0_needProcess 1 none :: tW) (rmL 0) (va_Pc [.int (nI p₁)] (fun _ => True)) (va_Sv (fun _ => True)) 0 0 (fun _ => False) := by
  refine Met.ofW (cc := cX0_needProcess) (maxL := 1) (ret := none) (by decide) rfl ?_
  intro p e s m args below meth c s₁ B hml hv
  obtain ⟨rfl, -⟩ := hv
  have hx := B.exec
  have hb := B.bytes
  have hr := B.returns
  have hts := atoms_spec (ws := .code yX0_needProcess cX0_needProcess 1 none :: tW) B.pre
  have hown : s.vm.findClass RX0 = some m.cls := findClass_of_methodNamed B.named
  have hlocks := B.notSynchronized
  have hl := lv_entry ([.int (nI p₁)]) (n := 1) (Nat.le_of_ble_eq_true rfl)
  rw [lg_entry_eq]
  generalize (lg_sl ([.int (nI p₁)]) ++ List.replicate (1 - (lg_sl ([.int (nI p₁)])).length) Slot.unset).toArray = ls at hl ⊢
  have hl : lv_has ls 1 [(0, .int (nI p₁))] := hl
  refine lv_iload_n hx hb dX0_needProcess_0 rfl (lv_at hl 0 rfl) ?_
  refine lv_if_lt (tgt := 10) hx hb dX0_needProcess_1 (by decide) (fun hc => ?_) (fun hc => ?_)
  · exact absurd hc (nI_pos (by omega))
  · refine lv_iload_n hx hb dX0_needProcess_4 rfl (lv_at hl 0 rfl) ?_
    refine lv_bipush (v := nI 6) hx hb dX0_needProcess_5 (by decide) ?_
    refine cw_lt (tgt := 18) (x := p₁) (y := 6) hx hb dX0_needProcess_7 (by decide) (by omega) (by omega) (fun hc => ?_) (fun hc => ?_)
    · exact W.vret hx hb hr (fun t ht hW => ⟨rfl, trivial, ht⟩) (fun q hq => by cases hq) dX0_needProcess_18
    · exact absurd hp (by omega)
set_option maxHeartbeats 4000000 in
set_option maxRecDepth 100000 in
/-- needProcess throws -/
theorem x_X0_needProcess (l : Launch) (hlt : l.stackTraces = false) (x : Int32) (hbad : ¬ (0 ≤ x ∧ x < nI 6)) : xt_Met l yX0_needProcess (.code yX0_needProcess cX0_needProcess 1 none :: tW) (rmX 0) (va_Pc [.int x] (fun U => xt_S U)) xIA := by
  refine xt_ofW (cc := cX0_needProcess) (maxL := 1) (ret := none) (by decide) rfl ?_
  intro p e s m args below meth c s₁ B hml hv
  obtain ⟨rfl, hS⟩ := hv
  have hx := B.exec
  have hb := B.bytes
  have hr := B.returns
  have hts := atoms_spec (ws := .code yX0_needProcess cX0_needProcess 1 none :: tW) B.pre
  have hown : s.vm.findClass RX0 = some m.cls := findClass_of_methodNamed B.named
  have hlocks := B.notSynchronized
  have hl := lv_entry ([.int x]) (n := 1) (Nat.le_of_ble_eq_true rfl)
  rw [lg_entry_eq]
  generalize (lg_sl ([.int x]) ++ List.replicate (1 - (lg_sl ([.int x])).length) Slot.unset).toArray = ls at hl ⊢
  have hl : lv_has ls 1 [(0, .int x)] := hl
  have hex := BodyLoose.noHandlers B (hts _ List.mem_cons_self)
  refine lv_iload_n hx hb dX0_needProcess_0 rfl (lv_at hl 0 rfl) ?_
  refine lv_if_lt (tgt := 10) hx hb dX0_needProcess_1 (by decide) (fun hc => ?_) (fun hc => ?_)
  · exact xt_new hx hb hlt hown (names := xUp) (by decide +kernel) (by decide +kernel) (hts _ (List.mem_cons_of_mem _ tm_89)) (hts _ (List.mem_cons_of_mem _ tm_6)) (xt_ownA hts hS) (hml.trans hl.1.symm) hex hlocks dX0_needProcess_10 dX0_needProcess_13 dX0_needProcess_14 dX0_needProcess_17 (Nat.le_of_ble_eq_true rfl) (Nat.le_of_ble_eq_true rfl) (Nat.le_of_ble_eq_true rfl) (Nat.le_of_ble_eq_true rfl)
  · refine lv_iload_n hx hb dX0_needProcess_4 rfl (lv_at hl 0 rfl) ?_
    refine lv_bipush (v := nI 6) hx hb dX0_needProcess_5 (by decide) ?_
    refine lv_icmp_lt (tgt := 18) hx hb dX0_needProcess_7 (by decide) (fun hc3 => ?_) (fun hc3 => ?_)
    · exact absurd ⟨k2_le hc, hc3⟩ hbad
    · exact xt_new hx hb hlt hown (names := xUp) (by decide +kernel) (by decide +kernel) (hts _ (List.mem_cons_of_mem _ tm_89)) (hts _ (List.mem_cons_of_mem _ tm_6)) (xt_ownA hts hS) (hml.trans hl.1.symm) hex hlocks dX0_needProcess_10 dX0_needProcess_13 dX0_needProcess_14 dX0_needProcess_17 (Nat.le_of_ble_eq_true rfl) (Nat.le_of_ble_eq_true rfl) (Nat.le_of_ble_eq_true rfl) (Nat.le_of_ble_eq_true rfl)
set_option maxHeartbeats 4000000 in
set_option maxRecDepth 100000 in
/-- needRoom -/
theorem c_X0_needRoom (l : Launch) (D : va_G) (cI cZ : ClassId) (h a1 a2 a3 a4 a5 : Nat) (pr se rk ck cu : Nat → Int32) (o f : Nat → Nat) (sd : Nat → Bool) (c₀ : Nat → Nat) (n : Nat) (hok : cd_dk o f sd c₀ n pr se rk ck cu) (hr2 : n < 200) : Met l yX0_needRoom (.code yX0_needRoom cX0_needRoom 1 none :: tW) (rmL 0) (va_Pc [.ref h] (fun U => va_P D cdCl (dkW h a1 a2 a3 a4 a5 cI cZ pr se rk ck cu n) U.heap ∧ va_K D cdCl (dkT cI cZ) U)) (va_Sv (fun _ => True)) 0 0 (fun _ => False) := by
  refine Met.ofW (cc := cX0_needRoom) (maxL := 1) (ret := none) (by decide) rfl ?_
  intro p e s m args below meth c s₁ B hml hv
  obtain ⟨rfl, hP, hK⟩ := hv
  have hx := B.exec
  have hb := B.bytes
  have hr := B.returns
  have hts := atoms_spec (ws := .code yX0_needRoom cX0_needRoom 1 none :: tW) B.pre
  have hown : s.vm.findClass RX0 = some m.cls := findClass_of_methodNamed B.named
  have hlocks := B.notSynchronized
  have hl := lv_entry ([.ref h]) (n := 1) (Nat.le_of_ble_eq_true rfl)
  rw [lg_entry_eq]
  generalize (lg_sl ([.ref h]) ++ List.replicate (1 - (lg_sl ([.ref h])).length) Slot.unset).toArray = ls at hl ⊢
  have hl : lv_has ls 1 [(0, .ref h)] := hl
  have hok0 := hok
  obtain ⟨hn, hwf, hc2, hpr, hse, hrk, hck, hcu⟩ := hok0
  refine lv_aload_n hx hb dX0_needRoom_0 rfl (lv_at hl 0 rfl) ?_
  refine gX0_made hx hb hts hown hK hP 0 rfl rfl dX0_needRoom_1 ?_
  refine lv_sipush (v := nI 200) hx hb dX0_needRoom_4 (by decide) ?_
  refine cw_lt (tgt := 18) (x := n) (y := 200) hx hb dX0_needRoom_7 (by decide) (by omega) (by omega) (fun hc => ?_) (fun hc => ?_)
  · exact W.vret hx hb hr (fun t ht hW => ⟨rfl, trivial, ht⟩) (fun q hq => by cases hq) dX0_needRoom_18
  · exact absurd hr2 (by omega)
set_option maxHeartbeats 4000000 in
set_option maxRecDepth 100000 in
/-- needRoom throws -/
theorem x_X0_needRoom (l : Launch) (D : va_G) (cI cZ : ClassId) (h a1 a2 a3 a4 a5 : Nat) (pr se rk ck cu : Nat → Int32) (o f : Nat → Nat) (sd : Nat → Bool) (c₀ : Nat → Nat) (n : Nat) (hok : cd_dk o f sd c₀ n pr se rk ck cu) (hlt : l.stackTraces = false) (hr2 : n = 200) : xt_Met l yX0_needRoom (.code yX0_needRoom cX0_needRoom 1 none :: tW) (rmX 0) (va_Pc [.ref h] (fun U => va_P D cdCl (dkW h a1 a2 a3 a4 a5 cI cZ pr se rk ck cu n) U.heap ∧ va_K D cdCl (dkT cI cZ) U ∧ xt_S U)) xIO := by
  refine xt_ofW (cc := cX0_needRoom) (maxL := 1) (ret := none) (by decide) rfl ?_
  intro p e s m args below meth c s₁ B hml hv
  obtain ⟨rfl, hP, hK, hS⟩ := hv
  have hx := B.exec
  have hb := B.bytes
  have hr := B.returns
  have hts := atoms_spec (ws := .code yX0_needRoom cX0_needRoom 1 none :: tW) B.pre
  have hown : s.vm.findClass RX0 = some m.cls := findClass_of_methodNamed B.named
  have hlocks := B.notSynchronized
  have hl := lv_entry ([.ref h]) (n := 1) (Nat.le_of_ble_eq_true rfl)
  rw [lg_entry_eq]
  generalize (lg_sl ([.ref h]) ++ List.replicate (1 - (lg_sl ([.ref h])).length) Slot.unset).toArray = ls at hl ⊢
  have hl : lv_has ls 1 [(0, .ref h)] := hl
  have hex := BodyLoose.noHandlers B (hts _ List.mem_cons_self)
  have hok0 := hok
  obtain ⟨hn, hwf, hc2, hpr, hse, hrk, hck, hcu⟩ := hok0
  refine lv_aload_n hx hb dX0_needRoom_0 rfl (lv_at hl 0 rfl) ?_
  refine gX0_made hx hb hts hown hK hP 0 rfl rfl dX0_needRoom_1 ?_
  refine lv_sipush (v := nI 200) hx hb dX0_needRoom_4 (by decide) ?_
  refine cw_lt (tgt := 18) (x := n) (y := 200) hx hb dX0_needRoom_7 (by decide) (by omega) (by omega) (fun hc => ?_) (fun hc => ?_)
  · exact absurd hr2 (by omega)
  · exact xt_new hx hb hlt hown (names := xUp) (by decide +kernel) (by decide +kernel) (hts _ (List.mem_cons_of_mem _ tm_155)) (hts _ (List.mem_cons_of_mem _ tm_7)) (xt_ownO hts hS) (hml.trans hl.1.symm) hex hlocks dX0_needRoom_10 dX0_needRoom_13 dX0_needRoom_14 dX0_needRoom_17 (Nat.le_of_ble_eq_true rfl) (Nat.le_of_ble_eq_true rfl) (Nat.le_of_ble_eq_true rfl) (Nat.le_of_ble_eq_true rfl)
set_option maxHeartbeats 4000000 in
set_option maxRecDepth 100000 in
/-- needEvent -/
theorem c_X0_needEvent (l : Launch) (D : va_G) (cI cZ : ClassId) (h a1 a2 a3 a4 a5 : Nat) (pr se rk ck cu : Nat → Int32) (o f : Nat → Nat) (sd : Nat → Bool) (c₀ : Nat → Nat) (n : Nat) (hok : cd_dk o f sd c₀ n pr se rk ck cu) (k : Nat) (hk : k < n) : Met l yX0_needEvent (.code yX0_needEvent cX0_needEvent 2 none :: tW) (rmL 1) (va_Pc [.ref h, .int (nI k)] (fun U => va_P D cdCl (dkW h a1 a2 a3 a4 a5 cI cZ pr se rk ck cu n) U.heap ∧ va_K D cdCl (dkT cI cZ) U)) (va_Sv (fun _ => True)) 0 0 (fun _ => False) := by
  refine Met.ofW (cc := cX0_needEvent) (maxL := 2) (ret := none) (by decide) rfl ?_
  intro p e s m args below meth c s₁ B hml hv
  obtain ⟨rfl, hP, hK⟩ := hv
  have hx := B.exec
  have hb := B.bytes
  have hr := B.returns
  have hts := atoms_spec (ws := .code yX0_needEvent cX0_needEvent 2 none :: tW) B.pre
  have hown : s.vm.findClass RX0 = some m.cls := findClass_of_methodNamed B.named
  have hlocks := B.notSynchronized
  have hl := lv_entry ([.ref h, .int (nI k)]) (n := 2) (Nat.le_of_ble_eq_true rfl)
  rw [lg_entry_eq]
  generalize (lg_sl ([.ref h, .int (nI k)]) ++ List.replicate (2 - (lg_sl ([.ref h, .int (nI k)])).length) Slot.unset).toArray = ls at hl ⊢
  have hl : lv_has ls 2 [(0, .ref h), (1, .int (nI k))] := hl
  have hok0 := hok
  obtain ⟨hn, hwf, hc2, hpr, hse, hrk, hck, hcu⟩ := hok0
  refine lv_aload_n hx hb dX0_needEvent_0 rfl (lv_at hl 0 rfl) ?_
  refine lv_iload_n hx hb dX0_needEvent_1 rfl (lv_at hl 1 rfl) ?_
  refine cw_callR (As := [.int (nI k)]) ⟨hx, hb, hml, hown, hts⟩ (c_X0_isEvent l D cI cZ h a1 a2 a3 a4 a5 pr se rk ck cu o f sd c₀ n hok (nI k)) (kX0_X0_isEvent hts 0 0 0 0 ⟨by decide, by decide⟩) hK hP 0 rfl rfl rfl rfl hl.1 rfl (Nat.le_of_ble_eq_true rfl) dX0_needEvent_2 ⟨Nat.zero_le _, Nat.zero_le _⟩ ?_
  refine cw_topi (y := 1) (cd_bI_t ⟨nI_pos' (by omega), nI_lt (by omega) (by omega)⟩) ?_
  refine lv_if_ne (tgt := 16) hx hb dX0_needEvent_5 (by decide) (fun hc => ?_) (fun hc => ?_)
  · exact W.vret hx hb hr (fun t ht hW => ⟨rfl, trivial, ht⟩) (fun q hq => by cases hq) dX0_needEvent_16
  · exact absurd hc (by decide)
set_option maxHeartbeats 4000000 in
set_option maxRecDepth 100000 in
/-- needEvent throws -/
theorem x_X0_needEvent (l : Launch) (D : va_G) (cI cZ : ClassId) (h a1 a2 a3 a4 a5 : Nat) (pr se rk ck cu : Nat → Int32) (o f : Nat → Nat) (sd : Nat → Bool) (c₀ : Nat → Nat) (n : Nat) (hok : cd_dk o f sd c₀ n pr se rk ck cu) (hlt : l.stackTraces = false) (x : Int32) (hbad : ¬ (0 ≤ x ∧ x < nI n)) : xt_Met l yX0_needEvent (.code yX0_needEvent cX0_needEvent 2 none :: tW) (rmX 0) (va_Pc [.ref h, .int x] (fun U => va_P D cdCl (dkW h a1 a2 a3 a4 a5 cI cZ pr se rk ck cu n) U.heap ∧ va_K D cdCl (dkT cI cZ) U ∧ xt_S U)) xIO := by
  refine xt_ofW (cc := cX0_needEvent) (maxL := 2) (ret := none) (by decide) rfl ?_
  intro p e s m args below meth c s₁ B hml hv
  obtain ⟨rfl, hP, hK, hS⟩ := hv
  have hx := B.exec
  have hb := B.bytes
  have hr := B.returns
  have hts := atoms_spec (ws := .code yX0_needEvent cX0_needEvent 2 none :: tW) B.pre
  have hown : s.vm.findClass RX0 = some m.cls := findClass_of_methodNamed B.named
  have hlocks := B.notSynchronized
  have hl := lv_entry ([.ref h, .int x]) (n := 2) (Nat.le_of_ble_eq_true rfl)
  rw [lg_entry_eq]
  generalize (lg_sl ([.ref h, .int x]) ++ List.replicate (2 - (lg_sl ([.ref h, .int x])).length) Slot.unset).toArray = ls at hl ⊢
  have hl : lv_has ls 2 [(0, .ref h), (1, .int x)] := hl
  have hex := BodyLoose.noHandlers B (hts _ List.mem_cons_self)
  have hok0 := hok
  obtain ⟨hn, hwf, hc2, hpr, hse, hrk, hck, hcu⟩ := hok0
  refine lv_aload_n hx hb dX0_needEvent_0 rfl (lv_at hl 0 rfl) ?_
  refine lv_iload_n hx hb dX0_needEvent_1 rfl (lv_at hl 1 rfl) ?_
  refine cw_callR (As := [.int (x)]) ⟨hx, hb, hml, hown, hts⟩ (c_X0_isEvent l D cI cZ h a1 a2 a3 a4 a5 pr se rk ck cu o f sd c₀ n hok (x)) (kX0_X0_isEvent hts 0 0 0 0 ⟨by decide, by decide⟩) hK hP 0 rfl rfl rfl rfl hl.1 rfl (Nat.le_of_ble_eq_true rfl) dX0_needEvent_2 ⟨Nat.zero_le _, Nat.zero_le _⟩ ?_
  refine cw_topi (y := 0) (cd_bI_f hbad) ?_
  refine lv_if_ne (tgt := 16) hx hb dX0_needEvent_5 (by decide) (fun hc => ?_) (fun hc => ?_)
  · exact absurd hc (by decide)
  · exact xt_new hx hb hlt hown (names := xUp) (by decide +kernel) (by decide +kernel) (hts _ (List.mem_cons_of_mem _ tm_155)) (hts _ (List.mem_cons_of_mem _ tm_7)) (xt_ownO hts hS) (hml.trans hl.1.symm) hex hlocks dX0_needEvent_8 dX0_needEvent_11 dX0_needEvent_12 dX0_needEvent_15 (Nat.le_of_ble_eq_true rfl) (Nat.le_of_ble_eq_true rfl) (Nat.le_of_ble_eq_true rfl) (Nat.le_of_ble_eq_true rfl)
set_option maxHeartbeats 4000000 in
set_option maxRecDepth 100000 in
/-- before -/
theorem c_X0_before (l : Launch) (D : va_G) (cI cZ : ClassId) (h a1 a2 a3 a4 a5 : Nat) (pr se rk ck cu : Nat → Int32) (o f : Nat → Nat) (sd : Nat → Bool) (c₀ : Nat → Nat) (n : Nat) (hok : cd_dk o f sd c₀ n pr se rk ck cu) (k g : Nat) (hk : k < n) (hg : g < n) : Met l yX0_before (.code yX0_before cX0_before 3 (some .boolean) :: tW) (rmL 3) (va_Pc [.ref h, .int (nI k), .int (nI g)] (fun U => va_P D cdCl (dkW h a1 a2 a3 a4 a5 cI cZ pr se rk ck cu n) U.heap ∧ va_K D cdCl (dkT cI cZ) U)) (QcRead (cd_bI (k ≠ g ∧ cd_mn o (o k) k < cd_ck o f (g + 1) (o k)))) 0 0 (fun _ => False) := by
  refine Met.ofW (cc := cX0_before) (maxL := 3) (ret := (some .boolean)) (by decide) rfl ?_
  intro p e s m args below meth c s₁ B hml hv
  obtain ⟨rfl, hP, hK⟩ := hv
  have hx := B.exec
  have hb := B.bytes
  have hr := B.returns
  have hts := atoms_spec (ws := .code yX0_before cX0_before 3 (some .boolean) :: tW) B.pre
  have hown : s.vm.findClass RX0 = some m.cls := findClass_of_methodNamed B.named
  have hlocks := B.notSynchronized
  have hl := lv_entry ([.ref h, .int (nI k), .int (nI g)]) (n := 3) (Nat.le_of_ble_eq_true rfl)
  rw [lg_entry_eq]
  generalize (lg_sl ([.ref h, .int (nI k), .int (nI g)]) ++ List.replicate (3 - (lg_sl ([.ref h, .int (nI k), .int (nI g)])).length) Slot.unset).toArray = ls at hl ⊢
  have hl : lv_has ls 3 [(0, .ref h), (1, .int (nI k)), (2, .int (nI g))] := hl
  have hok0 := hok
  obtain ⟨hn, hwf, hc2, hpr, hse, hrk, hck, hcu⟩ := hok0
  refine lv_aload_n hx hb dX0_before_0 rfl (lv_at hl 0 rfl) ?_
  refine lv_iload_n hx hb dX0_before_1 rfl (lv_at hl 1 rfl) ?_
  refine cw_callRv (As := [.int (nI k)]) ⟨hx, hb, hml, hown, hts⟩ (c_X0_needEvent l D cI cZ h a1 a2 a3 a4 a5 pr se rk ck cu o f sd c₀ n hok k hk) (kX0_X0_needEvent hts 1 0 0 30 ⟨by decide, by decide⟩) hK hP 0 rfl rfl rfl rfl hl.1 rfl (Nat.le_of_ble_eq_true rfl) dX0_before_2 ⟨Nat.zero_le _, Nat.zero_le _⟩ ?_
  refine lv_aload_n hx hb dX0_before_5 rfl (lv_at hl 0 rfl) ?_
  refine lv_iload_n hx hb dX0_before_6 rfl (lv_at hl 2 rfl) ?_
  refine cw_callRv (As := [.int (nI g)]) ⟨hx, hb, hml, hown, hts⟩ (c_X0_needEvent l D cI cZ h a1 a2 a3 a4 a5 pr se rk ck cu o f sd c₀ n hok g hg) (kX0_X0_needEvent hts 1 0 0 30 ⟨by decide, by decide⟩) hK hP 0 rfl rfl rfl rfl hl.1 rfl (Nat.le_of_ble_eq_true rfl) dX0_before_7 ⟨Nat.zero_le _, Nat.zero_le _⟩ ?_
  refine lv_aload_n hx hb dX0_before_10 rfl (lv_at hl 0 rfl) ?_
  refine lv_iload_n hx hb dX0_before_11 rfl (lv_at hl 1 rfl) ?_
  refine lv_iload_n hx hb dX0_before_12 rfl (lv_at hl 2 rfl) ?_
  refine cw_callR (As := [.int (nI k), .int (nI g)]) ⟨hx, hb, hml, hown, hts⟩ (c_X0_precedes l D cI cZ h a1 a2 a3 a4 a5 pr se rk ck cu o f sd c₀ n hok k g hk hg) (kX0_X0_precedes hts 2 0 0 60 ⟨by decide, by decide⟩) hK hP 0 rfl rfl rfl rfl hl.1 rfl (Nat.le_of_ble_eq_true rfl) dX0_before_13 ⟨Nat.zero_le _, Nat.zero_le _⟩ ?_
  exact W.zret (v := cd_bI (k ≠ g ∧ cd_mn o (o k) k < cd_ck o f (g + 1) (o k))) hx hb hr (by first | rfl | exact cd_bI_nar) (fun t ht hW => ⟨rfl, ht⟩) (fun q hq => by cases hq) dX0_before_16
set_option maxHeartbeats 4000000 in
set_option maxRecDepth 100000 in
/-- apart -/
theorem c_X0_apart (l : Launch) (D : va_G) (cI cZ : ClassId) (h a1 a2 a3 a4 a5 : Nat) (pr se rk ck cu : Nat → Int32) (o f : Nat → Nat) (sd : Nat → Bool) (c₀ : Nat → Nat) (n : Nat) (hok : cd_dk o f sd c₀ n pr se rk ck cu) (k g : Nat) (hk : k < n) (hg : g < n) : Met l yX0_apart (.code yX0_apart cX0_apart 3 (some .boolean) :: tW) (rmL 3) (va_Pc [.ref h, .int (nI k), .int (nI g)] (fun U => va_P D cdCl (dkW h a1 a2 a3 a4 a5 cI cZ pr se rk ck cu n) U.heap ∧ va_K D cdCl (dkT cI cZ) U)) (QcRead (cd_bI (k ≠ g ∧ ¬ (k ≠ g ∧ cd_mn o (o k) k < cd_ck o f (g + 1) (o k)) ∧ ¬ (g ≠ k ∧ cd_mn o (o g) g < cd_ck o f (k + 1) (o g))))) 0 0 (fun _ => False) := by
  refine Met.ofW (cc := cX0_apart) (maxL := 3) (ret := (some .boolean)) (by decide) rfl ?_
  intro p e s m args below meth c s₁ B hml hv
  obtain ⟨rfl, hP, hK⟩ := hv
  have hx := B.exec
  have hb := B.bytes
  have hr := B.returns
  have hts := atoms_spec (ws := .code yX0_apart cX0_apart 3 (some .boolean) :: tW) B.pre
  have hown : s.vm.findClass RX0 = some m.cls := findClass_of_methodNamed B.named
  have hlocks := B.notSynchronized
  have hl := lv_entry ([.ref h, .int (nI k), .int (nI g)]) (n := 3) (Nat.le_of_ble_eq_true rfl)
  rw [lg_entry_eq]
  generalize (lg_sl ([.ref h, .int (nI k), .int (nI g)]) ++ List.replicate (3 - (lg_sl ([.ref h, .int (nI k), .int (nI g)])).length) Slot.unset).toArray = ls at hl ⊢
  have hl : lv_has ls 3 [(0, .ref h), (1, .int (nI k)), (2, .int (nI g))] := hl
  have hok0 := hok
  obtain ⟨hn, hwf, hc2, hpr, hse, hrk, hck, hcu⟩ := hok0
  refine lv_aload_n hx hb dX0_apart_0 rfl (lv_at hl 0 rfl) ?_
  refine lv_iload_n hx hb dX0_apart_1 rfl (lv_at hl 1 rfl) ?_
  refine cw_callRv (As := [.int (nI k)]) ⟨hx, hb, hml, hown, hts⟩ (c_X0_needEvent l D cI cZ h a1 a2 a3 a4 a5 pr se rk ck cu o f sd c₀ n hok k hk) (kX0_X0_needEvent hts 1 0 0 30 ⟨by decide, by decide⟩) hK hP 0 rfl rfl rfl rfl hl.1 rfl (Nat.le_of_ble_eq_true rfl) dX0_apart_2 ⟨Nat.zero_le _, Nat.zero_le _⟩ ?_
  refine lv_aload_n hx hb dX0_apart_5 rfl (lv_at hl 0 rfl) ?_
  refine lv_iload_n hx hb dX0_apart_6 rfl (lv_at hl 2 rfl) ?_
  refine cw_callRv (As := [.int (nI g)]) ⟨hx, hb, hml, hown, hts⟩ (c_X0_needEvent l D cI cZ h a1 a2 a3 a4 a5 pr se rk ck cu o f sd c₀ n hok g hg) (kX0_X0_needEvent hts 1 0 0 30 ⟨by decide, by decide⟩) hK hP 0 rfl rfl rfl rfl hl.1 rfl (Nat.le_of_ble_eq_true rfl) dX0_apart_7 ⟨Nat.zero_le _, Nat.zero_le _⟩ ?_
  refine lv_iload_n hx hb dX0_apart_10 rfl (lv_at hl 1 rfl) ?_
  refine lv_iload_n hx hb dX0_apart_11 rfl (lv_at hl 2 rfl) ?_
  refine cw_eq (tgt := 37) (x := k) (y := g) hx hb dX0_apart_12 (by decide) (by omega) (by omega) (fun hc => ?_) (fun hc => ?_)
  · refine lv_iconst (v := nI 0) hx hb dX0_apart_37 (by decide) ?_
    refine cw_topi (y := cd_bI (k ≠ g ∧ ¬ (k ≠ g ∧ cd_mn o (o k) k < cd_ck o f (g + 1) (o k)) ∧ ¬ (g ≠ k ∧ cd_mn o (o g) g < cd_ck o f (k + 1) (o g)))) (cd_bI_f (fun z => z.1 hc)).symm ?_
    exact W.zret (v := cd_bI (k ≠ g ∧ ¬ (k ≠ g ∧ cd_mn o (o k) k < cd_ck o f (g + 1) (o k)) ∧ ¬ (g ≠ k ∧ cd_mn o (o g) g < cd_ck o f (k + 1) (o g)))) hx hb hr (by first | rfl | exact cd_bI_nar) (fun t ht hW => ⟨rfl, ht⟩) (fun q hq => by cases hq) dX0_apart_38
  · refine lv_aload_n hx hb dX0_apart_15 rfl (lv_at hl 0 rfl) ?_
    refine lv_iload_n hx hb dX0_apart_16 rfl (lv_at hl 1 rfl) ?_
    refine lv_iload_n hx hb dX0_apart_17 rfl (lv_at hl 2 rfl) ?_
    refine cw_callR (As := [.int (nI k), .int (nI g)]) ⟨hx, hb, hml, hown, hts⟩ (c_X0_precedes l D cI cZ h a1 a2 a3 a4 a5 pr se rk ck cu o f sd c₀ n hok k g hk hg) (kX0_X0_precedes hts 2 0 0 60 ⟨by decide, by decide⟩) hK hP 0 rfl rfl rfl rfl hl.1 rfl (Nat.le_of_ble_eq_true rfl) dX0_apart_18 ⟨Nat.zero_le _, Nat.zero_le _⟩ ?_
    refine lv_if_ne (tgt := 37) hx hb dX0_apart_21 (by decide) (fun h1 => ?_) (fun h1 => ?_)
    · refine lv_iconst (v := nI 0) hx hb dX0_apart_37 (by decide) ?_
      refine cw_topi (y := cd_bI (k ≠ g ∧ ¬ (k ≠ g ∧ cd_mn o (o k) k < cd_ck o f (g + 1) (o k)) ∧ ¬ (g ≠ k ∧ cd_mn o (o g) g < cd_ck o f (k + 1) (o g)))) (cd_bI_f (fun z => h1 (cd_bI_z.mpr z.2.1))).symm ?_
      exact W.zret (v := cd_bI (k ≠ g ∧ ¬ (k ≠ g ∧ cd_mn o (o k) k < cd_ck o f (g + 1) (o k)) ∧ ¬ (g ≠ k ∧ cd_mn o (o g) g < cd_ck o f (k + 1) (o g)))) hx hb hr (by first | rfl | exact cd_bI_nar) (fun t ht hW => ⟨rfl, ht⟩) (fun q hq => by cases hq) dX0_apart_38
    · refine lv_aload_n hx hb dX0_apart_24 rfl (lv_at hl 0 rfl) ?_
      refine lv_iload_n hx hb dX0_apart_25 rfl (lv_at hl 2 rfl) ?_
      refine lv_iload_n hx hb dX0_apart_26 rfl (lv_at hl 1 rfl) ?_
      refine cw_callR (As := [.int (nI g), .int (nI k)]) ⟨hx, hb, hml, hown, hts⟩ (c_X0_precedes l D cI cZ h a1 a2 a3 a4 a5 pr se rk ck cu o f sd c₀ n hok g k hg hk) (kX0_X0_precedes hts 2 0 0 60 ⟨by decide, by decide⟩) hK hP 0 rfl rfl rfl rfl hl.1 rfl (Nat.le_of_ble_eq_true rfl) dX0_apart_27 ⟨Nat.zero_le _, Nat.zero_le _⟩ ?_
      refine lv_if_ne (tgt := 37) hx hb dX0_apart_30 (by decide) (fun h2 => ?_) (fun h2 => ?_)
      · refine lv_iconst (v := nI 0) hx hb dX0_apart_37 (by decide) ?_
        refine cw_topi (y := cd_bI (k ≠ g ∧ ¬ (k ≠ g ∧ cd_mn o (o k) k < cd_ck o f (g + 1) (o k)) ∧ ¬ (g ≠ k ∧ cd_mn o (o g) g < cd_ck o f (k + 1) (o g)))) (cd_bI_f (fun z => h2 (cd_bI_z.mpr z.2.2))).symm ?_
        exact W.zret (v := cd_bI (k ≠ g ∧ ¬ (k ≠ g ∧ cd_mn o (o k) k < cd_ck o f (g + 1) (o k)) ∧ ¬ (g ≠ k ∧ cd_mn o (o g) g < cd_ck o f (k + 1) (o g)))) hx hb hr (by first | rfl | exact cd_bI_nar) (fun t ht hW => ⟨rfl, ht⟩) (fun q hq => by cases hq) dX0_apart_38
      · refine lv_iconst (v := nI 1) hx hb dX0_apart_33 (by decide) ?_
        refine lv_goto (tgt := 38) hx hb dX0_apart_34 (by decide) ?_
        refine cw_topi (y := cd_bI (k ≠ g ∧ ¬ (k ≠ g ∧ cd_mn o (o k) k < cd_ck o f (g + 1) (o k)) ∧ ¬ (g ≠ k ∧ cd_mn o (o g) g < cd_ck o f (k + 1) (o g)))) (cd_bI_t ⟨hc, cd_bI_z.mp (by simpa using h1), cd_bI_z.mp (by simpa using h2)⟩).symm ?_
        exact W.zret (v := cd_bI (k ≠ g ∧ ¬ (k ≠ g ∧ cd_mn o (o k) k < cd_ck o f (g + 1) (o k)) ∧ ¬ (g ≠ k ∧ cd_mn o (o g) g < cd_ck o f (k + 1) (o g)))) hx hb hr (by first | rfl | exact cd_bI_nar) (fun t ht hW => ⟨rfl, ht⟩) (fun q hq => by cases hq) dX0_apart_38
set_option maxHeartbeats 4000000 in
set_option maxRecDepth 100000 in
/-- rank -/
theorem c_X0_rank (l : Launch) (D : va_G) (cI cZ : ClassId) (h a1 a2 a3 a4 a5 : Nat) (pr se rk ck cu : Nat → Int32) (o f : Nat → Nat) (sd : Nat → Bool) (c₀ : Nat → Nat) (n : Nat) (hok : cd_dk o f sd c₀ n pr se rk ck cu) (k : Nat) (hk : k < n) : Met l yX0_rank (.code yX0_rank cX0_rank 2 (some .int) :: tW) (rmL 2) (va_Pc [.ref h, .int (nI k)] (fun U => va_P D cdCl (dkW h a1 a2 a3 a4 a5 cI cZ pr se rk ck cu n) U.heap ∧ va_K D cdCl (dkT cI cZ) U)) (QcRead (nI (cd_rk o f (k + 1)))) 0 0 (fun _ => False) := by
  refine Met.ofW (cc := cX0_rank) (maxL := 2) (ret := (some .int)) (by decide) rfl ?_
  intro p e s m args below meth c s₁ B hml hv
  obtain ⟨rfl, hP, hK⟩ := hv
  have hx := B.exec
  have hb := B.bytes
  have hr := B.returns
  have hts := atoms_spec (ws := .code yX0_rank cX0_rank 2 (some .int) :: tW) B.pre
  have hown : s.vm.findClass RX0 = some m.cls := findClass_of_methodNamed B.named
  have hlocks := B.notSynchronized
  have hl := lv_entry ([.ref h, .int (nI k)]) (n := 2) (Nat.le_of_ble_eq_true rfl)
  rw [lg_entry_eq]
  generalize (lg_sl ([.ref h, .int (nI k)]) ++ List.replicate (2 - (lg_sl ([.ref h, .int (nI k)])).length) Slot.unset).toArray = ls at hl ⊢
  have hl : lv_has ls 2 [(0, .ref h), (1, .int (nI k))] := hl
  have hok0 := hok
  obtain ⟨hn, hwf, hc2, hpr, hse, hrk, hck, hcu⟩ := hok0
  refine lv_aload_n hx hb dX0_rank_0 rfl (lv_at hl 0 rfl) ?_
  refine lv_iload_n hx hb dX0_rank_1 rfl (lv_at hl 1 rfl) ?_
  refine cw_callRv (As := [.int (nI k)]) ⟨hx, hb, hml, hown, hts⟩ (c_X0_needEvent l D cI cZ h a1 a2 a3 a4 a5 pr se rk ck cu o f sd c₀ n hok k hk) (kX0_X0_needEvent hts 1 0 0 30 ⟨by decide, by decide⟩) hK hP 0 rfl rfl rfl rfl hl.1 rfl (Nat.le_of_ble_eq_true rfl) dX0_rank_2 ⟨Nat.zero_le _, Nat.zero_le _⟩ ?_
  refine lv_aload_n hx hb dX0_rank_5 rfl (lv_at hl 0 rfl) ?_
  refine lv_iload_n hx hb dX0_rank_6 rfl (lv_at hl 1 rfl) ?_
  refine cw_callR (As := [.int (cd_pI (k + 1))]) ⟨hx, hb, hml, hown, hts⟩ (c_X0_rankOf l D cI cZ h a1 a2 a3 a4 a5 pr se rk ck cu o f sd c₀ n hok (k + 1) (by omega)) (kX0_X0_rankOf hts 0 0 0 0 ⟨by decide, by decide⟩) hK hP 0 rfl rfl rfl rfl hl.1 rfl (Nat.le_of_ble_eq_true rfl) dX0_rank_7 ⟨Nat.zero_le _, Nat.zero_le _⟩ ?_
  exact W.iret (v := nI (cd_rk o f (k + 1))) hx hb hr (fun t ht hW => ⟨rfl, ht⟩) (fun q hq => by cases hq) dX0_rank_10
set_option maxHeartbeats 4000000 in
set_option maxRecDepth 100000 in
/-- clock -/
theorem c_X0_clock (l : Launch) (D : va_G) (cI cZ : ClassId) (h a1 a2 a3 a4 a5 : Nat) (pr se rk ck cu : Nat → Int32) (o f : Nat → Nat) (sd : Nat → Bool) (c₀ : Nat → Nat) (n : Nat) (hok : cd_dk o f sd c₀ n pr se rk ck cu) (k p₁ : Nat) (hk : k < n) (hp : p₁ < 6) : Met l yX0_clock (.code yX0_clock cX0_clock 3 (some .int) :: tW) (rmL 2) (va_Pc [.ref h, .int (nI k), .int (nI p₁)] (fun U => va_P D cdCl (dkW h a1 a2 a3 a4 a5 cI cZ pr se rk ck cu n) U.heap ∧ va_K D cdCl (dkT cI cZ) U)) (QcRead (nI (cd_ck o f (k + 1) p₁))) 0 0 (fun _ => False) := by
  refine Met.ofW (cc := cX0_clock) (maxL := 3) (ret := (some .int)) (by decide) rfl ?_
  intro p e s m args below meth c s₁ B hml hv
  obtain ⟨rfl, hP, hK⟩ := hv
  have hx := B.exec
  have hb := B.bytes
  have hr := B.returns
  have hts := atoms_spec (ws := .code yX0_clock cX0_clock 3 (some .int) :: tW) B.pre
  have hown : s.vm.findClass RX0 = some m.cls := findClass_of_methodNamed B.named
  have hlocks := B.notSynchronized
  have hl := lv_entry ([.ref h, .int (nI k), .int (nI p₁)]) (n := 3) (Nat.le_of_ble_eq_true rfl)
  rw [lg_entry_eq]
  generalize (lg_sl ([.ref h, .int (nI k), .int (nI p₁)]) ++ List.replicate (3 - (lg_sl ([.ref h, .int (nI k), .int (nI p₁)])).length) Slot.unset).toArray = ls at hl ⊢
  have hl : lv_has ls 3 [(0, .ref h), (1, .int (nI k)), (2, .int (nI p₁))] := hl
  have hok0 := hok
  obtain ⟨hn, hwf, hc2, hpr, hse, hrk, hck, hcu⟩ := hok0
  refine lv_iload_n hx hb dX0_clock_0 rfl (lv_at hl 2 rfl) ?_
  refine cw_callSv (As := [.int (nI p₁)]) ⟨hx, hb, hml, hown, hts⟩ (c_X0_needProcess l p₁ hp) (kX0_X0_needProcess hts 0 0 0 0 ⟨by decide, by decide⟩) rfl hl.1 rfl (Nat.le_of_ble_eq_true rfl) dX0_clock_1 ⟨Nat.zero_le _, Nat.zero_le _⟩ ?_
  refine lv_aload_n hx hb dX0_clock_4 rfl (lv_at hl 0 rfl) ?_
  refine lv_iload_n hx hb dX0_clock_5 rfl (lv_at hl 1 rfl) ?_
  refine cw_callRv (As := [.int (nI k)]) ⟨hx, hb, hml, hown, hts⟩ (c_X0_needEvent l D cI cZ h a1 a2 a3 a4 a5 pr se rk ck cu o f sd c₀ n hok k hk) (kX0_X0_needEvent hts 1 0 0 30 ⟨by decide, by decide⟩) hK hP 0 rfl rfl rfl rfl hl.1 rfl (Nat.le_of_ble_eq_true rfl) dX0_clock_6 ⟨Nat.zero_le _, Nat.zero_le _⟩ ?_
  refine lv_aload_n hx hb dX0_clock_9 rfl (lv_at hl 0 rfl) ?_
  refine lv_iload_n hx hb dX0_clock_10 rfl (lv_at hl 1 rfl) ?_
  refine lv_iload_n hx hb dX0_clock_11 rfl (lv_at hl 2 rfl) ?_
  refine cw_callR (As := [.int (cd_pI (k + 1)), .int (nI p₁)]) ⟨hx, hb, hml, hown, hts⟩ (c_X0_clockOf l D cI cZ h a1 a2 a3 a4 a5 pr se rk ck cu o f sd c₀ n hok (k + 1) p₁ (by omega) hp) (kX0_X0_clockOf hts 0 0 0 0 ⟨by decide, by decide⟩) hK hP 0 rfl rfl rfl rfl hl.1 rfl (Nat.le_of_ble_eq_true rfl) dX0_clock_12 ⟨Nat.zero_le _, Nat.zero_le _⟩ ?_
  exact W.iret (v := nI (cd_ck o f (k + 1) p₁)) hx hb hr (fun t ht hW => ⟨rfl, ht⟩) (fun q hq => by cases hq) dX0_clock_15
set_option maxHeartbeats 4000000 in
set_option maxRecDepth 100000 in
/-- whole -/
theorem c_X0_whole (l : Launch) (D : va_G) (cI cZ : ClassId) (h a1 a2 a3 a4 a5 : Nat) (pr se rk ck cu : Nat → Int32) (o f : Nat → Nat) (sd : Nat → Bool) (c₀ : Nat → Nat) (n : Nat) (hok : cd_dk o f sd c₀ n pr se rk ck cu) (r : Int32) (hr1 : cd_wc o f c₀ n → r = 1) (hr0 : ¬ cd_wc o f c₀ n → r = 0) : Met l yX0_whole (.code yX0_whole cX0_whole 2 (some .boolean) :: tW) (rmL 3) (va_Pc [.ref h] (fun U => va_P D cdCl (dkW h a1 a2 a3 a4 a5 cI cZ pr se rk ck cu n) U.heap ∧ va_K D cdCl (dkT cI cZ) U)) (QcRead (r)) 0 0 (fun _ => False) := by
  refine Met.ofW (cc := cX0_whole) (maxL := 2) (ret := (some .boolean)) (by decide) rfl ?_
  intro p e s m args below meth c s₁ B hml hv
  obtain ⟨rfl, hP, hK⟩ := hv
  have hx := B.exec
  have hb := B.bytes
  have hr := B.returns
  have hts := atoms_spec (ws := .code yX0_whole cX0_whole 2 (some .boolean) :: tW) B.pre
  have hown : s.vm.findClass RX0 = some m.cls := findClass_of_methodNamed B.named
  have hlocks := B.notSynchronized
  have hl := lv_entry ([.ref h]) (n := 2) (Nat.le_of_ble_eq_true rfl)
  rw [lg_entry_eq]
  generalize (lg_sl ([.ref h]) ++ List.replicate (2 - (lg_sl ([.ref h])).length) Slot.unset).toArray = ls at hl ⊢
  have hl : lv_has ls 2 [(0, .ref h)] := hl
  have hok0 := hok
  obtain ⟨hn, hwf, hc2, hpr, hse, hrk, hck, hcu⟩ := hok0
  have hnr : narrow .boolean (.int r) = .int r := by
    rcases Classical.em (cd_wc o f c₀ n) with z | z
    · rw [hr1 z]; rfl
    · rw [hr0 z]; rfl
  have loop : ∀ (d g : Nat) (ls : Array Slot), g + d = n → (∀ e, e < g → cd_in o c₀ e → cd_cov o f c₀ e) → lv_has ls 2 [(1, .int (nI g)), (0, .ref h)] → W p l e (rmL 3) s m (List.toArray [.ref h]) below meth c s.heap [] 0 0 (MQ below (QcRead (r)) (List.toArray [.ref h]) s 0 0 (fun _ => False)) (F0 m 2 ls []) := by
    intro d
    induction d with
    | zero =>
      intro g ls hd hq hl
      refine lv_iload_n hx hb dX0_whole_2 rfl (lv_at hl 0 rfl) ?_
      refine lv_aload_n hx hb dX0_whole_3 rfl (lv_at hl 1 rfl) ?_
      refine gX0_made hx hb hts hown hK hP 0 rfl rfl dX0_whole_4 ?_
      refine cw_ge (tgt := 34) (x := g) (y := n) hx hb dX0_whole_7 (by decide) (by omega) (by omega) (fun hc => ?_) (fun hc => ?_)
      · refine lv_iconst (v := nI 1) hx hb dX0_whole_34 (by decide) ?_
        refine cw_topi (y := r) (hr1 (fun e he => hq e (by omega))).symm ?_
        exact W.zret (v := r) hx hb hr hnr (fun t ht hW => ⟨rfl, ht⟩) (fun q hq => by cases hq) dX0_whole_35
      · exact absurd hc (by omega)
    | succ d ih =>
      intro g ls hd hq hl
      refine lv_iload_n hx hb dX0_whole_2 rfl (lv_at hl 0 rfl) ?_
      refine lv_aload_n hx hb dX0_whole_3 rfl (lv_at hl 1 rfl) ?_
      refine gX0_made hx hb hts hown hK hP 0 rfl rfl dX0_whole_4 ?_
      refine cw_ge (tgt := 34) (x := g) (y := n) hx hb dX0_whole_7 (by decide) (by omega) (by omega) (fun hc => ?_) (fun hc => ?_)
      · exact absurd hc (by omega)
      · refine lv_aload_n hx hb dX0_whole_10 rfl (lv_at hl 1 rfl) ?_
        refine lv_iload_n hx hb dX0_whole_11 rfl (lv_at hl 0 rfl) ?_
        refine cw_callR (As := [.int (nI g)]) ⟨hx, hb, hml, hown, hts⟩ (c_X0_isInCut l D cI cZ h a1 a2 a3 a4 a5 pr se rk ck cu o f sd c₀ n hok g hc) (kX0_X0_isInCut hts 2 0 0 60 ⟨by decide, by decide⟩) hK hP 0 rfl rfl rfl rfl hl.1 rfl (Nat.le_of_ble_eq_true rfl) dX0_whole_12 ⟨Nat.zero_le _, Nat.zero_le _⟩ ?_
        refine lv_if_eq (tgt := 28) hx hb dX0_whole_15 (by decide) (fun h1 => ?_) (fun h1 => ?_)
        · refine lv_iinc (k := 0) (v := nI (g + 1)) hx hb dX0_whole_28 hl rfl (cd_inc _) (by decide) rfl (fun ls hl => ?_)
          have hl : lv_has ls 2 [(1, .int (nI (g + 1))), (0, .ref h)] := hl
          refine lv_goto (tgt := 2) hx hb dX0_whole_31 (by decide) ?_
          exact ih (g + 1) ls (by omega) (fun e he hi => by
            by_cases z : e = g
            · subst z; exact (cd_bI_z.mp h1 hi).elim
            · exact hq e (by omega) hi) hl
        · have h1 : cd_in o c₀ g := Classical.byContradiction (fun z => h1 (cd_bI_z.mpr z))
          refine lv_aload_n hx hb dX0_whole_18 rfl (lv_at hl 1 rfl) ?_
          refine lv_iload_n hx hb dX0_whole_19 rfl (lv_at hl 0 rfl) ?_
          refine cw_callR (As := [.int (nI g)]) ⟨hx, hb, hml, hown, hts⟩ (c_X0_isCoveredByCut l D cI cZ h a1 a2 a3 a4 a5 pr se rk ck cu o f sd c₀ n hok g hc) (kX0_X0_isCoveredByCut hts 1 0 0 30 ⟨by decide, by decide⟩) hK hP 0 rfl rfl rfl rfl hl.1 rfl (Nat.le_of_ble_eq_true rfl) dX0_whole_20 ⟨Nat.zero_le _, Nat.zero_le _⟩ ?_
          refine lv_if_ne (tgt := 28) hx hb dX0_whole_23 (by decide) (fun h2 => ?_) (fun h2 => ?_)
          · have h2 : cd_c6 (cd_ck o f (g + 1)) c₀ := Classical.byContradiction (fun z => h2 (cd_bI_z.mpr z))
            refine lv_iinc (k := 0) (v := nI (g + 1)) hx hb dX0_whole_28 hl rfl (cd_inc _) (by decide) rfl (fun ls hl => ?_)
            have hl : lv_has ls 2 [(1, .int (nI (g + 1))), (0, .ref h)] := hl
            refine lv_goto (tgt := 2) hx hb dX0_whole_31 (by decide) ?_
            exact ih (g + 1) ls (by omega) (fun e he hi => by
              by_cases z : e = g
              · subst z; exact cd_c6_iff.mp h2
              · exact hq e (by omega) hi) hl
          · have h2 : ¬ cd_c6 (cd_ck o f (g + 1)) c₀ := cd_bI_z.mp (by simpa using h2)
            refine lv_iconst (v := nI 0) hx hb dX0_whole_26 (by decide) ?_
            refine cw_topi (y := r) (hr0 (fun z => h2 (cd_c6_iff.mpr (z g hc h1)))).symm ?_
            exact W.zret (v := r) hx hb hr hnr (fun t ht hW => ⟨rfl, ht⟩) (fun q hq => by cases hq) dX0_whole_27
  refine lv_iconst (v := nI 0) hx hb dX0_whole_0 (by decide) ?_
  refine lv_istore_n hx hb dX0_whole_1 rfl hl (by decide) rfl (fun ls hl => ?_)
  have hl : lv_has ls 2 [(1, .int (nI 0)), (0, .ref h)] := hl
  exact loop n 0 ls (by omega) (fun q hq => absurd hq (Nat.not_lt_zero _)) hl
set_option maxHeartbeats 4000000 in
set_option maxRecDepth 100000 in
/-- count(0) -/
theorem c_X0_count0 (l : Launch) (D : va_G) (cI cZ : ClassId) (h a1 a2 a3 a4 a5 : Nat) (pr se rk ck cu : Nat → Int32) (o f : Nat → Nat) (sd : Nat → Bool) (c₀ : Nat → Nat) (n : Nat) (hok : cd_dk o f sd c₀ n pr se rk ck cu)  : Met l yX0_count (.code yX0_count cX0_count 2 (some .int) :: tW) (rmL 3) (va_Pc [.ref h, .int (nI 0)] (fun U => va_P D cdCl (dkW h a1 a2 a3 a4 a5 cI cZ pr se rk ck cu n) U.heap ∧ va_K D cdCl (dkT cI cZ) U)) (QcRead (nI n)) 0 0 (fun _ => False) := by
  refine Met.ofW (cc := cX0_count) (maxL := 2) (ret := (some .int)) (by decide) rfl ?_
  intro p e s m args below meth c s₁ B hml hv
  obtain ⟨rfl, hP, hK⟩ := hv
  have hx := B.exec
  have hb := B.bytes
  have hr := B.returns
  have hts := atoms_spec (ws := .code yX0_count cX0_count 2 (some .int) :: tW) B.pre
  have hown : s.vm.findClass RX0 = some m.cls := findClass_of_methodNamed B.named
  have hlocks := B.notSynchronized
  have hl := lv_entry ([.ref h, .int (nI 0)]) (n := 2) (Nat.le_of_ble_eq_true rfl)
  rw [lg_entry_eq]
  generalize (lg_sl ([.ref h, .int (nI 0)]) ++ List.replicate (2 - (lg_sl ([.ref h, .int (nI 0)])).length) Slot.unset).toArray = ls at hl ⊢
  have hl : lv_has ls 2 [(0, .ref h), (1, .int (nI 0))] := hl
  have hok0 := hok
  obtain ⟨hn, hwf, hc2, hpr, hse, hrk, hck, hcu⟩ := hok0
  refine lv_iload_n hx hb dX0_count_0 rfl (lv_at hl 1 rfl) ?_
  refine lv_tableIn (tgt := 32) hx hb dX0_count_1 (by decide) (by decide) (off := 31) (by decide) (by decide) ?_
  refine lv_aload_n hx hb dX0_count_32 rfl (lv_at hl 0 rfl) ?_
  refine gX0_made hx hb hts hown hK hP 0 rfl rfl dX0_count_33 ?_
  exact W.iret (v := nI n) hx hb hr (fun t ht hW => ⟨rfl, ht⟩) (fun q hq => by cases hq) dX0_count_36
set_option maxHeartbeats 4000000 in
set_option maxRecDepth 100000 in
/-- count(1) -/
theorem c_X0_count1 (l : Launch) (D : va_G) (cI cZ : ClassId) (h a1 a2 a3 a4 a5 : Nat) (pr se rk ck cu : Nat → Int32) (o f : Nat → Nat) (sd : Nat → Bool) (c₀ : Nat → Nat) (n : Nat) (hok : cd_dk o f sd c₀ n pr se rk ck cu)  : Met l yX0_count (.code yX0_count cX0_count 2 (some .int) :: tW) (rmL 3) (va_Pc [.ref h, .int (nI 1)] (fun U => va_P D cdCl (dkW h a1 a2 a3 a4 a5 cI cZ pr se rk ck cu n) U.heap ∧ va_K D cdCl (dkT cI cZ) U)) (QcRead (nI (cd_ap o f n))) 0 0 (fun _ => False) := by
  refine Met.ofW (cc := cX0_count) (maxL := 2) (ret := (some .int)) (by decide) rfl ?_
  intro p e s m args below meth c s₁ B hml hv
  obtain ⟨rfl, hP, hK⟩ := hv
  have hx := B.exec
  have hb := B.bytes
  have hr := B.returns
  have hts := atoms_spec (ws := .code yX0_count cX0_count 2 (some .int) :: tW) B.pre
  have hown : s.vm.findClass RX0 = some m.cls := findClass_of_methodNamed B.named
  have hlocks := B.notSynchronized
  have hl := lv_entry ([.ref h, .int (nI 1)]) (n := 2) (Nat.le_of_ble_eq_true rfl)
  rw [lg_entry_eq]
  generalize (lg_sl ([.ref h, .int (nI 1)]) ++ List.replicate (2 - (lg_sl ([.ref h, .int (nI 1)])).length) Slot.unset).toArray = ls at hl ⊢
  have hl : lv_has ls 2 [(0, .ref h), (1, .int (nI 1))] := hl
  have hok0 := hok
  obtain ⟨hn, hwf, hc2, hpr, hse, hrk, hck, hcu⟩ := hok0
  refine lv_iload_n hx hb dX0_count_0 rfl (lv_at hl 1 rfl) ?_
  refine lv_tableIn (tgt := 37) hx hb dX0_count_1 (by decide) (by decide) (off := 36) (by decide) (by decide) ?_
  refine lv_aload_n hx hb dX0_count_37 rfl (lv_at hl 0 rfl) ?_
  refine cw_callR (As := []) ⟨hx, hb, hml, hown, hts⟩ (c_X0_apartPairs l D cI cZ h a1 a2 a3 a4 a5 pr se rk ck cu o f sd c₀ n hok ) (kX0_X0_apartPairs hts 2 0 0 60 ⟨by decide, by decide⟩) hK hP 0 rfl rfl rfl rfl hl.1 rfl (Nat.le_of_ble_eq_true rfl) dX0_count_38 ⟨Nat.zero_le _, Nat.zero_le _⟩ ?_
  exact W.iret (v := nI (cd_ap o f n)) hx hb hr (fun t ht hW => ⟨rfl, ht⟩) (fun q hq => by cases hq) dX0_count_41
set_option maxHeartbeats 4000000 in
set_option maxRecDepth 100000 in
/-- count(2) -/
theorem c_X0_count2 (l : Launch) (D : va_G) (cI cZ : ClassId) (h a1 a2 a3 a4 a5 : Nat) (pr se rk ck cu : Nat → Int32) (o f : Nat → Nat) (sd : Nat → Bool) (c₀ : Nat → Nat) (n : Nat) (hok : cd_dk o f sd c₀ n pr se rk ck cu)  : Met l yX0_count (.code yX0_count cX0_count 2 (some .int) :: tW) (rmL 3) (va_Pc [.ref h, .int (nI 2)] (fun U => va_P D cdCl (dkW h a1 a2 a3 a4 a5 cI cZ pr se rk ck cu n) U.heap ∧ va_K D cdCl (dkT cI cZ) U)) (QcRead (nI (cd_gr o f n))) 0 0 (fun _ => False) := by
  refine Met.ofW (cc := cX0_count) (maxL := 2) (ret := (some .int)) (by decide) rfl ?_
  intro p e s m args below meth c s₁ B hml hv
  obtain ⟨rfl, hP, hK⟩ := hv
  have hx := B.exec
  have hb := B.bytes
  have hr := B.returns
  have hts := atoms_spec (ws := .code yX0_count cX0_count 2 (some .int) :: tW) B.pre
  have hown : s.vm.findClass RX0 = some m.cls := findClass_of_methodNamed B.named
  have hlocks := B.notSynchronized
  have hl := lv_entry ([.ref h, .int (nI 2)]) (n := 2) (Nat.le_of_ble_eq_true rfl)
  rw [lg_entry_eq]
  generalize (lg_sl ([.ref h, .int (nI 2)]) ++ List.replicate (2 - (lg_sl ([.ref h, .int (nI 2)])).length) Slot.unset).toArray = ls at hl ⊢
  have hl : lv_has ls 2 [(0, .ref h), (1, .int (nI 2))] := hl
  have hok0 := hok
  obtain ⟨hn, hwf, hc2, hpr, hse, hrk, hck, hcu⟩ := hok0
  refine lv_iload_n hx hb dX0_count_0 rfl (lv_at hl 1 rfl) ?_
  refine lv_tableIn (tgt := 42) hx hb dX0_count_1 (by decide) (by decide) (off := 41) (by decide) (by decide) ?_
  refine lv_aload_n hx hb dX0_count_42 rfl (lv_at hl 0 rfl) ?_
  refine cw_callR (As := []) ⟨hx, hb, hml, hown, hts⟩ (c_X0_greatestRank l D cI cZ h a1 a2 a3 a4 a5 pr se rk ck cu o f sd c₀ n hok ) (kX0_X0_greatestRank hts 1 0 0 30 ⟨by decide, by decide⟩) hK hP 0 rfl rfl rfl rfl hl.1 rfl (Nat.le_of_ble_eq_true rfl) dX0_count_43 ⟨Nat.zero_le _, Nat.zero_le _⟩ ?_
  exact W.iret (v := nI (cd_gr o f n)) hx hb hr (fun t ht hW => ⟨rfl, ht⟩) (fun q hq => by cases hq) dX0_count_46
set_option maxHeartbeats 4000000 in
set_option maxRecDepth 100000 in
/-- count(3) -/
theorem c_X0_count3 (l : Launch) (D : va_G) (cI cZ : ClassId) (h a1 a2 a3 a4 a5 : Nat) (pr se rk ck cu : Nat → Int32) (o f : Nat → Nat) (sd : Nat → Bool) (c₀ : Nat → Nat) (n : Nat) (hok : cd_dk o f sd c₀ n pr se rk ck cu)  : Met l yX0_count (.code yX0_count cX0_count 2 (some .int) :: tW) (rmL 3) (va_Pc [.ref h, .int (nI 3)] (fun U => va_P D cdCl (dkW h a1 a2 a3 a4 a5 cI cZ pr se rk ck cu n) U.heap ∧ va_K D cdCl (dkT cI cZ) U)) (QcRead (nI (cd_s6 c₀))) 0 0 (fun _ => False) := by
  refine Met.ofW (cc := cX0_count) (maxL := 2) (ret := (some .int)) (by decide) rfl ?_
  intro p e s m args below meth c s₁ B hml hv
  obtain ⟨rfl, hP, hK⟩ := hv
  have hx := B.exec
  have hb := B.bytes
  have hr := B.returns
  have hts := atoms_spec (ws := .code yX0_count cX0_count 2 (some .int) :: tW) B.pre
  have hown : s.vm.findClass RX0 = some m.cls := findClass_of_methodNamed B.named
  have hlocks := B.notSynchronized
  have hl := lv_entry ([.ref h, .int (nI 3)]) (n := 2) (Nat.le_of_ble_eq_true rfl)
  rw [lg_entry_eq]
  generalize (lg_sl ([.ref h, .int (nI 3)]) ++ List.replicate (2 - (lg_sl ([.ref h, .int (nI 3)])).length) Slot.unset).toArray = ls at hl ⊢
  have hl : lv_has ls 2 [(0, .ref h), (1, .int (nI 3))] := hl
  have hok0 := hok
  obtain ⟨hn, hwf, hc2, hpr, hse, hrk, hck, hcu⟩ := hok0
  refine lv_iload_n hx hb dX0_count_0 rfl (lv_at hl 1 rfl) ?_
  refine lv_tableIn (tgt := 47) hx hb dX0_count_1 (by decide) (by decide) (off := 46) (by decide) (by decide) ?_
  refine lv_aload_n hx hb dX0_count_47 rfl (lv_at hl 0 rfl) ?_
  refine cw_callR (As := []) ⟨hx, hb, hml, hown, hts⟩ (c_X0_cutTotal l D cI cZ h a1 a2 a3 a4 a5 pr se rk ck cu o f sd c₀ n hok ) (kX0_X0_cutTotal hts 0 0 0 0 ⟨by decide, by decide⟩) hK hP 0 rfl rfl rfl rfl hl.1 rfl (Nat.le_of_ble_eq_true rfl) dX0_count_48 ⟨Nat.zero_le _, Nat.zero_le _⟩ ?_
  exact W.iret (v := nI (cd_s6 c₀)) hx hb hr (fun t ht hW => ⟨rfl, ht⟩) (fun q hq => by cases hq) dX0_count_51
set_option maxHeartbeats 4000000 in
set_option maxRecDepth 100000 in
/-- count throws -/
theorem x_X0_count (l : Launch) (D : va_G) (cI cZ : ClassId) (h a1 a2 a3 a4 a5 : Nat) (pr se rk ck cu : Nat → Int32) (o f : Nat → Nat) (sd : Nat → Bool) (c₀ : Nat → Nat) (n : Nat) (hok : cd_dk o f sd c₀ n pr se rk ck cu) (hlt : l.stackTraces = false) (x : Int32) (hbad : ¬ (0 ≤ x ∧ x < nI 4)) : xt_Met l yX0_count (.code yX0_count cX0_count 2 (some .int) :: tW) (rmX 1) (va_Pc [.ref h, .int x] (fun U => va_P D cdCl (dkW h a1 a2 a3 a4 a5 cI cZ pr se rk ck cu n) U.heap ∧ va_K D cdCl (dkT cI cZ) U ∧ xt_S U)) xIA := by
  refine xt_ofW (cc := cX0_count) (maxL := 2) (ret := (some .int)) (by decide) rfl ?_
  intro p e s m args below meth c s₁ B hml hv
  obtain ⟨rfl, hP, hK, hS⟩ := hv
  have hx := B.exec
  have hb := B.bytes
  have hr := B.returns
  have hts := atoms_spec (ws := .code yX0_count cX0_count 2 (some .int) :: tW) B.pre
  have hown : s.vm.findClass RX0 = some m.cls := findClass_of_methodNamed B.named
  have hlocks := B.notSynchronized
  have hl := lv_entry ([.ref h, .int x]) (n := 2) (Nat.le_of_ble_eq_true rfl)
  rw [lg_entry_eq]
  generalize (lg_sl ([.ref h, .int x]) ++ List.replicate (2 - (lg_sl ([.ref h, .int x])).length) Slot.unset).toArray = ls at hl ⊢
  have hl : lv_has ls 2 [(0, .ref h), (1, .int x)] := hl
  have hex := BodyLoose.noHandlers B (hts _ List.mem_cons_self)
  have hok0 := hok
  obtain ⟨hn, hwf, hc2, hpr, hse, hrk, hck, hcu⟩ := hok0
  refine lv_iload_n hx hb dX0_count_0 rfl (lv_at hl 1 rfl) ?_
  refine lv_tableOut (tgt := 52) hx hb dX0_count_1 (by
    rw [Int32.le_iff_toInt_le, Int32.lt_iff_toInt_lt, show (0 : Int32).toInt = 0 from by decide, show (nI 4).toInt = 4 from by decide] at hbad
    omega) (by decide) ?_
  exact xt_new hx hb hlt hown (names := xUp) (by decide +kernel) (by decide +kernel) (hts _ (List.mem_cons_of_mem _ tm_89)) (hts _ (List.mem_cons_of_mem _ tm_6)) (xt_ownA hts hS) (hml.trans hl.1.symm) hex hlocks dX0_count_52 dX0_count_55 dX0_count_56 dX0_count_59 (Nat.le_of_ble_eq_true rfl) (Nat.le_of_ble_eq_true rfl) (Nat.le_of_ble_eq_true rfl) (Nat.le_of_ble_eq_true rfl)
set_option maxHeartbeats 4000000 in
set_option maxRecDepth 100000 in
/-- own throws: no process -/
theorem x1_X0_own (l : Launch) (D : va_G) (cI cZ : ClassId) (h a1 a2 a3 a4 a5 : Nat) (pr se rk ck cu : Nat → Int32) (o f : Nat → Nat) (sd : Nat → Bool) (c₀ : Nat → Nat) (n : Nat) (hok : cd_dk o f sd c₀ n pr se rk ck cu) (hlt : l.stackTraces = false) (x : Int32) (hbad : ¬ (0 ≤ x ∧ x < nI 6)) : xt_Met l yX0_own (.code yX0_own cX0_own 2 (some .int) :: tW) (rmX 1) (va_Pc [.ref h, .int x] (fun U => va_P D cdCl (dkW h a1 a2 a3 a4 a5 cI cZ pr se rk ck cu n) U.heap ∧ va_K D cdCl (dkT cI cZ) U ∧ xt_S U)) xIA := by
  refine xt_ofW (cc := cX0_own) (maxL := 2) (ret := (some .int)) (by decide) rfl ?_
  intro p e s m args below meth c s₁ B hml hv
  obtain ⟨rfl, hP, hK, hS⟩ := hv
  have hx := B.exec
  have hb := B.bytes
  have hr := B.returns
  have hts := atoms_spec (ws := .code yX0_own cX0_own 2 (some .int) :: tW) B.pre
  have hown : s.vm.findClass RX0 = some m.cls := findClass_of_methodNamed B.named
  have hlocks := B.notSynchronized
  have hl := lv_entry ([.ref h, .int x]) (n := 2) (Nat.le_of_ble_eq_true rfl)
  rw [lg_entry_eq]
  generalize (lg_sl ([.ref h, .int x]) ++ List.replicate (2 - (lg_sl ([.ref h, .int x])).length) Slot.unset).toArray = ls at hl ⊢
  have hl : lv_has ls 2 [(0, .ref h), (1, .int x)] := hl
  have hex := BodyLoose.noHandlers B (hts _ List.mem_cons_self)
  have hok0 := hok
  obtain ⟨hn, hwf, hc2, hpr, hse, hrk, hck, hcu⟩ := hok0
  refine lv_iload_n hx hb dX0_own_0 rfl (lv_at hl 1 rfl) ?_
  exact xt_out (xt_runS (As := [.int x]) (rest := []) ⟨hx, hb, hml, hown, hts⟩ (x_X0_needProcess l hlt x hbad) (kX0_X0_needProcess hts 6 1 6 90 ⟨by decide, by decide⟩) (xt_preS hS (fun _ _ => rfl)) rfl rfl hl.1 rfl (lv_room (Nat.le_of_ble_eq_true rfl)) dX0_own_1 ⟨(Nat.le_of_ble_eq_true rfl), (Nat.le_of_ble_eq_true rfl)⟩) hex hlocks
set_option maxHeartbeats 4000000 in
set_option maxRecDepth 100000 in
/-- own throws: no room -/
theorem x2_X0_own (l : Launch) (D : va_G) (cI cZ : ClassId) (h a1 a2 a3 a4 a5 : Nat) (pr se rk ck cu : Nat → Int32) (o f : Nat → Nat) (sd : Nat → Bool) (c₀ : Nat → Nat) (n : Nat) (hok : cd_dk o f sd c₀ n pr se rk ck cu) (hlt : l.stackTraces = false) (p₁ : Nat) (hp : p₁ < 6) (hr2 : n = 200) : xt_Met l yX0_own (.code yX0_own cX0_own 2 (some .int) :: tW) (rmX 1) (va_Pc [.ref h, .int (nI p₁)] (fun U => va_P D cdCl (dkW h a1 a2 a3 a4 a5 cI cZ pr se rk ck cu n) U.heap ∧ va_K D cdCl (dkT cI cZ) U ∧ xt_S U)) xIO := by
  refine xt_ofW (cc := cX0_own) (maxL := 2) (ret := (some .int)) (by decide) rfl ?_
  intro p e s m args below meth c s₁ B hml hv
  obtain ⟨rfl, hP, hK, hS⟩ := hv
  have hx := B.exec
  have hb := B.bytes
  have hr := B.returns
  have hts := atoms_spec (ws := .code yX0_own cX0_own 2 (some .int) :: tW) B.pre
  have hown : s.vm.findClass RX0 = some m.cls := findClass_of_methodNamed B.named
  have hlocks := B.notSynchronized
  have hl := lv_entry ([.ref h, .int (nI p₁)]) (n := 2) (Nat.le_of_ble_eq_true rfl)
  rw [lg_entry_eq]
  generalize (lg_sl ([.ref h, .int (nI p₁)]) ++ List.replicate (2 - (lg_sl ([.ref h, .int (nI p₁)])).length) Slot.unset).toArray = ls at hl ⊢
  have hl : lv_has ls 2 [(0, .ref h), (1, .int (nI p₁))] := hl
  have hex := BodyLoose.noHandlers B (hts _ List.mem_cons_self)
  have hok0 := hok
  obtain ⟨hn, hwf, hc2, hpr, hse, hrk, hck, hcu⟩ := hok0
  refine lv_iload_n hx hb dX0_own_0 rfl (lv_at hl 1 rfl) ?_
  refine cw_callSv (As := [.int (nI p₁)]) ⟨hx, hb, hml, hown, hts⟩ (c_X0_needProcess l p₁ hp) (kX0_X0_needProcess hts 0 0 0 0 ⟨by decide, by decide⟩) rfl hl.1 rfl (Nat.le_of_ble_eq_true rfl) dX0_own_1 ⟨Nat.zero_le _, Nat.zero_le _⟩ ?_
  refine lv_aload_n hx hb dX0_own_4 rfl (lv_at hl 0 rfl) ?_
  exact xt_out (xt_runV (As := []) (rest := []) ⟨hx, hb, hml, hown, hts⟩ (x_X0_needRoom l D cI cZ h a1 a2 a3 a4 a5 pr se rk ck cu o f sd c₀ n hok hlt hr2) (kX0_X0_needRoom hts 6 1 6 90 ⟨by decide, by decide⟩) (xt_preV hK hP hS (fun _ _ => rfl) (q0 := 0) rfl rfl rfl) rfl rfl hl.1 rfl (lv_room (Nat.le_of_ble_eq_true rfl)) dX0_own_5 ⟨(Nat.le_of_ble_eq_true rfl), (Nat.le_of_ble_eq_true rfl)⟩) hex hlocks
set_option maxHeartbeats 4000000 in
set_option maxRecDepth 100000 in
/-- send throws: no process -/
theorem x1_X0_send (l : Launch) (D : va_G) (cI cZ : ClassId) (h a1 a2 a3 a4 a5 : Nat) (pr se rk ck cu : Nat → Int32) (o f : Nat → Nat) (sd : Nat → Bool) (c₀ : Nat → Nat) (n : Nat) (hok : cd_dk o f sd c₀ n pr se rk ck cu) (hlt : l.stackTraces = false) (x : Int32) (hbad : ¬ (0 ≤ x ∧ x < nI 6)) : xt_Met l yX0_send (.code yX0_send cX0_send 2 (some .int) :: tW) (rmX 1) (va_Pc [.ref h, .int x] (fun U => va_P D cdCl (dkW h a1 a2 a3 a4 a5 cI cZ pr se rk ck cu n) U.heap ∧ va_K D cdCl (dkT cI cZ) U ∧ xt_S U)) xIA := by
  refine xt_ofW (cc := cX0_send) (maxL := 2) (ret := (some .int)) (by decide) rfl ?_
  intro p e s m args below meth c s₁ B hml hv
  obtain ⟨rfl, hP, hK, hS⟩ := hv
  have hx := B.exec
  have hb := B.bytes
  have hr := B.returns
  have hts := atoms_spec (ws := .code yX0_send cX0_send 2 (some .int) :: tW) B.pre
  have hown : s.vm.findClass RX0 = some m.cls := findClass_of_methodNamed B.named
  have hlocks := B.notSynchronized
  have hl := lv_entry ([.ref h, .int x]) (n := 2) (Nat.le_of_ble_eq_true rfl)
  rw [lg_entry_eq]
  generalize (lg_sl ([.ref h, .int x]) ++ List.replicate (2 - (lg_sl ([.ref h, .int x])).length) Slot.unset).toArray = ls at hl ⊢
  have hl : lv_has ls 2 [(0, .ref h), (1, .int x)] := hl
  have hex := BodyLoose.noHandlers B (hts _ List.mem_cons_self)
  have hok0 := hok
  obtain ⟨hn, hwf, hc2, hpr, hse, hrk, hck, hcu⟩ := hok0
  refine lv_iload_n hx hb dX0_send_0 rfl (lv_at hl 1 rfl) ?_
  exact xt_out (xt_runS (As := [.int x]) (rest := []) ⟨hx, hb, hml, hown, hts⟩ (x_X0_needProcess l hlt x hbad) (kX0_X0_needProcess hts 6 1 6 90 ⟨by decide, by decide⟩) (xt_preS hS (fun _ _ => rfl)) rfl rfl hl.1 rfl (lv_room (Nat.le_of_ble_eq_true rfl)) dX0_send_1 ⟨(Nat.le_of_ble_eq_true rfl), (Nat.le_of_ble_eq_true rfl)⟩) hex hlocks
set_option maxHeartbeats 4000000 in
set_option maxRecDepth 100000 in
/-- send throws: no room -/
theorem x2_X0_send (l : Launch) (D : va_G) (cI cZ : ClassId) (h a1 a2 a3 a4 a5 : Nat) (pr se rk ck cu : Nat → Int32) (o f : Nat → Nat) (sd : Nat → Bool) (c₀ : Nat → Nat) (n : Nat) (hok : cd_dk o f sd c₀ n pr se rk ck cu) (hlt : l.stackTraces = false) (p₁ : Nat) (hp : p₁ < 6) (hr2 : n = 200) : xt_Met l yX0_send (.code yX0_send cX0_send 2 (some .int) :: tW) (rmX 1) (va_Pc [.ref h, .int (nI p₁)] (fun U => va_P D cdCl (dkW h a1 a2 a3 a4 a5 cI cZ pr se rk ck cu n) U.heap ∧ va_K D cdCl (dkT cI cZ) U ∧ xt_S U)) xIO := by
  refine xt_ofW (cc := cX0_send) (maxL := 2) (ret := (some .int)) (by decide) rfl ?_
  intro p e s m args below meth c s₁ B hml hv
  obtain ⟨rfl, hP, hK, hS⟩ := hv
  have hx := B.exec
  have hb := B.bytes
  have hr := B.returns
  have hts := atoms_spec (ws := .code yX0_send cX0_send 2 (some .int) :: tW) B.pre
  have hown : s.vm.findClass RX0 = some m.cls := findClass_of_methodNamed B.named
  have hlocks := B.notSynchronized
  have hl := lv_entry ([.ref h, .int (nI p₁)]) (n := 2) (Nat.le_of_ble_eq_true rfl)
  rw [lg_entry_eq]
  generalize (lg_sl ([.ref h, .int (nI p₁)]) ++ List.replicate (2 - (lg_sl ([.ref h, .int (nI p₁)])).length) Slot.unset).toArray = ls at hl ⊢
  have hl : lv_has ls 2 [(0, .ref h), (1, .int (nI p₁))] := hl
  have hex := BodyLoose.noHandlers B (hts _ List.mem_cons_self)
  have hok0 := hok
  obtain ⟨hn, hwf, hc2, hpr, hse, hrk, hck, hcu⟩ := hok0
  refine lv_iload_n hx hb dX0_send_0 rfl (lv_at hl 1 rfl) ?_
  refine cw_callSv (As := [.int (nI p₁)]) ⟨hx, hb, hml, hown, hts⟩ (c_X0_needProcess l p₁ hp) (kX0_X0_needProcess hts 0 0 0 0 ⟨by decide, by decide⟩) rfl hl.1 rfl (Nat.le_of_ble_eq_true rfl) dX0_send_1 ⟨Nat.zero_le _, Nat.zero_le _⟩ ?_
  refine lv_aload_n hx hb dX0_send_4 rfl (lv_at hl 0 rfl) ?_
  exact xt_out (xt_runV (As := []) (rest := []) ⟨hx, hb, hml, hown, hts⟩ (x_X0_needRoom l D cI cZ h a1 a2 a3 a4 a5 pr se rk ck cu o f sd c₀ n hok hlt hr2) (kX0_X0_needRoom hts 6 1 6 90 ⟨by decide, by decide⟩) (xt_preV hK hP hS (fun _ _ => rfl) (q0 := 0) rfl rfl rfl) rfl rfl hl.1 rfl (lv_room (Nat.le_of_ble_eq_true rfl)) dX0_send_5 ⟨(Nat.le_of_ble_eq_true rfl), (Nat.le_of_ble_eq_true rfl)⟩) hex hlocks
set_option maxHeartbeats 4000000 in
set_option maxRecDepth 100000 in
/-- receive throws: no process -/
theorem x1_X0_receive (l : Launch) (D : va_G) (cI cZ : ClassId) (h a1 a2 a3 a4 a5 : Nat) (pr se rk ck cu : Nat → Int32) (o f : Nat → Nat) (sd : Nat → Bool) (c₀ : Nat → Nat) (n : Nat) (hok : cd_dk o f sd c₀ n pr se rk ck cu) (hlt : l.stackTraces = false) (x : Int32) (hbad : ¬ (0 ≤ x ∧ x < nI 6)) (y : Int32) : xt_Met l yX0_receive (.code yX0_receive cX0_receive 3 (some .int) :: tW) (rmX 1) (va_Pc [.ref h, .int x, .int y] (fun U => va_P D cdCl (dkW h a1 a2 a3 a4 a5 cI cZ pr se rk ck cu n) U.heap ∧ va_K D cdCl (dkT cI cZ) U ∧ xt_S U)) xIA := by
  refine xt_ofW (cc := cX0_receive) (maxL := 3) (ret := (some .int)) (by decide) rfl ?_
  intro p e s m args below meth c s₁ B hml hv
  obtain ⟨rfl, hP, hK, hS⟩ := hv
  have hx := B.exec
  have hb := B.bytes
  have hr := B.returns
  have hts := atoms_spec (ws := .code yX0_receive cX0_receive 3 (some .int) :: tW) B.pre
  have hown : s.vm.findClass RX0 = some m.cls := findClass_of_methodNamed B.named
  have hlocks := B.notSynchronized
  have hl := lv_entry ([.ref h, .int x, .int y]) (n := 3) (Nat.le_of_ble_eq_true rfl)
  rw [lg_entry_eq]
  generalize (lg_sl ([.ref h, .int x, .int y]) ++ List.replicate (3 - (lg_sl ([.ref h, .int x, .int y])).length) Slot.unset).toArray = ls at hl ⊢
  have hl : lv_has ls 3 [(0, .ref h), (1, .int x), (2, .int y)] := hl
  have hex := BodyLoose.noHandlers B (hts _ List.mem_cons_self)
  have hok0 := hok
  obtain ⟨hn, hwf, hc2, hpr, hse, hrk, hck, hcu⟩ := hok0
  refine lv_iload_n hx hb dX0_receive_0 rfl (lv_at hl 1 rfl) ?_
  exact xt_out (xt_runS (As := [.int x]) (rest := []) ⟨hx, hb, hml, hown, hts⟩ (x_X0_needProcess l hlt x hbad) (kX0_X0_needProcess hts 6 1 6 90 ⟨by decide, by decide⟩) (xt_preS hS (fun _ _ => rfl)) rfl rfl hl.1 rfl (lv_room (Nat.le_of_ble_eq_true rfl)) dX0_receive_1 ⟨(Nat.le_of_ble_eq_true rfl), (Nat.le_of_ble_eq_true rfl)⟩) hex hlocks
set_option maxHeartbeats 4000000 in
set_option maxRecDepth 100000 in
/-- receive throws: nothing to receive -/
theorem x3_X0_receive (l : Launch) (D : va_G) (cI cZ : ClassId) (h a1 a2 a3 a4 a5 : Nat) (pr se rk ck cu : Nat → Int32) (o f : Nat → Nat) (sd : Nat → Bool) (c₀ : Nat → Nat) (n : Nat) (hok : cd_dk o f sd c₀ n pr se rk ck cu) (hlt : l.stackTraces = false) (p₁ : Nat) (hp : p₁ < 6) (x : Int32) (hb3 : ∀ k, k < n → x = nI k → sd k = true → o k ≠ p₁ → False) : xt_Met l yX0_receive (.code yX0_receive cX0_receive 3 (some .int) :: tW) (rmX 1) (va_Pc [.ref h, .int (nI p₁), .int x] (fun U => va_P D cdCl (dkW h a1 a2 a3 a4 a5 cI cZ pr se rk ck cu n) U.heap ∧ va_K D cdCl (dkT cI cZ) U ∧ xt_S U)) xIA := by
  refine xt_ofW (cc := cX0_receive) (maxL := 3) (ret := (some .int)) (by decide) rfl ?_
  intro p e s m args below meth c s₁ B hml hv
  obtain ⟨rfl, hP, hK, hS⟩ := hv
  have hx := B.exec
  have hb := B.bytes
  have hr := B.returns
  have hts := atoms_spec (ws := .code yX0_receive cX0_receive 3 (some .int) :: tW) B.pre
  have hown : s.vm.findClass RX0 = some m.cls := findClass_of_methodNamed B.named
  have hlocks := B.notSynchronized
  have hl := lv_entry ([.ref h, .int (nI p₁), .int x]) (n := 3) (Nat.le_of_ble_eq_true rfl)
  rw [lg_entry_eq]
  generalize (lg_sl ([.ref h, .int (nI p₁), .int x]) ++ List.replicate (3 - (lg_sl ([.ref h, .int (nI p₁), .int x])).length) Slot.unset).toArray = ls at hl ⊢
  have hl : lv_has ls 3 [(0, .ref h), (1, .int (nI p₁)), (2, .int x)] := hl
  have hex := BodyLoose.noHandlers B (hts _ List.mem_cons_self)
  have hok0 := hok
  obtain ⟨hn, hwf, hc2, hpr, hse, hrk, hck, hcu⟩ := hok0
  refine lv_iload_n hx hb dX0_receive_0 rfl (lv_at hl 1 rfl) ?_
  refine cw_callSv (As := [.int (nI p₁)]) ⟨hx, hb, hml, hown, hts⟩ (c_X0_needProcess l p₁ hp) (kX0_X0_needProcess hts 0 0 0 0 ⟨by decide, by decide⟩) rfl hl.1 rfl (Nat.le_of_ble_eq_true rfl) dX0_receive_1 ⟨Nat.zero_le _, Nat.zero_le _⟩ ?_
  refine lv_aload_n hx hb dX0_receive_4 rfl (lv_at hl 0 rfl) ?_
  refine lv_iload_n hx hb dX0_receive_5 rfl (lv_at hl 2 rfl) ?_
  rcases cd_ix x (n := n) (by omega) with ⟨k, hk, rfl⟩ | hbad
  · refine cw_callR (As := [.int (nI k)]) ⟨hx, hb, hml, hown, hts⟩ (c_X0_isEvent l D cI cZ h a1 a2 a3 a4 a5 pr se rk ck cu o f sd c₀ n hok (nI k)) (kX0_X0_isEvent hts 0 0 0 0 ⟨by decide, by decide⟩) hK hP 0 rfl rfl rfl rfl hl.1 rfl (Nat.le_of_ble_eq_true rfl) dX0_receive_6 ⟨Nat.zero_le _, Nat.zero_le _⟩ ?_
    refine cw_topi (y := 1) (cd_bI_t ⟨nI_pos' (by omega), nI_lt (by omega) (by omega)⟩) ?_
    refine lv_if_eq (tgt := 31) hx hb dX0_receive_9 (by decide) (fun hc => ?_) (fun hc => ?_)
    · exact absurd hc (by decide)
    · refine lv_aload_n hx hb dX0_receive_12 rfl (lv_at hl 0 rfl) ?_
      refine gX0_senders hx hb hts hown hK hP 0 rfl rfl dX0_receive_13 ?_
      refine lv_iload_n hx hb dX0_receive_16 rfl (lv_at hl 2 rfl) ?_
      refine cw_zald hx hb hK hP 2 1 rfl rfl (k := k) (v := cd_bI (sd k = true)) (by omega) (by decide) (hse k hk) dX0_receive_17 ?_
      refine lv_if_eq (tgt := 31) hx hb dX0_receive_18 (by decide) (fun h1 => ?_) (fun h1 => ?_)
      · exact xt_new hx hb hlt hown (names := xUp) (by decide +kernel) (by decide +kernel) (hts _ (List.mem_cons_of_mem _ tm_89)) (hts _ (List.mem_cons_of_mem _ tm_6)) (xt_ownA hts hS) (hml.trans hl.1.symm) hex hlocks dX0_receive_31 dX0_receive_34 dX0_receive_35 dX0_receive_38 (Nat.le_of_ble_eq_true rfl) (Nat.le_of_ble_eq_true rfl) (Nat.le_of_ble_eq_true rfl) (Nat.le_of_ble_eq_true rfl)
      · have h1 : sd k = true := Classical.byContradiction (fun z => h1 (cd_bI_z.mpr z))
        have ho := (hwf k hk).1
        refine lv_aload_n hx hb dX0_receive_21 rfl (lv_at hl 0 rfl) ?_
        refine gX0_processes hx hb hts hown hK hP 0 rfl rfl dX0_receive_22 ?_
        refine lv_iload_n hx hb dX0_receive_25 rfl (lv_at hl 2 rfl) ?_
        refine cw_iald hx hb hK hP 1 0 rfl rfl (k := k) (v := nI (o k)) (by omega) (by decide) (hpr k hk) dX0_receive_26 ?_
        refine lv_iload_n hx hb dX0_receive_27 rfl (lv_at hl 1 rfl) ?_
        refine cw_ne (tgt := 39) (x := (o k)) (y := p₁) hx hb dX0_receive_28 (by decide) (by omega) (by omega) (fun hc => ?_) (fun hc => ?_)
        · exact (hb3 k hk rfl h1 hc).elim
        · exact xt_new hx hb hlt hown (names := xUp) (by decide +kernel) (by decide +kernel) (hts _ (List.mem_cons_of_mem _ tm_89)) (hts _ (List.mem_cons_of_mem _ tm_6)) (xt_ownA hts hS) (hml.trans hl.1.symm) hex hlocks dX0_receive_31 dX0_receive_34 dX0_receive_35 dX0_receive_38 (Nat.le_of_ble_eq_true rfl) (Nat.le_of_ble_eq_true rfl) (Nat.le_of_ble_eq_true rfl) (Nat.le_of_ble_eq_true rfl)
  · refine cw_callR (As := [.int (x)]) ⟨hx, hb, hml, hown, hts⟩ (c_X0_isEvent l D cI cZ h a1 a2 a3 a4 a5 pr se rk ck cu o f sd c₀ n hok (x)) (kX0_X0_isEvent hts 0 0 0 0 ⟨by decide, by decide⟩) hK hP 0 rfl rfl rfl rfl hl.1 rfl (Nat.le_of_ble_eq_true rfl) dX0_receive_6 ⟨Nat.zero_le _, Nat.zero_le _⟩ ?_
    refine cw_topi (y := 0) (cd_bI_f hbad) ?_
    refine lv_if_eq (tgt := 31) hx hb dX0_receive_9 (by decide) (fun hc => ?_) (fun hc => ?_)
    · exact xt_new hx hb hlt hown (names := xUp) (by decide +kernel) (by decide +kernel) (hts _ (List.mem_cons_of_mem _ tm_89)) (hts _ (List.mem_cons_of_mem _ tm_6)) (xt_ownA hts hS) (hml.trans hl.1.symm) hex hlocks dX0_receive_31 dX0_receive_34 dX0_receive_35 dX0_receive_38 (Nat.le_of_ble_eq_true rfl) (Nat.le_of_ble_eq_true rfl) (Nat.le_of_ble_eq_true rfl) (Nat.le_of_ble_eq_true rfl)
    · exact absurd rfl hc
set_option maxHeartbeats 4000000 in
set_option maxRecDepth 100000 in
/-- receive throws: no room -/
theorem x2_X0_receive (l : Launch) (D : va_G) (cI cZ : ClassId) (h a1 a2 a3 a4 a5 : Nat) (pr se rk ck cu : Nat → Int32) (o f : Nat → Nat) (sd : Nat → Bool) (c₀ : Nat → Nat) (n : Nat) (hok : cd_dk o f sd c₀ n pr se rk ck cu) (hlt : l.stackTraces = false) (p₁ k : Nat) (hp : p₁ < 6) (hk : k < n) (hsk : sd k = true) (hok2 : o k ≠ p₁) (hr2 : n = 200) : xt_Met l yX0_receive (.code yX0_receive cX0_receive 3 (some .int) :: tW) (rmX 1) (va_Pc [.ref h, .int (nI p₁), .int (nI k)] (fun U => va_P D cdCl (dkW h a1 a2 a3 a4 a5 cI cZ pr se rk ck cu n) U.heap ∧ va_K D cdCl (dkT cI cZ) U ∧ xt_S U)) xIO := by
  refine xt_ofW (cc := cX0_receive) (maxL := 3) (ret := (some .int)) (by decide) rfl ?_
  intro p e s m args below meth c s₁ B hml hv
  obtain ⟨rfl, hP, hK, hS⟩ := hv
  have hx := B.exec
  have hb := B.bytes
  have hr := B.returns
  have hts := atoms_spec (ws := .code yX0_receive cX0_receive 3 (some .int) :: tW) B.pre
  have hown : s.vm.findClass RX0 = some m.cls := findClass_of_methodNamed B.named
  have hlocks := B.notSynchronized
  have hl := lv_entry ([.ref h, .int (nI p₁), .int (nI k)]) (n := 3) (Nat.le_of_ble_eq_true rfl)
  rw [lg_entry_eq]
  generalize (lg_sl ([.ref h, .int (nI p₁), .int (nI k)]) ++ List.replicate (3 - (lg_sl ([.ref h, .int (nI p₁), .int (nI k)])).length) Slot.unset).toArray = ls at hl ⊢
  have hl : lv_has ls 3 [(0, .ref h), (1, .int (nI p₁)), (2, .int (nI k))] := hl
  have hex := BodyLoose.noHandlers B (hts _ List.mem_cons_self)
  have hok0 := hok
  obtain ⟨hn, hwf, hc2, hpr, hse, hrk, hck, hcu⟩ := hok0
  refine lv_iload_n hx hb dX0_receive_0 rfl (lv_at hl 1 rfl) ?_
  refine cw_callSv (As := [.int (nI p₁)]) ⟨hx, hb, hml, hown, hts⟩ (c_X0_needProcess l p₁ hp) (kX0_X0_needProcess hts 0 0 0 0 ⟨by decide, by decide⟩) rfl hl.1 rfl (Nat.le_of_ble_eq_true rfl) dX0_receive_1 ⟨Nat.zero_le _, Nat.zero_le _⟩ ?_
  refine lv_aload_n hx hb dX0_receive_4 rfl (lv_at hl 0 rfl) ?_
  refine lv_iload_n hx hb dX0_receive_5 rfl (lv_at hl 2 rfl) ?_
  refine cw_callR (As := [.int (nI k)]) ⟨hx, hb, hml, hown, hts⟩ (c_X0_isEvent l D cI cZ h a1 a2 a3 a4 a5 pr se rk ck cu o f sd c₀ n hok (nI k)) (kX0_X0_isEvent hts 0 0 0 0 ⟨by decide, by decide⟩) hK hP 0 rfl rfl rfl rfl hl.1 rfl (Nat.le_of_ble_eq_true rfl) dX0_receive_6 ⟨Nat.zero_le _, Nat.zero_le _⟩ ?_
  refine cw_topi (y := 1) (cd_bI_t ⟨nI_pos' (by omega), nI_lt (by omega) (by omega)⟩) ?_
  refine lv_if_eq (tgt := 31) hx hb dX0_receive_9 (by decide) (fun hc => ?_) (fun hc => ?_)
  · exact absurd hc (by decide)
  · refine lv_aload_n hx hb dX0_receive_12 rfl (lv_at hl 0 rfl) ?_
    refine gX0_senders hx hb hts hown hK hP 0 rfl rfl dX0_receive_13 ?_
    refine lv_iload_n hx hb dX0_receive_16 rfl (lv_at hl 2 rfl) ?_
    refine cw_zald hx hb hK hP 2 1 rfl rfl (k := k) (v := cd_bI (sd k = true)) (by omega) (by decide) (hse k hk) dX0_receive_17 ?_
    refine cw_topi (y := 1) (cd_bI_t hsk) ?_
    refine lv_if_eq (tgt := 31) hx hb dX0_receive_18 (by decide) (fun hc => ?_) (fun hc => ?_)
    · exact absurd hc (by decide)
    · have ho := (hwf k hk).1
      refine lv_aload_n hx hb dX0_receive_21 rfl (lv_at hl 0 rfl) ?_
      refine gX0_processes hx hb hts hown hK hP 0 rfl rfl dX0_receive_22 ?_
      refine lv_iload_n hx hb dX0_receive_25 rfl (lv_at hl 2 rfl) ?_
      refine cw_iald hx hb hK hP 1 0 rfl rfl (k := k) (v := nI (o k)) (by omega) (by decide) (hpr k hk) dX0_receive_26 ?_
      refine lv_iload_n hx hb dX0_receive_27 rfl (lv_at hl 1 rfl) ?_
      refine cw_ne (tgt := 39) (x := (o k)) (y := p₁) hx hb dX0_receive_28 (by decide) (by omega) (by omega) (fun hc => ?_) (fun hc => ?_)
      · refine lv_aload_n hx hb dX0_receive_39 rfl (lv_at hl 0 rfl) ?_
        exact xt_out (xt_runV (As := []) (rest := []) ⟨hx, hb, hml, hown, hts⟩ (x_X0_needRoom l D cI cZ h a1 a2 a3 a4 a5 pr se rk ck cu o f sd c₀ n hok hlt hr2) (kX0_X0_needRoom hts 6 1 6 90 ⟨by decide, by decide⟩) (xt_preV hK hP hS (fun _ _ => rfl) (q0 := 0) rfl rfl rfl) rfl rfl hl.1 rfl (lv_room (Nat.le_of_ble_eq_true rfl)) dX0_receive_40 ⟨(Nat.le_of_ble_eq_true rfl), (Nat.le_of_ble_eq_true rfl)⟩) hex hlocks
      · exact absurd hc hok2
set_option maxHeartbeats 4000000 in
set_option maxRecDepth 100000 in
/-- undo throws -/
theorem x_X0_undo (l : Launch) (D : va_G) (cI cZ : ClassId) (h a1 a2 a3 a4 a5 : Nat) (pr se rk ck cu : Nat → Int32) (o f : Nat → Nat) (sd : Nat → Bool) (c₀ : Nat → Nat) (n : Nat) (hok : cd_dk o f sd c₀ n pr se rk ck cu) (hlt : l.stackTraces = false) (x : Int32) (hbad : ¬ (0 ≤ x ∧ x ≤ nI n)) : xt_Met l yX0_undo (.code yX0_undo cX0_undo 3 none :: tW) (rmX 1) (va_Pc [.ref h, .int x] (fun U => va_P D cdCl (dkW h a1 a2 a3 a4 a5 cI cZ pr se rk ck cu n) U.heap ∧ va_K D cdCl (dkT cI cZ) U ∧ xt_S U)) xIA := by
  refine xt_ofW (cc := cX0_undo) (maxL := 3) (ret := none) (by decide) rfl ?_
  intro p e s m args below meth c s₁ B hml hv
  obtain ⟨rfl, hP, hK, hS⟩ := hv
  have hx := B.exec
  have hb := B.bytes
  have hr := B.returns
  have hts := atoms_spec (ws := .code yX0_undo cX0_undo 3 none :: tW) B.pre
  have hown : s.vm.findClass RX0 = some m.cls := findClass_of_methodNamed B.named
  have hlocks := B.notSynchronized
  have hl := lv_entry ([.ref h, .int x]) (n := 3) (Nat.le_of_ble_eq_true rfl)
  rw [lg_entry_eq]
  generalize (lg_sl ([.ref h, .int x]) ++ List.replicate (3 - (lg_sl ([.ref h, .int x])).length) Slot.unset).toArray = ls at hl ⊢
  have hl : lv_has ls 3 [(0, .ref h), (1, .int x)] := hl
  have hex := BodyLoose.noHandlers B (hts _ List.mem_cons_self)
  have hok0 := hok
  obtain ⟨hn, hwf, hc2, hpr, hse, hrk, hck, hcu⟩ := hok0
  refine lv_iload_n hx hb dX0_undo_0 rfl (lv_at hl 1 rfl) ?_
  refine lv_if_lt (tgt := 12) hx hb dX0_undo_1 (by decide) (fun hc => ?_) (fun hc => ?_)
  · exact xt_new hx hb hlt hown (names := xUp) (by decide +kernel) (by decide +kernel) (hts _ (List.mem_cons_of_mem _ tm_89)) (hts _ (List.mem_cons_of_mem _ tm_6)) (xt_ownA hts hS) (hml.trans hl.1.symm) hex hlocks dX0_undo_12 dX0_undo_15 dX0_undo_16 dX0_undo_19 (Nat.le_of_ble_eq_true rfl) (Nat.le_of_ble_eq_true rfl) (Nat.le_of_ble_eq_true rfl) (Nat.le_of_ble_eq_true rfl)
  · refine lv_iload_n hx hb dX0_undo_4 rfl (lv_at hl 1 rfl) ?_
    refine lv_aload_n hx hb dX0_undo_5 rfl (lv_at hl 0 rfl) ?_
    refine gX0_made hx hb hts hown hK hP 0 rfl rfl dX0_undo_6 ?_
    refine lv_icmp_le (tgt := 20) hx hb dX0_undo_9 (by decide) (fun hc3 => ?_) (fun hc3 => ?_)
    · exact absurd ⟨k2_le hc, hc3⟩ hbad
    · exact xt_new hx hb hlt hown (names := xUp) (by decide +kernel) (by decide +kernel) (hts _ (List.mem_cons_of_mem _ tm_89)) (hts _ (List.mem_cons_of_mem _ tm_6)) (xt_ownA hts hS) (hml.trans hl.1.symm) hex hlocks dX0_undo_12 dX0_undo_15 dX0_undo_16 dX0_undo_19 (Nat.le_of_ble_eq_true rfl) (Nat.le_of_ble_eq_true rfl) (Nat.le_of_ble_eq_true rfl) (Nat.le_of_ble_eq_true rfl)
set_option maxHeartbeats 4000000 in
set_option maxRecDepth 100000 in
/-- before throws: the first is no event -/
theorem x1_X0_before (l : Launch) (D : va_G) (cI cZ : ClassId) (h a1 a2 a3 a4 a5 : Nat) (pr se rk ck cu : Nat → Int32) (o f : Nat → Nat) (sd : Nat → Bool) (c₀ : Nat → Nat) (n : Nat) (hok : cd_dk o f sd c₀ n pr se rk ck cu) (hlt : l.stackTraces = false) (x y : Int32) (hbad : ¬ (0 ≤ x ∧ x < nI n)) : xt_Met l yX0_before (.code yX0_before cX0_before 3 (some .boolean) :: tW) (rmX 1) (va_Pc [.ref h, .int x, .int y] (fun U => va_P D cdCl (dkW h a1 a2 a3 a4 a5 cI cZ pr se rk ck cu n) U.heap ∧ va_K D cdCl (dkT cI cZ) U ∧ xt_S U)) xIO := by
  refine xt_ofW (cc := cX0_before) (maxL := 3) (ret := (some .boolean)) (by decide) rfl ?_
  intro p e s m args below meth c s₁ B hml hv
  obtain ⟨rfl, hP, hK, hS⟩ := hv
  have hx := B.exec
  have hb := B.bytes
  have hr := B.returns
  have hts := atoms_spec (ws := .code yX0_before cX0_before 3 (some .boolean) :: tW) B.pre
  have hown : s.vm.findClass RX0 = some m.cls := findClass_of_methodNamed B.named
  have hlocks := B.notSynchronized
  have hl := lv_entry ([.ref h, .int x, .int y]) (n := 3) (Nat.le_of_ble_eq_true rfl)
  rw [lg_entry_eq]
  generalize (lg_sl ([.ref h, .int x, .int y]) ++ List.replicate (3 - (lg_sl ([.ref h, .int x, .int y])).length) Slot.unset).toArray = ls at hl ⊢
  have hl : lv_has ls 3 [(0, .ref h), (1, .int x), (2, .int y)] := hl
  have hex := BodyLoose.noHandlers B (hts _ List.mem_cons_self)
  have hok0 := hok
  obtain ⟨hn, hwf, hc2, hpr, hse, hrk, hck, hcu⟩ := hok0
  refine lv_aload_n hx hb dX0_before_0 rfl (lv_at hl 0 rfl) ?_
  refine lv_iload_n hx hb dX0_before_1 rfl (lv_at hl 1 rfl) ?_
  exact xt_out (xt_runV (As := [.int x]) (rest := []) ⟨hx, hb, hml, hown, hts⟩ (x_X0_needEvent l D cI cZ h a1 a2 a3 a4 a5 pr se rk ck cu o f sd c₀ n hok hlt x hbad) (kX0_X0_needEvent hts 6 1 6 90 ⟨by decide, by decide⟩) (xt_preV hK hP hS (fun _ _ => rfl) (q0 := 0) rfl rfl rfl) rfl rfl hl.1 rfl (lv_room (Nat.le_of_ble_eq_true rfl)) dX0_before_2 ⟨(Nat.le_of_ble_eq_true rfl), (Nat.le_of_ble_eq_true rfl)⟩) hex hlocks
set_option maxHeartbeats 4000000 in
set_option maxRecDepth 100000 in
/-- before throws: the second is no event -/
theorem x2_X0_before (l : Launch) (D : va_G) (cI cZ : ClassId) (h a1 a2 a3 a4 a5 : Nat) (pr se rk ck cu : Nat → Int32) (o f : Nat → Nat) (sd : Nat → Bool) (c₀ : Nat → Nat) (n : Nat) (hok : cd_dk o f sd c₀ n pr se rk ck cu) (hlt : l.stackTraces = false) (k : Nat) (hk : k < n) (x : Int32) (hbad : ¬ (0 ≤ x ∧ x < nI n)) : xt_Met l yX0_before (.code yX0_before cX0_before 3 (some .boolean) :: tW) (rmX 1) (va_Pc [.ref h, .int (nI k), .int x] (fun U => va_P D cdCl (dkW h a1 a2 a3 a4 a5 cI cZ pr se rk ck cu n) U.heap ∧ va_K D cdCl (dkT cI cZ) U ∧ xt_S U)) xIO := by
  refine xt_ofW (cc := cX0_before) (maxL := 3) (ret := (some .boolean)) (by decide) rfl ?_
  intro p e s m args below meth c s₁ B hml hv
  obtain ⟨rfl, hP, hK, hS⟩ := hv
  have hx := B.exec
  have hb := B.bytes
  have hr := B.returns
  have hts := atoms_spec (ws := .code yX0_before cX0_before 3 (some .boolean) :: tW) B.pre
  have hown : s.vm.findClass RX0 = some m.cls := findClass_of_methodNamed B.named
  have hlocks := B.notSynchronized
  have hl := lv_entry ([.ref h, .int (nI k), .int x]) (n := 3) (Nat.le_of_ble_eq_true rfl)
  rw [lg_entry_eq]
  generalize (lg_sl ([.ref h, .int (nI k), .int x]) ++ List.replicate (3 - (lg_sl ([.ref h, .int (nI k), .int x])).length) Slot.unset).toArray = ls at hl ⊢
  have hl : lv_has ls 3 [(0, .ref h), (1, .int (nI k)), (2, .int x)] := hl
  have hex := BodyLoose.noHandlers B (hts _ List.mem_cons_self)
  have hok0 := hok
  obtain ⟨hn, hwf, hc2, hpr, hse, hrk, hck, hcu⟩ := hok0
  refine lv_aload_n hx hb dX0_before_0 rfl (lv_at hl 0 rfl) ?_
  refine lv_iload_n hx hb dX0_before_1 rfl (lv_at hl 1 rfl) ?_
  refine cw_callRv (As := [.int (nI k)]) ⟨hx, hb, hml, hown, hts⟩ (c_X0_needEvent l D cI cZ h a1 a2 a3 a4 a5 pr se rk ck cu o f sd c₀ n hok k hk) (kX0_X0_needEvent hts 1 0 0 30 ⟨by decide, by decide⟩) hK hP 0 rfl rfl rfl rfl hl.1 rfl (Nat.le_of_ble_eq_true rfl) dX0_before_2 ⟨Nat.zero_le _, Nat.zero_le _⟩ ?_
  refine lv_aload_n hx hb dX0_before_5 rfl (lv_at hl 0 rfl) ?_
  refine lv_iload_n hx hb dX0_before_6 rfl (lv_at hl 2 rfl) ?_
  exact xt_out (xt_runV (As := [.int x]) (rest := []) ⟨hx, hb, hml, hown, hts⟩ (x_X0_needEvent l D cI cZ h a1 a2 a3 a4 a5 pr se rk ck cu o f sd c₀ n hok hlt x hbad) (kX0_X0_needEvent hts 6 1 6 90 ⟨by decide, by decide⟩) (xt_preV hK hP hS (fun _ _ => rfl) (q0 := 0) rfl rfl rfl) rfl rfl hl.1 rfl (lv_room (Nat.le_of_ble_eq_true rfl)) dX0_before_7 ⟨(Nat.le_of_ble_eq_true rfl), (Nat.le_of_ble_eq_true rfl)⟩) hex hlocks
set_option maxHeartbeats 4000000 in
set_option maxRecDepth 100000 in
/-- apart throws: the first is no event -/
theorem x1_X0_apart (l : Launch) (D : va_G) (cI cZ : ClassId) (h a1 a2 a3 a4 a5 : Nat) (pr se rk ck cu : Nat → Int32) (o f : Nat → Nat) (sd : Nat → Bool) (c₀ : Nat → Nat) (n : Nat) (hok : cd_dk o f sd c₀ n pr se rk ck cu) (hlt : l.stackTraces = false) (x y : Int32) (hbad : ¬ (0 ≤ x ∧ x < nI n)) : xt_Met l yX0_apart (.code yX0_apart cX0_apart 3 (some .boolean) :: tW) (rmX 1) (va_Pc [.ref h, .int x, .int y] (fun U => va_P D cdCl (dkW h a1 a2 a3 a4 a5 cI cZ pr se rk ck cu n) U.heap ∧ va_K D cdCl (dkT cI cZ) U ∧ xt_S U)) xIO := by
  refine xt_ofW (cc := cX0_apart) (maxL := 3) (ret := (some .boolean)) (by decide) rfl ?_
  intro p e s m args below meth c s₁ B hml hv
  obtain ⟨rfl, hP, hK, hS⟩ := hv
  have hx := B.exec
  have hb := B.bytes
  have hr := B.returns
  have hts := atoms_spec (ws := .code yX0_apart cX0_apart 3 (some .boolean) :: tW) B.pre
  have hown : s.vm.findClass RX0 = some m.cls := findClass_of_methodNamed B.named
  have hlocks := B.notSynchronized
  have hl := lv_entry ([.ref h, .int x, .int y]) (n := 3) (Nat.le_of_ble_eq_true rfl)
  rw [lg_entry_eq]
  generalize (lg_sl ([.ref h, .int x, .int y]) ++ List.replicate (3 - (lg_sl ([.ref h, .int x, .int y])).length) Slot.unset).toArray = ls at hl ⊢
  have hl : lv_has ls 3 [(0, .ref h), (1, .int x), (2, .int y)] := hl
  have hex := BodyLoose.noHandlers B (hts _ List.mem_cons_self)
  have hok0 := hok
  obtain ⟨hn, hwf, hc2, hpr, hse, hrk, hck, hcu⟩ := hok0
  refine lv_aload_n hx hb dX0_apart_0 rfl (lv_at hl 0 rfl) ?_
  refine lv_iload_n hx hb dX0_apart_1 rfl (lv_at hl 1 rfl) ?_
  exact xt_out (xt_runV (As := [.int x]) (rest := []) ⟨hx, hb, hml, hown, hts⟩ (x_X0_needEvent l D cI cZ h a1 a2 a3 a4 a5 pr se rk ck cu o f sd c₀ n hok hlt x hbad) (kX0_X0_needEvent hts 6 1 6 90 ⟨by decide, by decide⟩) (xt_preV hK hP hS (fun _ _ => rfl) (q0 := 0) rfl rfl rfl) rfl rfl hl.1 rfl (lv_room (Nat.le_of_ble_eq_true rfl)) dX0_apart_2 ⟨(Nat.le_of_ble_eq_true rfl), (Nat.le_of_ble_eq_true rfl)⟩) hex hlocks
set_option maxHeartbeats 4000000 in
set_option maxRecDepth 100000 in
/-- apart throws: the second is no event -/
theorem x2_X0_apart (l : Launch) (D : va_G) (cI cZ : ClassId) (h a1 a2 a3 a4 a5 : Nat) (pr se rk ck cu : Nat → Int32) (o f : Nat → Nat) (sd : Nat → Bool) (c₀ : Nat → Nat) (n : Nat) (hok : cd_dk o f sd c₀ n pr se rk ck cu) (hlt : l.stackTraces = false) (k : Nat) (hk : k < n) (x : Int32) (hbad : ¬ (0 ≤ x ∧ x < nI n)) : xt_Met l yX0_apart (.code yX0_apart cX0_apart 3 (some .boolean) :: tW) (rmX 1) (va_Pc [.ref h, .int (nI k), .int x] (fun U => va_P D cdCl (dkW h a1 a2 a3 a4 a5 cI cZ pr se rk ck cu n) U.heap ∧ va_K D cdCl (dkT cI cZ) U ∧ xt_S U)) xIO := by
  refine xt_ofW (cc := cX0_apart) (maxL := 3) (ret := (some .boolean)) (by decide) rfl ?_
  intro p e s m args below meth c s₁ B hml hv
  obtain ⟨rfl, hP, hK, hS⟩ := hv
  have hx := B.exec
  have hb := B.bytes
  have hr := B.returns
  have hts := atoms_spec (ws := .code yX0_apart cX0_apart 3 (some .boolean) :: tW) B.pre
  have hown : s.vm.findClass RX0 = some m.cls := findClass_of_methodNamed B.named
  have hlocks := B.notSynchronized
  have hl := lv_entry ([.ref h, .int (nI k), .int x]) (n := 3) (Nat.le_of_ble_eq_true rfl)
  rw [lg_entry_eq]
  generalize (lg_sl ([.ref h, .int (nI k), .int x]) ++ List.replicate (3 - (lg_sl ([.ref h, .int (nI k), .int x])).length) Slot.unset).toArray = ls at hl ⊢
  have hl : lv_has ls 3 [(0, .ref h), (1, .int (nI k)), (2, .int x)] := hl
  have hex := BodyLoose.noHandlers B (hts _ List.mem_cons_self)
  have hok0 := hok
  obtain ⟨hn, hwf, hc2, hpr, hse, hrk, hck, hcu⟩ := hok0
  refine lv_aload_n hx hb dX0_apart_0 rfl (lv_at hl 0 rfl) ?_
  refine lv_iload_n hx hb dX0_apart_1 rfl (lv_at hl 1 rfl) ?_
  refine cw_callRv (As := [.int (nI k)]) ⟨hx, hb, hml, hown, hts⟩ (c_X0_needEvent l D cI cZ h a1 a2 a3 a4 a5 pr se rk ck cu o f sd c₀ n hok k hk) (kX0_X0_needEvent hts 1 0 0 30 ⟨by decide, by decide⟩) hK hP 0 rfl rfl rfl rfl hl.1 rfl (Nat.le_of_ble_eq_true rfl) dX0_apart_2 ⟨Nat.zero_le _, Nat.zero_le _⟩ ?_
  refine lv_aload_n hx hb dX0_apart_5 rfl (lv_at hl 0 rfl) ?_
  refine lv_iload_n hx hb dX0_apart_6 rfl (lv_at hl 2 rfl) ?_
  exact xt_out (xt_runV (As := [.int x]) (rest := []) ⟨hx, hb, hml, hown, hts⟩ (x_X0_needEvent l D cI cZ h a1 a2 a3 a4 a5 pr se rk ck cu o f sd c₀ n hok hlt x hbad) (kX0_X0_needEvent hts 6 1 6 90 ⟨by decide, by decide⟩) (xt_preV hK hP hS (fun _ _ => rfl) (q0 := 0) rfl rfl rfl) rfl rfl hl.1 rfl (lv_room (Nat.le_of_ble_eq_true rfl)) dX0_apart_7 ⟨(Nat.le_of_ble_eq_true rfl), (Nat.le_of_ble_eq_true rfl)⟩) hex hlocks
set_option maxHeartbeats 4000000 in
set_option maxRecDepth 100000 in
/-- rank throws -/
theorem x_X0_rank (l : Launch) (D : va_G) (cI cZ : ClassId) (h a1 a2 a3 a4 a5 : Nat) (pr se rk ck cu : Nat → Int32) (o f : Nat → Nat) (sd : Nat → Bool) (c₀ : Nat → Nat) (n : Nat) (hok : cd_dk o f sd c₀ n pr se rk ck cu) (hlt : l.stackTraces = false) (x : Int32) (hbad : ¬ (0 ≤ x ∧ x < nI n)) : xt_Met l yX0_rank (.code yX0_rank cX0_rank 2 (some .int) :: tW) (rmX 1) (va_Pc [.ref h, .int x] (fun U => va_P D cdCl (dkW h a1 a2 a3 a4 a5 cI cZ pr se rk ck cu n) U.heap ∧ va_K D cdCl (dkT cI cZ) U ∧ xt_S U)) xIO := by
  refine xt_ofW (cc := cX0_rank) (maxL := 2) (ret := (some .int)) (by decide) rfl ?_
  intro p e s m args below meth c s₁ B hml hv
  obtain ⟨rfl, hP, hK, hS⟩ := hv
  have hx := B.exec
  have hb := B.bytes
  have hr := B.returns
  have hts := atoms_spec (ws := .code yX0_rank cX0_rank 2 (some .int) :: tW) B.pre
  have hown : s.vm.findClass RX0 = some m.cls := findClass_of_methodNamed B.named
  have hlocks := B.notSynchronized
  have hl := lv_entry ([.ref h, .int x]) (n := 2) (Nat.le_of_ble_eq_true rfl)
  rw [lg_entry_eq]
  generalize (lg_sl ([.ref h, .int x]) ++ List.replicate (2 - (lg_sl ([.ref h, .int x])).length) Slot.unset).toArray = ls at hl ⊢
  have hl : lv_has ls 2 [(0, .ref h), (1, .int x)] := hl
  have hex := BodyLoose.noHandlers B (hts _ List.mem_cons_self)
  have hok0 := hok
  obtain ⟨hn, hwf, hc2, hpr, hse, hrk, hck, hcu⟩ := hok0
  refine lv_aload_n hx hb dX0_rank_0 rfl (lv_at hl 0 rfl) ?_
  refine lv_iload_n hx hb dX0_rank_1 rfl (lv_at hl 1 rfl) ?_
  exact xt_out (xt_runV (As := [.int x]) (rest := []) ⟨hx, hb, hml, hown, hts⟩ (x_X0_needEvent l D cI cZ h a1 a2 a3 a4 a5 pr se rk ck cu o f sd c₀ n hok hlt x hbad) (kX0_X0_needEvent hts 6 1 6 90 ⟨by decide, by decide⟩) (xt_preV hK hP hS (fun _ _ => rfl) (q0 := 0) rfl rfl rfl) rfl rfl hl.1 rfl (lv_room (Nat.le_of_ble_eq_true rfl)) dX0_rank_2 ⟨(Nat.le_of_ble_eq_true rfl), (Nat.le_of_ble_eq_true rfl)⟩) hex hlocks
set_option maxHeartbeats 4000000 in
set_option maxRecDepth 100000 in
/-- clock throws: no process -/
theorem x1_X0_clock (l : Launch) (D : va_G) (cI cZ : ClassId) (h a1 a2 a3 a4 a5 : Nat) (pr se rk ck cu : Nat → Int32) (o f : Nat → Nat) (sd : Nat → Bool) (c₀ : Nat → Nat) (n : Nat) (hok : cd_dk o f sd c₀ n pr se rk ck cu) (hlt : l.stackTraces = false) (y : Int32) (x : Int32) (hbad : ¬ (0 ≤ x ∧ x < nI 6)) : xt_Met l yX0_clock (.code yX0_clock cX0_clock 3 (some .int) :: tW) (rmX 1) (va_Pc [.ref h, .int y, .int x] (fun U => va_P D cdCl (dkW h a1 a2 a3 a4 a5 cI cZ pr se rk ck cu n) U.heap ∧ va_K D cdCl (dkT cI cZ) U ∧ xt_S U)) xIA := by
  refine xt_ofW (cc := cX0_clock) (maxL := 3) (ret := (some .int)) (by decide) rfl ?_
  intro p e s m args below meth c s₁ B hml hv
  obtain ⟨rfl, hP, hK, hS⟩ := hv
  have hx := B.exec
  have hb := B.bytes
  have hr := B.returns
  have hts := atoms_spec (ws := .code yX0_clock cX0_clock 3 (some .int) :: tW) B.pre
  have hown : s.vm.findClass RX0 = some m.cls := findClass_of_methodNamed B.named
  have hlocks := B.notSynchronized
  have hl := lv_entry ([.ref h, .int y, .int x]) (n := 3) (Nat.le_of_ble_eq_true rfl)
  rw [lg_entry_eq]
  generalize (lg_sl ([.ref h, .int y, .int x]) ++ List.replicate (3 - (lg_sl ([.ref h, .int y, .int x])).length) Slot.unset).toArray = ls at hl ⊢
  have hl : lv_has ls 3 [(0, .ref h), (1, .int y), (2, .int x)] := hl
  have hex := BodyLoose.noHandlers B (hts _ List.mem_cons_self)
  have hok0 := hok
  obtain ⟨hn, hwf, hc2, hpr, hse, hrk, hck, hcu⟩ := hok0
  refine lv_iload_n hx hb dX0_clock_0 rfl (lv_at hl 2 rfl) ?_
  exact xt_out (xt_runS (As := [.int x]) (rest := []) ⟨hx, hb, hml, hown, hts⟩ (x_X0_needProcess l hlt x hbad) (kX0_X0_needProcess hts 6 1 6 90 ⟨by decide, by decide⟩) (xt_preS hS (fun _ _ => rfl)) rfl rfl hl.1 rfl (lv_room (Nat.le_of_ble_eq_true rfl)) dX0_clock_1 ⟨(Nat.le_of_ble_eq_true rfl), (Nat.le_of_ble_eq_true rfl)⟩) hex hlocks
set_option maxHeartbeats 4000000 in
set_option maxRecDepth 100000 in
/-- clock throws: no event -/
theorem x2_X0_clock (l : Launch) (D : va_G) (cI cZ : ClassId) (h a1 a2 a3 a4 a5 : Nat) (pr se rk ck cu : Nat → Int32) (o f : Nat → Nat) (sd : Nat → Bool) (c₀ : Nat → Nat) (n : Nat) (hok : cd_dk o f sd c₀ n pr se rk ck cu) (hlt : l.stackTraces = false) (p₁ : Nat) (hp : p₁ < 6) (x : Int32) (hbad : ¬ (0 ≤ x ∧ x < nI n)) : xt_Met l yX0_clock (.code yX0_clock cX0_clock 3 (some .int) :: tW) (rmX 1) (va_Pc [.ref h, .int x, .int (nI p₁)] (fun U => va_P D cdCl (dkW h a1 a2 a3 a4 a5 cI cZ pr se rk ck cu n) U.heap ∧ va_K D cdCl (dkT cI cZ) U ∧ xt_S U)) xIO := by
  refine xt_ofW (cc := cX0_clock) (maxL := 3) (ret := (some .int)) (by decide) rfl ?_
  intro p e s m args below meth c s₁ B hml hv
  obtain ⟨rfl, hP, hK, hS⟩ := hv
  have hx := B.exec
  have hb := B.bytes
  have hr := B.returns
  have hts := atoms_spec (ws := .code yX0_clock cX0_clock 3 (some .int) :: tW) B.pre
  have hown : s.vm.findClass RX0 = some m.cls := findClass_of_methodNamed B.named
  have hlocks := B.notSynchronized
  have hl := lv_entry ([.ref h, .int x, .int (nI p₁)]) (n := 3) (Nat.le_of_ble_eq_true rfl)
  rw [lg_entry_eq]
  generalize (lg_sl ([.ref h, .int x, .int (nI p₁)]) ++ List.replicate (3 - (lg_sl ([.ref h, .int x, .int (nI p₁)])).length) Slot.unset).toArray = ls at hl ⊢
  have hl : lv_has ls 3 [(0, .ref h), (1, .int x), (2, .int (nI p₁))] := hl
  have hex := BodyLoose.noHandlers B (hts _ List.mem_cons_self)
  have hok0 := hok
  obtain ⟨hn, hwf, hc2, hpr, hse, hrk, hck, hcu⟩ := hok0
  refine lv_iload_n hx hb dX0_clock_0 rfl (lv_at hl 2 rfl) ?_
  refine cw_callSv (As := [.int (nI p₁)]) ⟨hx, hb, hml, hown, hts⟩ (c_X0_needProcess l p₁ hp) (kX0_X0_needProcess hts 0 0 0 0 ⟨by decide, by decide⟩) rfl hl.1 rfl (Nat.le_of_ble_eq_true rfl) dX0_clock_1 ⟨Nat.zero_le _, Nat.zero_le _⟩ ?_
  refine lv_aload_n hx hb dX0_clock_4 rfl (lv_at hl 0 rfl) ?_
  refine lv_iload_n hx hb dX0_clock_5 rfl (lv_at hl 1 rfl) ?_
  exact xt_out (xt_runV (As := [.int x]) (rest := []) ⟨hx, hb, hml, hown, hts⟩ (x_X0_needEvent l D cI cZ h a1 a2 a3 a4 a5 pr se rk ck cu o f sd c₀ n hok hlt x hbad) (kX0_X0_needEvent hts 6 1 6 90 ⟨by decide, by decide⟩) (xt_preV hK hP hS (fun _ _ => rfl) (q0 := 0) rfl rfl rfl) rfl rfl hl.1 rfl (lv_room (Nat.le_of_ble_eq_true rfl)) dX0_clock_6 ⟨(Nat.le_of_ble_eq_true rfl), (Nat.le_of_ble_eq_true rfl)⟩) hex hlocks
set_option maxHeartbeats 4000000 in
set_option maxRecDepth 100000 in
/-- cut throws: no process -/
theorem x1_X0_cut (l : Launch) (D : va_G) (cI cZ : ClassId) (h a1 a2 a3 a4 a5 : Nat) (pr se rk ck cu : Nat → Int32) (o f : Nat → Nat) (sd : Nat → Bool) (c₀ : Nat → Nat) (n : Nat) (hok : cd_dk o f sd c₀ n pr se rk ck cu) (hlt : l.stackTraces = false) (x : Int32) (hbad : ¬ (0 ≤ x ∧ x < nI 6)) (y : Int32) : xt_Met l yX0_cut (.code yX0_cut cX0_cut 3 none :: tW) (rmX 1) (va_Pc [.ref h, .int x, .int y] (fun U => va_P D cdCl (dkW h a1 a2 a3 a4 a5 cI cZ pr se rk ck cu n) U.heap ∧ va_K D cdCl (dkT cI cZ) U ∧ xt_S U)) xIA := by
  refine xt_ofW (cc := cX0_cut) (maxL := 3) (ret := none) (by decide) rfl ?_
  intro p e s m args below meth c s₁ B hml hv
  obtain ⟨rfl, hP, hK, hS⟩ := hv
  have hx := B.exec
  have hb := B.bytes
  have hr := B.returns
  have hts := atoms_spec (ws := .code yX0_cut cX0_cut 3 none :: tW) B.pre
  have hown : s.vm.findClass RX0 = some m.cls := findClass_of_methodNamed B.named
  have hlocks := B.notSynchronized
  have hl := lv_entry ([.ref h, .int x, .int y]) (n := 3) (Nat.le_of_ble_eq_true rfl)
  rw [lg_entry_eq]
  generalize (lg_sl ([.ref h, .int x, .int y]) ++ List.replicate (3 - (lg_sl ([.ref h, .int x, .int y])).length) Slot.unset).toArray = ls at hl ⊢
  have hl : lv_has ls 3 [(0, .ref h), (1, .int x), (2, .int y)] := hl
  have hex := BodyLoose.noHandlers B (hts _ List.mem_cons_self)
  have hok0 := hok
  obtain ⟨hn, hwf, hc2, hpr, hse, hrk, hck, hcu⟩ := hok0
  refine lv_iload_n hx hb dX0_cut_0 rfl (lv_at hl 1 rfl) ?_
  exact xt_out (xt_runS (As := [.int x]) (rest := []) ⟨hx, hb, hml, hown, hts⟩ (x_X0_needProcess l hlt x hbad) (kX0_X0_needProcess hts 6 1 6 90 ⟨by decide, by decide⟩) (xt_preS hS (fun _ _ => rfl)) rfl rfl hl.1 rfl (lv_room (Nat.le_of_ble_eq_true rfl)) dX0_cut_1 ⟨(Nat.le_of_ble_eq_true rfl), (Nat.le_of_ble_eq_true rfl)⟩) hex hlocks
set_option maxHeartbeats 4000000 in
set_option maxRecDepth 100000 in
/-- cut throws: too many -/
theorem x2_X0_cut (l : Launch) (D : va_G) (cI cZ : ClassId) (h a1 a2 a3 a4 a5 : Nat) (pr se rk ck cu : Nat → Int32) (o f : Nat → Nat) (sd : Nat → Bool) (c₀ : Nat → Nat) (n : Nat) (hok : cd_dk o f sd c₀ n pr se rk ck cu) (hlt : l.stackTraces = false) (p₁ : Nat) (hp : p₁ < 6) (x : Int32) (hbad : ¬ (0 ≤ x ∧ x ≤ nI (cd_mn o p₁ n))) : xt_Met l yX0_cut (.code yX0_cut cX0_cut 3 none :: tW) (rmX 1) (va_Pc [.ref h, .int (nI p₁), .int x] (fun U => va_P D cdCl (dkW h a1 a2 a3 a4 a5 cI cZ pr se rk ck cu n) U.heap ∧ va_K D cdCl (dkT cI cZ) U ∧ xt_S U)) xIA := by
  refine xt_ofW (cc := cX0_cut) (maxL := 3) (ret := none) (by decide) rfl ?_
  intro p e s m args below meth c s₁ B hml hv
  obtain ⟨rfl, hP, hK, hS⟩ := hv
  have hx := B.exec
  have hb := B.bytes
  have hr := B.returns
  have hts := atoms_spec (ws := .code yX0_cut cX0_cut 3 none :: tW) B.pre
  have hown : s.vm.findClass RX0 = some m.cls := findClass_of_methodNamed B.named
  have hlocks := B.notSynchronized
  have hl := lv_entry ([.ref h, .int (nI p₁), .int x]) (n := 3) (Nat.le_of_ble_eq_true rfl)
  rw [lg_entry_eq]
  generalize (lg_sl ([.ref h, .int (nI p₁), .int x]) ++ List.replicate (3 - (lg_sl ([.ref h, .int (nI p₁), .int x])).length) Slot.unset).toArray = ls at hl ⊢
  have hl : lv_has ls 3 [(0, .ref h), (1, .int (nI p₁)), (2, .int x)] := hl
  have hex := BodyLoose.noHandlers B (hts _ List.mem_cons_self)
  have hok0 := hok
  obtain ⟨hn, hwf, hc2, hpr, hse, hrk, hck, hcu⟩ := hok0
  refine lv_iload_n hx hb dX0_cut_0 rfl (lv_at hl 1 rfl) ?_
  refine cw_callSv (As := [.int (nI p₁)]) ⟨hx, hb, hml, hown, hts⟩ (c_X0_needProcess l p₁ hp) (kX0_X0_needProcess hts 0 0 0 0 ⟨by decide, by decide⟩) rfl hl.1 rfl (Nat.le_of_ble_eq_true rfl) dX0_cut_1 ⟨Nat.zero_le _, Nat.zero_le _⟩ ?_
  refine lv_iload_n hx hb dX0_cut_4 rfl (lv_at hl 2 rfl) ?_
  refine lv_if_lt (tgt := 17) hx hb dX0_cut_5 (by decide) (fun hc => ?_) (fun hc => ?_)
  · exact xt_new hx hb hlt hown (names := xUp) (by decide +kernel) (by decide +kernel) (hts _ (List.mem_cons_of_mem _ tm_89)) (hts _ (List.mem_cons_of_mem _ tm_6)) (xt_ownA hts hS) (hml.trans hl.1.symm) hex hlocks dX0_cut_17 dX0_cut_20 dX0_cut_21 dX0_cut_24 (Nat.le_of_ble_eq_true rfl) (Nat.le_of_ble_eq_true rfl) (Nat.le_of_ble_eq_true rfl) (Nat.le_of_ble_eq_true rfl)
  · refine lv_iload_n hx hb dX0_cut_8 rfl (lv_at hl 2 rfl) ?_
    refine lv_aload_n hx hb dX0_cut_9 rfl (lv_at hl 0 rfl) ?_
    refine lv_iload_n hx hb dX0_cut_10 rfl (lv_at hl 1 rfl) ?_
    refine cw_callR (As := [.int (nI p₁)]) ⟨hx, hb, hml, hown, hts⟩ (c_X0_lengthOf l D cI cZ h a1 a2 a3 a4 a5 pr se rk ck cu o f sd c₀ n hok p₁ hp) (kX0_X0_lengthOf hts 1 0 0 30 ⟨by decide, by decide⟩) hK hP 0 rfl rfl rfl rfl hl.1 rfl (Nat.le_of_ble_eq_true rfl) dX0_cut_11 ⟨Nat.zero_le _, Nat.zero_le _⟩ ?_
    refine lv_icmp_le (tgt := 25) hx hb dX0_cut_14 (by decide) (fun hc3 => ?_) (fun hc3 => ?_)
    · exact absurd ⟨k2_le hc, hc3⟩ hbad
    · exact xt_new hx hb hlt hown (names := xUp) (by decide +kernel) (by decide +kernel) (hts _ (List.mem_cons_of_mem _ tm_89)) (hts _ (List.mem_cons_of_mem _ tm_6)) (xt_ownA hts hS) (hml.trans hl.1.symm) hex hlocks dX0_cut_17 dX0_cut_20 dX0_cut_21 dX0_cut_24 (Nat.le_of_ble_eq_true rfl) (Nat.le_of_ble_eq_true rfl) (Nat.le_of_ble_eq_true rfl) (Nat.le_of_ble_eq_true rfl)
