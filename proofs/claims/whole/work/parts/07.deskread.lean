/-! THE DESK: its cells, what they hold, its methods that only read -/
abbrev dkW (h a1 a2 a3 a4 a5 : Nat) (cI cZ : ClassId) (pr se rk ck cu : Nat → Int32) (n : Nat) : va_W := [(h, .inr (0, [.ref a1, .ref a2, .ref a3, .ref a4, .ref a5, .int (nI n)])), (a1, .inl (cI, 200, .inl pr)), (a2, .inl (cZ, 200, .inl se)), (a3, .inl (cI, 200, .inl rk)), (a4, .inl (cI, 1200, .inl ck)), (a5, .inl (cI, 6, .inl cu))]
abbrev dkT (cI cZ : ClassId) : List (ClassId × FieldType) := [(cI, .int), (cZ, .boolean)]
/-- what the desk's arrays hold: o, f the graph of n events, sd who sends, c the cut -/
def cd_dk (o f : Nat → Nat) (sd : Nat → Bool) (c : Nat → Nat) (n : Nat) (pr se rk ck cu : Nat → Int32) : Prop :=
  n ≤ 200 ∧ cd_wf o f n ∧ (∀ p, p < 6 → c p ≤ 200) ∧ (∀ k, k < n → pr k = nI (o k)) ∧ (∀ k, k < n → se k = cd_bI (sd k = true)) ∧ (∀ k, k < n → rk k = nI (cd_rk o f (k + 1))) ∧ (∀ k p, k < n → p < 6 → ck (k * 6 + p) = nI (cd_ck o f (k + 1) p)) ∧ (∀ p, p < 6 → cu p = nI (c p))
theorem cd_ck_200 {o f : Nat → Nat} {n j p : Nat} (h : cd_wf o f n) (hj : j ≤ n) (hn : n ≤ 200) : cd_ck o f j p ≤ 200 := by
  have h1 := cd_ck_le h p j hj
  have h2 := cd_mn_le o p j
  omega
/-- a sum over the processes, as far as p -/
def cd_sm (g : Nat → Nat) : Nat → Nat
  | 0 => 0
  | p + 1 => cd_sm g p + g p
theorem cd_sm_6 (g : Nat → Nat) : cd_sm g 6 = cd_s6 g := by simp [cd_sm, cd_s6]
theorem cd_sm_le {g : Nat → Nat} : ∀ p, (∀ q, q < p → g q ≤ 200) → cd_sm g p ≤ 200 * p := by
  intro p
  induction p with
  | zero => intro _; exact Nat.le_refl _
  | succ p ih =>
    intro h
    have h1 := ih (fun q hq => h q (by omega))
    have h2 := h p (by omega)
    show cd_sm g p + g p ≤ _
    omega
def cd_ap (o f : Nat → Nat) : Nat → Nat
  | 0 => 0
  | g + 1 => cd_ap o f g + (g - (cd_s6 (cd_ck o f (g + 1)) - 1))
def cd_gr (o f : Nat → Nat) : Nat → Nat
  | 0 => 0
  | k + 1 => max (cd_gr o f k) (cd_rk o f (k + 1))
theorem cd_max {a b : Nat} (ha : a < 2 ^ 31) (hb : b < 2 ^ 31) : (if nI a < nI b then nI b else nI a) = nI (max a b) := by
  by_cases h : a < b
  · rw [if_pos ((nI_ltI ha hb).mpr h), Nat.max_eq_right (by omega)]
  · rw [if_neg (fun z => h ((nI_ltI ha hb).mp z)), Nat.max_eq_left (by omega)]
theorem cd_min {a b : Nat} (ha : a < 2 ^ 31) (hb : b < 2 ^ 31) : (if nI b < nI a then nI b else nI a) = nI (min a b) := by
  by_cases h : b < a
  · rw [if_pos ((nI_ltI hb ha).mpr h), Nat.min_eq_right (by omega)]
  · rw [if_neg (fun z => h ((nI_ltI hb ha).mp z)), Nat.min_eq_left (by omega)]
set_option maxHeartbeats 4000000 in
set_option maxRecDepth 100000 in
/-- isEvent -/
theorem c_X0_isEvent (l : Launch) (D : va_G) (cI cZ : ClassId) (h a1 a2 a3 a4 a5 : Nat) (pr se rk ck cu : Nat → Int32) (o f : Nat → Nat) (sd : Nat → Bool) (c₀ : Nat → Nat) (n : Nat) (hok : cd_dk o f sd c₀ n pr se rk ck cu) (x : Int32) : Met l yX0_isEvent (.code yX0_isEvent cX0_isEvent 2 (some .boolean) :: tW) (rmL 0) (va_Pc [.ref h, .int x] (fun U => va_P D cdCl (dkW h a1 a2 a3 a4 a5 cI cZ pr se rk ck cu n) U.heap ∧ va_K D cdCl (dkT cI cZ) U)) (QcRead (cd_bI (0 ≤ x ∧ x < nI n))) 0 0 (fun _ => False) := by
  refine Met.ofW (cc := cX0_isEvent) (maxL := 2) (ret := (some .boolean)) (by decide) rfl ?_
  intro p e s m args below meth c s₁ B hml hv
  obtain ⟨rfl, hP, hK⟩ := hv
  have hx := B.exec
  have hb := B.bytes
  have hr := B.returns
  have hts := atoms_spec (ws := .code yX0_isEvent cX0_isEvent 2 (some .boolean) :: tW) B.pre
  have hown : s.vm.findClass RX0 = some m.cls := findClass_of_methodNamed B.named
  have hlocks := B.notSynchronized
  have hl := lv_entry ([.ref h, .int x]) (n := 2) (Nat.le_of_ble_eq_true rfl)
  rw [lg_entry_eq]
  generalize (lg_sl ([.ref h, .int x]) ++ List.replicate (2 - (lg_sl ([.ref h, .int x])).length) Slot.unset).toArray = ls at hl ⊢
  have hl : lv_has ls 2 [(0, .ref h), (1, .int x)] := hl
  have hok0 := hok
  obtain ⟨hn, hwf, hc2, hpr, hse, hrk, hck, hcu⟩ := hok0
  refine lv_iload_n hx hb dX0_isEvent_0 rfl (lv_at hl 1 rfl) ?_
  refine lv_if_lt (tgt := 16) hx hb dX0_isEvent_1 (by decide) (fun hc => ?_) (fun hc => ?_)
  · refine lv_iconst (v := nI 0) hx hb dX0_isEvent_16 (by decide) ?_
    refine cw_topi (y := cd_bI (0 ≤ x ∧ x < nI n)) (cd_bI_f (fun z => by have := z.1; rw [Int32.le_iff_toInt_le] at this; rw [Int32.lt_iff_toInt_lt] at hc; omega)).symm ?_
    exact W.zret (v := cd_bI (0 ≤ x ∧ x < nI n)) hx hb hr (by first | rfl | exact cd_bI_nar) (fun t ht hW => ⟨rfl, ht⟩) (fun q hq => by cases hq) dX0_isEvent_17
  · refine lv_iload_n hx hb dX0_isEvent_4 rfl (lv_at hl 1 rfl) ?_
    refine lv_aload_n hx hb dX0_isEvent_5 rfl (lv_at hl 0 rfl) ?_
    refine gX0_made hx hb hts hown hK hP 0 rfl rfl dX0_isEvent_6 ?_
    refine lv_icmp_ge (tgt := 16) hx hb dX0_isEvent_9 (by decide) (fun hc3 => ?_) (fun hc3 => ?_)
    · refine lv_iconst (v := nI 0) hx hb dX0_isEvent_16 (by decide) ?_
      refine cw_topi (y := cd_bI (0 ≤ x ∧ x < nI n)) (cd_bI_f (fun z => by have := z.2; rw [Int32.lt_iff_toInt_lt] at this; rw [Int32.le_iff_toInt_le] at hc3; omega)).symm ?_
      exact W.zret (v := cd_bI (0 ≤ x ∧ x < nI n)) hx hb hr (by first | rfl | exact cd_bI_nar) (fun t ht hW => ⟨rfl, ht⟩) (fun q hq => by cases hq) dX0_isEvent_17
    · refine lv_iconst (v := nI 1) hx hb dX0_isEvent_12 (by decide) ?_
      refine lv_goto (tgt := 17) hx hb dX0_isEvent_13 (by decide) ?_
      refine cw_topi (y := cd_bI (0 ≤ x ∧ x < nI n)) (cd_bI_t ⟨k2_le hc, k2_lt hc3⟩).symm ?_
      exact W.zret (v := cd_bI (0 ≤ x ∧ x < nI n)) hx hb hr (by first | rfl | exact cd_bI_nar) (fun t ht hW => ⟨rfl, ht⟩) (fun q hq => by cases hq) dX0_isEvent_17
set_option maxHeartbeats 4000000 in
set_option maxRecDepth 100000 in
/-- clockOf: the clock of an event in code -/
theorem c_X0_clockOf (l : Launch) (D : va_G) (cI cZ : ClassId) (h a1 a2 a3 a4 a5 : Nat) (pr se rk ck cu : Nat → Int32) (o f : Nat → Nat) (sd : Nat → Bool) (c₀ : Nat → Nat) (n : Nat) (hok : cd_dk o f sd c₀ n pr se rk ck cu) (j p₁ : Nat) (hj : j ≤ n) (hp : p₁ < 6) : Met l yX0_clockOf (.code yX0_clockOf cX0_clockOf 3 (some .int) :: tW) (rmL 0) (va_Pc [.ref h, .int (cd_pI j), .int (nI p₁)] (fun U => va_P D cdCl (dkW h a1 a2 a3 a4 a5 cI cZ pr se rk ck cu n) U.heap ∧ va_K D cdCl (dkT cI cZ) U)) (QcRead (nI (cd_ck o f j p₁))) 0 0 (fun _ => False) := by
  refine Met.ofW (cc := cX0_clockOf) (maxL := 3) (ret := (some .int)) (by decide) rfl ?_
  intro p e s m args below meth c s₁ B hml hv
  obtain ⟨rfl, hP, hK⟩ := hv
  have hx := B.exec
  have hb := B.bytes
  have hr := B.returns
  have hts := atoms_spec (ws := .code yX0_clockOf cX0_clockOf 3 (some .int) :: tW) B.pre
  have hown : s.vm.findClass RX0 = some m.cls := findClass_of_methodNamed B.named
  have hlocks := B.notSynchronized
  have hl := lv_entry ([.ref h, .int (cd_pI j), .int (nI p₁)]) (n := 3) (Nat.le_of_ble_eq_true rfl)
  rw [lg_entry_eq]
  generalize (lg_sl ([.ref h, .int (cd_pI j), .int (nI p₁)]) ++ List.replicate (3 - (lg_sl ([.ref h, .int (cd_pI j), .int (nI p₁)])).length) Slot.unset).toArray = ls at hl ⊢
  have hl : lv_has ls 3 [(0, .ref h), (1, .int (cd_pI j)), (2, .int (nI p₁))] := hl
  have hok0 := hok
  obtain ⟨hn, hwf, hc2, hpr, hse, hrk, hck, hcu⟩ := hok0
  refine lv_iload_n hx hb dX0_clockOf_0 rfl (lv_at hl 1 rfl) ?_
  refine lv_iconst (v := (-1)) hx hb dX0_clockOf_1 (by decide) ?_
  refine lv_icmp_ne (tgt := 9) hx hb dX0_clockOf_2 (by decide) (fun hc => ?_) (fun hc => ?_)
  · obtain ⟨k, rfl⟩ : ∃ k, j = k + 1 := ⟨j - 1, by have : j ≠ 0 := fun z => hc ((cd_pI_m1 (by omega)).mpr z); omega⟩
    have hl : lv_has ls 3 [(0, .ref h), (1, .int (nI k)), (2, .int (nI p₁))] := hl
    refine lv_aload_n hx hb dX0_clockOf_9 rfl (lv_at hl 0 rfl) ?_
    refine gX0_clocks hx hb hts hown hK hP 0 rfl rfl dX0_clockOf_10 ?_
    refine lv_iload_n hx hb dX0_clockOf_13 rfl (lv_at hl 1 rfl) ?_
    refine lv_bipush (v := nI 6) hx hb dX0_clockOf_14 (by decide) ?_
    refine lv_imul hx hb dX0_clockOf_16 ?_
    refine cw_topi (y := nI (k * 6)) (pk_mul _ _) ?_
    refine lv_iload_n hx hb dX0_clockOf_17 rfl (lv_at hl 2 rfl) ?_
    refine lv_iadd hx hb dX0_clockOf_18 ?_
    refine cw_topi (y := nI ((k * 6) + p₁)) (nI_add _ _) ?_
    refine cw_iald hx hb hK hP 4 0 rfl rfl (k := ((k * 6) + p₁)) (v := nI (cd_ck o f (k + 1) p₁)) (by omega) (by decide) (hck k p₁ (by omega) hp) dX0_clockOf_19 ?_
    exact W.iret (v := nI (cd_ck o f (k + 1) p₁)) hx hb hr (fun t ht hW => ⟨rfl, ht⟩) (fun q hq => by cases hq) dX0_clockOf_20
  · have hj0 : j = 0 := (cd_pI_m1 (by omega)).mp (by simpa using hc)
    subst hj0
    refine lv_iconst (v := nI 0) hx hb dX0_clockOf_5 (by decide) ?_
    refine lv_goto (tgt := 20) hx hb dX0_clockOf_6 (by decide) ?_
    exact W.iret (v := nI (cd_ck o f 0 p₁)) hx hb hr (fun t ht hW => ⟨rfl, ht⟩) (fun q hq => by cases hq) dX0_clockOf_20
set_option maxHeartbeats 4000000 in
set_option maxRecDepth 100000 in
/-- rankOf: the rank of an event in code -/
theorem c_X0_rankOf (l : Launch) (D : va_G) (cI cZ : ClassId) (h a1 a2 a3 a4 a5 : Nat) (pr se rk ck cu : Nat → Int32) (o f : Nat → Nat) (sd : Nat → Bool) (c₀ : Nat → Nat) (n : Nat) (hok : cd_dk o f sd c₀ n pr se rk ck cu) (j : Nat) (hj : j ≤ n) : Met l yX0_rankOf (.code yX0_rankOf cX0_rankOf 2 (some .int) :: tW) (rmL 0) (va_Pc [.ref h, .int (cd_pI j)] (fun U => va_P D cdCl (dkW h a1 a2 a3 a4 a5 cI cZ pr se rk ck cu n) U.heap ∧ va_K D cdCl (dkT cI cZ) U)) (QcRead (nI (cd_rk o f j))) 0 0 (fun _ => False) := by
  refine Met.ofW (cc := cX0_rankOf) (maxL := 2) (ret := (some .int)) (by decide) rfl ?_
  intro p e s m args below meth c s₁ B hml hv
  obtain ⟨rfl, hP, hK⟩ := hv
  have hx := B.exec
  have hb := B.bytes
  have hr := B.returns
  have hts := atoms_spec (ws := .code yX0_rankOf cX0_rankOf 2 (some .int) :: tW) B.pre
  have hown : s.vm.findClass RX0 = some m.cls := findClass_of_methodNamed B.named
  have hlocks := B.notSynchronized
  have hl := lv_entry ([.ref h, .int (cd_pI j)]) (n := 2) (Nat.le_of_ble_eq_true rfl)
  rw [lg_entry_eq]
  generalize (lg_sl ([.ref h, .int (cd_pI j)]) ++ List.replicate (2 - (lg_sl ([.ref h, .int (cd_pI j)])).length) Slot.unset).toArray = ls at hl ⊢
  have hl : lv_has ls 2 [(0, .ref h), (1, .int (cd_pI j))] := hl
  have hok0 := hok
  obtain ⟨hn, hwf, hc2, hpr, hse, hrk, hck, hcu⟩ := hok0
  refine lv_iload_n hx hb dX0_rankOf_0 rfl (lv_at hl 1 rfl) ?_
  refine lv_iconst (v := (-1)) hx hb dX0_rankOf_1 (by decide) ?_
  refine lv_icmp_ne (tgt := 9) hx hb dX0_rankOf_2 (by decide) (fun hc => ?_) (fun hc => ?_)
  · obtain ⟨k, rfl⟩ : ∃ k, j = k + 1 := ⟨j - 1, by have : j ≠ 0 := fun z => hc ((cd_pI_m1 (by omega)).mpr z); omega⟩
    have hl : lv_has ls 2 [(0, .ref h), (1, .int (nI k))] := hl
    refine lv_aload_n hx hb dX0_rankOf_9 rfl (lv_at hl 0 rfl) ?_
    refine gX0_ranks hx hb hts hown hK hP 0 rfl rfl dX0_rankOf_10 ?_
    refine lv_iload_n hx hb dX0_rankOf_13 rfl (lv_at hl 1 rfl) ?_
    refine cw_iald hx hb hK hP 3 0 rfl rfl (k := k) (v := nI (cd_rk o f (k + 1))) (by omega) (by decide) (hrk k (by omega)) dX0_rankOf_14 ?_
    exact W.iret (v := nI (cd_rk o f (k + 1))) hx hb hr (fun t ht hW => ⟨rfl, ht⟩) (fun q hq => by cases hq) dX0_rankOf_15
  · have hj0 : j = 0 := (cd_pI_m1 (by omega)).mp (by simpa using hc)
    subst hj0
    refine lv_iconst (v := nI 0) hx hb dX0_rankOf_5 (by decide) ?_
    refine lv_goto (tgt := 15) hx hb dX0_rankOf_6 (by decide) ?_
    exact W.iret (v := nI (cd_rk o f 0)) hx hb hr (fun t ht hW => ⟨rfl, ht⟩) (fun q hq => by cases hq) dX0_rankOf_15
set_option maxHeartbeats 4000000 in
set_option maxRecDepth 100000 in
/-- latestOf: the last event of a process, in code -/
theorem c_X0_latestOf (l : Launch) (D : va_G) (cI cZ : ClassId) (h a1 a2 a3 a4 a5 : Nat) (pr se rk ck cu : Nat → Int32) (o f : Nat → Nat) (sd : Nat → Bool) (c₀ : Nat → Nat) (n : Nat) (hok : cd_dk o f sd c₀ n pr se rk ck cu) (p₁ : Nat) (hp : p₁ < 6) : Met l yX0_latestOf (.code yX0_latestOf cX0_latestOf 3 (some .int) :: tW) (rmL 0) (va_Pc [.ref h, .int (nI p₁)] (fun U => va_P D cdCl (dkW h a1 a2 a3 a4 a5 cI cZ pr se rk ck cu n) U.heap ∧ va_K D cdCl (dkT cI cZ) U)) (QcRead (cd_pI (cd_fm o p₁ n))) 0 0 (fun _ => False) := by
  refine Met.ofW (cc := cX0_latestOf) (maxL := 3) (ret := (some .int)) (by decide) rfl ?_
  intro p e s m args below meth c s₁ B hml hv
  obtain ⟨rfl, hP, hK⟩ := hv
  have hx := B.exec
  have hb := B.bytes
  have hr := B.returns
  have hts := atoms_spec (ws := .code yX0_latestOf cX0_latestOf 3 (some .int) :: tW) B.pre
  have hown : s.vm.findClass RX0 = some m.cls := findClass_of_methodNamed B.named
  have hlocks := B.notSynchronized
  have hl := lv_entry ([.ref h, .int (nI p₁)]) (n := 3) (Nat.le_of_ble_eq_true rfl)
  rw [lg_entry_eq]
  generalize (lg_sl ([.ref h, .int (nI p₁)]) ++ List.replicate (3 - (lg_sl ([.ref h, .int (nI p₁)])).length) Slot.unset).toArray = ls at hl ⊢
  have hl : lv_has ls 3 [(0, .ref h), (1, .int (nI p₁))] := hl
  have hok0 := hok
  obtain ⟨hn, hwf, hc2, hpr, hse, hrk, hck, hcu⟩ := hok0
  have loop : ∀ (k : Nat) (ls : Array Slot), k ≤ n → cd_fm o p₁ n = cd_fm o p₁ k → lv_has ls 3 [(2, .int (cd_pI k)), (0, .ref h), (1, .int (nI p₁))] → W p l e (rmL 0) s m (List.toArray [.ref h, .int (nI p₁)]) below meth c s.heap [] 0 0 (MQ below (QcRead (cd_pI (cd_fm o p₁ n))) (List.toArray [.ref h, .int (nI p₁)]) s 0 0 (fun _ => False)) (F0 m 7 ls []) := by
    intro k
    induction k with
    | zero =>
      intro ls _ hf hl
      rw [hf]
      refine lv_iload_n hx hb dX0_latestOf_7 rfl (lv_at hl 0 rfl) ?_
      refine lv_if_lt (tgt := 29) hx hb dX0_latestOf_8 (by decide) (fun hc => ?_) (fun hc => ?_)
      · refine lv_iconst (v := (-1)) hx hb dX0_latestOf_29 (by decide) ?_
        exact W.iret (v := cd_pI 0) hx hb hr (fun t ht hW => ⟨rfl, ht⟩) (fun q hq => by cases hq) dX0_latestOf_30
      · exact absurd ((cd_pI_neg (by omega)).mpr rfl) hc
    | succ k ih =>
      intro ls hk hf hl
      have hl : lv_has ls 3 [(2, .int (nI k)), (0, .ref h), (1, .int (nI p₁))] := hl
      refine lv_iload_n hx hb dX0_latestOf_7 rfl (lv_at hl 0 rfl) ?_
      refine lv_if_lt (tgt := 29) hx hb dX0_latestOf_8 (by decide) (fun hc => ?_) (fun hc => ?_)
      · exact absurd hc (nI_pos (by omega))
      · refine lv_aload_n hx hb dX0_latestOf_11 rfl (lv_at hl 1 rfl) ?_
        refine gX0_processes hx hb hts hown hK hP 0 rfl rfl dX0_latestOf_12 ?_
        refine lv_iload_n hx hb dX0_latestOf_15 rfl (lv_at hl 0 rfl) ?_
        refine cw_iald hx hb hK hP 1 0 rfl rfl (k := k) (v := nI (o k)) (by omega) (by decide) (hpr k (by omega)) dX0_latestOf_16 ?_
        refine lv_iload_n hx hb dX0_latestOf_17 rfl (lv_at hl 2 rfl) ?_
        have ho := (hwf k (by omega)).1
        refine cw_ne (tgt := 23) (x := (o k)) (y := p₁) hx hb dX0_latestOf_18 (by decide) (by omega) (by omega) (fun hc2 => ?_) (fun hc2 => ?_)
        · rw [cd_fm_ne hc2] at hf
          refine lv_iinc (k := 0) (v := cd_pI k) hx hb dX0_latestOf_23 hl rfl (cd_pI_dec _) (by decide) rfl (fun ls hl => ?_)
          have hl : lv_has ls 3 [(2, .int (cd_pI k)), (0, .ref h), (1, .int (nI p₁))] := hl
          refine lv_goto (tgt := 7) hx hb dX0_latestOf_26 (by decide) ?_
          exact ih ls (by omega) hf hl
        · rw [hf, cd_fm_eq hc2]
          refine lv_iload_n hx hb dX0_latestOf_21 rfl (lv_at hl 0 rfl) ?_
          exact W.iret (v := nI k) hx hb hr (fun t ht hW => ⟨rfl, ht⟩) (fun q hq => by cases hq) dX0_latestOf_22
  refine lv_aload_n hx hb dX0_latestOf_0 rfl (lv_at hl 0 rfl) ?_
  refine gX0_made hx hb hts hown hK hP 0 rfl rfl dX0_latestOf_1 ?_
  refine lv_iconst (v := nI 1) hx hb dX0_latestOf_4 (by decide) ?_
  refine lv_isub hx hb dX0_latestOf_5 ?_
  refine cw_topi (y := cd_pI n) (cd_pI_sub n) ?_
  refine lv_istore_n hx hb dX0_latestOf_6 rfl hl (by decide) rfl (fun ls hl => ?_)
  have hl : lv_has ls 3 [(2, .int (cd_pI n)), (0, .ref h), (1, .int (nI p₁))] := hl
  exact loop n ls (Nat.le_refl _) rfl hl
set_option maxHeartbeats 4000000 in
set_option maxRecDepth 100000 in
/-- lengthOf: how many events a process has -/
theorem c_X0_lengthOf (l : Launch) (D : va_G) (cI cZ : ClassId) (h a1 a2 a3 a4 a5 : Nat) (pr se rk ck cu : Nat → Int32) (o f : Nat → Nat) (sd : Nat → Bool) (c₀ : Nat → Nat) (n : Nat) (hok : cd_dk o f sd c₀ n pr se rk ck cu) (p₁ : Nat) (hp : p₁ < 6) : Met l yX0_lengthOf (.code yX0_lengthOf cX0_lengthOf 2 (some .int) :: tW) (rmL 1) (va_Pc [.ref h, .int (nI p₁)] (fun U => va_P D cdCl (dkW h a1 a2 a3 a4 a5 cI cZ pr se rk ck cu n) U.heap ∧ va_K D cdCl (dkT cI cZ) U)) (QcRead (nI (cd_mn o p₁ n))) 0 0 (fun _ => False) := by
  refine Met.ofW (cc := cX0_lengthOf) (maxL := 2) (ret := (some .int)) (by decide) rfl ?_
  intro p e s m args below meth c s₁ B hml hv
  obtain ⟨rfl, hP, hK⟩ := hv
  have hx := B.exec
  have hb := B.bytes
  have hr := B.returns
  have hts := atoms_spec (ws := .code yX0_lengthOf cX0_lengthOf 2 (some .int) :: tW) B.pre
  have hown : s.vm.findClass RX0 = some m.cls := findClass_of_methodNamed B.named
  have hlocks := B.notSynchronized
  have hl := lv_entry ([.ref h, .int (nI p₁)]) (n := 2) (Nat.le_of_ble_eq_true rfl)
  rw [lg_entry_eq]
  generalize (lg_sl ([.ref h, .int (nI p₁)]) ++ List.replicate (2 - (lg_sl ([.ref h, .int (nI p₁)])).length) Slot.unset).toArray = ls at hl ⊢
  have hl : lv_has ls 2 [(0, .ref h), (1, .int (nI p₁))] := hl
  have hok0 := hok
  obtain ⟨hn, hwf, hc2, hpr, hse, hrk, hck, hcu⟩ := hok0
  refine lv_aload_n hx hb dX0_lengthOf_0 rfl (lv_at hl 0 rfl) ?_
  refine lv_aload_n hx hb dX0_lengthOf_1 rfl (lv_at hl 0 rfl) ?_
  refine lv_iload_n hx hb dX0_lengthOf_2 rfl (lv_at hl 1 rfl) ?_
  refine cw_callR (As := [.int (nI p₁)]) ⟨hx, hb, hml, hown, hts⟩ (c_X0_latestOf l D cI cZ h a1 a2 a3 a4 a5 pr se rk ck cu o f sd c₀ n hok p₁ hp) (kX0_X0_latestOf hts 0 0 0 0 ⟨by decide, by decide⟩) hK hP 0 rfl rfl rfl rfl hl.1 rfl (Nat.le_of_ble_eq_true rfl) dX0_lengthOf_3 ⟨Nat.zero_le _, Nat.zero_le _⟩ ?_
  refine lv_iload_n hx hb dX0_lengthOf_6 rfl (lv_at hl 1 rfl) ?_
  refine cw_callR (As := [.int (cd_pI (cd_fm o p₁ n)), .int (nI p₁)]) ⟨hx, hb, hml, hown, hts⟩ (c_X0_clockOf l D cI cZ h a1 a2 a3 a4 a5 pr se rk ck cu o f sd c₀ n hok (cd_fm o p₁ n) p₁ (cd_fm_le o p₁ n) hp) (kX0_X0_clockOf hts 0 0 0 0 ⟨by decide, by decide⟩) hK hP 0 rfl rfl rfl rfl hl.1 rfl (Nat.le_of_ble_eq_true rfl) dX0_lengthOf_7 ⟨Nat.zero_le _, Nat.zero_le _⟩ ?_
  rw [cd_ck_fm hwf p₁ n (Nat.le_refl _)]
  exact W.iret (v := nI (cd_mn o p₁ n)) hx hb hr (fun t ht hW => ⟨rfl, ht⟩) (fun q hq => by cases hq) dX0_lengthOf_10
set_option maxHeartbeats 4000000 in
set_option maxRecDepth 100000 in
/-- placeOf: which one of its process -/
theorem c_X0_placeOf (l : Launch) (D : va_G) (cI cZ : ClassId) (h a1 a2 a3 a4 a5 : Nat) (pr se rk ck cu : Nat → Int32) (o f : Nat → Nat) (sd : Nat → Bool) (c₀ : Nat → Nat) (n : Nat) (hok : cd_dk o f sd c₀ n pr se rk ck cu) (k : Nat) (hk : k < n) : Met l yX0_placeOf (.code yX0_placeOf cX0_placeOf 2 (some .int) :: tW) (rmL 1) (va_Pc [.ref h, .int (nI k)] (fun U => va_P D cdCl (dkW h a1 a2 a3 a4 a5 cI cZ pr se rk ck cu n) U.heap ∧ va_K D cdCl (dkT cI cZ) U)) (QcRead (nI (cd_mn o (o k) k + 1))) 0 0 (fun _ => False) := by
  refine Met.ofW (cc := cX0_placeOf) (maxL := 2) (ret := (some .int)) (by decide) rfl ?_
  intro p e s m args below meth c s₁ B hml hv
  obtain ⟨rfl, hP, hK⟩ := hv
  have hx := B.exec
  have hb := B.bytes
  have hr := B.returns
  have hts := atoms_spec (ws := .code yX0_placeOf cX0_placeOf 2 (some .int) :: tW) B.pre
  have hown : s.vm.findClass RX0 = some m.cls := findClass_of_methodNamed B.named
  have hlocks := B.notSynchronized
  have hl := lv_entry ([.ref h, .int (nI k)]) (n := 2) (Nat.le_of_ble_eq_true rfl)
  rw [lg_entry_eq]
  generalize (lg_sl ([.ref h, .int (nI k)]) ++ List.replicate (2 - (lg_sl ([.ref h, .int (nI k)])).length) Slot.unset).toArray = ls at hl ⊢
  have hl : lv_has ls 2 [(0, .ref h), (1, .int (nI k))] := hl
  have hok0 := hok
  obtain ⟨hn, hwf, hc2, hpr, hse, hrk, hck, hcu⟩ := hok0
  have ho := (hwf k hk).1
  refine lv_aload_n hx hb dX0_placeOf_0 rfl (lv_at hl 0 rfl) ?_
  refine lv_iload_n hx hb dX0_placeOf_1 rfl (lv_at hl 1 rfl) ?_
  refine lv_aload_n hx hb dX0_placeOf_2 rfl (lv_at hl 0 rfl) ?_
  refine gX0_processes hx hb hts hown hK hP 0 rfl rfl dX0_placeOf_3 ?_
  refine lv_iload_n hx hb dX0_placeOf_6 rfl (lv_at hl 1 rfl) ?_
  refine cw_iald hx hb hK hP 1 0 rfl rfl (k := k) (v := nI (o k)) (by omega) (by decide) (hpr k hk) dX0_placeOf_7 ?_
  refine cw_callR (As := [.int (cd_pI (k + 1)), .int (nI (o k))]) ⟨hx, hb, hml, hown, hts⟩ (c_X0_clockOf l D cI cZ h a1 a2 a3 a4 a5 pr se rk ck cu o f sd c₀ n hok (k + 1) (o k) (by omega) ho) (kX0_X0_clockOf hts 0 0 0 0 ⟨by decide, by decide⟩) hK hP 0 rfl rfl rfl rfl hl.1 rfl (Nat.le_of_ble_eq_true rfl) dX0_placeOf_8 ⟨Nat.zero_le _, Nat.zero_le _⟩ ?_
  rw [cd_ck_own hwf hk]
  exact W.iret (v := nI (cd_mn o (o k) k + 1)) hx hb hr (fun t ht hW => ⟨rfl, ht⟩) (fun q hq => by cases hq) dX0_placeOf_11
set_option maxHeartbeats 4000000 in
set_option maxRecDepth 100000 in
/-- precedes -/
theorem c_X0_precedes (l : Launch) (D : va_G) (cI cZ : ClassId) (h a1 a2 a3 a4 a5 : Nat) (pr se rk ck cu : Nat → Int32) (o f : Nat → Nat) (sd : Nat → Bool) (c₀ : Nat → Nat) (n : Nat) (hok : cd_dk o f sd c₀ n pr se rk ck cu) (k g : Nat) (hk : k < n) (hg : g < n) : Met l yX0_precedes (.code yX0_precedes cX0_precedes 3 (some .boolean) :: tW) (rmL 2) (va_Pc [.ref h, .int (nI k), .int (nI g)] (fun U => va_P D cdCl (dkW h a1 a2 a3 a4 a5 cI cZ pr se rk ck cu n) U.heap ∧ va_K D cdCl (dkT cI cZ) U)) (QcRead (cd_bI (k ≠ g ∧ cd_mn o (o k) k < cd_ck o f (g + 1) (o k)))) 0 0 (fun _ => False) := by
  refine Met.ofW (cc := cX0_precedes) (maxL := 3) (ret := (some .boolean)) (by decide) rfl ?_
  intro p e s m args below meth c s₁ B hml hv
  obtain ⟨rfl, hP, hK⟩ := hv
  have hx := B.exec
  have hb := B.bytes
  have hr := B.returns
  have hts := atoms_spec (ws := .code yX0_precedes cX0_precedes 3 (some .boolean) :: tW) B.pre
  have hown : s.vm.findClass RX0 = some m.cls := findClass_of_methodNamed B.named
  have hlocks := B.notSynchronized
  have hl := lv_entry ([.ref h, .int (nI k), .int (nI g)]) (n := 3) (Nat.le_of_ble_eq_true rfl)
  rw [lg_entry_eq]
  generalize (lg_sl ([.ref h, .int (nI k), .int (nI g)]) ++ List.replicate (3 - (lg_sl ([.ref h, .int (nI k), .int (nI g)])).length) Slot.unset).toArray = ls at hl ⊢
  have hl : lv_has ls 3 [(0, .ref h), (1, .int (nI k)), (2, .int (nI g))] := hl
  have hok0 := hok
  obtain ⟨hn, hwf, hc2, hpr, hse, hrk, hck, hcu⟩ := hok0
  have ho := (hwf k hk).1
  have h200 := cd_ck_200 (j := g + 1) (p := o k) hwf hg hn
  have hm := cd_mn_le o (o k) k
  refine lv_iload_n hx hb dX0_precedes_0 rfl (lv_at hl 1 rfl) ?_
  refine lv_iload_n hx hb dX0_precedes_1 rfl (lv_at hl 2 rfl) ?_
  refine cw_eq (tgt := 28) (x := k) (y := g) hx hb dX0_precedes_2 (by decide) (by omega) (by omega) (fun hc => ?_) (fun hc => ?_)
  · refine lv_iconst (v := nI 0) hx hb dX0_precedes_28 (by decide) ?_
    refine cw_topi (y := cd_bI (k ≠ g ∧ cd_mn o (o k) k < cd_ck o f (g + 1) (o k))) (cd_bI_f (fun z => z.1 hc)).symm ?_
    exact W.zret (v := cd_bI (k ≠ g ∧ cd_mn o (o k) k < cd_ck o f (g + 1) (o k))) hx hb hr (by first | rfl | exact cd_bI_nar) (fun t ht hW => ⟨rfl, ht⟩) (fun q hq => by cases hq) dX0_precedes_29
  · refine lv_aload_n hx hb dX0_precedes_5 rfl (lv_at hl 0 rfl) ?_
    refine lv_iload_n hx hb dX0_precedes_6 rfl (lv_at hl 1 rfl) ?_
    refine cw_callR (As := [.int (nI k)]) ⟨hx, hb, hml, hown, hts⟩ (c_X0_placeOf l D cI cZ h a1 a2 a3 a4 a5 pr se rk ck cu o f sd c₀ n hok k hk) (kX0_X0_placeOf hts 1 0 0 30 ⟨by decide, by decide⟩) hK hP 0 rfl rfl rfl rfl hl.1 rfl (Nat.le_of_ble_eq_true rfl) dX0_precedes_7 ⟨Nat.zero_le _, Nat.zero_le _⟩ ?_
    refine lv_aload_n hx hb dX0_precedes_10 rfl (lv_at hl 0 rfl) ?_
    refine lv_iload_n hx hb dX0_precedes_11 rfl (lv_at hl 2 rfl) ?_
    refine lv_aload_n hx hb dX0_precedes_12 rfl (lv_at hl 0 rfl) ?_
    refine gX0_processes hx hb hts hown hK hP 0 rfl rfl dX0_precedes_13 ?_
    refine lv_iload_n hx hb dX0_precedes_16 rfl (lv_at hl 1 rfl) ?_
    refine cw_iald hx hb hK hP 1 0 rfl rfl (k := k) (v := nI (o k)) (by omega) (by decide) (hpr k hk) dX0_precedes_17 ?_
    refine cw_callR (As := [.int (cd_pI (g + 1)), .int (nI (o k))]) ⟨hx, hb, hml, hown, hts⟩ (c_X0_clockOf l D cI cZ h a1 a2 a3 a4 a5 pr se rk ck cu o f sd c₀ n hok (g + 1) (o k) (by omega) ho) (kX0_X0_clockOf hts 0 0 0 0 ⟨by decide, by decide⟩) hK hP 0 rfl rfl rfl rfl hl.1 rfl (Nat.le_of_ble_eq_true rfl) dX0_precedes_18 ⟨Nat.zero_le _, Nat.zero_le _⟩ ?_
    refine cw_gt (tgt := 28) (x := (cd_mn o (o k) k + 1)) (y := (cd_ck o f (g + 1) (o k))) hx hb dX0_precedes_21 (by decide) (by omega) (by omega) (fun hc3 => ?_) (fun hc3 => ?_)
    · refine lv_iconst (v := nI 0) hx hb dX0_precedes_28 (by decide) ?_
      refine cw_topi (y := cd_bI (k ≠ g ∧ cd_mn o (o k) k < cd_ck o f (g + 1) (o k))) (cd_bI_f (fun z => by omega)).symm ?_
      exact W.zret (v := cd_bI (k ≠ g ∧ cd_mn o (o k) k < cd_ck o f (g + 1) (o k))) hx hb hr (by first | rfl | exact cd_bI_nar) (fun t ht hW => ⟨rfl, ht⟩) (fun q hq => by cases hq) dX0_precedes_29
    · refine lv_iconst (v := nI 1) hx hb dX0_precedes_24 (by decide) ?_
      refine lv_goto (tgt := 29) hx hb dX0_precedes_25 (by decide) ?_
      refine cw_topi (y := cd_bI (k ≠ g ∧ cd_mn o (o k) k < cd_ck o f (g + 1) (o k))) (cd_bI_t ⟨hc, by omega⟩).symm ?_
      exact W.zret (v := cd_bI (k ≠ g ∧ cd_mn o (o k) k < cd_ck o f (g + 1) (o k))) hx hb hr (by first | rfl | exact cd_bI_nar) (fun t ht hW => ⟨rfl, ht⟩) (fun q hq => by cases hq) dX0_precedes_29
set_option maxHeartbeats 4000000 in
set_option maxRecDepth 100000 in
/-- isInCut -/
theorem c_X0_isInCut (l : Launch) (D : va_G) (cI cZ : ClassId) (h a1 a2 a3 a4 a5 : Nat) (pr se rk ck cu : Nat → Int32) (o f : Nat → Nat) (sd : Nat → Bool) (c₀ : Nat → Nat) (n : Nat) (hok : cd_dk o f sd c₀ n pr se rk ck cu) (k : Nat) (hk : k < n) : Met l yX0_isInCut (.code yX0_isInCut cX0_isInCut 2 (some .boolean) :: tW) (rmL 2) (va_Pc [.ref h, .int (nI k)] (fun U => va_P D cdCl (dkW h a1 a2 a3 a4 a5 cI cZ pr se rk ck cu n) U.heap ∧ va_K D cdCl (dkT cI cZ) U)) (QcRead (cd_bI (cd_mn o (o k) k < c₀ (o k)))) 0 0 (fun _ => False) := by
  refine Met.ofW (cc := cX0_isInCut) (maxL := 2) (ret := (some .boolean)) (by decide) rfl ?_
  intro p e s m args below meth c s₁ B hml hv
  obtain ⟨rfl, hP, hK⟩ := hv
  have hx := B.exec
  have hb := B.bytes
  have hr := B.returns
  have hts := atoms_spec (ws := .code yX0_isInCut cX0_isInCut 2 (some .boolean) :: tW) B.pre
  have hown : s.vm.findClass RX0 = some m.cls := findClass_of_methodNamed B.named
  have hlocks := B.notSynchronized
  have hl := lv_entry ([.ref h, .int (nI k)]) (n := 2) (Nat.le_of_ble_eq_true rfl)
  rw [lg_entry_eq]
  generalize (lg_sl ([.ref h, .int (nI k)]) ++ List.replicate (2 - (lg_sl ([.ref h, .int (nI k)])).length) Slot.unset).toArray = ls at hl ⊢
  have hl : lv_has ls 2 [(0, .ref h), (1, .int (nI k))] := hl
  have hok0 := hok
  obtain ⟨hn, hwf, hc2, hpr, hse, hrk, hck, hcu⟩ := hok0
  have ho := (hwf k hk).1
  have hm := cd_mn_le o (o k) k
  have hcc := hc2 (o k) ho
  refine lv_aload_n hx hb dX0_isInCut_0 rfl (lv_at hl 0 rfl) ?_
  refine lv_iload_n hx hb dX0_isInCut_1 rfl (lv_at hl 1 rfl) ?_
  refine cw_callR (As := [.int (nI k)]) ⟨hx, hb, hml, hown, hts⟩ (c_X0_placeOf l D cI cZ h a1 a2 a3 a4 a5 pr se rk ck cu o f sd c₀ n hok k hk) (kX0_X0_placeOf hts 1 0 0 30 ⟨by decide, by decide⟩) hK hP 0 rfl rfl rfl rfl hl.1 rfl (Nat.le_of_ble_eq_true rfl) dX0_isInCut_2 ⟨Nat.zero_le _, Nat.zero_le _⟩ ?_
  refine lv_aload_n hx hb dX0_isInCut_5 rfl (lv_at hl 0 rfl) ?_
  refine gX0_cutSizes hx hb hts hown hK hP 0 rfl rfl dX0_isInCut_6 ?_
  refine lv_aload_n hx hb dX0_isInCut_9 rfl (lv_at hl 0 rfl) ?_
  refine gX0_processes hx hb hts hown hK hP 0 rfl rfl dX0_isInCut_10 ?_
  refine lv_iload_n hx hb dX0_isInCut_13 rfl (lv_at hl 1 rfl) ?_
  refine cw_iald hx hb hK hP 1 0 rfl rfl (k := k) (v := nI (o k)) (by omega) (by decide) (hpr k hk) dX0_isInCut_14 ?_
  refine cw_iald hx hb hK hP 5 0 rfl rfl (k := (o k)) (v := nI (c₀ (o k))) (by omega) (by decide) (hcu (o k) ho) dX0_isInCut_15 ?_
  refine cw_gt (tgt := 23) (x := (cd_mn o (o k) k + 1)) (y := (c₀ (o k))) hx hb dX0_isInCut_16 (by decide) (by omega) (by omega) (fun hc => ?_) (fun hc => ?_)
  · refine lv_iconst (v := nI 0) hx hb dX0_isInCut_23 (by decide) ?_
    refine cw_topi (y := cd_bI (cd_mn o (o k) k < c₀ (o k))) (cd_bI_f (by omega)).symm ?_
    exact W.zret (v := cd_bI (cd_mn o (o k) k < c₀ (o k))) hx hb hr (by first | rfl | exact cd_bI_nar) (fun t ht hW => ⟨rfl, ht⟩) (fun q hq => by cases hq) dX0_isInCut_24
  · refine lv_iconst (v := nI 1) hx hb dX0_isInCut_19 (by decide) ?_
    refine lv_goto (tgt := 24) hx hb dX0_isInCut_20 (by decide) ?_
    refine cw_topi (y := cd_bI (cd_mn o (o k) k < c₀ (o k))) (cd_bI_t (by omega)).symm ?_
    exact W.zret (v := cd_bI (cd_mn o (o k) k < c₀ (o k))) hx hb hr (by first | rfl | exact cd_bI_nar) (fun t ht hW => ⟨rfl, ht⟩) (fun q hq => by cases hq) dX0_isInCut_24
set_option maxHeartbeats 4000000 in
set_option maxRecDepth 100000 in
/-- isCoveredByCut -/
theorem c_X0_isCoveredByCut (l : Launch) (D : va_G) (cI cZ : ClassId) (h a1 a2 a3 a4 a5 : Nat) (pr se rk ck cu : Nat → Int32) (o f : Nat → Nat) (sd : Nat → Bool) (c₀ : Nat → Nat) (n : Nat) (hok : cd_dk o f sd c₀ n pr se rk ck cu) (k : Nat) (hk : k < n) : Met l yX0_isCoveredByCut (.code yX0_isCoveredByCut cX0_isCoveredByCut 3 (some .boolean) :: tW) (rmL 1) (va_Pc [.ref h, .int (nI k)] (fun U => va_P D cdCl (dkW h a1 a2 a3 a4 a5 cI cZ pr se rk ck cu n) U.heap ∧ va_K D cdCl (dkT cI cZ) U)) (QcRead (cd_bI (cd_c6 (cd_ck o f (k + 1)) c₀))) 0 0 (fun _ => False) := by
  refine Met.ofW (cc := cX0_isCoveredByCut) (maxL := 3) (ret := (some .boolean)) (by decide) rfl ?_
  intro p e s m args below meth c s₁ B hml hv
  obtain ⟨rfl, hP, hK⟩ := hv
  have hx := B.exec
  have hb := B.bytes
  have hr := B.returns
  have hts := atoms_spec (ws := .code yX0_isCoveredByCut cX0_isCoveredByCut 3 (some .boolean) :: tW) B.pre
  have hown : s.vm.findClass RX0 = some m.cls := findClass_of_methodNamed B.named
  have hlocks := B.notSynchronized
  have hl := lv_entry ([.ref h, .int (nI k)]) (n := 3) (Nat.le_of_ble_eq_true rfl)
  rw [lg_entry_eq]
  generalize (lg_sl ([.ref h, .int (nI k)]) ++ List.replicate (3 - (lg_sl ([.ref h, .int (nI k)])).length) Slot.unset).toArray = ls at hl ⊢
  have hl : lv_has ls 3 [(0, .ref h), (1, .int (nI k))] := hl
  have hok0 := hok
  obtain ⟨hn, hwf, hc2, hpr, hse, hrk, hck, hcu⟩ := hok0
  have loop : ∀ (d p₁ : Nat) (ls : Array Slot), p₁ + d = 6 → (∀ q, q < p₁ → cd_ck o f (k + 1) q ≤ c₀ q) → lv_has ls 3 [(2, .int (nI p₁)), (0, .ref h), (1, .int (nI k))] → W p l e (rmL 1) s m (List.toArray [.ref h, .int (nI k)]) below meth c s.heap [] 0 0 (MQ below (QcRead (cd_bI (cd_c6 (cd_ck o f (k + 1)) c₀))) (List.toArray [.ref h, .int (nI k)]) s 0 0 (fun _ => False)) (F0 m 2 ls []) := by
    intro d
    induction d with
    | zero =>
      intro p₁ ls hd hq hl
      refine lv_iload_n hx hb dX0_isCoveredByCut_2 rfl (lv_at hl 0 rfl) ?_
      refine lv_bipush (v := nI 6) hx hb dX0_isCoveredByCut_3 (by decide) ?_
      refine cw_ge (tgt := 31) (x := p₁) (y := 6) hx hb dX0_isCoveredByCut_5 (by decide) (by omega) (by omega) (fun hc => ?_) (fun hc => ?_)
      · refine lv_iconst (v := nI 1) hx hb dX0_isCoveredByCut_31 (by decide) ?_
        refine cw_topi (y := cd_bI (cd_c6 (cd_ck o f (k + 1)) c₀)) (cd_bI_t (cd_c6_iff.mpr (fun q hq2 => hq q (by omega)))).symm ?_
        exact W.zret (v := cd_bI (cd_c6 (cd_ck o f (k + 1)) c₀)) hx hb hr (by first | rfl | exact cd_bI_nar) (fun t ht hW => ⟨rfl, ht⟩) (fun q hq => by cases hq) dX0_isCoveredByCut_32
      · exact absurd hc (by omega)
    | succ d ih =>
      intro p₁ ls hd hq hl
      refine lv_iload_n hx hb dX0_isCoveredByCut_2 rfl (lv_at hl 0 rfl) ?_
      refine lv_bipush (v := nI 6) hx hb dX0_isCoveredByCut_3 (by decide) ?_
      refine cw_ge (tgt := 31) (x := p₁) (y := 6) hx hb dX0_isCoveredByCut_5 (by decide) (by omega) (by omega) (fun hc => ?_) (fun hc => ?_)
      · exact absurd hc (by omega)
      · refine lv_aload_n hx hb dX0_isCoveredByCut_8 rfl (lv_at hl 1 rfl) ?_
        refine lv_iload_n hx hb dX0_isCoveredByCut_9 rfl (lv_at hl 2 rfl) ?_
        refine lv_iload_n hx hb dX0_isCoveredByCut_10 rfl (lv_at hl 0 rfl) ?_
        have h200 := cd_ck_200 (j := k + 1) (p := p₁) hwf hk hn
        have hcc := hc2 p₁ hc
        refine cw_callR (As := [.int (cd_pI (k + 1)), .int (nI p₁)]) ⟨hx, hb, hml, hown, hts⟩ (c_X0_clockOf l D cI cZ h a1 a2 a3 a4 a5 pr se rk ck cu o f sd c₀ n hok (k + 1) p₁ (by omega) hc) (kX0_X0_clockOf hts 0 0 0 0 ⟨by decide, by decide⟩) hK hP 0 rfl rfl rfl rfl hl.1 rfl (Nat.le_of_ble_eq_true rfl) dX0_isCoveredByCut_11 ⟨Nat.zero_le _, Nat.zero_le _⟩ ?_
        refine lv_aload_n hx hb dX0_isCoveredByCut_14 rfl (lv_at hl 1 rfl) ?_
        refine gX0_cutSizes hx hb hts hown hK hP 0 rfl rfl dX0_isCoveredByCut_15 ?_
        refine lv_iload_n hx hb dX0_isCoveredByCut_18 rfl (lv_at hl 0 rfl) ?_
        refine cw_iald hx hb hK hP 5 0 rfl rfl (k := p₁) (v := nI (c₀ p₁)) (by omega) (by decide) (hcu p₁ hc) dX0_isCoveredByCut_19 ?_
        refine cw_le (tgt := 25) (x := (cd_ck o f (k + 1) p₁)) (y := (c₀ p₁)) hx hb dX0_isCoveredByCut_20 (by decide) (by omega) (by omega) (fun hc3 => ?_) (fun hc3 => ?_)
        · refine lv_iinc (k := 0) (v := nI (p₁ + 1)) hx hb dX0_isCoveredByCut_25 hl rfl (cd_inc _) (by decide) rfl (fun ls hl => ?_)
          have hl : lv_has ls 3 [(2, .int (nI (p₁ + 1))), (0, .ref h), (1, .int (nI k))] := hl
          refine lv_goto (tgt := 2) hx hb dX0_isCoveredByCut_28 (by decide) ?_
          exact ih (p₁ + 1) ls (by omega) (fun q hq2 => by rcases Nat.lt_or_ge q p₁ with z | z
                                                           · exact hq q z
                                                           · have e : q = p₁ := by omega
                                                             rw [e]; exact hc3) hl
        · refine lv_iconst (v := nI 0) hx hb dX0_isCoveredByCut_23 (by decide) ?_
          refine cw_topi (y := cd_bI (cd_c6 (cd_ck o f (k + 1)) c₀)) (cd_bI_f (fun z => by have := cd_c6_iff.mp z p₁ hc; omega)).symm ?_
          exact W.zret (v := cd_bI (cd_c6 (cd_ck o f (k + 1)) c₀)) hx hb hr (by first | rfl | exact cd_bI_nar) (fun t ht hW => ⟨rfl, ht⟩) (fun q hq => by cases hq) dX0_isCoveredByCut_24
  refine lv_iconst (v := nI 0) hx hb dX0_isCoveredByCut_0 (by decide) ?_
  refine lv_istore_n hx hb dX0_isCoveredByCut_1 rfl hl (by decide) rfl (fun ls hl => ?_)
  have hl : lv_has ls 3 [(2, .int (nI 0)), (0, .ref h), (1, .int (nI k))] := hl
  exact loop 6 0 ls (by omega) (fun q hq => absurd hq (Nat.not_lt_zero _)) hl
set_option maxHeartbeats 4000000 in
set_option maxRecDepth 100000 in
/-- cutTotal -/
theorem c_X0_cutTotal (l : Launch) (D : va_G) (cI cZ : ClassId) (h a1 a2 a3 a4 a5 : Nat) (pr se rk ck cu : Nat → Int32) (o f : Nat → Nat) (sd : Nat → Bool) (c₀ : Nat → Nat) (n : Nat) (hok : cd_dk o f sd c₀ n pr se rk ck cu)  : Met l yX0_cutTotal (.code yX0_cutTotal cX0_cutTotal 3 (some .int) :: tW) (rmL 0) (va_Pc [.ref h] (fun U => va_P D cdCl (dkW h a1 a2 a3 a4 a5 cI cZ pr se rk ck cu n) U.heap ∧ va_K D cdCl (dkT cI cZ) U)) (QcRead (nI (cd_s6 c₀))) 0 0 (fun _ => False) := by
  refine Met.ofW (cc := cX0_cutTotal) (maxL := 3) (ret := (some .int)) (by decide) rfl ?_
  intro p e s m args below meth c s₁ B hml hv
  obtain ⟨rfl, hP, hK⟩ := hv
  have hx := B.exec
  have hb := B.bytes
  have hr := B.returns
  have hts := atoms_spec (ws := .code yX0_cutTotal cX0_cutTotal 3 (some .int) :: tW) B.pre
  have hown : s.vm.findClass RX0 = some m.cls := findClass_of_methodNamed B.named
  have hlocks := B.notSynchronized
  have hl := lv_entry ([.ref h]) (n := 3) (Nat.le_of_ble_eq_true rfl)
  rw [lg_entry_eq]
  generalize (lg_sl ([.ref h]) ++ List.replicate (3 - (lg_sl ([.ref h])).length) Slot.unset).toArray = ls at hl ⊢
  have hl : lv_has ls 3 [(0, .ref h)] := hl
  have hok0 := hok
  obtain ⟨hn, hwf, hc2, hpr, hse, hrk, hck, hcu⟩ := hok0
  have loop : ∀ (d p₁ : Nat) (ls : Array Slot), p₁ + d = 6 → lv_has ls 3 [(2, .int (nI p₁)), (1, .int (nI (cd_sm c₀ p₁))), (0, .ref h)] → W p l e (rmL 0) s m (List.toArray [.ref h]) below meth c s.heap [] 0 0 (MQ below (QcRead (nI (cd_s6 c₀))) (List.toArray [.ref h]) s 0 0 (fun _ => False)) (F0 m 4 ls []) := by
    intro d
    induction d with
    | zero =>
      intro p₁ ls hd hl
      refine lv_iload_n hx hb dX0_cutTotal_4 rfl (lv_at hl 0 rfl) ?_
      refine lv_bipush (v := nI 6) hx hb dX0_cutTotal_5 (by decide) ?_
      refine cw_ge (tgt := 25) (x := p₁) (y := 6) hx hb dX0_cutTotal_7 (by decide) (by omega) (by omega) (fun hc => ?_) (fun hc => ?_)
      · refine lv_iload_n hx hb dX0_cutTotal_25 rfl (lv_at hl 1 rfl) ?_
        refine cw_topi (y := nI (cd_s6 c₀)) (by rw [show p₁ = 6 by omega, cd_sm_6]) ?_
        exact W.iret (v := nI (cd_s6 c₀)) hx hb hr (fun t ht hW => ⟨rfl, ht⟩) (fun q hq => by cases hq) dX0_cutTotal_26
      · exact absurd hc (by omega)
    | succ d ih =>
      intro p₁ ls hd hl
      refine lv_iload_n hx hb dX0_cutTotal_4 rfl (lv_at hl 0 rfl) ?_
      refine lv_bipush (v := nI 6) hx hb dX0_cutTotal_5 (by decide) ?_
      refine cw_ge (tgt := 25) (x := p₁) (y := 6) hx hb dX0_cutTotal_7 (by decide) (by omega) (by omega) (fun hc => ?_) (fun hc => ?_)
      · exact absurd hc (by omega)
      · refine lv_iload_n hx hb dX0_cutTotal_10 rfl (lv_at hl 1 rfl) ?_
        refine lv_aload_n hx hb dX0_cutTotal_11 rfl (lv_at hl 2 rfl) ?_
        refine gX0_cutSizes hx hb hts hown hK hP 0 rfl rfl dX0_cutTotal_12 ?_
        refine lv_iload_n hx hb dX0_cutTotal_15 rfl (lv_at hl 0 rfl) ?_
        refine cw_iald hx hb hK hP 5 0 rfl rfl (k := p₁) (v := nI (c₀ p₁)) (by omega) (by decide) (hcu p₁ hc) dX0_cutTotal_16 ?_
        refine lv_iadd hx hb dX0_cutTotal_17 ?_
        refine cw_topi (y := nI ((cd_sm c₀ p₁) + (c₀ p₁))) (nI_add _ _) ?_
        refine lv_istore_n hx hb dX0_cutTotal_18 rfl hl (by decide) rfl (fun ls hl => ?_)
        have hl : lv_has ls 3 [(1, .int (nI ((cd_sm c₀ p₁) + (c₀ p₁)))), (2, .int (nI p₁)), (0, .ref h)] := hl
        refine lv_iinc (k := 1) (v := nI (p₁ + 1)) hx hb dX0_cutTotal_19 hl rfl (cd_inc _) (by decide) rfl (fun ls hl => ?_)
        have hl : lv_has ls 3 [(2, .int (nI (p₁ + 1))), (1, .int (nI ((cd_sm c₀ p₁) + (c₀ p₁)))), (0, .ref h)] := hl
        refine lv_goto (tgt := 4) hx hb dX0_cutTotal_22 (by decide) ?_
        exact ih (p₁ + 1) ls (by omega) hl
  refine lv_iconst (v := nI 0) hx hb dX0_cutTotal_0 (by decide) ?_
  refine lv_istore_n hx hb dX0_cutTotal_1 rfl hl (by decide) rfl (fun ls hl => ?_)
  have hl : lv_has ls 3 [(1, .int (nI 0)), (0, .ref h)] := hl
  refine lv_iconst (v := nI 0) hx hb dX0_cutTotal_2 (by decide) ?_
  refine lv_istore_n hx hb dX0_cutTotal_3 rfl hl (by decide) rfl (fun ls hl => ?_)
  have hl : lv_has ls 3 [(2, .int (nI 0)), (1, .int (nI 0)), (0, .ref h)] := hl
  exact loop 6 0 ls (by omega) hl
set_option maxHeartbeats 4000000 in
set_option maxRecDepth 100000 in
/-- countBefore -/
theorem c_X0_countBefore (l : Launch) (D : va_G) (cI cZ : ClassId) (h a1 a2 a3 a4 a5 : Nat) (pr se rk ck cu : Nat → Int32) (o f : Nat → Nat) (sd : Nat → Bool) (c₀ : Nat → Nat) (n : Nat) (hok : cd_dk o f sd c₀ n pr se rk ck cu) (k : Nat) (hk : k < n) : Met l yX0_countBefore (.code yX0_countBefore cX0_countBefore 4 (some .int) :: tW) (rmL 1) (va_Pc [.ref h, .int (nI k)] (fun U => va_P D cdCl (dkW h a1 a2 a3 a4 a5 cI cZ pr se rk ck cu n) U.heap ∧ va_K D cdCl (dkT cI cZ) U)) (QcRead (nI (cd_s6 (cd_ck o f (k + 1)) - 1))) 0 0 (fun _ => False) := by
  refine Met.ofW (cc := cX0_countBefore) (maxL := 4) (ret := (some .int)) (by decide) rfl ?_
  intro p e s m args below meth c s₁ B hml hv
  obtain ⟨rfl, hP, hK⟩ := hv
  have hx := B.exec
  have hb := B.bytes
  have hr := B.returns
  have hts := atoms_spec (ws := .code yX0_countBefore cX0_countBefore 4 (some .int) :: tW) B.pre
  have hown : s.vm.findClass RX0 = some m.cls := findClass_of_methodNamed B.named
  have hlocks := B.notSynchronized
  have hl := lv_entry ([.ref h, .int (nI k)]) (n := 4) (Nat.le_of_ble_eq_true rfl)
  rw [lg_entry_eq]
  generalize (lg_sl ([.ref h, .int (nI k)]) ++ List.replicate (4 - (lg_sl ([.ref h, .int (nI k)])).length) Slot.unset).toArray = ls at hl ⊢
  have hl : lv_has ls 4 [(0, .ref h), (1, .int (nI k))] := hl
  have hok0 := hok
  obtain ⟨hn, hwf, hc2, hpr, hse, hrk, hck, hcu⟩ := hok0
  have loop : ∀ (d p₁ : Nat) (ls : Array Slot), p₁ + d = 6 → lv_has ls 4 [(3, .int (nI p₁)), (2, .int (nI (cd_sm (cd_ck o f (k + 1)) p₁))), (0, .ref h), (1, .int (nI k))] → W p l e (rmL 1) s m (List.toArray [.ref h, .int (nI k)]) below meth c s.heap [] 0 0 (MQ below (QcRead (nI (cd_s6 (cd_ck o f (k + 1)) - 1))) (List.toArray [.ref h, .int (nI k)]) s 0 0 (fun _ => False)) (F0 m 4 ls []) := by
    intro d
    induction d with
    | zero =>
      intro p₁ ls hd hl
      refine lv_iload_n hx hb dX0_countBefore_4 rfl (lv_at hl 0 rfl) ?_
      refine lv_bipush (v := nI 6) hx hb dX0_countBefore_5 (by decide) ?_
      refine cw_ge (tgt := 25) (x := p₁) (y := 6) hx hb dX0_countBefore_7 (by decide) (by omega) (by omega) (fun hc => ?_) (fun hc => ?_)
      · have hps := cd_ck_pos hwf hk
        refine lv_iload_n hx hb dX0_countBefore_25 rfl (lv_at hl 1 rfl) ?_
        refine lv_iconst (v := nI 1) hx hb dX0_countBefore_26 (by decide) ?_
        refine lv_isub hx hb dX0_countBefore_27 ?_
        refine cw_topi (y := nI (cd_s6 (cd_ck o f (k + 1)) - 1)) (by rw [show p₁ = 6 by omega, cd_sm_6]; exact pk_sub (b := 1) (by omega)) ?_
        exact W.iret (v := nI (cd_s6 (cd_ck o f (k + 1)) - 1)) hx hb hr (fun t ht hW => ⟨rfl, ht⟩) (fun q hq => by cases hq) dX0_countBefore_28
      · exact absurd hc (by omega)
    | succ d ih =>
      intro p₁ ls hd hl
      refine lv_iload_n hx hb dX0_countBefore_4 rfl (lv_at hl 0 rfl) ?_
      refine lv_bipush (v := nI 6) hx hb dX0_countBefore_5 (by decide) ?_
      refine cw_ge (tgt := 25) (x := p₁) (y := 6) hx hb dX0_countBefore_7 (by decide) (by omega) (by omega) (fun hc => ?_) (fun hc => ?_)
      · exact absurd hc (by omega)
      · refine lv_iload_n hx hb dX0_countBefore_10 rfl (lv_at hl 1 rfl) ?_
        refine lv_aload_n hx hb dX0_countBefore_11 rfl (lv_at hl 2 rfl) ?_
        refine lv_iload_n hx hb dX0_countBefore_12 rfl (lv_at hl 3 rfl) ?_
        refine lv_iload_n hx hb dX0_countBefore_13 rfl (lv_at hl 0 rfl) ?_
        refine cw_callR (As := [.int (cd_pI (k + 1)), .int (nI p₁)]) ⟨hx, hb, hml, hown, hts⟩ (c_X0_clockOf l D cI cZ h a1 a2 a3 a4 a5 pr se rk ck cu o f sd c₀ n hok (k + 1) p₁ (by omega) hc) (kX0_X0_clockOf hts 0 0 0 0 ⟨by decide, by decide⟩) hK hP 0 rfl rfl rfl rfl hl.1 rfl (Nat.le_of_ble_eq_true rfl) dX0_countBefore_14 ⟨Nat.zero_le _, Nat.zero_le _⟩ ?_
        refine lv_iadd hx hb dX0_countBefore_17 ?_
        refine cw_topi (y := nI ((cd_sm (cd_ck o f (k + 1)) p₁) + (cd_ck o f (k + 1) p₁))) (nI_add _ _) ?_
        refine lv_istore_n hx hb dX0_countBefore_18 rfl hl (by decide) rfl (fun ls hl => ?_)
        have hl : lv_has ls 4 [(2, .int (nI ((cd_sm (cd_ck o f (k + 1)) p₁) + (cd_ck o f (k + 1) p₁)))), (3, .int (nI p₁)), (0, .ref h), (1, .int (nI k))] := hl
        refine lv_iinc (k := 1) (v := nI (p₁ + 1)) hx hb dX0_countBefore_19 hl rfl (cd_inc _) (by decide) rfl (fun ls hl => ?_)
        have hl : lv_has ls 4 [(3, .int (nI (p₁ + 1))), (2, .int (nI ((cd_sm (cd_ck o f (k + 1)) p₁) + (cd_ck o f (k + 1) p₁)))), (0, .ref h), (1, .int (nI k))] := hl
        refine lv_goto (tgt := 4) hx hb dX0_countBefore_22 (by decide) ?_
        exact ih (p₁ + 1) ls (by omega) hl
  refine lv_iconst (v := nI 0) hx hb dX0_countBefore_0 (by decide) ?_
  refine lv_istore_n hx hb dX0_countBefore_1 rfl hl (by decide) rfl (fun ls hl => ?_)
  have hl : lv_has ls 4 [(2, .int (nI 0)), (0, .ref h), (1, .int (nI k))] := hl
  refine lv_iconst (v := nI 0) hx hb dX0_countBefore_2 (by decide) ?_
  refine lv_istore_n hx hb dX0_countBefore_3 rfl hl (by decide) rfl (fun ls hl => ?_)
  have hl : lv_has ls 4 [(3, .int (nI 0)), (2, .int (nI 0)), (0, .ref h), (1, .int (nI k))] := hl
  exact loop 6 0 ls (by omega) hl
set_option maxHeartbeats 4000000 in
set_option maxRecDepth 100000 in
/-- apartPairs -/
theorem c_X0_apartPairs (l : Launch) (D : va_G) (cI cZ : ClassId) (h a1 a2 a3 a4 a5 : Nat) (pr se rk ck cu : Nat → Int32) (o f : Nat → Nat) (sd : Nat → Bool) (c₀ : Nat → Nat) (n : Nat) (hok : cd_dk o f sd c₀ n pr se rk ck cu)  : Met l yX0_apartPairs (.code yX0_apartPairs cX0_apartPairs 3 (some .int) :: tW) (rmL 2) (va_Pc [.ref h] (fun U => va_P D cdCl (dkW h a1 a2 a3 a4 a5 cI cZ pr se rk ck cu n) U.heap ∧ va_K D cdCl (dkT cI cZ) U)) (QcRead (nI (cd_ap o f n))) 0 0 (fun _ => False) := by
  refine Met.ofW (cc := cX0_apartPairs) (maxL := 3) (ret := (some .int)) (by decide) rfl ?_
  intro p e s m args below meth c s₁ B hml hv
  obtain ⟨rfl, hP, hK⟩ := hv
  have hx := B.exec
  have hb := B.bytes
  have hr := B.returns
  have hts := atoms_spec (ws := .code yX0_apartPairs cX0_apartPairs 3 (some .int) :: tW) B.pre
  have hown : s.vm.findClass RX0 = some m.cls := findClass_of_methodNamed B.named
  have hlocks := B.notSynchronized
  have hl := lv_entry ([.ref h]) (n := 3) (Nat.le_of_ble_eq_true rfl)
  rw [lg_entry_eq]
  generalize (lg_sl ([.ref h]) ++ List.replicate (3 - (lg_sl ([.ref h])).length) Slot.unset).toArray = ls at hl ⊢
  have hl : lv_has ls 3 [(0, .ref h)] := hl
  have hok0 := hok
  obtain ⟨hn, hwf, hc2, hpr, hse, hrk, hck, hcu⟩ := hok0
  have loop : ∀ (d g : Nat) (ls : Array Slot), g + d = n → lv_has ls 3 [(2, .int (nI g)), (1, .int (nI (cd_ap o f g))), (0, .ref h)] → W p l e (rmL 2) s m (List.toArray [.ref h]) below meth c s.heap [] 0 0 (MQ below (QcRead (nI (cd_ap o f n))) (List.toArray [.ref h]) s 0 0 (fun _ => False)) (F0 m 4 ls []) := by
    intro d
    induction d with
    | zero =>
      intro g ls hd hl
      refine lv_iload_n hx hb dX0_apartPairs_4 rfl (lv_at hl 0 rfl) ?_
      refine lv_aload_n hx hb dX0_apartPairs_5 rfl (lv_at hl 2 rfl) ?_
      refine gX0_made hx hb hts hown hK hP 0 rfl rfl dX0_apartPairs_6 ?_
      refine cw_ge (tgt := 28) (x := g) (y := n) hx hb dX0_apartPairs_9 (by decide) (by omega) (by omega) (fun hc => ?_) (fun hc => ?_)
      · refine lv_iload_n hx hb dX0_apartPairs_28 rfl (lv_at hl 1 rfl) ?_
        refine cw_topi (y := nI (cd_ap o f n)) (by rw [show g = n by omega]) ?_
        exact W.iret (v := nI (cd_ap o f n)) hx hb hr (fun t ht hW => ⟨rfl, ht⟩) (fun q hq => by cases hq) dX0_apartPairs_29
      · exact absurd hc (by omega)
    | succ d ih =>
      intro g ls hd hl
      refine lv_iload_n hx hb dX0_apartPairs_4 rfl (lv_at hl 0 rfl) ?_
      refine lv_aload_n hx hb dX0_apartPairs_5 rfl (lv_at hl 2 rfl) ?_
      refine gX0_made hx hb hts hown hK hP 0 rfl rfl dX0_apartPairs_6 ?_
      refine cw_ge (tgt := 28) (x := g) (y := n) hx hb dX0_apartPairs_9 (by decide) (by omega) (by omega) (fun hc => ?_) (fun hc => ?_)
      · exact absurd hc (by omega)
      · refine lv_iload_n hx hb dX0_apartPairs_12 rfl (lv_at hl 1 rfl) ?_
        refine lv_iload_n hx hb dX0_apartPairs_13 rfl (lv_at hl 0 rfl) ?_
        refine lv_aload_n hx hb dX0_apartPairs_14 rfl (lv_at hl 2 rfl) ?_
        refine lv_iload_n hx hb dX0_apartPairs_15 rfl (lv_at hl 0 rfl) ?_
        refine cw_callR (As := [.int (nI g)]) ⟨hx, hb, hml, hown, hts⟩ (c_X0_countBefore l D cI cZ h a1 a2 a3 a4 a5 pr se rk ck cu o f sd c₀ n hok g hc) (kX0_X0_countBefore hts 1 0 0 30 ⟨by decide, by decide⟩) hK hP 0 rfl rfl rfl rfl hl.1 rfl (Nat.le_of_ble_eq_true rfl) dX0_apartPairs_16 ⟨Nat.zero_le _, Nat.zero_le _⟩ ?_
        have hps := cd_ck_pos hwf hc
        have hle := cd_ct_le (P := fun e => cd_mn o (o e) e < cd_ck o f (g + 1) (o e)) g
        refine lv_isub hx hb dX0_apartPairs_19 ?_
        refine cw_topi (y := nI (g - (cd_s6 (cd_ck o f (g + 1)) - 1))) (pk_sub (by omega)) ?_
        refine lv_iadd hx hb dX0_apartPairs_20 ?_
        refine cw_topi (y := nI ((cd_ap o f g) + (g - (cd_s6 (cd_ck o f (g + 1)) - 1)))) (nI_add _ _) ?_
        refine lv_istore_n hx hb dX0_apartPairs_21 rfl hl (by decide) rfl (fun ls hl => ?_)
        have hl : lv_has ls 3 [(1, .int (nI ((cd_ap o f g) + (g - (cd_s6 (cd_ck o f (g + 1)) - 1))))), (2, .int (nI g)), (0, .ref h)] := hl
        refine lv_iinc (k := 1) (v := nI (g + 1)) hx hb dX0_apartPairs_22 hl rfl (cd_inc _) (by decide) rfl (fun ls hl => ?_)
        have hl : lv_has ls 3 [(2, .int (nI (g + 1))), (1, .int (nI ((cd_ap o f g) + (g - (cd_s6 (cd_ck o f (g + 1)) - 1))))), (0, .ref h)] := hl
        refine lv_goto (tgt := 4) hx hb dX0_apartPairs_25 (by decide) ?_
        exact ih (g + 1) ls (by omega) hl
  refine lv_iconst (v := nI 0) hx hb dX0_apartPairs_0 (by decide) ?_
  refine lv_istore_n hx hb dX0_apartPairs_1 rfl hl (by decide) rfl (fun ls hl => ?_)
  have hl : lv_has ls 3 [(1, .int (nI 0)), (0, .ref h)] := hl
  refine lv_iconst (v := nI 0) hx hb dX0_apartPairs_2 (by decide) ?_
  refine lv_istore_n hx hb dX0_apartPairs_3 rfl hl (by decide) rfl (fun ls hl => ?_)
  have hl : lv_has ls 3 [(2, .int (nI 0)), (1, .int (nI 0)), (0, .ref h)] := hl
  exact loop n 0 ls (by omega) hl
set_option maxHeartbeats 4000000 in
set_option maxRecDepth 100000 in
/-- greatestRank -/
theorem c_X0_greatestRank (l : Launch) (D : va_G) (cI cZ : ClassId) (h a1 a2 a3 a4 a5 : Nat) (pr se rk ck cu : Nat → Int32) (o f : Nat → Nat) (sd : Nat → Bool) (c₀ : Nat → Nat) (n : Nat) (hok : cd_dk o f sd c₀ n pr se rk ck cu)  : Met l yX0_greatestRank (.code yX0_greatestRank cX0_greatestRank 3 (some .int) :: tW) (rmL 1) (va_Pc [.ref h] (fun U => va_P D cdCl (dkW h a1 a2 a3 a4 a5 cI cZ pr se rk ck cu n) U.heap ∧ va_K D cdCl (dkT cI cZ) U)) (QcRead (nI (cd_gr o f n))) 0 0 (fun _ => False) := by
  refine Met.ofW (cc := cX0_greatestRank) (maxL := 3) (ret := (some .int)) (by decide) rfl ?_
  intro p e s m args below meth c s₁ B hml hv
  obtain ⟨rfl, hP, hK⟩ := hv
  have hx := B.exec
  have hb := B.bytes
  have hr := B.returns
  have hts := atoms_spec (ws := .code yX0_greatestRank cX0_greatestRank 3 (some .int) :: tW) B.pre
  have hown : s.vm.findClass RX0 = some m.cls := findClass_of_methodNamed B.named
  have hlocks := B.notSynchronized
  have hl := lv_entry ([.ref h]) (n := 3) (Nat.le_of_ble_eq_true rfl)
  rw [lg_entry_eq]
  generalize (lg_sl ([.ref h]) ++ List.replicate (3 - (lg_sl ([.ref h])).length) Slot.unset).toArray = ls at hl ⊢
  have hl : lv_has ls 3 [(0, .ref h)] := hl
  have hok0 := hok
  obtain ⟨hn, hwf, hc2, hpr, hse, hrk, hck, hcu⟩ := hok0
  have loop : ∀ (d g : Nat) (ls : Array Slot), g + d = n → cd_gr o f g ≤ 200 → lv_has ls 3 [(2, .int (nI g)), (1, .int (nI (cd_gr o f g))), (0, .ref h)] → W p l e (rmL 1) s m (List.toArray [.ref h]) below meth c s.heap [] 0 0 (MQ below (QcRead (nI (cd_gr o f n))) (List.toArray [.ref h]) s 0 0 (fun _ => False)) (F0 m 4 ls []) := by
    intro d
    induction d with
    | zero =>
      intro g ls hd hg2 hl
      refine lv_iload_n hx hb dX0_greatestRank_4 rfl (lv_at hl 0 rfl) ?_
      refine lv_aload_n hx hb dX0_greatestRank_5 rfl (lv_at hl 2 rfl) ?_
      refine gX0_made hx hb hts hown hK hP 0 rfl rfl dX0_greatestRank_6 ?_
      refine cw_ge (tgt := 28) (x := g) (y := n) hx hb dX0_greatestRank_9 (by decide) (by omega) (by omega) (fun hc => ?_) (fun hc => ?_)
      · refine lv_iload_n hx hb dX0_greatestRank_28 rfl (lv_at hl 1 rfl) ?_
        refine cw_topi (y := nI (cd_gr o f n)) (by rw [show g = n by omega]) ?_
        exact W.iret (v := nI (cd_gr o f n)) hx hb hr (fun t ht hW => ⟨rfl, ht⟩) (fun q hq => by cases hq) dX0_greatestRank_29
      · exact absurd hc (by omega)
    | succ d ih =>
      intro g ls hd hg2 hl
      refine lv_iload_n hx hb dX0_greatestRank_4 rfl (lv_at hl 0 rfl) ?_
      refine lv_aload_n hx hb dX0_greatestRank_5 rfl (lv_at hl 2 rfl) ?_
      refine gX0_made hx hb hts hown hK hP 0 rfl rfl dX0_greatestRank_6 ?_
      refine cw_ge (tgt := 28) (x := g) (y := n) hx hb dX0_greatestRank_9 (by decide) (by omega) (by omega) (fun hc => ?_) (fun hc => ?_)
      · exact absurd hc (by omega)
      · refine lv_iload_n hx hb dX0_greatestRank_12 rfl (lv_at hl 1 rfl) ?_
        refine lv_aload_n hx hb dX0_greatestRank_13 rfl (lv_at hl 2 rfl) ?_
        refine lv_iload_n hx hb dX0_greatestRank_14 rfl (lv_at hl 0 rfl) ?_
        have hrl := cd_rk_le hwf (g + 1) hc
        refine cw_callR (As := [.int (cd_pI (g + 1))]) ⟨hx, hb, hml, hown, hts⟩ (c_X0_rankOf l D cI cZ h a1 a2 a3 a4 a5 pr se rk ck cu o f sd c₀ n hok (g + 1) hc) (kX0_X0_rankOf hts 0 0 0 0 ⟨by decide, by decide⟩) hK hP 0 rfl rfl rfl rfl hl.1 rfl (Nat.le_of_ble_eq_true rfl) dX0_greatestRank_15 ⟨Nat.zero_le _, Nat.zero_le _⟩ ?_
        refine va_mmax hx hb (hml.trans hl.1.symm) hown (hts _ (List.mem_cons_of_mem _ tm_66)) (hts _ (List.mem_cons_of_mem _ tm_67)) (hts _ (List.mem_cons_of_mem _ tm_8)) (hts _ (List.mem_cons_of_mem _ tm_68)) (Nat.le_of_ble_eq_true rfl) (Nat.le_of_ble_eq_true rfl) (Nat.zero_le _) (Nat.zero_le _) dX0_greatestRank_18 ?_
        refine cw_topi (y := nI (cd_gr o f (g + 1))) (cd_max (by omega) (by omega)) ?_
        refine lv_istore_n hx hb dX0_greatestRank_21 rfl hl (by decide) rfl (fun ls hl => ?_)
        have hl : lv_has ls 3 [(1, .int (nI (cd_gr o f (g + 1)))), (2, .int (nI g)), (0, .ref h)] := hl
        refine lv_iinc (k := 1) (v := nI (g + 1)) hx hb dX0_greatestRank_22 hl rfl (cd_inc _) (by decide) rfl (fun ls hl => ?_)
        have hl : lv_has ls 3 [(2, .int (nI (g + 1))), (1, .int (nI (cd_gr o f (g + 1)))), (0, .ref h)] := hl
        refine lv_goto (tgt := 4) hx hb dX0_greatestRank_25 (by decide) ?_
        exact ih (g + 1) ls (by omega) (by show max _ _ ≤ _; omega) hl
  refine lv_iconst (v := nI 0) hx hb dX0_greatestRank_0 (by decide) ?_
  refine lv_istore_n hx hb dX0_greatestRank_1 rfl hl (by decide) rfl (fun ls hl => ?_)
  have hl : lv_has ls 3 [(1, .int (nI 0)), (0, .ref h)] := hl
  refine lv_iconst (v := nI 0) hx hb dX0_greatestRank_2 (by decide) ?_
  refine lv_istore_n hx hb dX0_greatestRank_3 rfl hl (by decide) rfl (fun ls hl => ?_)
  have hl : lv_has ls 3 [(2, .int (nI 0)), (1, .int (nI 0)), (0, .ref h)] := hl
  exact loop n 0 ls (by omega) (Nat.zero_le _) hl
