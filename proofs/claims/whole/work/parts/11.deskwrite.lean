/-! THE DESK: its methods that write -/
set_option maxHeartbeats 4000000 in
set_option maxRecDepth 100000 in
/-- growCutTo -/
theorem c_X0_growCutTo (l : Launch) (D : va_G) (cI cZ : ClassId) (h a1 a2 a3 a4 a5 : Nat) (pr se rk ck cu : Nat → Int32) (o f : Nat → Nat) (sd : Nat → Bool) (c₀ : Nat → Nat) (n : Nat) (hok : cd_dk o f sd c₀ n pr se rk ck cu) (sz : Nat) (k : Nat) (hk : k < n) : Met l yX0_growCutTo (.code yX0_growCutTo cX0_growCutTo 3 none :: tW) (rmL 1) (cw_Pc D cdCl (dkT cI cZ) (dkW h a1 a2 a3 a4 a5 cI cZ pr se rk ck cu n) sz [.ref h, .int (nI k)]) (va_Qv (fun (u : dkS) => dkP o f sd (fun p => max (c₀ p) (cd_ck o f (k + 1) p)) n u) (fun u t => va_P D cdCl (dkU h a1 a2 a3 a4 a5 cI cZ (n) u) t.heap) (va_A (dkW h a1 a2 a3 a4 a5 cI cZ pr se rk ck cu n) sz)) 0 0 (va_A (dkW h a1 a2 a3 a4 a5 cI cZ pr se rk ck cu n) sz) := by
  refine Met.ofW (cc := cX0_growCutTo) (maxL := 3) (ret := none) (by decide) rfl ?_
  intro p e s m args below meth c s₁ B hml hv
  obtain ⟨rfl, hsz, hP, hK, hD0⟩ := hv
  have hx := B.exec
  have hb := B.bytes
  have hr := B.returns
  have hts := atoms_spec (ws := .code yX0_growCutTo cX0_growCutTo 3 none :: tW) B.pre
  have hown : s.vm.findClass RX0 = some m.cls := findClass_of_methodNamed B.named
  have hlocks := B.notSynchronized
  have hl := lv_entry ([.ref h, .int (nI k)]) (n := 3) (Nat.le_of_ble_eq_true rfl)
  rw [lg_entry_eq]
  generalize (lg_sl ([.ref h, .int (nI k)]) ++ List.replicate (3 - (lg_sl ([.ref h, .int (nI k)])).length) Slot.unset).toArray = ls at hl ⊢
  have hl : lv_has ls 3 [(0, .ref h), (1, .int (nI k))] := hl
  subst hsz
  have hD := hD0.self (sz := s.heap.size)
  generalize hAe : va_A (dkW h a1 a2 a3 a4 a5 cI cZ pr se rk ck cu n) s.heap.size = A at hD ⊢
  have hA : ∀ q : Nat, s.heap.size ≤ q → A q := fun q h => by rw [← hAe]; exact Or.inr h
  have hS : va_S A s.heap s.heap [] := va_S.rf
  have hok0 := hok
  obtain ⟨hn, hwf, hc2, hpr, hse, hrk, hck, hcu⟩ := hok0
  have loop : ∀ (d p₁ : Nat) (cu : Nat → Int32) (H : Heap) (locs : List Loc) (ls : Array Slot), p₁ + d = 6 → cd_dk o f sd (cd_gw o f c₀ k p₁) n pr se rk ck cu → va_P D cdCl (dkW h a1 a2 a3 a4 a5 cI cZ pr se rk ck cu n) H → va_S A s.heap H locs → lv_has ls 3 [(2, .int (nI p₁)), (0, .ref h), (1, .int (nI k))] → W p l e (rmL 1) s m (List.toArray [.ref h, .int (nI k)]) below meth c H locs 0 0 (MQ below (va_Qv (fun (u : dkS) => dkP o f sd (fun p => max (c₀ p) (cd_ck o f (k + 1) p)) n u) (fun u t => va_P D cdCl (dkU h a1 a2 a3 a4 a5 cI cZ (n) u) t.heap) (A)) (List.toArray [.ref h, .int (nI k)]) s 0 0 A) (F0 m 2 ls []) := by
    intro d
    induction d with
    | zero =>
      intro p₁ cu H locs ls hd hok hP hS hl
      have hD : va_D A (dkW h a1 a2 a3 a4 a5 cI cZ pr se rk ck cu n) := cw_D_same hD rfl
      have hcu := hok.2.2.2.2.2.2.2
      refine lv_iload_n hx hb dX0_growCutTo_2 rfl (lv_at hl 0 rfl) ?_
      refine lv_bipush (v := nI 6) hx hb dX0_growCutTo_3 (by decide) ?_
      refine cw_ge (tgt := 35) (x := p₁) (y := 6) hx hb dX0_growCutTo_5 (by decide) (by omega) (by omega) (fun hc => ?_) (fun hc => ?_)
      · have hok := cd_dk_c (c' := (fun p => max (c₀ p) (cd_ck o f (k + 1) p))) hok (fun p hp => by show (if _ then _ else _) = _; rw [if_pos (by omega)])
        exact W.vret hx hb hr (fun t ht hW => ⟨⟨(pr, se, rk, ck, cu), rfl, hok, by show va_P D cdCl _ t.heap; rw [ht]; exact hP⟩, hS.F ht⟩) hS.2.2 dX0_growCutTo_35
      · exact absurd hc (by omega)
    | succ d ih =>
      intro p₁ cu H locs ls hd hok hP hS hl
      have hD : va_D A (dkW h a1 a2 a3 a4 a5 cI cZ pr se rk ck cu n) := cw_D_same hD rfl
      have hcu := hok.2.2.2.2.2.2.2
      refine lv_iload_n hx hb dX0_growCutTo_2 rfl (lv_at hl 0 rfl) ?_
      refine lv_bipush (v := nI 6) hx hb dX0_growCutTo_3 (by decide) ?_
      refine cw_ge (tgt := 35) (x := p₁) (y := 6) hx hb dX0_growCutTo_5 (by decide) (by omega) (by omega) (fun hc => ?_) (fun hc => ?_)
      · exact absurd hc (by omega)
      · have h200 := cd_ck_200 (j := k + 1) (p := p₁) hwf hk hn
        have hcc := hc2 p₁ hc
        have eg : cd_gw o f c₀ k p₁ p₁ = c₀ p₁ := if_neg (by omega)
        refine lv_aload_n hx hb dX0_growCutTo_8 rfl (lv_at hl 1 rfl) ?_
        refine gX0_cutSizes hx hb hts hown hK hP 0 rfl rfl dX0_growCutTo_9 ?_
        refine lv_iload_n hx hb dX0_growCutTo_12 rfl (lv_at hl 0 rfl) ?_
        refine lv_aload_n hx hb dX0_growCutTo_13 rfl (lv_at hl 1 rfl) ?_
        refine gX0_cutSizes hx hb hts hown hK hP 0 rfl rfl dX0_growCutTo_14 ?_
        refine lv_iload_n hx hb dX0_growCutTo_17 rfl (lv_at hl 0 rfl) ?_
        refine cw_iald hx hb hK hP 5 0 rfl rfl (k := p₁) (v := nI (c₀ p₁)) (by omega) (by decide) (by rw [hcu p₁ hc, eg]) dX0_growCutTo_18 ?_
        refine lv_aload_n hx hb dX0_growCutTo_19 rfl (lv_at hl 1 rfl) ?_
        refine lv_iload_n hx hb dX0_growCutTo_20 rfl (lv_at hl 2 rfl) ?_
        refine lv_iload_n hx hb dX0_growCutTo_21 rfl (lv_at hl 0 rfl) ?_
        refine cw_callR (As := [.int (cd_pI (k + 1)), .int (nI p₁)]) ⟨hx, hb, hml, hown, hts⟩ (c_X0_clockOf l D cI cZ h a1 a2 a3 a4 a5 pr se rk ck cu o f sd (cd_gw o f c₀ k p₁) n hok (k + 1) p₁ (by omega) hc) (kX0_X0_clockOf hts 0 0 0 0 ⟨by decide, by decide⟩) hK hP 0 rfl rfl rfl rfl hl.1 rfl (Nat.le_of_ble_eq_true rfl) dX0_growCutTo_22 ⟨Nat.zero_le _, Nat.zero_le _⟩ ?_
        refine va_mmax hx hb (hml.trans hl.1.symm) hown (hts _ (List.mem_cons_of_mem _ tm_66)) (hts _ (List.mem_cons_of_mem _ tm_67)) (hts _ (List.mem_cons_of_mem _ tm_8)) (hts _ (List.mem_cons_of_mem _ tm_68)) (Nat.le_of_ble_eq_true rfl) (Nat.le_of_ble_eq_true rfl) (Nat.zero_le _) (Nat.zero_le _) dX0_growCutTo_25 ?_
        refine cw_topi (y := nI (max (c₀ p₁) (cd_ck o f (k + 1) p₁))) (cd_max (by omega) (by omega)) ?_
        refine cw_iast hx hb hK hP hD hS 5 0 rfl rfl (k := p₁) (by omega) (by decide) dX0_growCutTo_28 (fun H locs hP hD hS => ?_)
        have hP : va_P D cdCl (dkW h a1 a2 a3 a4 a5 cI cZ pr se rk ck (upd cu p₁ (nI (max (c₀ p₁) (cd_ck o f (k + 1) p₁)))) n) H := hP
        have hD : va_D A (dkW h a1 a2 a3 a4 a5 cI cZ pr se rk ck (upd cu p₁ (nI (max (c₀ p₁) (cd_ck o f (k + 1) p₁)))) n) := hD
        have hok := cd_dk_cu (q := p₁) (v := max (c₀ p₁) (cd_ck o f (k + 1) p₁)) hok (by omega)
        rw [← cd_gw_s] at hok
        refine lv_iinc (k := 0) (v := nI (p₁ + 1)) hx hb dX0_growCutTo_29 hl rfl (cd_inc _) (by decide) rfl (fun ls hl => ?_)
        have hl : lv_has ls 3 [(2, .int (nI (p₁ + 1))), (0, .ref h), (1, .int (nI k))] := hl
        refine lv_goto (tgt := 2) hx hb dX0_growCutTo_32 (by decide) ?_
        exact ih (p₁ + 1) _ H locs ls (by omega) hok hP hS hl
  refine lv_iconst (v := nI 0) hx hb dX0_growCutTo_0 (by decide) ?_
  refine lv_istore_n hx hb dX0_growCutTo_1 rfl hl (by decide) rfl (fun ls hl => ?_)
  have hl : lv_has ls 3 [(2, .int (nI 0)), (0, .ref h), (1, .int (nI k))] := hl
  exact loop 6 0 cu s.heap [] ls (by omega) (cd_dk_c hok (fun p hp => (if_neg (by omega)).symm)) hP hS hl
set_option maxHeartbeats 4000000 in
set_option maxRecDepth 100000 in
/-- add -/
theorem c_X0_add (l : Launch) (D : va_G) (cI cZ : ClassId) (h a1 a2 a3 a4 a5 : Nat) (pr se rk ck cu : Nat → Int32) (o f : Nat → Nat) (sd : Nat → Bool) (c₀ : Nat → Nat) (n : Nat) (hok : cd_dk o f sd c₀ n pr se rk ck cu) (sz : Nat) (p₁ j : Nat) (b : Bool) (hp : p₁ < 6) (hj : j ≤ n) (hr2 : n < 200) : Met l yX0_add (.code yX0_add cX0_add 7 (some .int) :: tW) (rmL 1) (cw_Pc D cdCl (dkT cI cZ) (dkW h a1 a2 a3 a4 a5 cI cZ pr se rk ck cu n) sz [.ref h, .int (nI p₁), .int (cd_bI (b = true)), .int (cd_pI j)]) (va_Qi (fun (r : Int32) (u : dkS) => r = nI n ∧ dkP (cd_up o n p₁) (cd_up f n j) (cd_up sd n b) c₀ (n + 1) u) (fun u t => va_P D cdCl (dkU h a1 a2 a3 a4 a5 cI cZ (n + 1) u) t.heap) (va_A (dkW h a1 a2 a3 a4 a5 cI cZ pr se rk ck cu n) sz)) 0 0 (va_A (dkW h a1 a2 a3 a4 a5 cI cZ pr se rk ck cu n) sz) := by
  refine Met.ofW (cc := cX0_add) (maxL := 7) (ret := (some .int)) (by decide) rfl ?_
  intro p e s m args below meth c s₁ B hml hv
  obtain ⟨rfl, hsz, hP, hK, hD0⟩ := hv
  have hx := B.exec
  have hb := B.bytes
  have hr := B.returns
  have hts := atoms_spec (ws := .code yX0_add cX0_add 7 (some .int) :: tW) B.pre
  have hown : s.vm.findClass RX0 = some m.cls := findClass_of_methodNamed B.named
  have hlocks := B.notSynchronized
  have hl := lv_entry ([.ref h, .int (nI p₁), .int (cd_bI (b = true)), .int (cd_pI j)]) (n := 7) (Nat.le_of_ble_eq_true rfl)
  rw [lg_entry_eq]
  generalize (lg_sl ([.ref h, .int (nI p₁), .int (cd_bI (b = true)), .int (cd_pI j)]) ++ List.replicate (7 - (lg_sl ([.ref h, .int (nI p₁), .int (cd_bI (b = true)), .int (cd_pI j)])).length) Slot.unset).toArray = ls at hl ⊢
  have hl : lv_has ls 7 [(0, .ref h), (1, .int (nI p₁)), (2, .int (cd_bI (b = true))), (3, .int (cd_pI j))] := hl
  subst hsz
  have hD := hD0.self (sz := s.heap.size)
  generalize hAe : va_A (dkW h a1 a2 a3 a4 a5 cI cZ pr se rk ck cu n) s.heap.size = A at hD ⊢
  have hA : ∀ q : Nat, s.heap.size ≤ q → A q := fun q h => by rw [← hAe]; exact Or.inr h
  have hS : va_S A s.heap s.heap [] := va_S.rf
  have hok0 := hok
  obtain ⟨hn, hwf, hc2, hpr, hse, hrk, hck, hcu⟩ := hok0
  have hfl := cd_fm_le o p₁ n
  have loop : ∀ (d p₂ : Nat) (ck : Nat → Int32) (H : Heap) (locs : List Loc) (ls : Array Slot), p₂ + d = 6 → cd_dk o f sd c₀ n pr se rk ck cu → (∀ q, q < p₂ → ck (n * 6 + q) = nI (max (cd_ck o f (cd_fm o p₁ n) q) (cd_ck o f j q))) → va_P D cdCl (dkW h a1 a2 a3 a4 a5 cI cZ pr se rk ck cu n) H → va_S A s.heap H locs → lv_has ls 7 [(6, .int (nI p₂)), (5, .int (cd_pI (cd_fm o p₁ n))), (4, .int (nI n)), (0, .ref h), (1, .int (nI p₁)), (2, .int (cd_bI (b = true))), (3, .int (cd_pI j))] → W p l e (rmL 1) s m (List.toArray [.ref h, .int (nI p₁), .int (cd_bI (b = true)), .int (cd_pI j)]) below meth c H locs 0 0 (MQ below (va_Qi (fun (r : Int32) (u : dkS) => r = nI n ∧ dkP (cd_up o n p₁) (cd_up f n j) (cd_up sd n b) c₀ (n + 1) u) (fun u t => va_P D cdCl (dkU h a1 a2 a3 a4 a5 cI cZ (n + 1) u) t.heap) (A)) (List.toArray [.ref h, .int (nI p₁), .int (cd_bI (b = true)), .int (cd_pI j)]) s 0 0 A) (F0 m 16 ls []) := by
    intro d
    induction d with
    | zero =>
      intro p₂ ck H locs ls hd hok hiv hP hS hl
      have hD : va_D A (dkW h a1 a2 a3 a4 a5 cI cZ pr se rk ck cu n) := cw_D_same hD rfl
      refine lv_iload hx hb dX0_add_16 (lv_at hl 0 rfl) ?_
      refine lv_bipush (v := nI 6) hx hb dX0_add_18 (by decide) ?_
      refine cw_ge (tgt := 60) (x := p₂) (y := 6) hx hb dX0_add_20 (by decide) (by omega) (by omega) (fun hc => ?_) (fun hc => ?_)
      · have hv : ck (n * 6 + p₁) = nI (max (cd_ck o f (cd_fm o p₁ n) p₁) (cd_ck o f j p₁)) := hiv p₁ (by omega)
        refine lv_aload_n hx hb dX0_add_60 rfl (lv_at hl 3 rfl) ?_
        refine gX0_clocks hx hb hts hown hK hP 0 rfl rfl dX0_add_61 ?_
        refine lv_iload hx hb dX0_add_64 (lv_at hl 2 rfl) ?_
        refine lv_bipush (v := nI 6) hx hb dX0_add_66 (by decide) ?_
        refine lv_imul hx hb dX0_add_68 ?_
        refine cw_topi (y := nI (n * 6)) (pk_mul _ _) ?_
        refine lv_iload_n hx hb dX0_add_69 rfl (lv_at hl 4 rfl) ?_
        refine lv_iadd hx hb dX0_add_70 ?_
        refine cw_topi (y := nI ((n * 6) + p₁)) (nI_add _ _) ?_
        refine lv_dup2_11 hx hb dX0_add_71 rfl rfl ?_
        refine cw_iald hx hb hK hP 4 0 rfl rfl (k := ((n * 6) + p₁)) (v := nI (max (cd_ck o f (cd_fm o p₁ n) p₁) (cd_ck o f j p₁))) (by omega) (by decide) hv dX0_add_72 ?_
        refine lv_iconst (v := nI 1) hx hb dX0_add_73 (by decide) ?_
        refine lv_iadd hx hb dX0_add_74 ?_
        refine cw_topi (y := nI ((max (cd_ck o f (cd_fm o p₁ n) p₁) (cd_ck o f j p₁)) + 1)) (nI_add _ _) ?_
        refine cw_iast hx hb hK hP hD hS 4 0 rfl rfl (k := ((n * 6) + p₁)) (by omega) (by decide) dX0_add_75 (fun H locs hP hD hS => ?_)
        have hP : va_P D cdCl (dkW h a1 a2 a3 a4 a5 cI cZ pr se rk (upd ck ((n * 6) + p₁) (nI (max (cd_ck o f (cd_fm o p₁ n) p₁) (cd_ck o f j p₁) + 1))) cu n) H := hP
        have hD : va_D A (dkW h a1 a2 a3 a4 a5 cI cZ pr se rk (upd ck ((n * 6) + p₁) (nI (max (cd_ck o f (cd_fm o p₁ n) p₁) (cd_ck o f j p₁) + 1))) cu n) := hD
        have hok := cd_dk_ck (i := n * 6 + p₁) (v := nI (max (cd_ck o f (cd_fm o p₁ n) p₁) (cd_ck o f j p₁) + 1)) hok (by omega)
        obtain ⟨ck2, e_ck2⟩ : ∃ z, z = (upd ck ((n * 6) + p₁) (nI (max (cd_ck o f (cd_fm o p₁ n) p₁) (cd_ck o f j p₁) + 1))) := ⟨_, rfl⟩
        rw [← e_ck2] at hP hD
        rw [← e_ck2] at hok
        refine lv_aload_n hx hb dX0_add_76 rfl (lv_at hl 3 rfl) ?_
        refine gX0_ranks hx hb hts hown hK hP 0 rfl rfl dX0_add_77 ?_
        refine lv_iload hx hb dX0_add_80 (lv_at hl 2 rfl) ?_
        refine lv_iconst (v := nI 1) hx hb dX0_add_82 (by decide) ?_
        refine lv_aload_n hx hb dX0_add_83 rfl (lv_at hl 3 rfl) ?_
        refine lv_iload hx hb dX0_add_84 (lv_at hl 1 rfl) ?_
        refine cw_callR (As := [.int (cd_pI (cd_fm o p₁ n))]) ⟨hx, hb, hml, hown, hts⟩ (c_X0_rankOf l D cI cZ h a1 a2 a3 a4 a5 pr se rk ck2 cu o f sd c₀ n hok (cd_fm o p₁ n) hfl) (kX0_X0_rankOf hts 0 0 0 0 ⟨by decide, by decide⟩) hK hP 0 rfl rfl rfl rfl hl.1 rfl (Nat.le_of_ble_eq_true rfl) dX0_add_86 ⟨Nat.zero_le _, Nat.zero_le _⟩ ?_
        refine lv_aload_n hx hb dX0_add_89 rfl (lv_at hl 3 rfl) ?_
        refine lv_iload_n hx hb dX0_add_90 rfl (lv_at hl 6 rfl) ?_
        refine cw_callR (As := [.int (cd_pI j)]) ⟨hx, hb, hml, hown, hts⟩ (c_X0_rankOf l D cI cZ h a1 a2 a3 a4 a5 pr se rk ck2 cu o f sd c₀ n hok j hj) (kX0_X0_rankOf hts 0 0 0 0 ⟨by decide, by decide⟩) hK hP 0 rfl rfl rfl rfl hl.1 rfl (Nat.le_of_ble_eq_true rfl) dX0_add_91 ⟨Nat.zero_le _, Nat.zero_le _⟩ ?_
        have hr3 := cd_rk_le hwf (cd_fm o p₁ n) hfl
        have hr4 := cd_rk_le hwf j hj
        refine va_mmax hx hb (hml.trans hl.1.symm) hown (hts _ (List.mem_cons_of_mem _ tm_66)) (hts _ (List.mem_cons_of_mem _ tm_67)) (hts _ (List.mem_cons_of_mem _ tm_8)) (hts _ (List.mem_cons_of_mem _ tm_68)) (Nat.le_of_ble_eq_true rfl) (Nat.le_of_ble_eq_true rfl) (Nat.zero_le _) (Nat.zero_le _) dX0_add_94 ?_
        refine cw_topi (y := nI (max (cd_rk o f (cd_fm o p₁ n)) (cd_rk o f j))) (cd_max (by omega) (by omega)) ?_
        refine lv_iadd hx hb dX0_add_97 ?_
        refine cw_topi (y := nI (1 + (max (cd_rk o f (cd_fm o p₁ n)) (cd_rk o f j)))) (nI_add _ _) ?_
        refine cw_iast hx hb hK hP hD hS 3 0 rfl rfl (k := n) (by omega) (by decide) dX0_add_98 (fun H locs hP hD hS => ?_)
        have hP : va_P D cdCl (dkW h a1 a2 a3 a4 a5 cI cZ pr se (upd rk n (nI (1 + max (cd_rk o f (cd_fm o p₁ n)) (cd_rk o f j)))) ck2 cu n) H := hP
        have hD : va_D A (dkW h a1 a2 a3 a4 a5 cI cZ pr se (upd rk n (nI (1 + max (cd_rk o f (cd_fm o p₁ n)) (cd_rk o f j)))) ck2 cu n) := hD
        refine lv_aload_n hx hb dX0_add_99 rfl (lv_at hl 3 rfl) ?_
        refine gX0_processes hx hb hts hown hK hP 0 rfl rfl dX0_add_100 ?_
        refine lv_iload hx hb dX0_add_103 (lv_at hl 2 rfl) ?_
        refine lv_iload_n hx hb dX0_add_105 rfl (lv_at hl 4 rfl) ?_
        refine cw_iast hx hb hK hP hD hS 1 0 rfl rfl (k := n) (by omega) (by decide) dX0_add_106 (fun H locs hP hD hS => ?_)
        have hP : va_P D cdCl (dkW h a1 a2 a3 a4 a5 cI cZ (upd pr n (nI p₁)) se (upd rk n (nI (1 + max (cd_rk o f (cd_fm o p₁ n)) (cd_rk o f j)))) ck2 cu n) H := hP
        have hD : va_D A (dkW h a1 a2 a3 a4 a5 cI cZ (upd pr n (nI p₁)) se (upd rk n (nI (1 + max (cd_rk o f (cd_fm o p₁ n)) (cd_rk o f j)))) ck2 cu n) := hD
        refine lv_aload_n hx hb dX0_add_107 rfl (lv_at hl 3 rfl) ?_
        refine gX0_senders hx hb hts hown hK hP 0 rfl rfl dX0_add_108 ?_
        refine lv_iload hx hb dX0_add_111 (lv_at hl 2 rfl) ?_
        refine lv_iload_n hx hb dX0_add_113 rfl (lv_at hl 5 rfl) ?_
        refine cw_zast hx hb hK hP hD hS 2 1 rfl rfl (k := n) (by omega) (by decide) (by first | rfl | (unfold cd_bI; split <;> rfl)) dX0_add_114 (fun H locs hP hD hS => ?_)
        have hP : va_P D cdCl (dkW h a1 a2 a3 a4 a5 cI cZ (upd pr n (nI p₁)) (upd se n (cd_bI (b = true))) (upd rk n (nI (1 + max (cd_rk o f (cd_fm o p₁ n)) (cd_rk o f j)))) ck2 cu n) H := hP
        have hD : va_D A (dkW h a1 a2 a3 a4 a5 cI cZ (upd pr n (nI p₁)) (upd se n (cd_bI (b = true))) (upd rk n (nI (1 + max (cd_rk o f (cd_fm o p₁ n)) (cd_rk o f j)))) ck2 cu n) := hD
        refine lv_aload_n hx hb dX0_add_115 rfl (lv_at hl 3 rfl) ?_
        refine lv_dup hx hb dX0_add_116 rfl ?_
        refine gX0_made hx hb hts hown hK hP 0 rfl rfl dX0_add_117 ?_
        refine lv_iconst (v := nI 1) hx hb dX0_add_120 (by decide) ?_
        refine lv_iadd hx hb dX0_add_121 ?_
        refine cw_topi (y := nI (n + 1)) (nI_add _ _) ?_
        refine sX0_made hx hb hts hown hK hP hD hS 0 rfl rfl rfl (Nat.le_of_ble_eq_true rfl) dX0_add_122 (fun H locs hP hD hS => ?_)
        have hP : va_P D cdCl (dkW h a1 a2 a3 a4 a5 cI cZ (upd pr n (nI p₁)) (upd se n (cd_bI (b = true))) (upd rk n (nI (1 + max (cd_rk o f (cd_fm o p₁ n)) (cd_rk o f j)))) ck2 cu (n + 1)) H := hP
        have hD : va_D A (dkW h a1 a2 a3 a4 a5 cI cZ (upd pr n (nI p₁)) (upd se n (cd_bI (b = true))) (upd rk n (nI (1 + max (cd_rk o f (cd_fm o p₁ n)) (cd_rk o f j)))) ck2 cu (n + 1)) := hD
        refine lv_iload hx hb dX0_add_125 (lv_at hl 2 rfl) ?_
        have hok := cd_dk_add (b := b) hok hr2 hp hj rfl rfl rfl (fun q hq => by
          rw [e_ck2]
          by_cases e : q = p₁
          · subst e; rw [pk_us, if_pos rfl]
          · rw [pk_un (by omega), if_neg (fun z => e z.symm)]; exact hiv q (by omega))
        exact W.iret (v := nI n) hx hb hr (fun t ht hW => ⟨⟨nI n, ((upd pr n (nI p₁)), (upd se n (cd_bI (b = true))), (upd rk n (nI (1 + max (cd_rk o f (cd_fm o p₁ n)) (cd_rk o f j)))), ck2, cu), rfl, ⟨rfl, hok⟩, by show va_P D cdCl _ t.heap; rw [ht]; exact hP⟩, hS.F ht⟩) hS.2.2 dX0_add_127
      · exact absurd hc (by omega)
    | succ d ih =>
      intro p₂ ck H locs ls hd hok hiv hP hS hl
      have hD : va_D A (dkW h a1 a2 a3 a4 a5 cI cZ pr se rk ck cu n) := cw_D_same hD rfl
      refine lv_iload hx hb dX0_add_16 (lv_at hl 0 rfl) ?_
      refine lv_bipush (v := nI 6) hx hb dX0_add_18 (by decide) ?_
      refine cw_ge (tgt := 60) (x := p₂) (y := 6) hx hb dX0_add_20 (by decide) (by omega) (by omega) (fun hc => ?_) (fun hc => ?_)
      · exact absurd hc (by omega)
      · have h200 := cd_ck_200 (j := cd_fm o p₁ n) (p := p₂) hwf hfl hn
        have h201 := cd_ck_200 (j := j) (p := p₂) hwf hj hn
        refine lv_aload_n hx hb dX0_add_23 rfl (lv_at hl 3 rfl) ?_
        refine gX0_clocks hx hb hts hown hK hP 0 rfl rfl dX0_add_24 ?_
        refine lv_iload hx hb dX0_add_27 (lv_at hl 2 rfl) ?_
        refine lv_bipush (v := nI 6) hx hb dX0_add_29 (by decide) ?_
        refine lv_imul hx hb dX0_add_31 ?_
        refine cw_topi (y := nI (n * 6)) (pk_mul _ _) ?_
        refine lv_iload hx hb dX0_add_32 (lv_at hl 0 rfl) ?_
        refine lv_iadd hx hb dX0_add_34 ?_
        refine cw_topi (y := nI ((n * 6) + p₂)) (nI_add _ _) ?_
        refine lv_aload_n hx hb dX0_add_35 rfl (lv_at hl 3 rfl) ?_
        refine lv_iload hx hb dX0_add_36 (lv_at hl 1 rfl) ?_
        refine lv_iload hx hb dX0_add_38 (lv_at hl 0 rfl) ?_
        refine cw_callR (As := [.int (cd_pI (cd_fm o p₁ n)), .int (nI p₂)]) ⟨hx, hb, hml, hown, hts⟩ (c_X0_clockOf l D cI cZ h a1 a2 a3 a4 a5 pr se rk ck cu o f sd c₀ n hok (cd_fm o p₁ n) p₂ hfl hc) (kX0_X0_clockOf hts 0 0 0 0 ⟨by decide, by decide⟩) hK hP 0 rfl rfl rfl rfl hl.1 rfl (Nat.le_of_ble_eq_true rfl) dX0_add_40 ⟨Nat.zero_le _, Nat.zero_le _⟩ ?_
        refine lv_aload_n hx hb dX0_add_43 rfl (lv_at hl 3 rfl) ?_
        refine lv_iload_n hx hb dX0_add_44 rfl (lv_at hl 6 rfl) ?_
        refine lv_iload hx hb dX0_add_45 (lv_at hl 0 rfl) ?_
        refine cw_callR (As := [.int (cd_pI j), .int (nI p₂)]) ⟨hx, hb, hml, hown, hts⟩ (c_X0_clockOf l D cI cZ h a1 a2 a3 a4 a5 pr se rk ck cu o f sd c₀ n hok j p₂ hj hc) (kX0_X0_clockOf hts 0 0 0 0 ⟨by decide, by decide⟩) hK hP 0 rfl rfl rfl rfl hl.1 rfl (Nat.le_of_ble_eq_true rfl) dX0_add_47 ⟨Nat.zero_le _, Nat.zero_le _⟩ ?_
        refine va_mmax hx hb (hml.trans hl.1.symm) hown (hts _ (List.mem_cons_of_mem _ tm_66)) (hts _ (List.mem_cons_of_mem _ tm_67)) (hts _ (List.mem_cons_of_mem _ tm_8)) (hts _ (List.mem_cons_of_mem _ tm_68)) (Nat.le_of_ble_eq_true rfl) (Nat.le_of_ble_eq_true rfl) (Nat.zero_le _) (Nat.zero_le _) dX0_add_50 ?_
        refine cw_topi (y := nI (max (cd_ck o f (cd_fm o p₁ n) p₂) (cd_ck o f j p₂))) (cd_max (by omega) (by omega)) ?_
        refine cw_iast hx hb hK hP hD hS 4 0 rfl rfl (k := ((n * 6) + p₂)) (by omega) (by decide) dX0_add_53 (fun H locs hP hD hS => ?_)
        have hP : va_P D cdCl (dkW h a1 a2 a3 a4 a5 cI cZ pr se rk (upd ck ((n * 6) + p₂) (nI (max (cd_ck o f (cd_fm o p₁ n) p₂) (cd_ck o f j p₂)))) cu n) H := hP
        have hD : va_D A (dkW h a1 a2 a3 a4 a5 cI cZ pr se rk (upd ck ((n * 6) + p₂) (nI (max (cd_ck o f (cd_fm o p₁ n) p₂) (cd_ck o f j p₂)))) cu n) := hD
        have hok := cd_dk_ck (i := n * 6 + p₂) (v := nI (max (cd_ck o f (cd_fm o p₁ n) p₂) (cd_ck o f j p₂))) hok (by omega)
        refine lv_iinc (k := 0) (v := nI (p₂ + 1)) hx hb dX0_add_54 hl rfl (cd_inc _) (by decide) rfl (fun ls hl => ?_)
        have hl : lv_has ls 7 [(6, .int (nI (p₂ + 1))), (5, .int (cd_pI (cd_fm o p₁ n))), (4, .int (nI n)), (0, .ref h), (1, .int (nI p₁)), (2, .int (cd_bI (b = true))), (3, .int (cd_pI j))] := hl
        refine lv_goto (tgt := 16) hx hb dX0_add_57 (by decide) ?_
        exact ih (p₂ + 1) _ H locs ls (by omega) hok (fun q hq => by
          by_cases e : q = p₂
          · subst e; rw [pk_us]
          · rw [pk_un (by omega)]; exact hiv q (by omega)) hP hS hl
  refine lv_aload_n hx hb dX0_add_0 rfl (lv_at hl 0 rfl) ?_
  refine gX0_made hx hb hts hown hK hP 0 rfl rfl dX0_add_1 ?_
  refine lv_istore hx hb dX0_add_4 hl (by decide) rfl (fun ls hl => ?_)
  have hl : lv_has ls 7 [(4, .int (nI n)), (0, .ref h), (1, .int (nI p₁)), (2, .int (cd_bI (b = true))), (3, .int (cd_pI j))] := hl
  refine lv_aload_n hx hb dX0_add_6 rfl (lv_at hl 1 rfl) ?_
  refine lv_iload_n hx hb dX0_add_7 rfl (lv_at hl 2 rfl) ?_
  refine cw_callR (As := [.int (nI p₁)]) ⟨hx, hb, hml, hown, hts⟩ (c_X0_latestOf l D cI cZ h a1 a2 a3 a4 a5 pr se rk ck cu o f sd c₀ n hok p₁ hp) (kX0_X0_latestOf hts 0 0 0 0 ⟨by decide, by decide⟩) hK hP 0 rfl rfl rfl rfl hl.1 rfl (Nat.le_of_ble_eq_true rfl) dX0_add_8 ⟨Nat.zero_le _, Nat.zero_le _⟩ ?_
  refine lv_istore hx hb dX0_add_11 hl (by decide) rfl (fun ls hl => ?_)
  have hl : lv_has ls 7 [(5, .int (cd_pI (cd_fm o p₁ n))), (4, .int (nI n)), (0, .ref h), (1, .int (nI p₁)), (2, .int (cd_bI (b = true))), (3, .int (cd_pI j))] := hl
  refine lv_iconst (v := nI 0) hx hb dX0_add_13 (by decide) ?_
  refine lv_istore hx hb dX0_add_14 hl (by decide) rfl (fun ls hl => ?_)
  have hl : lv_has ls 7 [(6, .int (nI 0)), (5, .int (cd_pI (cd_fm o p₁ n))), (4, .int (nI n)), (0, .ref h), (1, .int (nI p₁)), (2, .int (cd_bI (b = true))), (3, .int (cd_pI j))] := hl
  exact loop 6 0 ck s.heap [] ls (by omega) hok (fun q hq => absurd hq (Nat.not_lt_zero _)) hP hS hl
set_option maxHeartbeats 4000000 in
set_option maxRecDepth 100000 in
/-- own -/
theorem c_X0_own (l : Launch) (D : va_G) (cI cZ : ClassId) (h a1 a2 a3 a4 a5 : Nat) (pr se rk ck cu : Nat → Int32) (o f : Nat → Nat) (sd : Nat → Bool) (c₀ : Nat → Nat) (n : Nat) (hok : cd_dk o f sd c₀ n pr se rk ck cu) (sz : Nat) (p₁ : Nat) (hp : p₁ < 6) (hr2 : n < 200) : Met l yX0_own (.code yX0_own cX0_own 2 (some .int) :: tW) (rmL 2) (cw_Pc D cdCl (dkT cI cZ) (dkW h a1 a2 a3 a4 a5 cI cZ pr se rk ck cu n) sz [.ref h, .int (nI p₁)]) (va_Qi (fun (r : Int32) (u : dkS) => r = nI n ∧ dkP (cd_up o n p₁) (cd_up f n 0) (cd_up sd n false) c₀ (n + 1) u) (fun u t => va_P D cdCl (dkU h a1 a2 a3 a4 a5 cI cZ (n + 1) u) t.heap) (va_A (dkW h a1 a2 a3 a4 a5 cI cZ pr se rk ck cu n) sz)) 0 0 (va_A (dkW h a1 a2 a3 a4 a5 cI cZ pr se rk ck cu n) sz) := by
  refine Met.ofW (cc := cX0_own) (maxL := 2) (ret := (some .int)) (by decide) rfl ?_
  intro p e s m args below meth c s₁ B hml hv
  obtain ⟨rfl, hsz, hP, hK, hD0⟩ := hv
  have hx := B.exec
  have hb := B.bytes
  have hr := B.returns
  have hts := atoms_spec (ws := .code yX0_own cX0_own 2 (some .int) :: tW) B.pre
  have hown : s.vm.findClass RX0 = some m.cls := findClass_of_methodNamed B.named
  have hlocks := B.notSynchronized
  have hl := lv_entry ([.ref h, .int (nI p₁)]) (n := 2) (Nat.le_of_ble_eq_true rfl)
  rw [lg_entry_eq]
  generalize (lg_sl ([.ref h, .int (nI p₁)]) ++ List.replicate (2 - (lg_sl ([.ref h, .int (nI p₁)])).length) Slot.unset).toArray = ls at hl ⊢
  have hl : lv_has ls 2 [(0, .ref h), (1, .int (nI p₁))] := hl
  subst hsz
  have hD := hD0.self (sz := s.heap.size)
  generalize hAe : va_A (dkW h a1 a2 a3 a4 a5 cI cZ pr se rk ck cu n) s.heap.size = A at hD ⊢
  have hA : ∀ q : Nat, s.heap.size ≤ q → A q := fun q h => by rw [← hAe]; exact Or.inr h
  have hS : va_S A s.heap s.heap [] := va_S.rf
  have hok0 := hok
  obtain ⟨hn, hwf, hc2, hpr, hse, hrk, hck, hcu⟩ := hok0
  refine lv_iload_n hx hb dX0_own_0 rfl (lv_at hl 1 rfl) ?_
  refine cw_callSv (As := [.int (nI p₁)]) ⟨hx, hb, hml, hown, hts⟩ (c_X0_needProcess l p₁ hp) (kX0_X0_needProcess hts 0 0 0 0 ⟨by decide, by decide⟩) rfl hl.1 rfl (Nat.le_of_ble_eq_true rfl) dX0_own_1 ⟨Nat.zero_le _, Nat.zero_le _⟩ ?_
  refine lv_aload_n hx hb dX0_own_4 rfl (lv_at hl 0 rfl) ?_
  refine cw_callRv (As := []) ⟨hx, hb, hml, hown, hts⟩ (c_X0_needRoom l D cI cZ h a1 a2 a3 a4 a5 pr se rk ck cu o f sd c₀ n hok hr2) (kX0_X0_needRoom hts 0 0 0 0 ⟨by decide, by decide⟩) hK hP 0 rfl rfl rfl rfl hl.1 rfl (Nat.le_of_ble_eq_true rfl) dX0_own_5 ⟨Nat.zero_le _, Nat.zero_le _⟩ ?_
  refine lv_aload_n hx hb dX0_own_8 rfl (lv_at hl 0 rfl) ?_
  refine lv_iload_n hx hb dX0_own_9 rfl (lv_at hl 1 rfl) ?_
  refine lv_iconst (v := nI 0) hx hb dX0_own_10 (by decide) ?_
  refine lv_iconst (v := (-1)) hx hb dX0_own_11 (by decide) ?_
  refine cw_callWi (As := [.int (nI p₁), .int (cd_bI (false = true)), .int (cd_pI 0)]) (S := dkS) (BW := dkU h a1 a2 a3 a4 a5 cI cZ ((n + 1))) (wr := []) ⟨hx, hb, hml, hown, hts⟩ (c_X0_add l D cI cZ h a1 a2 a3 a4 a5 pr se rk ck cu o f sd c₀ n hok _ p₁ 0 false hp (Nat.zero_le _) hr2) (kX0_X0_add hts 1 0 0 30 ⟨by decide, by decide⟩) hK hP hD hS hA [0, 1, 2, 3, 4, 5] [] rfl rfl (by decide) (by decide) (by decide) (fun _ => rfl) 0 rfl rfl rfl rfl hl.1 rfl (Nat.le_of_ble_eq_true rfl) dX0_own_12 ⟨Nat.zero_le _, Nat.zero_le _⟩ (fun r u H locs hu hP hD hS => ?_)
  obtain ⟨pr, se, rk, ck, cu⟩ := u
  have hP : va_P D cdCl (dkW h a1 a2 a3 a4 a5 cI cZ pr se rk ck cu (n + 1)) H := hP
  have hD : va_D A (dkW h a1 a2 a3 a4 a5 cI cZ pr se rk ck cu (n + 1)) := hD
  obtain ⟨hrr, hok⟩ := hu
  subst hrr
  have hok : cd_dk (cd_up o n p₁) (cd_up f n 0) (cd_up sd n false) c₀ (n + 1) pr se rk ck cu := hok
  exact W.iret (v := nI n) hx hb hr (fun t ht hW => ⟨⟨nI n, (pr, se, rk, ck, cu), rfl, ⟨rfl, hok⟩, by show va_P D cdCl _ t.heap; rw [ht]; exact hP⟩, hS.F ht⟩) hS.2.2 dX0_own_15
set_option maxHeartbeats 4000000 in
set_option maxRecDepth 100000 in
/-- send -/
theorem c_X0_send (l : Launch) (D : va_G) (cI cZ : ClassId) (h a1 a2 a3 a4 a5 : Nat) (pr se rk ck cu : Nat → Int32) (o f : Nat → Nat) (sd : Nat → Bool) (c₀ : Nat → Nat) (n : Nat) (hok : cd_dk o f sd c₀ n pr se rk ck cu) (sz : Nat) (p₁ : Nat) (hp : p₁ < 6) (hr2 : n < 200) : Met l yX0_send (.code yX0_send cX0_send 2 (some .int) :: tW) (rmL 2) (cw_Pc D cdCl (dkT cI cZ) (dkW h a1 a2 a3 a4 a5 cI cZ pr se rk ck cu n) sz [.ref h, .int (nI p₁)]) (va_Qi (fun (r : Int32) (u : dkS) => r = nI n ∧ dkP (cd_up o n p₁) (cd_up f n 0) (cd_up sd n true) c₀ (n + 1) u) (fun u t => va_P D cdCl (dkU h a1 a2 a3 a4 a5 cI cZ (n + 1) u) t.heap) (va_A (dkW h a1 a2 a3 a4 a5 cI cZ pr se rk ck cu n) sz)) 0 0 (va_A (dkW h a1 a2 a3 a4 a5 cI cZ pr se rk ck cu n) sz) := by
  refine Met.ofW (cc := cX0_send) (maxL := 2) (ret := (some .int)) (by decide) rfl ?_
  intro p e s m args below meth c s₁ B hml hv
  obtain ⟨rfl, hsz, hP, hK, hD0⟩ := hv
  have hx := B.exec
  have hb := B.bytes
  have hr := B.returns
  have hts := atoms_spec (ws := .code yX0_send cX0_send 2 (some .int) :: tW) B.pre
  have hown : s.vm.findClass RX0 = some m.cls := findClass_of_methodNamed B.named
  have hlocks := B.notSynchronized
  have hl := lv_entry ([.ref h, .int (nI p₁)]) (n := 2) (Nat.le_of_ble_eq_true rfl)
  rw [lg_entry_eq]
  generalize (lg_sl ([.ref h, .int (nI p₁)]) ++ List.replicate (2 - (lg_sl ([.ref h, .int (nI p₁)])).length) Slot.unset).toArray = ls at hl ⊢
  have hl : lv_has ls 2 [(0, .ref h), (1, .int (nI p₁))] := hl
  subst hsz
  have hD := hD0.self (sz := s.heap.size)
  generalize hAe : va_A (dkW h a1 a2 a3 a4 a5 cI cZ pr se rk ck cu n) s.heap.size = A at hD ⊢
  have hA : ∀ q : Nat, s.heap.size ≤ q → A q := fun q h => by rw [← hAe]; exact Or.inr h
  have hS : va_S A s.heap s.heap [] := va_S.rf
  have hok0 := hok
  obtain ⟨hn, hwf, hc2, hpr, hse, hrk, hck, hcu⟩ := hok0
  refine lv_iload_n hx hb dX0_send_0 rfl (lv_at hl 1 rfl) ?_
  refine cw_callSv (As := [.int (nI p₁)]) ⟨hx, hb, hml, hown, hts⟩ (c_X0_needProcess l p₁ hp) (kX0_X0_needProcess hts 0 0 0 0 ⟨by decide, by decide⟩) rfl hl.1 rfl (Nat.le_of_ble_eq_true rfl) dX0_send_1 ⟨Nat.zero_le _, Nat.zero_le _⟩ ?_
  refine lv_aload_n hx hb dX0_send_4 rfl (lv_at hl 0 rfl) ?_
  refine cw_callRv (As := []) ⟨hx, hb, hml, hown, hts⟩ (c_X0_needRoom l D cI cZ h a1 a2 a3 a4 a5 pr se rk ck cu o f sd c₀ n hok hr2) (kX0_X0_needRoom hts 0 0 0 0 ⟨by decide, by decide⟩) hK hP 0 rfl rfl rfl rfl hl.1 rfl (Nat.le_of_ble_eq_true rfl) dX0_send_5 ⟨Nat.zero_le _, Nat.zero_le _⟩ ?_
  refine lv_aload_n hx hb dX0_send_8 rfl (lv_at hl 0 rfl) ?_
  refine lv_iload_n hx hb dX0_send_9 rfl (lv_at hl 1 rfl) ?_
  refine lv_iconst (v := nI 1) hx hb dX0_send_10 (by decide) ?_
  refine lv_iconst (v := (-1)) hx hb dX0_send_11 (by decide) ?_
  refine cw_callWi (As := [.int (nI p₁), .int (cd_bI (true = true)), .int (cd_pI 0)]) (S := dkS) (BW := dkU h a1 a2 a3 a4 a5 cI cZ ((n + 1))) (wr := []) ⟨hx, hb, hml, hown, hts⟩ (c_X0_add l D cI cZ h a1 a2 a3 a4 a5 pr se rk ck cu o f sd c₀ n hok _ p₁ 0 true hp (Nat.zero_le _) hr2) (kX0_X0_add hts 1 0 0 30 ⟨by decide, by decide⟩) hK hP hD hS hA [0, 1, 2, 3, 4, 5] [] rfl rfl (by decide) (by decide) (by decide) (fun _ => rfl) 0 rfl rfl rfl rfl hl.1 rfl (Nat.le_of_ble_eq_true rfl) dX0_send_12 ⟨Nat.zero_le _, Nat.zero_le _⟩ (fun r u H locs hu hP hD hS => ?_)
  obtain ⟨pr, se, rk, ck, cu⟩ := u
  have hP : va_P D cdCl (dkW h a1 a2 a3 a4 a5 cI cZ pr se rk ck cu (n + 1)) H := hP
  have hD : va_D A (dkW h a1 a2 a3 a4 a5 cI cZ pr se rk ck cu (n + 1)) := hD
  obtain ⟨hrr, hok⟩ := hu
  subst hrr
  have hok : cd_dk (cd_up o n p₁) (cd_up f n 0) (cd_up sd n true) c₀ (n + 1) pr se rk ck cu := hok
  exact W.iret (v := nI n) hx hb hr (fun t ht hW => ⟨⟨nI n, (pr, se, rk, ck, cu), rfl, ⟨rfl, hok⟩, by show va_P D cdCl _ t.heap; rw [ht]; exact hP⟩, hS.F ht⟩) hS.2.2 dX0_send_15
set_option maxHeartbeats 4000000 in
set_option maxRecDepth 100000 in
/-- receive -/
theorem c_X0_receive (l : Launch) (D : va_G) (cI cZ : ClassId) (h a1 a2 a3 a4 a5 : Nat) (pr se rk ck cu : Nat → Int32) (o f : Nat → Nat) (sd : Nat → Bool) (c₀ : Nat → Nat) (n : Nat) (hok : cd_dk o f sd c₀ n pr se rk ck cu) (sz : Nat) (p₁ k : Nat) (hp : p₁ < 6) (hk : k < n) (hsk : sd k = true) (hok2 : o k ≠ p₁) (hr2 : n < 200) : Met l yX0_receive (.code yX0_receive cX0_receive 3 (some .int) :: tW) (rmL 2) (cw_Pc D cdCl (dkT cI cZ) (dkW h a1 a2 a3 a4 a5 cI cZ pr se rk ck cu n) sz [.ref h, .int (nI p₁), .int (nI k)]) (va_Qi (fun (r : Int32) (u : dkS) => r = nI n ∧ dkP (cd_up o n p₁) (cd_up f n (k + 1)) (cd_up sd n false) c₀ (n + 1) u) (fun u t => va_P D cdCl (dkU h a1 a2 a3 a4 a5 cI cZ (n + 1) u) t.heap) (va_A (dkW h a1 a2 a3 a4 a5 cI cZ pr se rk ck cu n) sz)) 0 0 (va_A (dkW h a1 a2 a3 a4 a5 cI cZ pr se rk ck cu n) sz) := by
  refine Met.ofW (cc := cX0_receive) (maxL := 3) (ret := (some .int)) (by decide) rfl ?_
  intro p e s m args below meth c s₁ B hml hv
  obtain ⟨rfl, hsz, hP, hK, hD0⟩ := hv
  have hx := B.exec
  have hb := B.bytes
  have hr := B.returns
  have hts := atoms_spec (ws := .code yX0_receive cX0_receive 3 (some .int) :: tW) B.pre
  have hown : s.vm.findClass RX0 = some m.cls := findClass_of_methodNamed B.named
  have hlocks := B.notSynchronized
  have hl := lv_entry ([.ref h, .int (nI p₁), .int (nI k)]) (n := 3) (Nat.le_of_ble_eq_true rfl)
  rw [lg_entry_eq]
  generalize (lg_sl ([.ref h, .int (nI p₁), .int (nI k)]) ++ List.replicate (3 - (lg_sl ([.ref h, .int (nI p₁), .int (nI k)])).length) Slot.unset).toArray = ls at hl ⊢
  have hl : lv_has ls 3 [(0, .ref h), (1, .int (nI p₁)), (2, .int (nI k))] := hl
  subst hsz
  have hD := hD0.self (sz := s.heap.size)
  generalize hAe : va_A (dkW h a1 a2 a3 a4 a5 cI cZ pr se rk ck cu n) s.heap.size = A at hD ⊢
  have hA : ∀ q : Nat, s.heap.size ≤ q → A q := fun q h => by rw [← hAe]; exact Or.inr h
  have hS : va_S A s.heap s.heap [] := va_S.rf
  have hok0 := hok
  obtain ⟨hn, hwf, hc2, hpr, hse, hrk, hck, hcu⟩ := hok0
  refine lv_iload_n hx hb dX0_receive_0 rfl (lv_at hl 1 rfl) ?_
  refine cw_callSv (As := [.int (nI p₁)]) ⟨hx, hb, hml, hown, hts⟩ (c_X0_needProcess l p₁ hp) (kX0_X0_needProcess hts 0 0 0 0 ⟨by decide, by decide⟩) rfl hl.1 rfl (Nat.le_of_ble_eq_true rfl) dX0_receive_1 ⟨Nat.zero_le _, Nat.zero_le _⟩ ?_
  refine lv_aload_n hx hb dX0_receive_4 rfl (lv_at hl 0 rfl) ?_
  refine lv_iload_n hx hb dX0_receive_5 rfl (lv_at hl 2 rfl) ?_
  refine cw_callR (As := [.int (nI k)]) ⟨hx, hb, hml, hown, hts⟩ (c_X0_isEvent l D cI cZ h a1 a2 a3 a4 a5 pr se rk ck cu o f sd c₀ n hok (nI k)) (kX0_X0_isEvent hts 0 0 0 0 ⟨by decide, by decide⟩) hK hP 0 rfl rfl rfl rfl hl.1 rfl (Nat.le_of_ble_eq_true rfl) dX0_receive_6 ⟨Nat.zero_le _, Nat.zero_le _⟩ ?_
  refine cw_topi (y := 1) (cd_bI_t ⟨nI_pos' (by omega), nI_lt (by omega) (by omega)⟩) ?_
  refine lv_if_eq (tgt := 31) hx hb dX0_receive_9 (by decide) (fun hc => ?_) (fun hc => ?_)
  · exact absurd hc (by decide)
  · refine lv_aload_n hx hb dX0_receive_12 rfl (lv_at hl 0 rfl) ?_
    refine gX0_senders hx hb hts hown hK hP 0 rfl rfl dX0_receive_13 ?_
    refine lv_iload_n hx hb dX0_receive_16 rfl (lv_at hl 2 rfl) ?_
    refine cw_zald hx hb hK hP 2 1 rfl rfl (k := k) (v := cd_bI (sd k = true)) (by omega) (by decide) (hse k hk) dX0_receive_17 ?_
    refine cw_topi (y := 1) (cd_bI_t hsk) ?_
    refine lv_if_eq (tgt := 31) hx hb dX0_receive_18 (by decide) (fun hc => ?_) (fun hc => ?_)
    · exact absurd hc (by decide)
    · have ho := (hwf k hk).1
      refine lv_aload_n hx hb dX0_receive_21 rfl (lv_at hl 0 rfl) ?_
      refine gX0_processes hx hb hts hown hK hP 0 rfl rfl dX0_receive_22 ?_
      refine lv_iload_n hx hb dX0_receive_25 rfl (lv_at hl 2 rfl) ?_
      refine cw_iald hx hb hK hP 1 0 rfl rfl (k := k) (v := nI (o k)) (by omega) (by decide) (hpr k hk) dX0_receive_26 ?_
      refine lv_iload_n hx hb dX0_receive_27 rfl (lv_at hl 1 rfl) ?_
      refine cw_ne (tgt := 39) (x := (o k)) (y := p₁) hx hb dX0_receive_28 (by decide) (by omega) (by omega) (fun hc => ?_) (fun hc => ?_)
      · refine lv_aload_n hx hb dX0_receive_39 rfl (lv_at hl 0 rfl) ?_
        refine cw_callRv (As := []) ⟨hx, hb, hml, hown, hts⟩ (c_X0_needRoom l D cI cZ h a1 a2 a3 a4 a5 pr se rk ck cu o f sd c₀ n hok hr2) (kX0_X0_needRoom hts 0 0 0 0 ⟨by decide, by decide⟩) hK hP 0 rfl rfl rfl rfl hl.1 rfl (Nat.le_of_ble_eq_true rfl) dX0_receive_40 ⟨Nat.zero_le _, Nat.zero_le _⟩ ?_
        refine lv_aload_n hx hb dX0_receive_43 rfl (lv_at hl 0 rfl) ?_
        refine lv_iload_n hx hb dX0_receive_44 rfl (lv_at hl 1 rfl) ?_
        refine lv_iconst (v := nI 0) hx hb dX0_receive_45 (by decide) ?_
        refine lv_iload_n hx hb dX0_receive_46 rfl (lv_at hl 2 rfl) ?_
        refine cw_callWi (As := [.int (nI p₁), .int (cd_bI (false = true)), .int (cd_pI (k + 1))]) (S := dkS) (BW := dkU h a1 a2 a3 a4 a5 cI cZ ((n + 1))) (wr := []) ⟨hx, hb, hml, hown, hts⟩ (c_X0_add l D cI cZ h a1 a2 a3 a4 a5 pr se rk ck cu o f sd c₀ n hok _ p₁ (k + 1) false hp hk hr2) (kX0_X0_add hts 1 0 0 30 ⟨by decide, by decide⟩) hK hP hD hS hA [0, 1, 2, 3, 4, 5] [] rfl rfl (by decide) (by decide) (by decide) (fun _ => rfl) 0 rfl rfl rfl rfl hl.1 rfl (Nat.le_of_ble_eq_true rfl) dX0_receive_47 ⟨Nat.zero_le _, Nat.zero_le _⟩ (fun r u H locs hu hP hD hS => ?_)
        obtain ⟨pr, se, rk, ck, cu⟩ := u
        have hP : va_P D cdCl (dkW h a1 a2 a3 a4 a5 cI cZ pr se rk ck cu (n + 1)) H := hP
        have hD : va_D A (dkW h a1 a2 a3 a4 a5 cI cZ pr se rk ck cu (n + 1)) := hD
        obtain ⟨hrr, hok⟩ := hu
        subst hrr
        have hok : cd_dk (cd_up o n p₁) (cd_up f n (k + 1)) (cd_up sd n false) c₀ (n + 1) pr se rk ck cu := hok
        exact W.iret (v := nI n) hx hb hr (fun t ht hW => ⟨⟨nI n, (pr, se, rk, ck, cu), rfl, ⟨rfl, hok⟩, by show va_P D cdCl _ t.heap; rw [ht]; exact hP⟩, hS.F ht⟩) hS.2.2 dX0_receive_50
      · exact absurd hc hok2
set_option maxHeartbeats 4000000 in
set_option maxRecDepth 100000 in
/-- undo -/
theorem c_X0_undo (l : Launch) (D : va_G) (cI cZ : ClassId) (h a1 a2 a3 a4 a5 : Nat) (pr se rk ck cu : Nat → Int32) (o f : Nat → Nat) (sd : Nat → Bool) (c₀ : Nat → Nat) (n : Nat) (hok : cd_dk o f sd c₀ n pr se rk ck cu) (sz : Nat) (x : Nat) (hx2 : x ≤ n) : Met l yX0_undo (.code yX0_undo cX0_undo 3 none :: tW) (rmL 2) (cw_Pc D cdCl (dkT cI cZ) (dkW h a1 a2 a3 a4 a5 cI cZ pr se rk ck cu n) sz [.ref h, .int (nI x)]) (va_Qv (fun (u : dkS) => dkP o f sd (fun p => min (c₀ p) (cd_mn o p (n - x))) (n - x) u) (fun u t => va_P D cdCl (dkU h a1 a2 a3 a4 a5 cI cZ (n - x) u) t.heap) (va_A (dkW h a1 a2 a3 a4 a5 cI cZ pr se rk ck cu n) sz)) 0 0 (va_A (dkW h a1 a2 a3 a4 a5 cI cZ pr se rk ck cu n) sz) := by
  refine Met.ofW (cc := cX0_undo) (maxL := 3) (ret := none) (by decide) rfl ?_
  intro p e s m args below meth c s₁ B hml hv
  obtain ⟨rfl, hsz, hP, hK, hD0⟩ := hv
  have hx := B.exec
  have hb := B.bytes
  have hr := B.returns
  have hts := atoms_spec (ws := .code yX0_undo cX0_undo 3 none :: tW) B.pre
  have hown : s.vm.findClass RX0 = some m.cls := findClass_of_methodNamed B.named
  have hlocks := B.notSynchronized
  have hl := lv_entry ([.ref h, .int (nI x)]) (n := 3) (Nat.le_of_ble_eq_true rfl)
  rw [lg_entry_eq]
  generalize (lg_sl ([.ref h, .int (nI x)]) ++ List.replicate (3 - (lg_sl ([.ref h, .int (nI x)])).length) Slot.unset).toArray = ls at hl ⊢
  have hl : lv_has ls 3 [(0, .ref h), (1, .int (nI x))] := hl
  subst hsz
  have hD := hD0.self (sz := s.heap.size)
  generalize hAe : va_A (dkW h a1 a2 a3 a4 a5 cI cZ pr se rk ck cu n) s.heap.size = A at hD ⊢
  have hA : ∀ q : Nat, s.heap.size ≤ q → A q := fun q h => by rw [← hAe]; exact Or.inr h
  have hS : va_S A s.heap s.heap [] := va_S.rf
  have hok0 := hok
  obtain ⟨hn, hwf, hc2, hpr, hse, hrk, hck, hcu⟩ := hok0
  have loop : ∀ (d p₁ : Nat) (cu : Nat → Int32) (H : Heap) (locs : List Loc) (ls : Array Slot), p₁ + d = 6 → cd_dk o f sd (cd_uw o c₀ (n - x) p₁) (n - x) pr se rk ck cu → va_P D cdCl (dkW h a1 a2 a3 a4 a5 cI cZ pr se rk ck cu (n - x)) H → va_S A s.heap H locs → lv_has ls 3 [(2, .int (nI p₁)), (0, .ref h), (1, .int (nI x))] → W p l e (rmL 2) s m (List.toArray [.ref h, .int (nI x)]) below meth c H locs 0 0 (MQ below (va_Qv (fun (u : dkS) => dkP o f sd (fun p => min (c₀ p) (cd_mn o p (n - x))) (n - x) u) (fun u t => va_P D cdCl (dkU h a1 a2 a3 a4 a5 cI cZ (n - x) u) t.heap) (A)) (List.toArray [.ref h, .int (nI x)]) s 0 0 A) (F0 m 32 ls []) := by
    intro d
    induction d with
    | zero =>
      intro p₁ cu H locs ls hd hok hP hS hl
      have hD : va_D A (dkW h a1 a2 a3 a4 a5 cI cZ pr se rk ck cu (n - x)) := cw_D_same hD rfl
      have hcu := hok.2.2.2.2.2.2.2
      refine lv_iload_n hx hb dX0_undo_32 rfl (lv_at hl 0 rfl) ?_
      refine lv_bipush (v := nI 6) hx hb dX0_undo_33 (by decide) ?_
      refine cw_ge (tgt := 64) (x := p₁) (y := 6) hx hb dX0_undo_35 (by decide) (by omega) (by omega) (fun hc => ?_) (fun hc => ?_)
      · have hok := cd_dk_c (c' := (fun p => min (c₀ p) (cd_mn o p (n - x)))) hok (fun p hp => by show (if _ then _ else _) = _; rw [if_pos (by omega)])
        exact W.vret hx hb hr (fun t ht hW => ⟨⟨(pr, se, rk, ck, cu), rfl, hok, by show va_P D cdCl _ t.heap; rw [ht]; exact hP⟩, hS.F ht⟩) hS.2.2 dX0_undo_64
      · exact absurd hc (by omega)
    | succ d ih =>
      intro p₁ cu H locs ls hd hok hP hS hl
      have hD : va_D A (dkW h a1 a2 a3 a4 a5 cI cZ pr se rk ck cu (n - x)) := cw_D_same hD rfl
      have hcu := hok.2.2.2.2.2.2.2
      refine lv_iload_n hx hb dX0_undo_32 rfl (lv_at hl 0 rfl) ?_
      refine lv_bipush (v := nI 6) hx hb dX0_undo_33 (by decide) ?_
      refine cw_ge (tgt := 64) (x := p₁) (y := 6) hx hb dX0_undo_35 (by decide) (by omega) (by omega) (fun hc => ?_) (fun hc => ?_)
      · exact absurd hc (by omega)
      · have h200 := cd_mn_le o p₁ (n - x)
        have hcc := hc2 p₁ hc
        have eg : cd_uw o c₀ (n - x) p₁ p₁ = c₀ p₁ := if_neg (by omega)
        refine lv_aload_n hx hb dX0_undo_38 rfl (lv_at hl 1 rfl) ?_
        refine gX0_cutSizes hx hb hts hown hK hP 0 rfl rfl dX0_undo_39 ?_
        refine lv_iload_n hx hb dX0_undo_42 rfl (lv_at hl 0 rfl) ?_
        refine lv_aload_n hx hb dX0_undo_43 rfl (lv_at hl 1 rfl) ?_
        refine gX0_cutSizes hx hb hts hown hK hP 0 rfl rfl dX0_undo_44 ?_
        refine lv_iload_n hx hb dX0_undo_47 rfl (lv_at hl 0 rfl) ?_
        refine cw_iald hx hb hK hP 5 0 rfl rfl (k := p₁) (v := nI (c₀ p₁)) (by omega) (by decide) (by rw [hcu p₁ hc, eg]) dX0_undo_48 ?_
        refine lv_aload_n hx hb dX0_undo_49 rfl (lv_at hl 1 rfl) ?_
        refine lv_iload_n hx hb dX0_undo_50 rfl (lv_at hl 0 rfl) ?_
        refine cw_callR (As := [.int (nI p₁)]) ⟨hx, hb, hml, hown, hts⟩ (c_X0_lengthOf l D cI cZ h a1 a2 a3 a4 a5 pr se rk ck cu o f sd (cd_uw o c₀ (n - x) p₁) (n - x) hok p₁ hc) (kX0_X0_lengthOf hts 1 0 0 30 ⟨by decide, by decide⟩) hK hP 0 rfl rfl rfl rfl hl.1 rfl (Nat.le_of_ble_eq_true rfl) dX0_undo_51 ⟨Nat.zero_le _, Nat.zero_le _⟩ ?_
        refine va_mmin hx hb (hml.trans hl.1.symm) hown (hts _ (List.mem_cons_of_mem _ tm_211)) (hts _ (List.mem_cons_of_mem _ tm_212)) (hts _ (List.mem_cons_of_mem _ tm_8)) (hts _ (List.mem_cons_of_mem _ tm_213)) (Nat.le_of_ble_eq_true rfl) (Nat.le_of_ble_eq_true rfl) (Nat.zero_le _) (Nat.zero_le _) dX0_undo_54 ?_
        refine cw_topi (y := nI (min (c₀ p₁) (cd_mn o p₁ (n - x)))) (cd_min (by omega) (by omega)) ?_
        refine cw_iast hx hb hK hP hD hS 5 0 rfl rfl (k := p₁) (by omega) (by decide) dX0_undo_57 (fun H locs hP hD hS => ?_)
        have hP : va_P D cdCl (dkW h a1 a2 a3 a4 a5 cI cZ pr se rk ck (upd cu p₁ (nI (min (c₀ p₁) (cd_mn o p₁ (n - x))))) (n - x)) H := hP
        have hD : va_D A (dkW h a1 a2 a3 a4 a5 cI cZ pr se rk ck (upd cu p₁ (nI (min (c₀ p₁) (cd_mn o p₁ (n - x))))) (n - x)) := hD
        have hok := cd_dk_cu (q := p₁) (v := min (c₀ p₁) (cd_mn o p₁ (n - x))) hok (by omega)
        rw [← cd_uw_s] at hok
        refine lv_iinc (k := 0) (v := nI (p₁ + 1)) hx hb dX0_undo_58 hl rfl (cd_inc _) (by decide) rfl (fun ls hl => ?_)
        have hl : lv_has ls 3 [(2, .int (nI (p₁ + 1))), (0, .ref h), (1, .int (nI x))] := hl
        refine lv_goto (tgt := 32) hx hb dX0_undo_61 (by decide) ?_
        exact ih (p₁ + 1) _ H locs ls (by omega) hok hP hS hl
  refine lv_iload_n hx hb dX0_undo_0 rfl (lv_at hl 1 rfl) ?_
  refine lv_if_lt (tgt := 12) hx hb dX0_undo_1 (by decide) (fun hc => ?_) (fun hc => ?_)
  · exact absurd hc (nI_pos (by omega))
  · refine lv_iload_n hx hb dX0_undo_4 rfl (lv_at hl 1 rfl) ?_
    refine lv_aload_n hx hb dX0_undo_5 rfl (lv_at hl 0 rfl) ?_
    refine gX0_made hx hb hts hown hK hP 0 rfl rfl dX0_undo_6 ?_
    refine cw_le (tgt := 20) (x := x) (y := n) hx hb dX0_undo_9 (by decide) (by omega) (by omega) (fun hc => ?_) (fun hc => ?_)
    · refine lv_aload_n hx hb dX0_undo_20 rfl (lv_at hl 0 rfl) ?_
      refine lv_dup hx hb dX0_undo_21 rfl ?_
      refine gX0_made hx hb hts hown hK hP 0 rfl rfl dX0_undo_22 ?_
      refine lv_iload_n hx hb dX0_undo_25 rfl (lv_at hl 1 rfl) ?_
      refine lv_isub hx hb dX0_undo_26 ?_
      refine cw_topi (y := nI (n - x)) (pk_sub hx2) ?_
      refine sX0_made hx hb hts hown hK hP hD hS 0 rfl rfl rfl (Nat.le_of_ble_eq_true rfl) dX0_undo_27 (fun H locs hP hD hS => ?_)
      have hP : va_P D cdCl (dkW h a1 a2 a3 a4 a5 cI cZ pr se rk ck cu (n - x)) H := hP
      have hD : va_D A (dkW h a1 a2 a3 a4 a5 cI cZ pr se rk ck cu (n - x)) := hD
      refine lv_iconst (v := nI 0) hx hb dX0_undo_30 (by decide) ?_
      refine lv_istore_n hx hb dX0_undo_31 rfl hl (by decide) rfl (fun ls hl => ?_)
      have hl : lv_has ls 3 [(2, .int (nI 0)), (0, .ref h), (1, .int (nI x))] := hl
      exact loop 6 0 cu H locs ls (by omega) (cd_dk_c (cd_dk_n hok (by omega)) (fun p hp => (if_neg (by omega)).symm)) hP hS hl
    · exact absurd hx2 (by omega)
set_option maxHeartbeats 4000000 in
set_option maxRecDepth 100000 in
/-- cut -/
theorem c_X0_cut (l : Launch) (D : va_G) (cI cZ : ClassId) (h a1 a2 a3 a4 a5 : Nat) (pr se rk ck cu : Nat → Int32) (o f : Nat → Nat) (sd : Nat → Bool) (c₀ : Nat → Nat) (n : Nat) (hok : cd_dk o f sd c₀ n pr se rk ck cu) (sz : Nat) (p₁ v : Nat) (hp : p₁ < 6) (hv : v ≤ cd_mn o p₁ n) : Met l yX0_cut (.code yX0_cut cX0_cut 3 none :: tW) (rmL 2) (cw_Pc D cdCl (dkT cI cZ) (dkW h a1 a2 a3 a4 a5 cI cZ pr se rk ck cu n) sz [.ref h, .int (nI p₁), .int (nI v)]) (va_Qv (fun (u : dkS) => dkP o f sd (cd_up c₀ p₁ v) n u) (fun u t => va_P D cdCl (dkU h a1 a2 a3 a4 a5 cI cZ (n) u) t.heap) (va_A (dkW h a1 a2 a3 a4 a5 cI cZ pr se rk ck cu n) sz)) 0 0 (va_A (dkW h a1 a2 a3 a4 a5 cI cZ pr se rk ck cu n) sz) := by
  refine Met.ofW (cc := cX0_cut) (maxL := 3) (ret := none) (by decide) rfl ?_
  intro p e s m args below meth c s₁ B hml hv
  obtain ⟨rfl, hsz, hP, hK, hD0⟩ := hv
  have hx := B.exec
  have hb := B.bytes
  have hr := B.returns
  have hts := atoms_spec (ws := .code yX0_cut cX0_cut 3 none :: tW) B.pre
  have hown : s.vm.findClass RX0 = some m.cls := findClass_of_methodNamed B.named
  have hlocks := B.notSynchronized
  have hl := lv_entry ([.ref h, .int (nI p₁), .int (nI v)]) (n := 3) (Nat.le_of_ble_eq_true rfl)
  rw [lg_entry_eq]
  generalize (lg_sl ([.ref h, .int (nI p₁), .int (nI v)]) ++ List.replicate (3 - (lg_sl ([.ref h, .int (nI p₁), .int (nI v)])).length) Slot.unset).toArray = ls at hl ⊢
  have hl : lv_has ls 3 [(0, .ref h), (1, .int (nI p₁)), (2, .int (nI v))] := hl
  subst hsz
  have hD := hD0.self (sz := s.heap.size)
  generalize hAe : va_A (dkW h a1 a2 a3 a4 a5 cI cZ pr se rk ck cu n) s.heap.size = A at hD ⊢
  have hA : ∀ q : Nat, s.heap.size ≤ q → A q := fun q h => by rw [← hAe]; exact Or.inr h
  have hS : va_S A s.heap s.heap [] := va_S.rf
  have hok0 := hok
  obtain ⟨hn, hwf, hc2, hpr, hse, hrk, hck, hcu⟩ := hok0
  have h200 := cd_mn_le o p₁ n
  refine lv_iload_n hx hb dX0_cut_0 rfl (lv_at hl 1 rfl) ?_
  refine cw_callSv (As := [.int (nI p₁)]) ⟨hx, hb, hml, hown, hts⟩ (c_X0_needProcess l p₁ hp) (kX0_X0_needProcess hts 0 0 0 0 ⟨by decide, by decide⟩) rfl hl.1 rfl (Nat.le_of_ble_eq_true rfl) dX0_cut_1 ⟨Nat.zero_le _, Nat.zero_le _⟩ ?_
  refine lv_iload_n hx hb dX0_cut_4 rfl (lv_at hl 2 rfl) ?_
  refine lv_if_lt (tgt := 17) hx hb dX0_cut_5 (by decide) (fun hc => ?_) (fun hc => ?_)
  · exact absurd hc (nI_pos (by omega))
  · refine lv_iload_n hx hb dX0_cut_8 rfl (lv_at hl 2 rfl) ?_
    refine lv_aload_n hx hb dX0_cut_9 rfl (lv_at hl 0 rfl) ?_
    refine lv_iload_n hx hb dX0_cut_10 rfl (lv_at hl 1 rfl) ?_
    refine cw_callR (As := [.int (nI p₁)]) ⟨hx, hb, hml, hown, hts⟩ (c_X0_lengthOf l D cI cZ h a1 a2 a3 a4 a5 pr se rk ck cu o f sd c₀ n hok p₁ hp) (kX0_X0_lengthOf hts 1 0 0 30 ⟨by decide, by decide⟩) hK hP 0 rfl rfl rfl rfl hl.1 rfl (Nat.le_of_ble_eq_true rfl) dX0_cut_11 ⟨Nat.zero_le _, Nat.zero_le _⟩ ?_
    refine cw_le (tgt := 25) (x := v) (y := (cd_mn o p₁ n)) hx hb dX0_cut_14 (by decide) (by omega) (by omega) (fun hc => ?_) (fun hc => ?_)
    · refine lv_aload_n hx hb dX0_cut_25 rfl (lv_at hl 0 rfl) ?_
      refine gX0_cutSizes hx hb hts hown hK hP 0 rfl rfl dX0_cut_26 ?_
      refine lv_iload_n hx hb dX0_cut_29 rfl (lv_at hl 1 rfl) ?_
      refine lv_iload_n hx hb dX0_cut_30 rfl (lv_at hl 2 rfl) ?_
      refine cw_iast hx hb hK hP hD hS 5 0 rfl rfl (k := p₁) (by omega) (by decide) dX0_cut_31 (fun H locs hP hD hS => ?_)
      have hP : va_P D cdCl (dkW h a1 a2 a3 a4 a5 cI cZ pr se rk ck (upd cu p₁ (nI v)) n) H := hP
      have hD : va_D A (dkW h a1 a2 a3 a4 a5 cI cZ pr se rk ck (upd cu p₁ (nI v)) n) := hD
      have hok := cd_dk_cu (q := p₁) (v := v) hok (by omega)
      exact W.vret hx hb hr (fun t ht hW => ⟨⟨(pr, se, rk, ck, (upd cu p₁ (nI v))), rfl, hok, by show va_P D cdCl _ t.heap; rw [ht]; exact hP⟩, hS.F ht⟩) hS.2.2 dX0_cut_32
    · exact absurd hv (by omega)
set_option maxHeartbeats 4000000 in
set_option maxRecDepth 100000 in
/-- close -/
theorem c_X0_close (l : Launch) (D : va_G) (cI cZ : ClassId) (h a1 a2 a3 a4 a5 : Nat) (pr se rk ck cu : Nat → Int32) (o f : Nat → Nat) (sd : Nat → Bool) (c₀ : Nat → Nat) (n : Nat) (hok : cd_dk o f sd c₀ n pr se rk ck cu) (sz : Nat)  : Met l yX0_close (.code yX0_close cX0_close 2 (some .int) :: tW) (rmL 3) (cw_Pc D cdCl (dkT cI cZ) (dkW h a1 a2 a3 a4 a5 cI cZ pr se rk ck cu n) sz [.ref h]) (va_Qi (fun (r : Int32) (u : dkS) => r = nI (cd_s6 (cd_cl o f c₀ n)) ∧ dkP o f sd (cd_cl o f c₀ n) n u) (fun u t => va_P D cdCl (dkU h a1 a2 a3 a4 a5 cI cZ (n) u) t.heap) (va_A (dkW h a1 a2 a3 a4 a5 cI cZ pr se rk ck cu n) sz)) 0 0 (va_A (dkW h a1 a2 a3 a4 a5 cI cZ pr se rk ck cu n) sz) := by
  refine Met.ofW (cc := cX0_close) (maxL := 2) (ret := (some .int)) (by decide) rfl ?_
  intro p e s m args below meth c s₁ B hml hv
  obtain ⟨rfl, hsz, hP, hK, hD0⟩ := hv
  have hx := B.exec
  have hb := B.bytes
  have hr := B.returns
  have hts := atoms_spec (ws := .code yX0_close cX0_close 2 (some .int) :: tW) B.pre
  have hown : s.vm.findClass RX0 = some m.cls := findClass_of_methodNamed B.named
  have hlocks := B.notSynchronized
  have hl := lv_entry ([.ref h]) (n := 2) (Nat.le_of_ble_eq_true rfl)
  rw [lg_entry_eq]
  generalize (lg_sl ([.ref h]) ++ List.replicate (2 - (lg_sl ([.ref h])).length) Slot.unset).toArray = ls at hl ⊢
  have hl : lv_has ls 2 [(0, .ref h)] := hl
  subst hsz
  have hD := hD0.self (sz := s.heap.size)
  generalize hAe : va_A (dkW h a1 a2 a3 a4 a5 cI cZ pr se rk ck cu n) s.heap.size = A at hD ⊢
  have hA : ∀ q : Nat, s.heap.size ≤ q → A q := fun q h => by rw [← hAe]; exact Or.inr h
  have hS : va_S A s.heap s.heap [] := va_S.rf
  have hok0 := hok
  obtain ⟨hn, hwf, hc2, hpr, hse, hrk, hck, hcu⟩ := hok0
  have loop : ∀ (d g : Nat) (pr se rk ck cu : Nat → Int32) (H : Heap) (locs : List Loc) (ls : Array Slot), g + d = n → cd_dk o f sd (cd_cl o f c₀ g) n pr se rk ck cu → va_P D cdCl (dkW h a1 a2 a3 a4 a5 cI cZ pr se rk ck cu n) H → va_S A s.heap H locs → lv_has ls 2 [(1, .int (nI g)), (0, .ref h)] → W p l e (rmL 3) s m (List.toArray [.ref h]) below meth c H locs 0 0 (MQ below (va_Qi (fun (r : Int32) (u : dkS) => r = nI (cd_s6 (cd_cl o f c₀ n)) ∧ dkP o f sd (cd_cl o f c₀ n) n u) (fun u t => va_P D cdCl (dkU h a1 a2 a3 a4 a5 cI cZ (n) u) t.heap) (A)) (List.toArray [.ref h]) s 0 0 A) (F0 m 2 ls []) := by
    intro d
    induction d with
    | zero =>
      intro g pr se rk ck cu H locs ls hd hok hP hS hl
      have hD : va_D A (dkW h a1 a2 a3 a4 a5 cI cZ pr se rk ck cu n) := cw_D_same hD rfl
      obtain ⟨-, -, hc2, hpr, -, -, -, hcu⟩ := id hok
      refine lv_iload_n hx hb dX0_close_2 rfl (lv_at hl 0 rfl) ?_
      refine lv_aload_n hx hb dX0_close_3 rfl (lv_at hl 1 rfl) ?_
      refine gX0_made hx hb hts hown hK hP 0 rfl rfl dX0_close_4 ?_
      refine cw_ge (tgt := 29) (x := g) (y := n) hx hb dX0_close_7 (by decide) (by omega) (by omega) (fun hc => ?_) (fun hc => ?_)
      · have e : g = n := by omega
        subst e
        refine lv_aload_n hx hb dX0_close_29 rfl (lv_at hl 1 rfl) ?_
        refine cw_callR (As := []) ⟨hx, hb, hml, hown, hts⟩ (c_X0_cutTotal l D cI cZ h a1 a2 a3 a4 a5 pr se rk ck cu o f sd (cd_cl o f c₀ g) g hok ) (kX0_X0_cutTotal hts 0 0 0 0 ⟨by decide, by decide⟩) hK hP 0 rfl rfl rfl rfl hl.1 rfl (Nat.le_of_ble_eq_true rfl) dX0_close_30 ⟨Nat.zero_le _, Nat.zero_le _⟩ ?_
        exact W.iret (v := nI (cd_s6 (cd_cl o f c₀ g))) hx hb hr (fun t ht hW => ⟨⟨nI (cd_s6 (cd_cl o f c₀ g)), (pr, se, rk, ck, cu), rfl, ⟨rfl, hok⟩, by show va_P D cdCl _ t.heap; rw [ht]; exact hP⟩, hS.F ht⟩) hS.2.2 dX0_close_33
      · exact absurd hc (by omega)
    | succ d ih =>
      intro g pr se rk ck cu H locs ls hd hok hP hS hl
      have hD : va_D A (dkW h a1 a2 a3 a4 a5 cI cZ pr se rk ck cu n) := cw_D_same hD rfl
      obtain ⟨-, -, hc2, hpr, -, -, -, hcu⟩ := id hok
      refine lv_iload_n hx hb dX0_close_2 rfl (lv_at hl 0 rfl) ?_
      refine lv_aload_n hx hb dX0_close_3 rfl (lv_at hl 1 rfl) ?_
      refine gX0_made hx hb hts hown hK hP 0 rfl rfl dX0_close_4 ?_
      refine cw_ge (tgt := 29) (x := g) (y := n) hx hb dX0_close_7 (by decide) (by omega) (by omega) (fun hc => ?_) (fun hc => ?_)
      · exact absurd hc (by omega)
      · refine lv_aload_n hx hb dX0_close_10 rfl (lv_at hl 1 rfl) ?_
        refine lv_iload_n hx hb dX0_close_11 rfl (lv_at hl 0 rfl) ?_
        refine cw_callR (As := [.int (nI g)]) ⟨hx, hb, hml, hown, hts⟩ (c_X0_isInCut l D cI cZ h a1 a2 a3 a4 a5 pr se rk ck cu o f sd (cd_cl o f c₀ g) n hok g hc) (kX0_X0_isInCut hts 2 0 0 60 ⟨by decide, by decide⟩) hK hP 0 rfl rfl rfl rfl hl.1 rfl (Nat.le_of_ble_eq_true rfl) dX0_close_12 ⟨Nat.zero_le _, Nat.zero_le _⟩ ?_
        refine lv_if_eq (tgt := 23) hx hb dX0_close_15 (by decide) (fun h1 => ?_) (fun h1 => ?_)
        · have e1 : cd_cl o f c₀ (g + 1) = (cd_cl o f c₀ g) := if_neg (cd_bI_z.mp h1)
          refine lv_iinc (k := 0) (v := nI (g + 1)) hx hb dX0_close_23 hl rfl (cd_inc _) (by decide) rfl (fun ls hl => ?_)
          have hl : lv_has ls 2 [(1, .int (nI (g + 1))), (0, .ref h)] := hl
          refine lv_goto (tgt := 2) hx hb dX0_close_26 (by decide) ?_
          exact ih (g + 1) pr se rk ck cu H locs ls (by omega) (by rw [e1]; exact hok) hP hS hl
        · have h1 : cd_mn o (o g) g < (cd_cl o f c₀ g) (o g) := Classical.byContradiction (fun z => h1 (cd_bI_z.mpr z))
          refine lv_aload_n hx hb dX0_close_18 rfl (lv_at hl 1 rfl) ?_
          refine lv_iload_n hx hb dX0_close_19 rfl (lv_at hl 0 rfl) ?_
          refine cw_callWv (As := [.int (nI g)]) (S := dkS) (BW := dkU h a1 a2 a3 a4 a5 cI cZ (n)) (wr := []) ⟨hx, hb, hml, hown, hts⟩ (c_X0_growCutTo l D cI cZ h a1 a2 a3 a4 a5 pr se rk ck cu o f sd (cd_cl o f c₀ g) n hok _ g hc) (kX0_X0_growCutTo hts 1 0 0 30 ⟨by decide, by decide⟩) hK hP hD hS hA [0, 1, 2, 3, 4, 5] [] rfl rfl (by decide) (by decide) (by decide) (fun _ => rfl) 0 rfl rfl rfl rfl hl.1 rfl (Nat.le_of_ble_eq_true rfl) dX0_close_20 ⟨Nat.zero_le _, Nat.zero_le _⟩ (fun u H locs hu hP hD hS => ?_)
          obtain ⟨pr, se, rk, ck, cu⟩ := u
          have hP : va_P D cdCl (dkW h a1 a2 a3 a4 a5 cI cZ pr se rk ck cu n) H := hP
          have hD : va_D A (dkW h a1 a2 a3 a4 a5 cI cZ pr se rk ck cu n) := hD
          have hok := hu
          have hok : cd_dk o f sd (fun p => max ((cd_cl o f c₀ g) p) (cd_ck o f (g + 1) p)) n pr se rk ck cu := hok
          have e1 : cd_cl o f c₀ (g + 1) = (fun p => max ((cd_cl o f c₀ g) p) (cd_ck o f (g + 1) p)) := if_pos h1
          refine lv_iinc (k := 0) (v := nI (g + 1)) hx hb dX0_close_23 hl rfl (cd_inc _) (by decide) rfl (fun ls hl => ?_)
          have hl : lv_has ls 2 [(1, .int (nI (g + 1))), (0, .ref h)] := hl
          refine lv_goto (tgt := 2) hx hb dX0_close_26 (by decide) ?_
          exact ih (g + 1) pr se rk ck cu H locs ls (by omega) (by rw [e1]; exact hok) hP hS hl
  refine lv_iconst (v := nI 0) hx hb dX0_close_0 (by decide) ?_
  refine lv_istore_n hx hb dX0_close_1 rfl hl (by decide) rfl (fun ls hl => ?_)
  have hl : lv_has ls 2 [(1, .int (nI 0)), (0, .ref h)] := hl
  exact loop n 0 pr se rk ck cu s.heap [] ls (by omega) hok hP hS hl
set_option maxHeartbeats 4000000 in
set_option maxRecDepth 100000 in
/-- open -/
theorem c_X0_open (l : Launch) (D : va_G) (cI cZ : ClassId) (h a1 a2 a3 a4 a5 : Nat) (pr se rk ck cu : Nat → Int32) (o f : Nat → Nat) (sd : Nat → Bool) (c₀ : Nat → Nat) (n : Nat) (hok : cd_dk o f sd c₀ n pr se rk ck cu) (sz : Nat)  : Met l yX0_open (.code yX0_open cX0_open 2 (some .int) :: tW) (rmL 3) (cw_Pc D cdCl (dkT cI cZ) (dkW h a1 a2 a3 a4 a5 cI cZ pr se rk ck cu n) sz [.ref h]) (va_Qi (fun (r : Int32) (u : dkS) => r = nI (cd_s6 (cd_op o f c₀ n)) ∧ dkP o f sd (cd_op o f c₀ n) n u) (fun u t => va_P D cdCl (dkU h a1 a2 a3 a4 a5 cI cZ (n) u) t.heap) (va_A (dkW h a1 a2 a3 a4 a5 cI cZ pr se rk ck cu n) sz)) 0 0 (va_A (dkW h a1 a2 a3 a4 a5 cI cZ pr se rk ck cu n) sz) := by
  refine Met.ofW (cc := cX0_open) (maxL := 2) (ret := (some .int)) (by decide) rfl ?_
  intro p e s m args below meth c s₁ B hml hv
  obtain ⟨rfl, hsz, hP, hK, hD0⟩ := hv
  have hx := B.exec
  have hb := B.bytes
  have hr := B.returns
  have hts := atoms_spec (ws := .code yX0_open cX0_open 2 (some .int) :: tW) B.pre
  have hown : s.vm.findClass RX0 = some m.cls := findClass_of_methodNamed B.named
  have hlocks := B.notSynchronized
  have hl := lv_entry ([.ref h]) (n := 2) (Nat.le_of_ble_eq_true rfl)
  rw [lg_entry_eq]
  generalize (lg_sl ([.ref h]) ++ List.replicate (2 - (lg_sl ([.ref h])).length) Slot.unset).toArray = ls at hl ⊢
  have hl : lv_has ls 2 [(0, .ref h)] := hl
  subst hsz
  have hD := hD0.self (sz := s.heap.size)
  generalize hAe : va_A (dkW h a1 a2 a3 a4 a5 cI cZ pr se rk ck cu n) s.heap.size = A at hD ⊢
  have hA : ∀ q : Nat, s.heap.size ≤ q → A q := fun q h => by rw [← hAe]; exact Or.inr h
  have hS : va_S A s.heap s.heap [] := va_S.rf
  have hok0 := hok
  obtain ⟨hn, hwf, hc2, hpr, hse, hrk, hck, hcu⟩ := hok0
  have loop : ∀ (d g : Nat) (pr se rk ck cu : Nat → Int32) (H : Heap) (locs : List Loc) (ls : Array Slot), g + d = n → cd_dk o f sd (cd_op o f c₀ g) n pr se rk ck cu → va_P D cdCl (dkW h a1 a2 a3 a4 a5 cI cZ pr se rk ck cu n) H → va_S A s.heap H locs → lv_has ls 2 [(1, .int (nI g)), (0, .ref h)] → W p l e (rmL 3) s m (List.toArray [.ref h]) below meth c H locs 0 0 (MQ below (va_Qi (fun (r : Int32) (u : dkS) => r = nI (cd_s6 (cd_op o f c₀ n)) ∧ dkP o f sd (cd_op o f c₀ n) n u) (fun u t => va_P D cdCl (dkU h a1 a2 a3 a4 a5 cI cZ (n) u) t.heap) (A)) (List.toArray [.ref h]) s 0 0 A) (F0 m 2 ls []) := by
    intro d
    induction d with
    | zero =>
      intro g pr se rk ck cu H locs ls hd hok hP hS hl
      have hD : va_D A (dkW h a1 a2 a3 a4 a5 cI cZ pr se rk ck cu n) := cw_D_same hD rfl
      obtain ⟨-, -, hc2, hpr, -, -, -, hcu⟩ := id hok
      refine lv_iload_n hx hb dX0_open_2 rfl (lv_at hl 0 rfl) ?_
      refine lv_aload_n hx hb dX0_open_3 rfl (lv_at hl 1 rfl) ?_
      refine gX0_made hx hb hts hown hK hP 0 rfl rfl dX0_open_4 ?_
      refine cw_ge (tgt := 50) (x := g) (y := n) hx hb dX0_open_7 (by decide) (by omega) (by omega) (fun hc => ?_) (fun hc => ?_)
      · have e : g = n := by omega
        subst e
        refine lv_aload_n hx hb dX0_open_50 rfl (lv_at hl 1 rfl) ?_
        refine cw_callR (As := []) ⟨hx, hb, hml, hown, hts⟩ (c_X0_cutTotal l D cI cZ h a1 a2 a3 a4 a5 pr se rk ck cu o f sd (cd_op o f c₀ g) g hok ) (kX0_X0_cutTotal hts 0 0 0 0 ⟨by decide, by decide⟩) hK hP 0 rfl rfl rfl rfl hl.1 rfl (Nat.le_of_ble_eq_true rfl) dX0_open_51 ⟨Nat.zero_le _, Nat.zero_le _⟩ ?_
        exact W.iret (v := nI (cd_s6 (cd_op o f c₀ g))) hx hb hr (fun t ht hW => ⟨⟨nI (cd_s6 (cd_op o f c₀ g)), (pr, se, rk, ck, cu), rfl, ⟨rfl, hok⟩, by show va_P D cdCl _ t.heap; rw [ht]; exact hP⟩, hS.F ht⟩) hS.2.2 dX0_open_54
      · exact absurd hc (by omega)
    | succ d ih =>
      intro g pr se rk ck cu H locs ls hd hok hP hS hl
      have hD : va_D A (dkW h a1 a2 a3 a4 a5 cI cZ pr se rk ck cu n) := cw_D_same hD rfl
      obtain ⟨-, -, hc2, hpr, -, -, -, hcu⟩ := id hok
      refine lv_iload_n hx hb dX0_open_2 rfl (lv_at hl 0 rfl) ?_
      refine lv_aload_n hx hb dX0_open_3 rfl (lv_at hl 1 rfl) ?_
      refine gX0_made hx hb hts hown hK hP 0 rfl rfl dX0_open_4 ?_
      refine cw_ge (tgt := 50) (x := g) (y := n) hx hb dX0_open_7 (by decide) (by omega) (by omega) (fun hc => ?_) (fun hc => ?_)
      · exact absurd hc (by omega)
      · refine lv_aload_n hx hb dX0_open_10 rfl (lv_at hl 1 rfl) ?_
        refine lv_iload_n hx hb dX0_open_11 rfl (lv_at hl 0 rfl) ?_
        refine cw_callR (As := [.int (nI g)]) ⟨hx, hb, hml, hown, hts⟩ (c_X0_isInCut l D cI cZ h a1 a2 a3 a4 a5 pr se rk ck cu o f sd (cd_op o f c₀ g) n hok g hc) (kX0_X0_isInCut hts 2 0 0 60 ⟨by decide, by decide⟩) hK hP 0 rfl rfl rfl rfl hl.1 rfl (Nat.le_of_ble_eq_true rfl) dX0_open_12 ⟨Nat.zero_le _, Nat.zero_le _⟩ ?_
        refine lv_if_eq (tgt := 44) hx hb dX0_open_15 (by decide) (fun h1 => ?_) (fun h1 => ?_)
        · have e1 : cd_op o f c₀ (g + 1) = (cd_op o f c₀ g) := if_neg (fun z => cd_bI_z.mp h1 z.1)
          refine lv_iinc (k := 0) (v := nI (g + 1)) hx hb dX0_open_44 hl rfl (cd_inc _) (by decide) rfl (fun ls hl => ?_)
          have hl : lv_has ls 2 [(1, .int (nI (g + 1))), (0, .ref h)] := hl
          refine lv_goto (tgt := 2) hx hb dX0_open_47 (by decide) ?_
          exact ih (g + 1) pr se rk ck cu H locs ls (by omega) (by rw [e1]; exact hok) hP hS hl
        · have h1 : cd_mn o (o g) g < (cd_op o f c₀ g) (o g) := Classical.byContradiction (fun z => h1 (cd_bI_z.mpr z))
          refine lv_aload_n hx hb dX0_open_18 rfl (lv_at hl 1 rfl) ?_
          refine lv_iload_n hx hb dX0_open_19 rfl (lv_at hl 0 rfl) ?_
          refine cw_callR (As := [.int (nI g)]) ⟨hx, hb, hml, hown, hts⟩ (c_X0_isCoveredByCut l D cI cZ h a1 a2 a3 a4 a5 pr se rk ck cu o f sd (cd_op o f c₀ g) n hok g hc) (kX0_X0_isCoveredByCut hts 1 0 0 30 ⟨by decide, by decide⟩) hK hP 0 rfl rfl rfl rfl hl.1 rfl (Nat.le_of_ble_eq_true rfl) dX0_open_20 ⟨Nat.zero_le _, Nat.zero_le _⟩ ?_
          refine lv_if_ne (tgt := 44) hx hb dX0_open_23 (by decide) (fun h2 => ?_) (fun h2 => ?_)
          · have h2 : cd_c6 (cd_ck o f (g + 1)) (cd_op o f c₀ g) := Classical.byContradiction (fun z => h2 (cd_bI_z.mpr z))
            have e1 : cd_op o f c₀ (g + 1) = (cd_op o f c₀ g) := if_neg (fun z => z.2 h2)
            refine lv_iinc (k := 0) (v := nI (g + 1)) hx hb dX0_open_44 hl rfl (cd_inc _) (by decide) rfl (fun ls hl => ?_)
            have hl : lv_has ls 2 [(1, .int (nI (g + 1))), (0, .ref h)] := hl
            refine lv_goto (tgt := 2) hx hb dX0_open_47 (by decide) ?_
            exact ih (g + 1) pr se rk ck cu H locs ls (by omega) (by rw [e1]; exact hok) hP hS hl
          · have h2 : ¬ cd_c6 (cd_ck o f (g + 1)) (cd_op o f c₀ g) := cd_bI_z.mp (by simpa using h2)
            have e1 : cd_op o f c₀ (g + 1) = cd_up (cd_op o f c₀ g) (o g) (cd_mn o (o g) g) := if_pos ⟨h1, h2⟩
            have ho := (hwf g hc).1
            have hm := cd_mn_le o (o g) g
            refine lv_aload_n hx hb dX0_open_26 rfl (lv_at hl 1 rfl) ?_
            refine gX0_cutSizes hx hb hts hown hK hP 0 rfl rfl dX0_open_27 ?_
            refine lv_aload_n hx hb dX0_open_30 rfl (lv_at hl 1 rfl) ?_
            refine gX0_processes hx hb hts hown hK hP 0 rfl rfl dX0_open_31 ?_
            refine lv_iload_n hx hb dX0_open_34 rfl (lv_at hl 0 rfl) ?_
            refine cw_iald hx hb hK hP 1 0 rfl rfl (k := g) (v := nI (o g)) (by omega) (by decide) (hpr g hc) dX0_open_35 ?_
            refine lv_aload_n hx hb dX0_open_36 rfl (lv_at hl 1 rfl) ?_
            refine lv_iload_n hx hb dX0_open_37 rfl (lv_at hl 0 rfl) ?_
            refine cw_callR (As := [.int (nI g)]) ⟨hx, hb, hml, hown, hts⟩ (c_X0_placeOf l D cI cZ h a1 a2 a3 a4 a5 pr se rk ck cu o f sd (cd_op o f c₀ g) n hok g hc) (kX0_X0_placeOf hts 1 0 0 30 ⟨by decide, by decide⟩) hK hP 0 rfl rfl rfl rfl hl.1 rfl (Nat.le_of_ble_eq_true rfl) dX0_open_38 ⟨Nat.zero_le _, Nat.zero_le _⟩ ?_
            refine lv_iconst (v := nI 1) hx hb dX0_open_41 (by decide) ?_
            refine lv_isub hx hb dX0_open_42 ?_
            refine cw_topi (y := nI (cd_mn o (o g) g)) (nI_pred _) ?_
            refine cw_iast hx hb hK hP hD hS 5 0 rfl rfl (k := (o g)) (by omega) (by decide) dX0_open_43 (fun H locs hP hD hS => ?_)
            have hP : va_P D cdCl (dkW h a1 a2 a3 a4 a5 cI cZ pr se rk ck (upd cu (o g) (nI (cd_mn o (o g) g))) n) H := hP
            have hD : va_D A (dkW h a1 a2 a3 a4 a5 cI cZ pr se rk ck (upd cu (o g) (nI (cd_mn o (o g) g))) n) := hD
            have hok := cd_dk_cu (q := o g) (v := cd_mn o (o g) g) hok (by omega)
            refine lv_iinc (k := 0) (v := nI (g + 1)) hx hb dX0_open_44 hl rfl (cd_inc _) (by decide) rfl (fun ls hl => ?_)
            have hl : lv_has ls 2 [(1, .int (nI (g + 1))), (0, .ref h)] := hl
            refine lv_goto (tgt := 2) hx hb dX0_open_47 (by decide) ?_
            exact ih (g + 1) pr se rk ck _ H locs ls (by omega) (by rw [e1]; exact hok) hP hS hl
  refine lv_iconst (v := nI 0) hx hb dX0_open_0 (by decide) ?_
  refine lv_istore_n hx hb dX0_open_1 rfl hl (by decide) rfl (fun ls hl => ?_)
  have hl : lv_has ls 2 [(1, .int (nI 0)), (0, .ref h)] := hl
  exact loop n 0 pr se rk ck cu s.heap [] ls (by omega) hok hP hS hl
