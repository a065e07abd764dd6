/-! THE MODEL: back, longest -/
set_option maxHeartbeats 4000000 in
set_option maxRecDepth 100000 in
/-- back: the search backwards -/
theorem c_X1_back (l : Launch) (D : va_G) (cI cZ : ClassId) (h b1 b2 b3 b4 b5 b6 b7 : Nat) (er : Int32) (mo mf mt ma mc ms mq : Nat → Int32) (o f : Nat → Nat) (sd : Nat → Bool) (c₀ : Nat → Nat) (n : Nat) (hok : cd_md o f sd c₀ n mo mf mc ms) (sz : Nat) (k : Nat) (hk : k < n) : Met l yX1_back (.code yX1_back cX1_back 6 none :: tW) (rmL 1) (cw_Pc D cdCl (dkT cI cZ) (mdW h b1 b2 b3 b4 b5 b6 b7 cI cZ er mo mf mt ma mc ms mq n) sz [.ref h, .int (nI k)]) (va_Qv (fun (u : ((Nat → Int32) × (Nat → Int32))) => ∀ i, i < n → u.2 i = cd_bI (i ≠ k ∧ cd_mn o (o i) i < cd_ck o f (k + 1) (o i))) (fun u t => va_P D cdCl ((fun u => (mdW h b1 b2 b3 b4 b5 b6 b7 cI cZ er mo mf u.1 ma mc ms u.2 n)) u) t.heap) (va_A (mdW h b1 b2 b3 b4 b5 b6 b7 cI cZ er mo mf mt ma mc ms mq n) sz)) 0 0 (va_A (mdW h b1 b2 b3 b4 b5 b6 b7 cI cZ er mo mf mt ma mc ms mq n) sz) := by
  refine Met.ofW (cc := cX1_back) (maxL := 6) (ret := none) (by decide) rfl ?_
  intro p e s m args below meth c s₁ B hml hv
  obtain ⟨rfl, hsz, hP, hK, hD0⟩ := hv
  have hx := B.exec
  have hb := B.bytes
  have hr := B.returns
  have hts := atoms_spec (ws := .code yX1_back cX1_back 6 none :: tW) B.pre
  have hown : s.vm.findClass RX1 = some m.cls := findClass_of_methodNamed B.named
  have hlocks := B.notSynchronized
  have hl := lv_entry ([.ref h, .int (nI k)]) (n := 6) (Nat.le_of_ble_eq_true rfl)
  rw [lg_entry_eq]
  generalize (lg_sl ([.ref h, .int (nI k)]) ++ List.replicate (6 - (lg_sl ([.ref h, .int (nI k)])).length) Slot.unset).toArray = ls at hl ⊢
  have hl : lv_has ls 6 [(0, .ref h), (1, .int (nI k))] := hl
  subst hsz
  have hD := hD0.self (sz := s.heap.size)
  generalize hAe : va_A (mdW h b1 b2 b3 b4 b5 b6 b7 cI cZ er mo mf mt ma mc ms mq n) s.heap.size = A at hD ⊢
  have hA : ∀ q : Nat, s.heap.size ≤ q → A q := fun q h => by rw [← hAe]; exact Or.inr h
  have hS : va_S A s.heap s.heap [] := va_S.rf
  have hok0 := hok
  obtain ⟨hn, hwf, hc2, hmo, hmf, hms, hmc⟩ := hok0
  have main : ∀ (N t a : Nat) (mt mq : Nat → Int32) (H : Heap) (locs : List Loc) (ls : Array Slot), 2 * cd_ct (fun i => mq i = 0) n + t ≤ N → cd_bi o f n k 0 t a mt mq → va_P D cdCl (mdW h b1 b2 b3 b4 b5 b6 b7 cI cZ er mo mf mt ma mc ms mq n) H → va_S A s.heap H locs → lv_has ls 6 [(3, .int (nI a)), (2, .int (nI t)), (0, .ref h), (1, .int (nI k))] → W p l e (rmL 1) s m (List.toArray [.ref h, .int (nI k)]) below meth c H locs 0 0 (MQ below (va_Qv (fun (u : ((Nat → Int32) × (Nat → Int32))) => ∀ i, i < n → u.2 i = cd_bI (i ≠ k ∧ cd_mn o (o i) i < cd_ck o f (k + 1) (o i))) (fun u t => va_P D cdCl ((fun u => (mdW h b1 b2 b3 b4 b5 b6 b7 cI cZ er mo mf u.1 ma mc ms u.2 n)) u) t.heap) (A)) (List.toArray [.ref h, .int (nI k)]) s 0 0 A) (F0 m 27 ls []) := by
    intro N
    induction N with
    | zero =>
      intro t a mt mq H locs ls hM hbi hP hS hl
      have exit : ∀ (t : Nat) (mt mq : Nat → Int32) (H : Heap) (locs : List Loc) (ls : Array Slot), 2 * cd_ct (fun i => mq i = 0) n + t ≤ 0 → cd_bi o f n k 2 t a mt mq → va_P D cdCl (mdW h b1 b2 b3 b4 b5 b6 b7 cI cZ er mo mf mt ma mc ms mq n) H → va_S A s.heap H locs → lv_has ls 6 [(3, .int (nI a)), (2, .int (nI t)), (0, .ref h), (1, .int (nI k))] → W p l e (rmL 1) s m (List.toArray [.ref h, .int (nI k)]) below meth c H locs 0 0 (MQ below (va_Qv (fun (u : ((Nat → Int32) × (Nat → Int32))) => ∀ i, i < n → u.2 i = cd_bI (i ≠ k ∧ cd_mn o (o i) i < cd_ck o f (k + 1) (o i))) (fun u t => va_P D cdCl ((fun u => (mdW h b1 b2 b3 b4 b5 b6 b7 cI cZ er mo mf u.1 ma mc ms u.2 n)) u) t.heap) (A)) (List.toArray [.ref h, .int (nI k)]) s 0 0 A) (F0 m 100 ls []) := by
        intro t mt mq H locs ls hM hbi hP hS hl
        have hD : va_D A (mdW h b1 b2 b3 b4 b5 b6 b7 cI cZ er mo mf mt ma mc ms mq n) := cw_D_same hD rfl
        refine lv_iload_n hx hb dX1_back_100 rfl (lv_at hl 1 rfl) ?_
        refine lv_if_ne (tgt := 105) hx hb dX1_back_101 (by decide) (fun hc => ?_) (fun hc => ?_)
        · exact absurd (show t = 0 by omega) (fun z => hc (by rw [z]; decide))
        · have ht0 : t = 0 := (nI_eq (b := 0) (by have := hbi.2.2.2.2.2.1; omega) (by omega)).mp hc
          subst ht0
          exact W.vret hx hb hr (fun t ht hW => ⟨⟨(mt, mq), rfl, cd_bi_end hwf hk hbi, by show va_P D cdCl _ t.heap; rw [ht]; exact hP⟩, hS.F ht⟩) hS.2.2 dX1_back_104
      have inner : ∀ (d w t : Nat) (mt mq : Nat → Int32) (H : Heap) (locs : List Loc) (ls : Array Slot), w + d = 2 → 2 * cd_ct (fun i => mq i = 0) n + t ≤ 0 → cd_bi o f n k w t a mt mq → va_P D cdCl (mdW h b1 b2 b3 b4 b5 b6 b7 cI cZ er mo mf mt ma mc ms mq n) H → va_S A s.heap H locs → lv_has ls 6 [(4, .int (nI w)), (2, .int (nI t)), (3, .int (nI a)), (0, .ref h), (1, .int (nI k))] → W p l e (rmL 1) s m (List.toArray [.ref h, .int (nI k)]) below meth c H locs 0 0 (MQ below (va_Qv (fun (u : ((Nat → Int32) × (Nat → Int32))) => ∀ i, i < n → u.2 i = cd_bI (i ≠ k ∧ cd_mn o (o i) i < cd_ck o f (k + 1) (o i))) (fun u t => va_P D cdCl ((fun u => (mdW h b1 b2 b3 b4 b5 b6 b7 cI cZ er mo mf u.1 ma mc ms u.2 n)) u) t.heap) (A)) (List.toArray [.ref h, .int (nI k)]) s 0 0 A) (F0 m 30 ls []) := by
        intro d
        induction d with
        | zero =>
          intro w t mt mq H locs ls hw hM hbi hP hS hl
          have hD : va_D A (mdW h b1 b2 b3 b4 b5 b6 b7 cI cZ er mo mf mt ma mc ms mq n) := cw_D_same hD rfl
          have ha := hbi.1
          have htl := hbi.2.2.2.2.2.1
          refine lv_iload hx hb dX1_back_30 (lv_at hl 0 rfl) ?_
          refine lv_iconst (v := nI 2) hx hb dX1_back_32 (by decide) ?_
          refine cw_ge (tgt := 100) (x := w) (y := 2) hx hb dX1_back_33 (by decide) (by omega) (by omega) (fun hc => ?_) (fun hc => ?_)
          · have hw2 : w = 2 := by omega
            subst hw2
            exact exit t mt mq H locs ls hM hbi hP hS (lv_sub hl [2, 1, 3, 4] rfl)
          · exact absurd hc (by omega)
        | succ d ih2 =>
          intro w t mt mq H locs ls hw hM hbi hP hS hl
          have hD : va_D A (mdW h b1 b2 b3 b4 b5 b6 b7 cI cZ er mo mf mt ma mc ms mq n) := cw_D_same hD rfl
          have ha := hbi.1
          have htl := hbi.2.2.2.2.2.1
          refine lv_iload hx hb dX1_back_30 (lv_at hl 0 rfl) ?_
          refine lv_iconst (v := nI 2) hx hb dX1_back_32 (by decide) ?_
          refine cw_ge (tgt := 100) (x := w) (y := 2) hx hb dX1_back_33 (by decide) (by omega) (by omega) (fun hc => ?_) (fun hc => ?_)
          · exact absurd hc (by omega)
          · have join : ∀ q : Nat, q = cd_pa o f w a → W p l e (rmL 1) s m (List.toArray [.ref h, .int (nI k)]) below meth c H locs 0 0 (MQ below (va_Qv (fun (u : ((Nat → Int32) × (Nat → Int32))) => ∀ i, i < n → u.2 i = cd_bI (i ≠ k ∧ cd_mn o (o i) i < cd_ck o f (k + 1) (o i))) (fun u t => va_P D cdCl ((fun u => (mdW h b1 b2 b3 b4 b5 b6 b7 cI cZ er mo mf u.1 ma mc ms u.2 n)) u) t.heap) (A)) (List.toArray [.ref h, .int (nI k)]) s 0 0 A) (F0 m 55 ls [.int (cd_pI q)]) := by
              intro q hq
              have hqa : q ≤ n := by
                rw [hq]; unfold cd_pa
                have z1 := cd_fm_le o (o a) a
                have z2 := (hwf a ha).2
                split <;> omega
              refine lv_istore hx hb dX1_back_55 hl (by decide) rfl (fun ls hl => ?_)
              have hl : lv_has ls 6 [(5, .int (cd_pI q)), (4, .int (nI w)), (2, .int (nI t)), (3, .int (nI a)), (0, .ref h), (1, .int (nI k))] := hl
              refine lv_iload hx hb dX1_back_57 (lv_at hl 0 rfl) ?_
              refine lv_if_lt (tgt := 94) hx hb dX1_back_59 (by decide) (fun h1 => ?_) (fun h1 => ?_)
              · refine lv_iinc (k := 1) (v := nI (w + 1)) hx hb dX1_back_94 hl rfl (cd_inc _) (by decide) rfl (fun ls hl => ?_)
                have hl : lv_has ls 6 [(4, .int (nI (w + 1))), (5, .int (cd_pI q)), (2, .int (nI t)), (3, .int (nI a)), (0, .ref h), (1, .int (nI k))] := hl
                refine lv_goto (tgt := 30) hx hb dX1_back_97 (by decide) ?_
                exact ih2 (w + 1) t mt mq H locs ls (by omega) hM (cd_bi_skip hbi (by omega) (fun i hi => by have := (cd_pI_neg (by omega)).mp h1; omega)) hP hS (lv_sub hl [0, 2, 3, 4, 5] rfl)
              · obtain ⟨i, rfl⟩ : ∃ i, q = i + 1 := ⟨q - 1, by have : q ≠ 0 := fun z => h1 ((cd_pI_neg (by omega)).mpr z); omega⟩
                obtain ⟨hia, -⟩ := cd_bf_pa hwf hk ha (hbi.2.1.imp id (hbi.2.2.2.1 a ha)) hq.symm
                have hl : lv_has ls 6 [(5, .int (nI i)), (4, .int (nI w)), (2, .int (nI t)), (3, .int (nI a)), (0, .ref h), (1, .int (nI k))] := hl
                refine lv_aload_n hx hb dX1_back_62 rfl (lv_at hl 4 rfl) ?_
                refine gX1_seen hx hb hts hown hK hP 0 rfl rfl dX1_back_63 ?_
                refine lv_iload hx hb dX1_back_66 (lv_at hl 0 rfl) ?_
                refine cw_zald hx hb hK hP 7 1 rfl rfl (k := i) (v := mq i) (by omega) (by decide) rfl dX1_back_68 ?_
                refine lv_if_eq (tgt := 75) hx hb dX1_back_69 (by decide) (fun h2 => ?_) (fun h2 => ?_)
                · have hct := cd_ct_upd h2 n (by omega)
                  refine lv_aload_n hx hb dX1_back_75 rfl (lv_at hl 4 rfl) ?_
                  refine gX1_seen hx hb hts hown hK hP 0 rfl rfl dX1_back_76 ?_
                  refine lv_iload hx hb dX1_back_79 (lv_at hl 0 rfl) ?_
                  refine lv_iconst (v := nI 1) hx hb dX1_back_81 (by decide) ?_
                  refine cw_zast hx hb hK hP hD hS 7 1 rfl rfl (k := i) (by omega) (by decide) (by first | rfl | (unfold cd_bI; split <;> rfl)) dX1_back_82 (fun H locs hP hD hS => ?_)
                  have hP : va_P D cdCl (mdW h b1 b2 b3 b4 b5 b6 b7 cI cZ er mo mf mt ma mc ms (upd mq i 1) n) H := hP
                  have hD : va_D A (mdW h b1 b2 b3 b4 b5 b6 b7 cI cZ er mo mf mt ma mc ms (upd mq i 1) n) := hD
                  refine lv_aload_n hx hb dX1_back_83 rfl (lv_at hl 4 rfl) ?_
                  refine gX1_todo hx hb hts hown hK hP 0 rfl rfl dX1_back_84 ?_
                  refine lv_iload_n hx hb dX1_back_87 rfl (lv_at hl 2 rfl) ?_
                  refine lv_iinc (k := 2) (v := nI (t + 1)) hx hb dX1_back_88 hl rfl (cd_inc _) (by decide) rfl (fun ls hl => ?_)
                  have hl : lv_has ls 6 [(2, .int (nI (t + 1))), (5, .int (nI i)), (4, .int (nI w)), (3, .int (nI a)), (0, .ref h), (1, .int (nI k))] := hl
                  refine lv_iload hx hb dX1_back_91 (lv_at hl 1 rfl) ?_
                  refine cw_iast hx hb hK hP hD hS 3 0 rfl rfl (k := t) (by omega) (by decide) dX1_back_93 (fun H locs hP hD hS => ?_)
                  have hP : va_P D cdCl (mdW h b1 b2 b3 b4 b5 b6 b7 cI cZ er mo mf (upd mt t (nI i)) ma mc ms (upd mq i 1) n) H := hP
                  have hD : va_D A (mdW h b1 b2 b3 b4 b5 b6 b7 cI cZ er mo mf (upd mt t (nI i)) ma mc ms (upd mq i 1) n) := hD
                  refine lv_iinc (k := 2) (v := nI (w + 1)) hx hb dX1_back_94 hl rfl (cd_inc _) (by decide) rfl (fun ls hl => ?_)
                  have hl : lv_has ls 6 [(4, .int (nI (w + 1))), (2, .int (nI (t + 1))), (5, .int (nI i)), (3, .int (nI a)), (0, .ref h), (1, .int (nI k))] := hl
                  refine lv_goto (tgt := 30) hx hb dX1_back_97 (by decide) ?_
                  exact ih2 (w + 1) (t + 1) _ _ H locs ls (by omega) (by omega) (cd_bi_push hwf hk hbi (by omega) hq.symm h2 hn) hP hS (lv_sub hl [0, 1, 3, 4, 5] rfl)
                · refine lv_goto (tgt := 94) hx hb dX1_back_72 (by decide) ?_
                  refine lv_iinc (k := 1) (v := nI (w + 1)) hx hb dX1_back_94 hl rfl (cd_inc _) (by decide) rfl (fun ls hl => ?_)
                  have hl : lv_has ls 6 [(4, .int (nI (w + 1))), (5, .int (nI i)), (2, .int (nI t)), (3, .int (nI a)), (0, .ref h), (1, .int (nI k))] := hl
                  refine lv_goto (tgt := 30) hx hb dX1_back_97 (by decide) ?_
                  exact ih2 (w + 1) t mt mq H locs ls (by omega) hM (cd_bi_skip hbi (by omega) (fun i2 hi2 => by rw [show i2 = i by omega]; exact (hbi.2.2.1 i (by omega)).resolve_left h2)) hP hS (lv_sub hl [0, 2, 3, 4, 5] rfl)
            refine lv_iload hx hb dX1_back_36 (lv_at hl 0 rfl) ?_
            refine lv_if_ne (tgt := 49) hx hb dX1_back_38 (by decide) (fun h3 => ?_) (fun h3 => ?_)
            · refine lv_aload_n hx hb dX1_back_49 rfl (lv_at hl 3 rfl) ?_
              refine gX1_from hx hb hts hown hK hP 0 rfl rfl dX1_back_50 ?_
              refine lv_iload_n hx hb dX1_back_53 rfl (lv_at hl 2 rfl) ?_
              refine cw_iald hx hb hK hP 2 0 rfl rfl (k := a) (v := cd_pI (f a)) (by omega) (by decide) (hmf a ha) dX1_back_54 ?_
              exact join (f a) (by unfold cd_pa; rw [if_neg (fun z => h3 (by rw [z]; decide))])
            · refine lv_aload_n hx hb dX1_back_41 rfl (lv_at hl 3 rfl) ?_
              refine lv_iload_n hx hb dX1_back_42 rfl (lv_at hl 2 rfl) ?_
              refine cw_callR (As := [.int (nI a)]) ⟨hx, hb, hml, hown, hts⟩ (c_X1_former l D cI cZ h b1 b2 b3 b4 b5 b6 b7 er mo mf mt ma mc ms mq o f sd c₀ n hok a ha) (kX1_X1_former hts 0 0 0 0 ⟨by decide, by decide⟩) hK hP 0 rfl rfl rfl rfl hl.1 rfl (Nat.le_of_ble_eq_true rfl) dX1_back_43 ⟨Nat.zero_le _, Nat.zero_le _⟩ ?_
              refine lv_goto (tgt := 55) hx hb dX1_back_46 (by decide) ?_
              exact join (cd_fm o (o a) a) (by unfold cd_pa; rw [if_pos ((nI_eq (b := 0) (by omega) (by omega)).mp h3)])
      refine lv_iconst (v := nI 0) hx hb dX1_back_27 (by decide) ?_
      refine lv_istore hx hb dX1_back_28 hl (by decide) rfl (fun ls hl => ?_)
      have hl : lv_has ls 6 [(4, .int (nI 0)), (3, .int (nI a)), (2, .int (nI t)), (0, .ref h), (1, .int (nI k))] := hl
      exact inner 2 0 t mt mq H locs ls (by omega) hM hbi hP hS (lv_sub hl [0, 2, 1, 3, 4] rfl)
    | succ N ih =>
      intro t a mt mq H locs ls hM hbi hP hS hl
      have exit : ∀ (t : Nat) (mt mq : Nat → Int32) (H : Heap) (locs : List Loc) (ls : Array Slot), 2 * cd_ct (fun i => mq i = 0) n + t ≤ (N + 1) → cd_bi o f n k 2 t a mt mq → va_P D cdCl (mdW h b1 b2 b3 b4 b5 b6 b7 cI cZ er mo mf mt ma mc ms mq n) H → va_S A s.heap H locs → lv_has ls 6 [(3, .int (nI a)), (2, .int (nI t)), (0, .ref h), (1, .int (nI k))] → W p l e (rmL 1) s m (List.toArray [.ref h, .int (nI k)]) below meth c H locs 0 0 (MQ below (va_Qv (fun (u : ((Nat → Int32) × (Nat → Int32))) => ∀ i, i < n → u.2 i = cd_bI (i ≠ k ∧ cd_mn o (o i) i < cd_ck o f (k + 1) (o i))) (fun u t => va_P D cdCl ((fun u => (mdW h b1 b2 b3 b4 b5 b6 b7 cI cZ er mo mf u.1 ma mc ms u.2 n)) u) t.heap) (A)) (List.toArray [.ref h, .int (nI k)]) s 0 0 A) (F0 m 100 ls []) := by
        intro t mt mq H locs ls hM hbi hP hS hl
        have hD : va_D A (mdW h b1 b2 b3 b4 b5 b6 b7 cI cZ er mo mf mt ma mc ms mq n) := cw_D_same hD rfl
        refine lv_iload_n hx hb dX1_back_100 rfl (lv_at hl 1 rfl) ?_
        refine lv_if_ne (tgt := 105) hx hb dX1_back_101 (by decide) (fun hc => ?_) (fun hc => ?_)
        · obtain ⟨t', rfl⟩ : ∃ t', t = t' + 1 := ⟨t - 1, by have : t ≠ 0 := fun z => hc (by rw [z]; decide); omega⟩
          obtain ⟨a', ha', hta, hbi'⟩ := cd_bi_pop hn hbi
          have htl := hbi.2.2.2.2.2.1
          have hl : lv_has ls 6 [(3, .int (nI a)), (2, .int (nI (t' + 1))), (0, .ref h), (1, .int (nI k))] := hl
          refine lv_aload_n hx hb dX1_back_105 rfl (lv_at hl 2 rfl) ?_
          refine gX1_todo hx hb hts hown hK hP 0 rfl rfl dX1_back_106 ?_
          refine lv_iinc (k := 1) (v := cd_pI (t' + 1)) hx hb dX1_back_109 hl rfl (cd_pI_dec _) (by decide) rfl (fun ls hl => ?_)
          have hl : lv_has ls 6 [(2, .int (cd_pI (t' + 1))), (3, .int (nI a)), (0, .ref h), (1, .int (nI k))] := hl
          have hl : lv_has ls 6 [(2, .int (nI t')), (3, .int (nI a)), (0, .ref h), (1, .int (nI k))] := hl
          refine lv_iload_n hx hb dX1_back_112 rfl (lv_at hl 0 rfl) ?_
          refine cw_iald hx hb hK hP 3 0 rfl rfl (k := t') (v := nI a') (by omega) (by decide) hta dX1_back_113 ?_
          refine lv_istore_n hx hb dX1_back_114 rfl hl (by decide) rfl (fun ls hl => ?_)
          have hl : lv_has ls 6 [(3, .int (nI a')), (2, .int (nI t')), (0, .ref h), (1, .int (nI k))] := hl
          refine lv_goto (tgt := 27) hx hb dX1_back_115 (by decide) ?_
          exact ih t' a' mt mq H locs ls (by omega) hbi' hP hS (lv_sub hl [0, 1, 2, 3] rfl)
        · have ht0 : t = 0 := (nI_eq (b := 0) (by have := hbi.2.2.2.2.2.1; omega) (by omega)).mp hc
          subst ht0
          exact W.vret hx hb hr (fun t ht hW => ⟨⟨(mt, mq), rfl, cd_bi_end hwf hk hbi, by show va_P D cdCl _ t.heap; rw [ht]; exact hP⟩, hS.F ht⟩) hS.2.2 dX1_back_104
      have inner : ∀ (d w t : Nat) (mt mq : Nat → Int32) (H : Heap) (locs : List Loc) (ls : Array Slot), w + d = 2 → 2 * cd_ct (fun i => mq i = 0) n + t ≤ (N + 1) → cd_bi o f n k w t a mt mq → va_P D cdCl (mdW h b1 b2 b3 b4 b5 b6 b7 cI cZ er mo mf mt ma mc ms mq n) H → va_S A s.heap H locs → lv_has ls 6 [(4, .int (nI w)), (2, .int (nI t)), (3, .int (nI a)), (0, .ref h), (1, .int (nI k))] → W p l e (rmL 1) s m (List.toArray [.ref h, .int (nI k)]) below meth c H locs 0 0 (MQ below (va_Qv (fun (u : ((Nat → Int32) × (Nat → Int32))) => ∀ i, i < n → u.2 i = cd_bI (i ≠ k ∧ cd_mn o (o i) i < cd_ck o f (k + 1) (o i))) (fun u t => va_P D cdCl ((fun u => (mdW h b1 b2 b3 b4 b5 b6 b7 cI cZ er mo mf u.1 ma mc ms u.2 n)) u) t.heap) (A)) (List.toArray [.ref h, .int (nI k)]) s 0 0 A) (F0 m 30 ls []) := by
        intro d
        induction d with
        | zero =>
          intro w t mt mq H locs ls hw hM hbi hP hS hl
          have hD : va_D A (mdW h b1 b2 b3 b4 b5 b6 b7 cI cZ er mo mf mt ma mc ms mq n) := cw_D_same hD rfl
          have ha := hbi.1
          have htl := hbi.2.2.2.2.2.1
          refine lv_iload hx hb dX1_back_30 (lv_at hl 0 rfl) ?_
          refine lv_iconst (v := nI 2) hx hb dX1_back_32 (by decide) ?_
          refine cw_ge (tgt := 100) (x := w) (y := 2) hx hb dX1_back_33 (by decide) (by omega) (by omega) (fun hc => ?_) (fun hc => ?_)
          · have hw2 : w = 2 := by omega
            subst hw2
            exact exit t mt mq H locs ls hM hbi hP hS (lv_sub hl [2, 1, 3, 4] rfl)
          · exact absurd hc (by omega)
        | succ d ih2 =>
          intro w t mt mq H locs ls hw hM hbi hP hS hl
          have hD : va_D A (mdW h b1 b2 b3 b4 b5 b6 b7 cI cZ er mo mf mt ma mc ms mq n) := cw_D_same hD rfl
          have ha := hbi.1
          have htl := hbi.2.2.2.2.2.1
          refine lv_iload hx hb dX1_back_30 (lv_at hl 0 rfl) ?_
          refine lv_iconst (v := nI 2) hx hb dX1_back_32 (by decide) ?_
          refine cw_ge (tgt := 100) (x := w) (y := 2) hx hb dX1_back_33 (by decide) (by omega) (by omega) (fun hc => ?_) (fun hc => ?_)
          · exact absurd hc (by omega)
          · have join : ∀ q : Nat, q = cd_pa o f w a → W p l e (rmL 1) s m (List.toArray [.ref h, .int (nI k)]) below meth c H locs 0 0 (MQ below (va_Qv (fun (u : ((Nat → Int32) × (Nat → Int32))) => ∀ i, i < n → u.2 i = cd_bI (i ≠ k ∧ cd_mn o (o i) i < cd_ck o f (k + 1) (o i))) (fun u t => va_P D cdCl ((fun u => (mdW h b1 b2 b3 b4 b5 b6 b7 cI cZ er mo mf u.1 ma mc ms u.2 n)) u) t.heap) (A)) (List.toArray [.ref h, .int (nI k)]) s 0 0 A) (F0 m 55 ls [.int (cd_pI q)]) := by
              intro q hq
              have hqa : q ≤ n := by
                rw [hq]; unfold cd_pa
                have z1 := cd_fm_le o (o a) a
                have z2 := (hwf a ha).2
                split <;> omega
              refine lv_istore hx hb dX1_back_55 hl (by decide) rfl (fun ls hl => ?_)
              have hl : lv_has ls 6 [(5, .int (cd_pI q)), (4, .int (nI w)), (2, .int (nI t)), (3, .int (nI a)), (0, .ref h), (1, .int (nI k))] := hl
              refine lv_iload hx hb dX1_back_57 (lv_at hl 0 rfl) ?_
              refine lv_if_lt (tgt := 94) hx hb dX1_back_59 (by decide) (fun h1 => ?_) (fun h1 => ?_)
              · refine lv_iinc (k := 1) (v := nI (w + 1)) hx hb dX1_back_94 hl rfl (cd_inc _) (by decide) rfl (fun ls hl => ?_)
                have hl : lv_has ls 6 [(4, .int (nI (w + 1))), (5, .int (cd_pI q)), (2, .int (nI t)), (3, .int (nI a)), (0, .ref h), (1, .int (nI k))] := hl
                refine lv_goto (tgt := 30) hx hb dX1_back_97 (by decide) ?_
                exact ih2 (w + 1) t mt mq H locs ls (by omega) hM (cd_bi_skip hbi (by omega) (fun i hi => by have := (cd_pI_neg (by omega)).mp h1; omega)) hP hS (lv_sub hl [0, 2, 3, 4, 5] rfl)
              · obtain ⟨i, rfl⟩ : ∃ i, q = i + 1 := ⟨q - 1, by have : q ≠ 0 := fun z => h1 ((cd_pI_neg (by omega)).mpr z); omega⟩
                obtain ⟨hia, -⟩ := cd_bf_pa hwf hk ha (hbi.2.1.imp id (hbi.2.2.2.1 a ha)) hq.symm
                have hl : lv_has ls 6 [(5, .int (nI i)), (4, .int (nI w)), (2, .int (nI t)), (3, .int (nI a)), (0, .ref h), (1, .int (nI k))] := hl
                refine lv_aload_n hx hb dX1_back_62 rfl (lv_at hl 4 rfl) ?_
                refine gX1_seen hx hb hts hown hK hP 0 rfl rfl dX1_back_63 ?_
                refine lv_iload hx hb dX1_back_66 (lv_at hl 0 rfl) ?_
                refine cw_zald hx hb hK hP 7 1 rfl rfl (k := i) (v := mq i) (by omega) (by decide) rfl dX1_back_68 ?_
                refine lv_if_eq (tgt := 75) hx hb dX1_back_69 (by decide) (fun h2 => ?_) (fun h2 => ?_)
                · have hct := cd_ct_upd h2 n (by omega)
                  refine lv_aload_n hx hb dX1_back_75 rfl (lv_at hl 4 rfl) ?_
                  refine gX1_seen hx hb hts hown hK hP 0 rfl rfl dX1_back_76 ?_
                  refine lv_iload hx hb dX1_back_79 (lv_at hl 0 rfl) ?_
                  refine lv_iconst (v := nI 1) hx hb dX1_back_81 (by decide) ?_
                  refine cw_zast hx hb hK hP hD hS 7 1 rfl rfl (k := i) (by omega) (by decide) (by first | rfl | (unfold cd_bI; split <;> rfl)) dX1_back_82 (fun H locs hP hD hS => ?_)
                  have hP : va_P D cdCl (mdW h b1 b2 b3 b4 b5 b6 b7 cI cZ er mo mf mt ma mc ms (upd mq i 1) n) H := hP
                  have hD : va_D A (mdW h b1 b2 b3 b4 b5 b6 b7 cI cZ er mo mf mt ma mc ms (upd mq i 1) n) := hD
                  refine lv_aload_n hx hb dX1_back_83 rfl (lv_at hl 4 rfl) ?_
                  refine gX1_todo hx hb hts hown hK hP 0 rfl rfl dX1_back_84 ?_
                  refine lv_iload_n hx hb dX1_back_87 rfl (lv_at hl 2 rfl) ?_
                  refine lv_iinc (k := 2) (v := nI (t + 1)) hx hb dX1_back_88 hl rfl (cd_inc _) (by decide) rfl (fun ls hl => ?_)
                  have hl : lv_has ls 6 [(2, .int (nI (t + 1))), (5, .int (nI i)), (4, .int (nI w)), (3, .int (nI a)), (0, .ref h), (1, .int (nI k))] := hl
                  refine lv_iload hx hb dX1_back_91 (lv_at hl 1 rfl) ?_
                  refine cw_iast hx hb hK hP hD hS 3 0 rfl rfl (k := t) (by omega) (by decide) dX1_back_93 (fun H locs hP hD hS => ?_)
                  have hP : va_P D cdCl (mdW h b1 b2 b3 b4 b5 b6 b7 cI cZ er mo mf (upd mt t (nI i)) ma mc ms (upd mq i 1) n) H := hP
                  have hD : va_D A (mdW h b1 b2 b3 b4 b5 b6 b7 cI cZ er mo mf (upd mt t (nI i)) ma mc ms (upd mq i 1) n) := hD
                  refine lv_iinc (k := 2) (v := nI (w + 1)) hx hb dX1_back_94 hl rfl (cd_inc _) (by decide) rfl (fun ls hl => ?_)
                  have hl : lv_has ls 6 [(4, .int (nI (w + 1))), (2, .int (nI (t + 1))), (5, .int (nI i)), (3, .int (nI a)), (0, .ref h), (1, .int (nI k))] := hl
                  refine lv_goto (tgt := 30) hx hb dX1_back_97 (by decide) ?_
                  exact ih2 (w + 1) (t + 1) _ _ H locs ls (by omega) (by omega) (cd_bi_push hwf hk hbi (by omega) hq.symm h2 hn) hP hS (lv_sub hl [0, 1, 3, 4, 5] rfl)
                · refine lv_goto (tgt := 94) hx hb dX1_back_72 (by decide) ?_
                  refine lv_iinc (k := 1) (v := nI (w + 1)) hx hb dX1_back_94 hl rfl (cd_inc _) (by decide) rfl (fun ls hl => ?_)
                  have hl : lv_has ls 6 [(4, .int (nI (w + 1))), (5, .int (nI i)), (2, .int (nI t)), (3, .int (nI a)), (0, .ref h), (1, .int (nI k))] := hl
                  refine lv_goto (tgt := 30) hx hb dX1_back_97 (by decide) ?_
                  exact ih2 (w + 1) t mt mq H locs ls (by omega) hM (cd_bi_skip hbi (by omega) (fun i2 hi2 => by rw [show i2 = i by omega]; exact (hbi.2.2.1 i (by omega)).resolve_left h2)) hP hS (lv_sub hl [0, 2, 3, 4, 5] rfl)
            refine lv_iload hx hb dX1_back_36 (lv_at hl 0 rfl) ?_
            refine lv_if_ne (tgt := 49) hx hb dX1_back_38 (by decide) (fun h3 => ?_) (fun h3 => ?_)
            · refine lv_aload_n hx hb dX1_back_49 rfl (lv_at hl 3 rfl) ?_
              refine gX1_from hx hb hts hown hK hP 0 rfl rfl dX1_back_50 ?_
              refine lv_iload_n hx hb dX1_back_53 rfl (lv_at hl 2 rfl) ?_
              refine cw_iald hx hb hK hP 2 0 rfl rfl (k := a) (v := cd_pI (f a)) (by omega) (by decide) (hmf a ha) dX1_back_54 ?_
              exact join (f a) (by unfold cd_pa; rw [if_neg (fun z => h3 (by rw [z]; decide))])
            · refine lv_aload_n hx hb dX1_back_41 rfl (lv_at hl 3 rfl) ?_
              refine lv_iload_n hx hb dX1_back_42 rfl (lv_at hl 2 rfl) ?_
              refine cw_callR (As := [.int (nI a)]) ⟨hx, hb, hml, hown, hts⟩ (c_X1_former l D cI cZ h b1 b2 b3 b4 b5 b6 b7 er mo mf mt ma mc ms mq o f sd c₀ n hok a ha) (kX1_X1_former hts 0 0 0 0 ⟨by decide, by decide⟩) hK hP 0 rfl rfl rfl rfl hl.1 rfl (Nat.le_of_ble_eq_true rfl) dX1_back_43 ⟨Nat.zero_le _, Nat.zero_le _⟩ ?_
              refine lv_goto (tgt := 55) hx hb dX1_back_46 (by decide) ?_
              exact join (cd_fm o (o a) a) (by unfold cd_pa; rw [if_pos ((nI_eq (b := 0) (by omega) (by omega)).mp h3)])
      refine lv_iconst (v := nI 0) hx hb dX1_back_27 (by decide) ?_
      refine lv_istore hx hb dX1_back_28 hl (by decide) rfl (fun ls hl => ?_)
      have hl : lv_has ls 6 [(4, .int (nI 0)), (3, .int (nI a)), (2, .int (nI t)), (0, .ref h), (1, .int (nI k))] := hl
      exact inner 2 0 t mt mq H locs ls (by omega) hM hbi hP hS (lv_sub hl [0, 2, 1, 3, 4] rfl)
  have clear : ∀ (d g : Nat) (mq : Nat → Int32) (H : Heap) (locs : List Loc) (ls : Array Slot), g + d = n → (∀ i, i < g → mq i = 0) → va_P D cdCl (mdW h b1 b2 b3 b4 b5 b6 b7 cI cZ er mo mf mt ma mc ms mq n) H → va_S A s.heap H locs → lv_has ls 6 [(2, .int (nI g)), (0, .ref h), (1, .int (nI k))] → W p l e (rmL 1) s m (List.toArray [.ref h, .int (nI k)]) below meth c H locs 0 0 (MQ below (va_Qv (fun (u : ((Nat → Int32) × (Nat → Int32))) => ∀ i, i < n → u.2 i = cd_bI (i ≠ k ∧ cd_mn o (o i) i < cd_ck o f (k + 1) (o i))) (fun u t => va_P D cdCl ((fun u => (mdW h b1 b2 b3 b4 b5 b6 b7 cI cZ er mo mf u.1 ma mc ms u.2 n)) u) t.heap) (A)) (List.toArray [.ref h, .int (nI k)]) s 0 0 A) (F0 m 2 ls []) := by
    intro d
    induction d with
    | zero =>
      intro g mq H locs ls hd h0 hP hS hl
      have hD : va_D A (mdW h b1 b2 b3 b4 b5 b6 b7 cI cZ er mo mf mt ma mc ms mq n) := cw_D_same hD rfl
      refine lv_iload_n hx hb dX1_back_2 rfl (lv_at hl 0 rfl) ?_
      refine lv_aload_n hx hb dX1_back_3 rfl (lv_at hl 1 rfl) ?_
      refine gX1_events hx hb hts hown hK hP 0 rfl rfl dX1_back_4 ?_
      refine cw_ge (tgt := 23) (x := g) (y := n) hx hb dX1_back_7 (by decide) (by omega) (by omega) (fun hc => ?_) (fun hc => ?_)
      · refine lv_iconst (v := nI 0) hx hb dX1_back_23 (by decide) ?_
        refine lv_istore_n hx hb dX1_back_24 rfl hl (by decide) rfl (fun ls hl => ?_)
        have hl : lv_has ls 6 [(2, .int (nI 0)), (0, .ref h), (1, .int (nI k))] := hl
        refine lv_iload_n hx hb dX1_back_25 rfl (lv_at hl 2 rfl) ?_
        refine lv_istore_n hx hb dX1_back_26 rfl hl (by decide) rfl (fun ls hl => ?_)
        have hl : lv_has ls 6 [(3, .int (nI k)), (2, .int (nI 0)), (0, .ref h), (1, .int (nI k))] := hl
        exact main _ 0 k mt mq H locs ls (Nat.le_refl _) (cd_bi_0 hk (fun i hi => h0 i (by omega))) hP hS (lv_sub hl [0, 1, 2, 3] rfl)
      · exact absurd hc (by omega)
    | succ d ih =>
      intro g mq H locs ls hd h0 hP hS hl
      have hD : va_D A (mdW h b1 b2 b3 b4 b5 b6 b7 cI cZ er mo mf mt ma mc ms mq n) := cw_D_same hD rfl
      refine lv_iload_n hx hb dX1_back_2 rfl (lv_at hl 0 rfl) ?_
      refine lv_aload_n hx hb dX1_back_3 rfl (lv_at hl 1 rfl) ?_
      refine gX1_events hx hb hts hown hK hP 0 rfl rfl dX1_back_4 ?_
      refine cw_ge (tgt := 23) (x := g) (y := n) hx hb dX1_back_7 (by decide) (by omega) (by omega) (fun hc => ?_) (fun hc => ?_)
      · exact absurd hc (by omega)
      · refine lv_aload_n hx hb dX1_back_10 rfl (lv_at hl 1 rfl) ?_
        refine gX1_seen hx hb hts hown hK hP 0 rfl rfl dX1_back_11 ?_
        refine lv_iload_n hx hb dX1_back_14 rfl (lv_at hl 0 rfl) ?_
        refine lv_iconst (v := nI 0) hx hb dX1_back_15 (by decide) ?_
        refine cw_zast hx hb hK hP hD hS 7 1 rfl rfl (k := g) (by omega) (by decide) (by first | rfl | (unfold cd_bI; split <;> rfl)) dX1_back_16 (fun H locs hP hD hS => ?_)
        have hP : va_P D cdCl (mdW h b1 b2 b3 b4 b5 b6 b7 cI cZ er mo mf mt ma mc ms (upd mq g 0) n) H := hP
        have hD : va_D A (mdW h b1 b2 b3 b4 b5 b6 b7 cI cZ er mo mf mt ma mc ms (upd mq g 0) n) := hD
        refine lv_iinc (k := 0) (v := nI (g + 1)) hx hb dX1_back_17 hl rfl (cd_inc _) (by decide) rfl (fun ls hl => ?_)
        have hl : lv_has ls 6 [(2, .int (nI (g + 1))), (0, .ref h), (1, .int (nI k))] := hl
        refine lv_goto (tgt := 2) hx hb dX1_back_20 (by decide) ?_
        exact ih (g + 1) _ H locs ls (by omega) (fun i hi => by
          by_cases e : i = g
          · subst e; exact pk_us
          · rw [pk_un e]; exact h0 i (by omega)) hP hS hl
  refine lv_iconst (v := nI 0) hx hb dX1_back_0 (by decide) ?_
  refine lv_istore_n hx hb dX1_back_1 rfl hl (by decide) rfl (fun ls hl => ?_)
  have hl : lv_has ls 6 [(2, .int (nI 0)), (0, .ref h), (1, .int (nI k))] := hl
  exact clear n 0 mq s.heap [] ls (by omega) (fun i hi => absurd hi (Nat.not_lt_zero _)) hP hS hl
set_option maxHeartbeats 4000000 in
set_option maxRecDepth 100000 in
/-- longest -/
theorem c_X1_longest (l : Launch) (D : va_G) (cI cZ : ClassId) (h b1 b2 b3 b4 b5 b6 b7 : Nat) (er : Int32) (mo mf mt ma mc ms mq : Nat → Int32) (o f : Nat → Nat) (sd : Nat → Bool) (c₀ : Nat → Nat) (n : Nat) (hok : cd_md o f sd c₀ n mo mf mc ms) (sz : Nat) (k : Nat) (hk : k < n) : Met l yX1_longest (.code yX1_longest cX1_longest 5 (some .int) :: tW) (rmL 1) (cw_Pc D cdCl (dkT cI cZ) (mdW h b1 b2 b3 b4 b5 b6 b7 cI cZ er mo mf mt ma mc ms mq n) sz [.ref h, .int (nI k)]) (va_Qi (fun (r : Int32) (u : (Nat → Int32)) => r = nI (cd_rk o f (k + 1))) (fun u t => va_P D cdCl ((fun u => (mdW h b1 b2 b3 b4 b5 b6 b7 cI cZ er mo mf mt u mc ms mq n)) u) t.heap) (va_A (mdW h b1 b2 b3 b4 b5 b6 b7 cI cZ er mo mf mt ma mc ms mq n) sz)) 0 0 (va_A (mdW h b1 b2 b3 b4 b5 b6 b7 cI cZ er mo mf mt ma mc ms mq n) sz) := by
  refine Met.ofW (cc := cX1_longest) (maxL := 5) (ret := (some .int)) (by decide) rfl ?_
  intro p e s m args below meth c s₁ B hml hv
  obtain ⟨rfl, hsz, hP, hK, hD0⟩ := hv
  have hx := B.exec
  have hb := B.bytes
  have hr := B.returns
  have hts := atoms_spec (ws := .code yX1_longest cX1_longest 5 (some .int) :: tW) B.pre
  have hown : s.vm.findClass RX1 = some m.cls := findClass_of_methodNamed B.named
  have hlocks := B.notSynchronized
  have hl := lv_entry ([.ref h, .int (nI k)]) (n := 5) (Nat.le_of_ble_eq_true rfl)
  rw [lg_entry_eq]
  generalize (lg_sl ([.ref h, .int (nI k)]) ++ List.replicate (5 - (lg_sl ([.ref h, .int (nI k)])).length) Slot.unset).toArray = ls at hl ⊢
  have hl : lv_has ls 5 [(0, .ref h), (1, .int (nI k))] := hl
  subst hsz
  have hD := hD0.self (sz := s.heap.size)
  generalize hAe : va_A (mdW h b1 b2 b3 b4 b5 b6 b7 cI cZ er mo mf mt ma mc ms mq n) s.heap.size = A at hD ⊢
  have hA : ∀ q : Nat, s.heap.size ≤ q → A q := fun q h => by rw [← hAe]; exact Or.inr h
  have hS : va_S A s.heap s.heap [] := va_S.rf
  have hok0 := hok
  obtain ⟨hn, hwf, hc2, hmo, hmf, hms, hmc⟩ := hok0
  have loop : ∀ (d q : Nat) (ma : Nat → Int32) (H : Heap) (locs : List Loc) (ls : Array Slot), q + d = k + 1 → (∀ i, i < q → ma i = nI (cd_rk o f (i + 1))) → va_P D cdCl (mdW h b1 b2 b3 b4 b5 b6 b7 cI cZ er mo mf mt ma mc ms mq n) H → va_S A s.heap H locs → lv_has ls 5 [(2, .int (nI q)), (0, .ref h), (1, .int (nI k))] → W p l e (rmL 1) s m (List.toArray [.ref h, .int (nI k)]) below meth c H locs 0 0 (MQ below (va_Qi (fun (r : Int32) (u : (Nat → Int32)) => r = nI (cd_rk o f (k + 1))) (fun u t => va_P D cdCl ((fun u => (mdW h b1 b2 b3 b4 b5 b6 b7 cI cZ er mo mf mt u mc ms mq n)) u) t.heap) (A)) (List.toArray [.ref h, .int (nI k)]) s 0 0 A) (F0 m 2 ls []) := by
    intro d
    induction d with
    | zero =>
      intro q ma H locs ls hd hq hP hS hl
      have hD : va_D A (mdW h b1 b2 b3 b4 b5 b6 b7 cI cZ er mo mf mt ma mc ms mq n) := cw_D_same hD rfl
      refine lv_iload_n hx hb dX1_longest_2 rfl (lv_at hl 0 rfl) ?_
      refine lv_iload_n hx hb dX1_longest_3 rfl (lv_at hl 2 rfl) ?_
      refine cw_gt (tgt := 68) (x := q) (y := k) hx hb dX1_longest_4 (by decide) (by omega) (by omega) (fun hc => ?_) (fun hc => ?_)
      · refine lv_aload_n hx hb dX1_longest_68 rfl (lv_at hl 1 rfl) ?_
        refine gX1_far hx hb hts hown hK hP 0 rfl rfl dX1_longest_69 ?_
        refine lv_iload_n hx hb dX1_longest_72 rfl (lv_at hl 2 rfl) ?_
        refine cw_iald hx hb hK hP 4 0 rfl rfl (k := k) (v := nI (cd_rk o f (k + 1))) (by omega) (by decide) (hq k (by omega)) dX1_longest_73 ?_
        exact W.iret (v := nI (cd_rk o f (k + 1))) hx hb hr (fun t ht hW => ⟨⟨nI (cd_rk o f (k + 1)), ma, rfl, rfl, by show va_P D cdCl _ t.heap; rw [ht]; exact hP⟩, hS.F ht⟩) hS.2.2 dX1_longest_74
      · exact absurd hc (by omega)
    | succ d ih =>
      intro q ma H locs ls hd hq hP hS hl
      have hD : va_D A (mdW h b1 b2 b3 b4 b5 b6 b7 cI cZ er mo mf mt ma mc ms mq n) := cw_D_same hD rfl
      refine lv_iload_n hx hb dX1_longest_2 rfl (lv_at hl 0 rfl) ?_
      refine lv_iload_n hx hb dX1_longest_3 rfl (lv_at hl 2 rfl) ?_
      refine cw_gt (tgt := 68) (x := q) (y := k) hx hb dX1_longest_4 (by decide) (by omega) (by omega) (fun hc => ?_) (fun hc => ?_)
      · exact absurd hc (by omega)
      · have hqn : q < n := by omega
        have hfl := cd_fm_le o (o q) q
        have hff := (hwf q hqn).2
        have hr3 := cd_rk_le hwf (cd_fm o (o q) q) (by omega)
        have hr4 := cd_rk_le hwf (f q) (by omega)
        have fv : ∀ j, j ≤ q → ¬ cd_pI j < 0 → ∃ i, j = i + 1 ∧ i < q := fun j hj hneg => ⟨j - 1, by have : j ≠ 0 := fun z => hneg ((cd_pI_neg (by omega)).mpr z); omega, by have : j ≠ 0 := fun z => hneg ((cd_pI_neg (by omega)).mpr z); omega⟩
        refine lv_aload_n hx hb dX1_longest_7 rfl (lv_at hl 1 rfl) ?_
        refine lv_iload_n hx hb dX1_longest_8 rfl (lv_at hl 0 rfl) ?_
        refine cw_callR (As := [.int (nI q)]) ⟨hx, hb, hml, hown, hts⟩ (c_X1_former l D cI cZ h b1 b2 b3 b4 b5 b6 b7 er mo mf mt ma mc ms mq o f sd c₀ n hok q hqn) (kX1_X1_former hts 0 0 0 0 ⟨by decide, by decide⟩) hK hP 0 rfl rfl rfl rfl hl.1 rfl (Nat.le_of_ble_eq_true rfl) dX1_longest_9 ⟨Nat.zero_le _, Nat.zero_le _⟩ ?_
        refine lv_istore_n hx hb dX1_longest_12 rfl hl (by decide) rfl (fun ls hl => ?_)
        have hl : lv_has ls 5 [(3, .int (cd_pI (cd_fm o (o q) q))), (2, .int (nI q)), (0, .ref h), (1, .int (nI k))] := hl
        refine lv_aload_n hx hb dX1_longest_13 rfl (lv_at hl 2 rfl) ?_
        refine gX1_from hx hb hts hown hK hP 0 rfl rfl dX1_longest_14 ?_
        refine lv_iload_n hx hb dX1_longest_17 rfl (lv_at hl 1 rfl) ?_
        refine cw_iald hx hb hK hP 2 0 rfl rfl (k := q) (v := cd_pI (f q)) (by omega) (by decide) (hmf q hqn) dX1_longest_18 ?_
        refine lv_istore hx hb dX1_longest_19 hl (by decide) rfl (fun ls hl => ?_)
        have hl : lv_has ls 5 [(4, .int (cd_pI (f q))), (3, .int (cd_pI (cd_fm o (o q) q))), (2, .int (nI q)), (0, .ref h), (1, .int (nI k))] := hl
        refine lv_aload_n hx hb dX1_longest_21 rfl (lv_at hl 3 rfl) ?_
        refine gX1_far hx hb hts hown hK hP 0 rfl rfl dX1_longest_22 ?_
        refine lv_iload_n hx hb dX1_longest_25 rfl (lv_at hl 2 rfl) ?_
        refine lv_iconst (v := nI 1) hx hb dX1_longest_26 (by decide) ?_
        refine lv_iload_n hx hb dX1_longest_27 rfl (lv_at hl 1 rfl) ?_
        have j57 : W p l e (rmL 1) s m (List.toArray [.ref h, .int (nI k)]) below meth c H locs 0 0 (MQ below (va_Qi (fun (r : Int32) (u : (Nat → Int32)) => r = nI (cd_rk o f (k + 1))) (fun u t => va_P D cdCl ((fun u => (mdW h b1 b2 b3 b4 b5 b6 b7 cI cZ er mo mf mt u mc ms mq n)) u) t.heap) (A)) (List.toArray [.ref h, .int (nI k)]) s 0 0 A) (F0 m 57 ls [.int (nI (cd_rk o f (f q))), .int (nI (cd_rk o f (cd_fm o (o q) q))), .int (nI 1), .int (nI q), .ref b4]) := by
          refine va_mmax hx hb (hml.trans hl.1.symm) hown (hts _ (List.mem_cons_of_mem _ tm_378)) (hts _ (List.mem_cons_of_mem _ tm_67)) (hts _ (List.mem_cons_of_mem _ tm_8)) (hts _ (List.mem_cons_of_mem _ tm_68)) (Nat.le_of_ble_eq_true rfl) (Nat.le_of_ble_eq_true rfl) (Nat.zero_le _) (Nat.zero_le _) dX1_longest_57 ?_
          refine cw_topi (y := nI (max (cd_rk o f (cd_fm o (o q) q)) (cd_rk o f (f q)))) (cd_max (by omega) (by omega)) ?_
          refine lv_iadd hx hb dX1_longest_60 ?_
          refine cw_topi (y := nI (1 + (max (cd_rk o f (cd_fm o (o q) q)) (cd_rk o f (f q))))) (nI_add _ _) ?_
          refine cw_topi (y := nI (cd_rk o f (q + 1))) (by rw [cd_rk_s hff]) ?_
          refine cw_iast hx hb hK hP hD hS 4 0 rfl rfl (k := q) (by omega) (by decide) dX1_longest_61 (fun H locs hP hD hS => ?_)
          have hP : va_P D cdCl (mdW h b1 b2 b3 b4 b5 b6 b7 cI cZ er mo mf mt (upd ma q (nI (cd_rk o f (q + 1)))) mc ms mq n) H := hP
          have hD : va_D A (mdW h b1 b2 b3 b4 b5 b6 b7 cI cZ er mo mf mt (upd ma q (nI (cd_rk o f (q + 1)))) mc ms mq n) := hD
          refine lv_iinc (k := 2) (v := nI (q + 1)) hx hb dX1_longest_62 hl rfl (cd_inc _) (by decide) rfl (fun ls hl => ?_)
          have hl : lv_has ls 5 [(2, .int (nI (q + 1))), (4, .int (cd_pI (f q))), (3, .int (cd_pI (cd_fm o (o q) q))), (0, .ref h), (1, .int (nI k))] := hl
          refine lv_goto (tgt := 2) hx hb dX1_longest_65 (by decide) ?_
          exact ih (q + 1) _ H locs ls (by omega) (fun i hi => by
            by_cases e : i = q
            · subst e; exact pk_us
            · rw [pk_un e]; exact hq i (by omega)) hP hS (lv_sub hl [0, 3, 4] rfl)
        have j41 : W p l e (rmL 1) s m (List.toArray [.ref h, .int (nI k)]) below meth c H locs 0 0 (MQ below (va_Qi (fun (r : Int32) (u : (Nat → Int32)) => r = nI (cd_rk o f (k + 1))) (fun u t => va_P D cdCl ((fun u => (mdW h b1 b2 b3 b4 b5 b6 b7 cI cZ er mo mf mt u mc ms mq n)) u) t.heap) (A)) (List.toArray [.ref h, .int (nI k)]) s 0 0 A) (F0 m 41 ls [.int (nI (cd_rk o f (cd_fm o (o q) q))), .int (nI 1), .int (nI q), .ref b4]) := by
          refine lv_iload hx hb dX1_longest_41 (lv_at hl 0 rfl) ?_
          refine lv_if_ge (tgt := 50) hx hb dX1_longest_43 (by decide) (fun hg => ?_) (fun hg => ?_)
          · obtain ⟨i, hi, hiq⟩ := fv (f q) (by omega) (fun z => by rw [Int32.lt_iff_toInt_lt] at z; rw [Int32.le_iff_toInt_le] at hg; omega)
            have hl : lv_has ls 5 [(4, .int (nI i)), (3, .int (cd_pI (cd_fm o (o q) q))), (2, .int (nI q)), (0, .ref h), (1, .int (nI k))] := by rw [hi] at hl; exact hl
            refine lv_aload_n hx hb dX1_longest_50 rfl (lv_at hl 3 rfl) ?_
            refine gX1_far hx hb hts hown hK hP 0 rfl rfl dX1_longest_51 ?_
            refine lv_iload hx hb dX1_longest_54 (lv_at hl 0 rfl) ?_
            refine cw_iald hx hb hK hP 4 0 rfl rfl (k := i) (v := nI (cd_rk o f (f q))) (by omega) (by decide) (by rw [hq i hiq, hi]) dX1_longest_56 ?_
            exact j57
          · have h0 : f q = 0 := (cd_pI_neg (by omega)).mp (by rw [Int32.lt_iff_toInt_lt]; have hg2 : ¬ (0 : Int32) ≤ cd_pI (f q) := hg; rw [Int32.le_iff_toInt_le] at hg2; omega)
            refine lv_iconst (v := nI 0) hx hb dX1_longest_46 (by decide) ?_
            refine lv_goto (tgt := 57) hx hb dX1_longest_47 (by decide) ?_
            refine cw_topi (y := nI (cd_rk o f (f q))) (by rw [h0]; rfl) ?_
            exact j57
        refine lv_if_ge (tgt := 35) hx hb dX1_longest_28 (by decide) (fun hg => ?_) (fun hg => ?_)
        · obtain ⟨i, hi, hiq⟩ := fv (cd_fm o (o q) q) (by omega) (fun z => by rw [Int32.lt_iff_toInt_lt] at z; rw [Int32.le_iff_toInt_le] at hg; omega)
          have hl : lv_has ls 5 [(4, .int (cd_pI (f q))), (3, .int (nI i)), (2, .int (nI q)), (0, .ref h), (1, .int (nI k))] := by rw [hi] at hl; exact hl
          refine lv_aload_n hx hb dX1_longest_35 rfl (lv_at hl 3 rfl) ?_
          refine gX1_far hx hb hts hown hK hP 0 rfl rfl dX1_longest_36 ?_
          refine lv_iload_n hx hb dX1_longest_39 rfl (lv_at hl 1 rfl) ?_
          refine cw_iald hx hb hK hP 4 0 rfl rfl (k := i) (v := nI (cd_rk o f (cd_fm o (o q) q))) (by omega) (by decide) (by rw [hq i hiq, hi]) dX1_longest_40 ?_
          exact j41
        · have h0 : cd_fm o (o q) q = 0 := (cd_pI_neg (by omega)).mp (by rw [Int32.lt_iff_toInt_lt]; have hg2 : ¬ (0 : Int32) ≤ cd_pI (cd_fm o (o q) q) := hg; rw [Int32.le_iff_toInt_le] at hg2; omega)
          refine lv_iconst (v := nI 0) hx hb dX1_longest_31 (by decide) ?_
          refine lv_goto (tgt := 41) hx hb dX1_longest_32 (by decide) ?_
          refine cw_topi (y := nI (cd_rk o f (cd_fm o (o q) q))) (by rw [h0]; rfl) ?_
          exact j41
  refine lv_iconst (v := nI 0) hx hb dX1_longest_0 (by decide) ?_
  refine lv_istore_n hx hb dX1_longest_1 rfl hl (by decide) rfl (fun ls hl => ?_)
  have hl : lv_has ls 5 [(2, .int (nI 0)), (0, .ref h), (1, .int (nI k))] := hl
  exact loop (k + 1) 0 ma s.heap [] ls (by omega) (fun i hi => absurd hi (Nat.not_lt_zero _)) hP hS hl
