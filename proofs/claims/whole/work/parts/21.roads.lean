/-! THE LAW'S ROADS: what its loop keeps, and for each of the thirteen calls: the desk and the model answer alike, and what the loop keeps stays -/
def lwI (D : va_G) (cI cZ cJ : ClassId) (h a1 a2 a3 a4 a5 ad hm b1 b2 b3 b4 b5 b6 b7 : Nat) (A : Nat → Prop) (H0 H : Heap) (locs : List Loc) : Prop :=
  ∃ (pr se rk ck cu : Nat → Int32) (g : Nat → Int64) (er : Int32) (mo mf mt ma mc ms mq : Nat → Int32) (o f : Nat → Nat) (sd : Nat → Bool) (c₀ : Nat → Nat) (n : Nat), va_P D cdCl ((lwH h a1 a2 a3 a4 a5 cI cZ cJ ad pr se rk ck cu n g) ++ (mdW hm b1 b2 b3 b4 b5 b6 b7 cI cZ er mo mf mt ma mc ms mq n)) H ∧ va_D A ((lwH h a1 a2 a3 a4 a5 cI cZ cJ ad pr se rk ck cu n g) ++ (mdW hm b1 b2 b3 b4 b5 b6 b7 cI cZ er mo mf mt ma mc ms mq n)) ∧ va_S A H0 H locs ∧ cd_dk o f sd c₀ n pr se rk ck cu ∧ cd_md o f sd c₀ n mo mf mc ms ∧ ∀ p, p < 6 → c₀ p ≤ cd_mn o p n
theorem lw_cmp (x : Int64) : lg_cmp x x = 0 := by
  unfold lg_cmp
  rw [if_neg (by rw [gt_iff_lt, Int64.lt_iff_toInt_lt]; omega), if_pos rfl]
theorem lw_le {x : Int32} {n : Nat} (hn : n ≤ 200) (h : ¬ (0 ≤ x ∧ x < nI (n + 1))) : ¬ (0 ≤ x ∧ x ≤ nI n) := by
  intro z
  refine h ⟨z.1, ?_⟩
  have z2 := z.2
  rw [Int32.le_iff_toInt_le, nI_toInt (by omega)] at z2
  rw [Int32.lt_iff_toInt_lt, nI_toInt (by omega)]
  omega
theorem lw_bd_add {o c : Nat → Nat} {n q : Nat} (h : ∀ p, p < 6 → c p ≤ cd_mn o p n) : ∀ p, p < 6 → c p ≤ cd_mn (cd_up o n q) p (n + 1) := by
  intro p hp
  have h1 : cd_mn o p n = cd_mn (cd_up o n q) p n := cd_mn_congr p n (fun k hk => (cd_up_n _ _ (by omega)).symm)
  have h2 := cd_mn_mono (cd_up o n q) p (a := n) (n + 1) (by omega)
  have h3 := h p hp
  omega
theorem lw_bd_cut {o c : Nat → Nat} {n q v : Nat} (h : ∀ p, p < 6 → c p ≤ cd_mn o p n) (hv : v ≤ cd_mn o q n) : ∀ p, p < 6 → cd_up c q v p ≤ cd_mn o p n := by
  intro p hp
  by_cases e : p = q
  · subst e; rw [cd_up_s]; exact hv
  · rw [cd_up_n _ _ e]; exact h p hp
theorem lw_bI (P : Prop) [Decidable P] : cd_bI P = 0 ∨ cd_bI P = 1 := by
  unfold cd_bI
  split
  · exact Or.inr rfl
  · exact Or.inl rfl
section LS
variable {p : Program} {l : Launch} {e : Env} {R : Room} {s : State} {m : MethodId} {args : Array Value} {below : List Frame} {meth : Method} {c : Code} {H : Heap} {locs : List Loc} {cells slots : Nat} {Q : State → Prop}
variable {cc : ByteArray} {pc : Nat} {ls : Array Slot} {rest : List Value} {A : Nat → Prop} {H0 : Heap}
theorem lr_scr (hexec : p.tables.exec = Jvm.exec) (hb : c.code = cc) {b L : Nat} {xs : Nat → Int32} (hX : va_X b L xs s H0) (hbl : b < H0.size) (hbA : ¬ A b) (hS : va_S A H0 H locs) {k : Nat} {v : Int32} (hk : k < L) (hL : L ≤ 1536) (hv : xs k = v) (hdg : decode cc pc = .ok (.iaload, 1))
    (kk : W p l e R s m args below meth c H locs cells slots Q (F0 m (pc + 1) ls (.int v :: rest))) : W p l e R s m args below meth c H locs cells slots Q (F0 m pc ls (.int (nI k) :: .ref b :: rest)) := by
  refine va_sld hexec hb hX hbl hbA hS (i := nI k) (vp_in_nI hk (by omega)) hdg ?_
  rw [nI_clamp (by omega), hv]
  exact kk
theorem cw_topl {x y : Int64} (h : x = y) (k : W p l e R s m args below meth c H locs cells slots Q (F0 m pc ls (.long y :: rest))) : W p l e R s m args below meth c H locs cells slots Q (F0 m pc ls (.long x :: rest)) := h ▸ k
end LS
set_option maxHeartbeats 4000000 in
set_option maxRecDepth 100000 in
/-- own -/
theorem lw_c0 {p : Program} {l : Launch} {e : Env} {s : State} {m : MethodId} {args : Array Value} {below : List Frame} {meth : Method} {c : Code} {Q : State → Prop} {D : va_G} {cI cZ cJ : ClassId} {h a1 a2 a3 a4 a5 ad hm b1 b2 b3 b4 b5 b6 b7 b L : Nat} {xs : Nat → Int32} {A : Nat → Prop} {c0 : Cond} (hx : p.tables.exec = Jvm.exec) (hb : c.code = cL_law) (hml : c.maxLocals = 7) (hown : s.vm.findClass RL = some m.cls) (hts : ∀ w ∈ c0 :: tW, w.before args s = true) (hlt : l.stackTraces = false) (hXS : xt_S s) (hK : va_K D cdCl (lwT cI cZ cJ) s) (hX : va_X b L xs s s.heap) (hbl : b < s.heap.size) (hbA : ¬ A b) (hA : ∀ q, s.heap.size ≤ q → A q) (hA2 : ∀ q, q < s.heap.size → ¬ A q) (hL : L ≤ 1536) (i : Nat) (hi : 3 * i + 3 ≤ L) (cells slots : Nat) (hcl : cells + 1 ≤ 1046) (hsl : slots + 6 ≤ 11262) {H : Heap} {locs : List Loc} {ls : Array Slot} (hI : lwI D cI cZ cJ h a1 a2 a3 a4 a5 ad hm b1 b2 b3 b4 b5 b6 b7 A s.heap H locs) (hl : lv_has ls 7 [(4, .int (nI (3 * i))), (3, .ref ad), (2, .ref hm), (1, .ref h), (0, .ref b)]) (kk : ∀ (H : Heap) (locs : List Loc) (ls : Array Slot), lwI D cI cZ cJ h a1 a2 a3 a4 a5 ad hm b1 b2 b3 b4 b5 b6 b7 A s.heap H locs → lv_has ls 7 [(4, .int (nI (3 * i))), (3, .ref ad), (2, .ref hm), (1, .ref h), (0, .ref b)] → W p l e room_1 s m args below meth c H locs (cells + 1) (slots + 6) Q (F0 m 737 ls [])) : W p l e room_1 s m args below meth c H locs (cells) (slots) Q (F0 m 104 ls []) := by
  obtain ⟨pr, se, rk, ck, cu, g, er, mo, mf, mt, ma, mc, ms, mq, o, f, sd, c₀, n, hP, hD, hS, hdk, hmd, hbd⟩ := hI
  have hn := hdk.1
  have hwf := hdk.2.1
  have hK2 : va_K D cdCl (dkT cI cZ) s := hK.sub [0, 1] rfl
  obtain ⟨x, hx1⟩ : ∃ x, xs (3 * i + 1) = x := ⟨_, rfl⟩
  have tail : ∀ (kc : Nat) (r : Int32) {pr se rk ck cu : Nat → Int32} {g : Nat → Int64} {er : Int32} {mo mf mt ma mc ms mq : Nat → Int32} {o f : Nat → Nat} {sd : Nat → Bool} {c₀ : Nat → Nat} {n : Nat} {H : Heap} {locs : List Loc} {ls : Array Slot}, kc < 3 → va_P D cdCl ((lwH h a1 a2 a3 a4 a5 cI cZ cJ ad pr se rk ck cu n g) ++ (mdW hm b1 b2 b3 b4 b5 b6 b7 cI cZ er mo mf mt ma mc ms mq n)) H → va_D A ((lwH h a1 a2 a3 a4 a5 cI cZ cJ ad pr se rk ck cu n g) ++ (mdW hm b1 b2 b3 b4 b5 b6 b7 cI cZ er mo mf mt ma mc ms mq n)) → va_S A s.heap H locs → cd_dk o f sd c₀ n pr se rk ck cu → cd_md o f sd c₀ n mo mf mc ms → (∀ p, p < 6 → c₀ p ≤ cd_mn o p n) → er = nI kc → (kc = 0 → g 0 = r.toInt64) → lv_has ls 7 [(5, .int (nI kc)), (4, .int (nI (3 * i))), (3, .ref ad), (2, .ref hm), (1, .ref h), (0, .ref b)] → W p l e room_1 s m args below meth c H locs (cells + 1) (slots + 6) Q (F0 m 127 ls [.int r]) := by
    intro kc r pr se rk ck cu g er mo mf mt ma mc ms mq o f sd c₀ n H locs ls h3 hP hD hS hdk hmd hbd her hg hl
    refine lv_istore hx hb dL_law_127 hl (by decide) rfl (fun ls hl => ?_)
    have hl : lv_has ls 7 [(6, .int r), (5, .int (nI kc)), (4, .int (nI (3 * i))), (3, .ref ad), (2, .ref hm), (1, .ref h), (0, .ref b)] := hl
    refine lv_aload_n hx hb dL_law_129 rfl (lv_at hl 4 rfl) ?_
    have hPm := hP.sub (ws' := (mdW hm b1 b2 b3 b4 b5 b6 b7 cI cZ er mo mf mt ma mc ms mq n)) [7, 8, 9, 10, 11, 12, 13, 14] rfl
    refine cw_callR (As := []) (rest := []) ⟨hx, hb, hml, hown, hts⟩ (c_X1_thrown l D cI cZ hm b1 b2 b3 b4 b5 b6 b7 er mo mf mt ma mc ms mq o f sd c₀ n hmd) (kL_X1_thrown hts 0 0 0 0 ⟨by decide, by decide⟩) hK2 hPm 0 rfl rfl rfl rfl hl.1 rfl (Nat.le_of_ble_eq_true rfl) dL_law_130 ⟨by show cells + 1 + 0 ≤ 1046; omega, by show slots + 6 + 0 ≤ 11262; omega⟩ ?_
    refine cw_topi (y := nI kc) her ?_
    refine lv_iload hx hb dL_law_133 (lv_at hl 1 rfl) ?_
    refine cw_eq (tgt := 140) (x := kc) (y := kc) hx hb dL_law_135 (by decide) (by omega) (by omega) (fun hc => ?_) (fun hc => ?_)
    · refine lv_iload hx hb dL_law_140 (lv_at hl 1 rfl) ?_
      refine lv_if_ne (tgt := 157) hx hb dL_law_142 (by decide) (fun hc2 => ?_) (fun hc2 => ?_)
      · refine lv_goto (tgt := 737) hx hb dL_law_157 (by decide) ?_
        exact kk H locs ls ⟨pr, se, rk, ck, cu, g, er, mo, mf, mt, ma, mc, ms, mq, o, f, sd, c₀, n, hP, hD, hS, hdk, hmd, hbd⟩ (lv_sub hl [2, 3, 4, 5, 6] rfl)
      · have hk0 : kc = 0 := (nI_eq (b := 0) (by omega) (by decide)).mp hc2
        replace hg := hg hk0
        refine lv_aload_n hx hb dL_law_145 rfl (lv_at hl 3 rfl) ?_
        refine lv_iconst (v := nI 0) hx hb dL_law_146 (by decide) ?_
        refine va_lald hx hb hK hP 6 2 rfl rfl (vp_in_nI (by decide) (by decide)) dL_law_147 ?_
        refine cw_topl (y := r.toInt64) (by rw [nI_clamp (by decide)]; exact hg) ?_
        refine lv_iload hx hb dL_law_148 (lv_at hl 0 rfl) ?_
        refine lv_i2l hx hb dL_law_150 rfl ?_
        refine W.lcmp hx hb dL_law_151 ?_
        refine cw_topi (y := 0) (lw_cmp _) ?_
        refine lv_if_eq (tgt := 157) hx hb dL_law_152 (by decide) (fun hc3 => ?_) (fun hc3 => ?_)
        · refine lv_goto (tgt := 737) hx hb dL_law_157 (by decide) ?_
          exact kk H locs ls ⟨pr, se, rk, ck, cu, g, er, mo, mf, mt, ma, mc, ms, mq, o, f, sd, c₀, n, hP, hD, hS, hdk, hmd, hbd⟩ (lv_sub hl [2, 3, 4, 5, 6] rfl)
        · exact absurd rfl hc3
    · exact absurd rfl hc
  refine lv_aload_n hx hb dL_law_104 rfl (lv_at hl 3 rfl) ?_
  refine lv_aload_n hx hb dL_law_105 rfl (lv_at hl 4 rfl) ?_
  refine lv_iload hx hb dL_law_106 (lv_at hl 0 rfl) ?_
  refine lv_iconst (v := nI 1) hx hb dL_law_108 (by decide) ?_
  refine lv_iadd hx hb dL_law_109 ?_
  refine cw_topi (y := nI ((3 * i) + 1)) (nI_add _ _) ?_
  refine lr_scr hx hb hX hbl hbA hS (k := ((3 * i) + 1)) (v := x) (by omega) hL hx1 dL_law_110 ?_
  refine lv_aload_n hx hb dL_law_111 rfl (lv_at hl 1 rfl) ?_
  rcases cd_ix x (n := 6) (by decide) with ⟨p₁, hp, rfl⟩ | hbad
  · by_cases hr2 : n = 200
    · refine lr_call (As := [.ref h, .int (nI p₁), .ref ad]) (rest := []) (S := Unit) (BW := fun _ => (lwH h a1 a2 a3 a4 a5 cI cZ cJ ad pr se rk ck cu n g)) (W0 := (lwH h a1 a2 a3 a4 a5 cI cZ cJ ad pr se rk ck cu n g)) (wr := (mdW hm b1 b2 b3 b4 b5 b6 b7 cI cZ er mo mf mt ma mc ms mq n)) ⟨hx, hb, hml, hown, hts⟩ (hx2_L_own l D cI cZ cJ h a1 a2 a3 a4 a5 ad pr se rk ck cu n g _ (nI p₁) (x2_X0_own l D cI cZ h a1 a2 a3 a4 a5 pr se rk ck cu o f sd c₀ n hdk hlt p₁ hp hr2)) (kL_L_own hts ⟨by decide, by decide⟩) hXS (fun q hq => hS.2.1 q hq (hA2 q hq)) hK hP hD hS hA [0, 1, 2, 3, 4, 5, 6] [7, 8, 9, 10, 11, 12, 13, 14] rfl rfl (by decide) (by decide) (by decide) (fun _ => rfl) rfl hl.1 rfl (Nat.le_of_ble_eq_true rfl) dL_law_112 ⟨hcl, hsl⟩ (fun r u H locs hu hP hD hS => ?_)
      obtain rfl : r = nI 2 := hu
      have hP : va_P D cdCl ((mdW hm b1 b2 b3 b4 b5 b6 b7 cI cZ er mo mf mt ma mc ms mq n) ++ (lwH h a1 a2 a3 a4 a5 cI cZ cJ ad pr se rk ck cu n g)) H := hP
      have hD : va_D A ((mdW hm b1 b2 b3 b4 b5 b6 b7 cI cZ er mo mf mt ma mc ms mq n) ++ (lwH h a1 a2 a3 a4 a5 cI cZ cJ ad pr se rk ck cu n g)) := hD
      refine lv_istore hx hb dL_law_115 hl (by decide) rfl (fun ls hl => ?_)
      have hl : lv_has ls 7 [(5, .int (nI 2)), (4, .int (nI (3 * i))), (3, .ref ad), (2, .ref hm), (1, .ref h), (0, .ref b)] := hl
      refine lv_aload_n hx hb dL_law_117 rfl (lv_at hl 3 rfl) ?_
      refine lv_aload_n hx hb dL_law_118 rfl (lv_at hl 5 rfl) ?_
      refine lv_iload hx hb dL_law_119 (lv_at hl 1 rfl) ?_
      refine lv_iconst (v := nI 1) hx hb dL_law_121 (by decide) ?_
      refine lv_iadd hx hb dL_law_122 ?_
      refine cw_topi (y := nI ((3 * i) + 1)) (nI_add _ _) ?_
      refine lr_scr hx hb hX hbl hbA hS (k := ((3 * i) + 1)) (v := (nI p₁)) (by omega) hL hx1 dL_law_123 ?_
      refine cw_callWi (As := [.int (nI p₁)]) (rest := []) (S := mdS) (BW := fun w => (mdU hm b1 b2 b3 b4 b5 b6 b7 cI cZ n w)) (W0 := (mdW hm b1 b2 b3 b4 b5 b6 b7 cI cZ er mo mf mt ma mc ms mq n)) (wr := (lwH h a1 a2 a3 a4 a5 cI cZ cJ ad pr se rk ck cu n g)) ⟨hx, hb, hml, hown, hts⟩ (m2_X1_own l D cI cZ hm b1 b2 b3 b4 b5 b6 b7 er mo mf mt ma mc ms mq o f sd c₀ n hmd _ p₁ hp hr2) (kL_X1_own hts 2 0 0 60 ⟨by decide, by decide⟩) hK2 hP hD hS hA [0, 1, 2, 3, 4, 5, 6, 7] [8, 9, 10, 11, 12, 13, 14] rfl rfl (by decide) (by decide) (by decide) (fun _ => rfl) 0 rfl rfl rfl rfl hl.1 rfl (Nat.le_of_ble_eq_true rfl) dL_law_124 ⟨by show cells + 1 + 0 ≤ 1046; omega, by show slots + 6 + 0 ≤ 11262; omega⟩ (fun r w H locs hu hP hD hS => ?_)
      obtain ⟨her, hmd'⟩ := hu
      have hP : va_P D cdCl ((lwH h a1 a2 a3 a4 a5 cI cZ cJ ad pr se rk ck cu n g) ++ (mdU hm b1 b2 b3 b4 b5 b6 b7 cI cZ n w)) H := hP
      have hD : va_D A ((lwH h a1 a2 a3 a4 a5 cI cZ cJ ad pr se rk ck cu n g) ++ (mdU hm b1 b2 b3 b4 b5 b6 b7 cI cZ n w)) := hD
      exact tail 2 _ (by decide) hP hD hS hdk hmd' hbd her (fun z => absurd z (by decide)) hl
    · have hr2 : n < 200 := by omega
      refine lr_call (As := [.ref h, .int (nI p₁), .ref ad]) (rest := []) (S := dkS × (Nat → Int64)) (BW := fun u => (lwH h a1 a2 a3 a4 a5 cI cZ cJ ad u.1.1 u.1.2.1 u.1.2.2.1 u.1.2.2.2.1 u.1.2.2.2.2 (n + 1) u.2)) (W0 := (lwH h a1 a2 a3 a4 a5 cI cZ cJ ad pr se rk ck cu n g)) (wr := (mdW hm b1 b2 b3 b4 b5 b6 b7 cI cZ er mo mf mt ma mc ms mq n)) ⟨hx, hb, hml, hown, hts⟩ (h0_L_own l D cI cZ cJ h a1 a2 a3 a4 a5 ad pr se rk ck cu n g _ (nI p₁) (c_X0_own l D cI cZ h a1 a2 a3 a4 a5 pr se rk ck cu o f sd c₀ n hdk _ p₁ hp hr2)) (kL_L_own hts ⟨by decide, by decide⟩) hXS (fun q hq => hS.2.1 q hq (hA2 q hq)) hK hP hD hS hA [0, 1, 2, 3, 4, 5, 6] [7, 8, 9, 10, 11, 12, 13, 14] rfl rfl (by decide) (by decide) (by decide) (fun _ => rfl) rfl hl.1 rfl (Nat.le_of_ble_eq_true rfl) dL_law_112 ⟨hcl, hsl⟩ (fun r u H locs hu hP hD hS => ?_)
      obtain ⟨rfl, v', ⟨rfl, hdk'⟩, hg⟩ := hu
      have hP : va_P D cdCl ((mdW hm b1 b2 b3 b4 b5 b6 b7 cI cZ er mo mf mt ma mc ms mq n) ++ (lwH h a1 a2 a3 a4 a5 cI cZ cJ ad u.1.1 u.1.2.1 u.1.2.2.1 u.1.2.2.2.1 u.1.2.2.2.2 (n + 1) u.2)) H := hP
      have hD : va_D A ((mdW hm b1 b2 b3 b4 b5 b6 b7 cI cZ er mo mf mt ma mc ms mq n) ++ (lwH h a1 a2 a3 a4 a5 cI cZ cJ ad u.1.1 u.1.2.1 u.1.2.2.1 u.1.2.2.2.1 u.1.2.2.2.2 (n + 1) u.2)) := hD
      refine lv_istore hx hb dL_law_115 hl (by decide) rfl (fun ls hl => ?_)
      have hl : lv_has ls 7 [(5, .int (nI 0)), (4, .int (nI (3 * i))), (3, .ref ad), (2, .ref hm), (1, .ref h), (0, .ref b)] := hl
      refine lv_aload_n hx hb dL_law_117 rfl (lv_at hl 3 rfl) ?_
      refine lv_aload_n hx hb dL_law_118 rfl (lv_at hl 5 rfl) ?_
      refine lv_iload hx hb dL_law_119 (lv_at hl 1 rfl) ?_
      refine lv_iconst (v := nI 1) hx hb dL_law_121 (by decide) ?_
      refine lv_iadd hx hb dL_law_122 ?_
      refine cw_topi (y := nI ((3 * i) + 1)) (nI_add _ _) ?_
      refine lr_scr hx hb hX hbl hbA hS (k := ((3 * i) + 1)) (v := (nI p₁)) (by omega) hL hx1 dL_law_123 ?_
      refine cw_callWi (As := [.int (nI p₁)]) (rest := []) (S := mdS) (BW := fun w => (mdU hm b1 b2 b3 b4 b5 b6 b7 cI cZ (n + 1) w)) (W0 := (mdW hm b1 b2 b3 b4 b5 b6 b7 cI cZ er mo mf mt ma mc ms mq n)) (wr := (lwH h a1 a2 a3 a4 a5 cI cZ cJ ad u.1.1 u.1.2.1 u.1.2.2.1 u.1.2.2.2.1 u.1.2.2.2.2 (n + 1) u.2)) ⟨hx, hb, hml, hown, hts⟩ (m0_X1_own l D cI cZ hm b1 b2 b3 b4 b5 b6 b7 er mo mf mt ma mc ms mq o f sd c₀ n hmd _ p₁ hp hr2) (kL_X1_own hts 2 0 0 60 ⟨by decide, by decide⟩) hK2 hP hD hS hA [0, 1, 2, 3, 4, 5, 6, 7] [8, 9, 10, 11, 12, 13, 14] rfl rfl (by decide) (by decide) (by decide) (fun _ => rfl) 0 rfl rfl rfl rfl hl.1 rfl (Nat.le_of_ble_eq_true rfl) dL_law_124 ⟨by show cells + 1 + 0 ≤ 1046; omega, by show slots + 6 + 0 ≤ 11262; omega⟩ (fun r w H locs hu hP hD hS => ?_)
      obtain ⟨rfl, her, hmd'⟩ := hu
      have hP : va_P D cdCl ((lwH h a1 a2 a3 a4 a5 cI cZ cJ ad u.1.1 u.1.2.1 u.1.2.2.1 u.1.2.2.2.1 u.1.2.2.2.2 (n + 1) u.2) ++ (mdU hm b1 b2 b3 b4 b5 b6 b7 cI cZ (n + 1) w)) H := hP
      have hD : va_D A ((lwH h a1 a2 a3 a4 a5 cI cZ cJ ad u.1.1 u.1.2.1 u.1.2.2.1 u.1.2.2.2.1 u.1.2.2.2.2 (n + 1) u.2) ++ (mdU hm b1 b2 b3 b4 b5 b6 b7 cI cZ (n + 1) w)) := hD
      exact tail 0 _ (by decide) hP hD hS hdk' hmd' (lw_bd_add hbd) her (fun _ => hg) hl
  · refine lr_call (As := [.ref h, .int x, .ref ad]) (rest := []) (S := Unit) (BW := fun _ => (lwH h a1 a2 a3 a4 a5 cI cZ cJ ad pr se rk ck cu n g)) (W0 := (lwH h a1 a2 a3 a4 a5 cI cZ cJ ad pr se rk ck cu n g)) (wr := (mdW hm b1 b2 b3 b4 b5 b6 b7 cI cZ er mo mf mt ma mc ms mq n)) ⟨hx, hb, hml, hown, hts⟩ (hx1_L_own l D cI cZ cJ h a1 a2 a3 a4 a5 ad pr se rk ck cu n g _ x (x1_X0_own l D cI cZ h a1 a2 a3 a4 a5 pr se rk ck cu o f sd c₀ n hdk hlt x hbad)) (kL_L_own hts ⟨by decide, by decide⟩) hXS (fun q hq => hS.2.1 q hq (hA2 q hq)) hK hP hD hS hA [0, 1, 2, 3, 4, 5, 6] [7, 8, 9, 10, 11, 12, 13, 14] rfl rfl (by decide) (by decide) (by decide) (fun _ => rfl) rfl hl.1 rfl (Nat.le_of_ble_eq_true rfl) dL_law_112 ⟨hcl, hsl⟩ (fun r u H locs hu hP hD hS => ?_)
    obtain rfl : r = nI 1 := hu
    have hP : va_P D cdCl ((mdW hm b1 b2 b3 b4 b5 b6 b7 cI cZ er mo mf mt ma mc ms mq n) ++ (lwH h a1 a2 a3 a4 a5 cI cZ cJ ad pr se rk ck cu n g)) H := hP
    have hD : va_D A ((mdW hm b1 b2 b3 b4 b5 b6 b7 cI cZ er mo mf mt ma mc ms mq n) ++ (lwH h a1 a2 a3 a4 a5 cI cZ cJ ad pr se rk ck cu n g)) := hD
    refine lv_istore hx hb dL_law_115 hl (by decide) rfl (fun ls hl => ?_)
    have hl : lv_has ls 7 [(5, .int (nI 1)), (4, .int (nI (3 * i))), (3, .ref ad), (2, .ref hm), (1, .ref h), (0, .ref b)] := hl
    refine lv_aload_n hx hb dL_law_117 rfl (lv_at hl 3 rfl) ?_
    refine lv_aload_n hx hb dL_law_118 rfl (lv_at hl 5 rfl) ?_
    refine lv_iload hx hb dL_law_119 (lv_at hl 1 rfl) ?_
    refine lv_iconst (v := nI 1) hx hb dL_law_121 (by decide) ?_
    refine lv_iadd hx hb dL_law_122 ?_
    refine cw_topi (y := nI ((3 * i) + 1)) (nI_add _ _) ?_
    refine lr_scr hx hb hX hbl hbA hS (k := ((3 * i) + 1)) (v := x) (by omega) hL hx1 dL_law_123 ?_
    refine cw_callWi (As := [.int x]) (rest := []) (S := mdS) (BW := fun w => (mdU hm b1 b2 b3 b4 b5 b6 b7 cI cZ n w)) (W0 := (mdW hm b1 b2 b3 b4 b5 b6 b7 cI cZ er mo mf mt ma mc ms mq n)) (wr := (lwH h a1 a2 a3 a4 a5 cI cZ cJ ad pr se rk ck cu n g)) ⟨hx, hb, hml, hown, hts⟩ (m1_X1_own l D cI cZ hm b1 b2 b3 b4 b5 b6 b7 er mo mf mt ma mc ms mq o f sd c₀ n hmd _ x hbad) (kL_X1_own hts 2 0 0 60 ⟨by decide, by decide⟩) hK2 hP hD hS hA [0, 1, 2, 3, 4, 5, 6, 7] [8, 9, 10, 11, 12, 13, 14] rfl rfl (by decide) (by decide) (by decide) (fun _ => rfl) 0 rfl rfl rfl rfl hl.1 rfl (Nat.le_of_ble_eq_true rfl) dL_law_124 ⟨by show cells + 1 + 0 ≤ 1046; omega, by show slots + 6 + 0 ≤ 11262; omega⟩ (fun r w H locs hu hP hD hS => ?_)
    obtain ⟨her, hmd'⟩ := hu
    have hP : va_P D cdCl ((lwH h a1 a2 a3 a4 a5 cI cZ cJ ad pr se rk ck cu n g) ++ (mdU hm b1 b2 b3 b4 b5 b6 b7 cI cZ n w)) H := hP
    have hD : va_D A ((lwH h a1 a2 a3 a4 a5 cI cZ cJ ad pr se rk ck cu n g) ++ (mdU hm b1 b2 b3 b4 b5 b6 b7 cI cZ n w)) := hD
    exact tail 1 _ (by decide) hP hD hS hdk hmd' hbd her (fun z => absurd z (by decide)) hl
set_option maxHeartbeats 4000000 in
set_option maxRecDepth 100000 in
/-- send -/
theorem lw_c1 {p : Program} {l : Launch} {e : Env} {s : State} {m : MethodId} {args : Array Value} {below : List Frame} {meth : Method} {c : Code} {Q : State → Prop} {D : va_G} {cI cZ cJ : ClassId} {h a1 a2 a3 a4 a5 ad hm b1 b2 b3 b4 b5 b6 b7 b L : Nat} {xs : Nat → Int32} {A : Nat → Prop} {c0 : Cond} (hx : p.tables.exec = Jvm.exec) (hb : c.code = cL_law) (hml : c.maxLocals = 7) (hown : s.vm.findClass RL = some m.cls) (hts : ∀ w ∈ c0 :: tW, w.before args s = true) (hlt : l.stackTraces = false) (hXS : xt_S s) (hK : va_K D cdCl (lwT cI cZ cJ) s) (hX : va_X b L xs s s.heap) (hbl : b < s.heap.size) (hbA : ¬ A b) (hA : ∀ q, s.heap.size ≤ q → A q) (hA2 : ∀ q, q < s.heap.size → ¬ A q) (hL : L ≤ 1536) (i : Nat) (hi : 3 * i + 3 ≤ L) (cells slots : Nat) (hcl : cells + 1 ≤ 1046) (hsl : slots + 6 ≤ 11262) {H : Heap} {locs : List Loc} {ls : Array Slot} (hI : lwI D cI cZ cJ h a1 a2 a3 a4 a5 ad hm b1 b2 b3 b4 b5 b6 b7 A s.heap H locs) (hl : lv_has ls 7 [(4, .int (nI (3 * i))), (3, .ref ad), (2, .ref hm), (1, .ref h), (0, .ref b)]) (kk : ∀ (H : Heap) (locs : List Loc) (ls : Array Slot), lwI D cI cZ cJ h a1 a2 a3 a4 a5 ad hm b1 b2 b3 b4 b5 b6 b7 A s.heap H locs → lv_has ls 7 [(4, .int (nI (3 * i))), (3, .ref ad), (2, .ref hm), (1, .ref h), (0, .ref b)] → W p l e room_1 s m args below meth c H locs (cells + 1) (slots + 6) Q (F0 m 737 ls [])) : W p l e room_1 s m args below meth c H locs (cells) (slots) Q (F0 m 160 ls []) := by
  obtain ⟨pr, se, rk, ck, cu, g, er, mo, mf, mt, ma, mc, ms, mq, o, f, sd, c₀, n, hP, hD, hS, hdk, hmd, hbd⟩ := hI
  have hn := hdk.1
  have hwf := hdk.2.1
  have hK2 : va_K D cdCl (dkT cI cZ) s := hK.sub [0, 1] rfl
  obtain ⟨x, hx1⟩ : ∃ x, xs (3 * i + 1) = x := ⟨_, rfl⟩
  have tail : ∀ (kc : Nat) (r : Int32) {pr se rk ck cu : Nat → Int32} {g : Nat → Int64} {er : Int32} {mo mf mt ma mc ms mq : Nat → Int32} {o f : Nat → Nat} {sd : Nat → Bool} {c₀ : Nat → Nat} {n : Nat} {H : Heap} {locs : List Loc} {ls : Array Slot}, kc < 3 → va_P D cdCl ((lwH h a1 a2 a3 a4 a5 cI cZ cJ ad pr se rk ck cu n g) ++ (mdW hm b1 b2 b3 b4 b5 b6 b7 cI cZ er mo mf mt ma mc ms mq n)) H → va_D A ((lwH h a1 a2 a3 a4 a5 cI cZ cJ ad pr se rk ck cu n g) ++ (mdW hm b1 b2 b3 b4 b5 b6 b7 cI cZ er mo mf mt ma mc ms mq n)) → va_S A s.heap H locs → cd_dk o f sd c₀ n pr se rk ck cu → cd_md o f sd c₀ n mo mf mc ms → (∀ p, p < 6 → c₀ p ≤ cd_mn o p n) → er = nI kc → (kc = 0 → g 0 = r.toInt64) → lv_has ls 7 [(5, .int (nI kc)), (4, .int (nI (3 * i))), (3, .ref ad), (2, .ref hm), (1, .ref h), (0, .ref b)] → W p l e room_1 s m args below meth c H locs (cells + 1) (slots + 6) Q (F0 m 183 ls [.int r]) := by
    intro kc r pr se rk ck cu g er mo mf mt ma mc ms mq o f sd c₀ n H locs ls h3 hP hD hS hdk hmd hbd her hg hl
    refine lv_istore hx hb dL_law_183 hl (by decide) rfl (fun ls hl => ?_)
    have hl : lv_has ls 7 [(6, .int r), (5, .int (nI kc)), (4, .int (nI (3 * i))), (3, .ref ad), (2, .ref hm), (1, .ref h), (0, .ref b)] := hl
    refine lv_aload_n hx hb dL_law_185 rfl (lv_at hl 4 rfl) ?_
    have hPm := hP.sub (ws' := (mdW hm b1 b2 b3 b4 b5 b6 b7 cI cZ er mo mf mt ma mc ms mq n)) [7, 8, 9, 10, 11, 12, 13, 14] rfl
    refine cw_callR (As := []) (rest := []) ⟨hx, hb, hml, hown, hts⟩ (c_X1_thrown l D cI cZ hm b1 b2 b3 b4 b5 b6 b7 er mo mf mt ma mc ms mq o f sd c₀ n hmd) (kL_X1_thrown hts 0 0 0 0 ⟨by decide, by decide⟩) hK2 hPm 0 rfl rfl rfl rfl hl.1 rfl (Nat.le_of_ble_eq_true rfl) dL_law_186 ⟨by show cells + 1 + 0 ≤ 1046; omega, by show slots + 6 + 0 ≤ 11262; omega⟩ ?_
    refine cw_topi (y := nI kc) her ?_
    refine lv_iload hx hb dL_law_189 (lv_at hl 1 rfl) ?_
    refine cw_eq (tgt := 196) (x := kc) (y := kc) hx hb dL_law_191 (by decide) (by omega) (by omega) (fun hc => ?_) (fun hc => ?_)
    · refine lv_iload hx hb dL_law_196 (lv_at hl 1 rfl) ?_
      refine lv_if_ne (tgt := 213) hx hb dL_law_198 (by decide) (fun hc2 => ?_) (fun hc2 => ?_)
      · refine lv_goto (tgt := 737) hx hb dL_law_213 (by decide) ?_
        exact kk H locs ls ⟨pr, se, rk, ck, cu, g, er, mo, mf, mt, ma, mc, ms, mq, o, f, sd, c₀, n, hP, hD, hS, hdk, hmd, hbd⟩ (lv_sub hl [2, 3, 4, 5, 6] rfl)
      · have hk0 : kc = 0 := (nI_eq (b := 0) (by omega) (by decide)).mp hc2
        replace hg := hg hk0
        refine lv_aload_n hx hb dL_law_201 rfl (lv_at hl 3 rfl) ?_
        refine lv_iconst (v := nI 0) hx hb dL_law_202 (by decide) ?_
        refine va_lald hx hb hK hP 6 2 rfl rfl (vp_in_nI (by decide) (by decide)) dL_law_203 ?_
        refine cw_topl (y := r.toInt64) (by rw [nI_clamp (by decide)]; exact hg) ?_
        refine lv_iload hx hb dL_law_204 (lv_at hl 0 rfl) ?_
        refine lv_i2l hx hb dL_law_206 rfl ?_
        refine W.lcmp hx hb dL_law_207 ?_
        refine cw_topi (y := 0) (lw_cmp _) ?_
        refine lv_if_eq (tgt := 213) hx hb dL_law_208 (by decide) (fun hc3 => ?_) (fun hc3 => ?_)
        · refine lv_goto (tgt := 737) hx hb dL_law_213 (by decide) ?_
          exact kk H locs ls ⟨pr, se, rk, ck, cu, g, er, mo, mf, mt, ma, mc, ms, mq, o, f, sd, c₀, n, hP, hD, hS, hdk, hmd, hbd⟩ (lv_sub hl [2, 3, 4, 5, 6] rfl)
        · exact absurd rfl hc3
    · exact absurd rfl hc
  refine lv_aload_n hx hb dL_law_160 rfl (lv_at hl 3 rfl) ?_
  refine lv_aload_n hx hb dL_law_161 rfl (lv_at hl 4 rfl) ?_
  refine lv_iload hx hb dL_law_162 (lv_at hl 0 rfl) ?_
  refine lv_iconst (v := nI 1) hx hb dL_law_164 (by decide) ?_
  refine lv_iadd hx hb dL_law_165 ?_
  refine cw_topi (y := nI ((3 * i) + 1)) (nI_add _ _) ?_
  refine lr_scr hx hb hX hbl hbA hS (k := ((3 * i) + 1)) (v := x) (by omega) hL hx1 dL_law_166 ?_
  refine lv_aload_n hx hb dL_law_167 rfl (lv_at hl 1 rfl) ?_
  rcases cd_ix x (n := 6) (by decide) with ⟨p₁, hp, rfl⟩ | hbad
  · by_cases hr2 : n = 200
    · refine lr_call (As := [.ref h, .int (nI p₁), .ref ad]) (rest := []) (S := Unit) (BW := fun _ => (lwH h a1 a2 a3 a4 a5 cI cZ cJ ad pr se rk ck cu n g)) (W0 := (lwH h a1 a2 a3 a4 a5 cI cZ cJ ad pr se rk ck cu n g)) (wr := (mdW hm b1 b2 b3 b4 b5 b6 b7 cI cZ er mo mf mt ma mc ms mq n)) ⟨hx, hb, hml, hown, hts⟩ (hx2_L_send l D cI cZ cJ h a1 a2 a3 a4 a5 ad pr se rk ck cu n g _ (nI p₁) (x2_X0_send l D cI cZ h a1 a2 a3 a4 a5 pr se rk ck cu o f sd c₀ n hdk hlt p₁ hp hr2)) (kL_L_send hts ⟨by decide, by decide⟩) hXS (fun q hq => hS.2.1 q hq (hA2 q hq)) hK hP hD hS hA [0, 1, 2, 3, 4, 5, 6] [7, 8, 9, 10, 11, 12, 13, 14] rfl rfl (by decide) (by decide) (by decide) (fun _ => rfl) rfl hl.1 rfl (Nat.le_of_ble_eq_true rfl) dL_law_168 ⟨hcl, hsl⟩ (fun r u H locs hu hP hD hS => ?_)
      obtain rfl : r = nI 2 := hu
      have hP : va_P D cdCl ((mdW hm b1 b2 b3 b4 b5 b6 b7 cI cZ er mo mf mt ma mc ms mq n) ++ (lwH h a1 a2 a3 a4 a5 cI cZ cJ ad pr se rk ck cu n g)) H := hP
      have hD : va_D A ((mdW hm b1 b2 b3 b4 b5 b6 b7 cI cZ er mo mf mt ma mc ms mq n) ++ (lwH h a1 a2 a3 a4 a5 cI cZ cJ ad pr se rk ck cu n g)) := hD
      refine lv_istore hx hb dL_law_171 hl (by decide) rfl (fun ls hl => ?_)
      have hl : lv_has ls 7 [(5, .int (nI 2)), (4, .int (nI (3 * i))), (3, .ref ad), (2, .ref hm), (1, .ref h), (0, .ref b)] := hl
      refine lv_aload_n hx hb dL_law_173 rfl (lv_at hl 3 rfl) ?_
      refine lv_aload_n hx hb dL_law_174 rfl (lv_at hl 5 rfl) ?_
      refine lv_iload hx hb dL_law_175 (lv_at hl 1 rfl) ?_
      refine lv_iconst (v := nI 1) hx hb dL_law_177 (by decide) ?_
      refine lv_iadd hx hb dL_law_178 ?_
      refine cw_topi (y := nI ((3 * i) + 1)) (nI_add _ _) ?_
      refine lr_scr hx hb hX hbl hbA hS (k := ((3 * i) + 1)) (v := (nI p₁)) (by omega) hL hx1 dL_law_179 ?_
      refine cw_callWi (As := [.int (nI p₁)]) (rest := []) (S := mdS) (BW := fun w => (mdU hm b1 b2 b3 b4 b5 b6 b7 cI cZ n w)) (W0 := (mdW hm b1 b2 b3 b4 b5 b6 b7 cI cZ er mo mf mt ma mc ms mq n)) (wr := (lwH h a1 a2 a3 a4 a5 cI cZ cJ ad pr se rk ck cu n g)) ⟨hx, hb, hml, hown, hts⟩ (m2_X1_send l D cI cZ hm b1 b2 b3 b4 b5 b6 b7 er mo mf mt ma mc ms mq o f sd c₀ n hmd _ p₁ hp hr2) (kL_X1_send hts 2 0 0 60 ⟨by decide, by decide⟩) hK2 hP hD hS hA [0, 1, 2, 3, 4, 5, 6, 7] [8, 9, 10, 11, 12, 13, 14] rfl rfl (by decide) (by decide) (by decide) (fun _ => rfl) 0 rfl rfl rfl rfl hl.1 rfl (Nat.le_of_ble_eq_true rfl) dL_law_180 ⟨by show cells + 1 + 0 ≤ 1046; omega, by show slots + 6 + 0 ≤ 11262; omega⟩ (fun r w H locs hu hP hD hS => ?_)
      obtain ⟨her, hmd'⟩ := hu
      have hP : va_P D cdCl ((lwH h a1 a2 a3 a4 a5 cI cZ cJ ad pr se rk ck cu n g) ++ (mdU hm b1 b2 b3 b4 b5 b6 b7 cI cZ n w)) H := hP
      have hD : va_D A ((lwH h a1 a2 a3 a4 a5 cI cZ cJ ad pr se rk ck cu n g) ++ (mdU hm b1 b2 b3 b4 b5 b6 b7 cI cZ n w)) := hD
      exact tail 2 _ (by decide) hP hD hS hdk hmd' hbd her (fun z => absurd z (by decide)) hl
    · have hr2 : n < 200 := by omega
      refine lr_call (As := [.ref h, .int (nI p₁), .ref ad]) (rest := []) (S := dkS × (Nat → Int64)) (BW := fun u => (lwH h a1 a2 a3 a4 a5 cI cZ cJ ad u.1.1 u.1.2.1 u.1.2.2.1 u.1.2.2.2.1 u.1.2.2.2.2 (n + 1) u.2)) (W0 := (lwH h a1 a2 a3 a4 a5 cI cZ cJ ad pr se rk ck cu n g)) (wr := (mdW hm b1 b2 b3 b4 b5 b6 b7 cI cZ er mo mf mt ma mc ms mq n)) ⟨hx, hb, hml, hown, hts⟩ (h0_L_send l D cI cZ cJ h a1 a2 a3 a4 a5 ad pr se rk ck cu n g _ (nI p₁) (c_X0_send l D cI cZ h a1 a2 a3 a4 a5 pr se rk ck cu o f sd c₀ n hdk _ p₁ hp hr2)) (kL_L_send hts ⟨by decide, by decide⟩) hXS (fun q hq => hS.2.1 q hq (hA2 q hq)) hK hP hD hS hA [0, 1, 2, 3, 4, 5, 6] [7, 8, 9, 10, 11, 12, 13, 14] rfl rfl (by decide) (by decide) (by decide) (fun _ => rfl) rfl hl.1 rfl (Nat.le_of_ble_eq_true rfl) dL_law_168 ⟨hcl, hsl⟩ (fun r u H locs hu hP hD hS => ?_)
      obtain ⟨rfl, v', ⟨rfl, hdk'⟩, hg⟩ := hu
      have hP : va_P D cdCl ((mdW hm b1 b2 b3 b4 b5 b6 b7 cI cZ er mo mf mt ma mc ms mq n) ++ (lwH h a1 a2 a3 a4 a5 cI cZ cJ ad u.1.1 u.1.2.1 u.1.2.2.1 u.1.2.2.2.1 u.1.2.2.2.2 (n + 1) u.2)) H := hP
      have hD : va_D A ((mdW hm b1 b2 b3 b4 b5 b6 b7 cI cZ er mo mf mt ma mc ms mq n) ++ (lwH h a1 a2 a3 a4 a5 cI cZ cJ ad u.1.1 u.1.2.1 u.1.2.2.1 u.1.2.2.2.1 u.1.2.2.2.2 (n + 1) u.2)) := hD
      refine lv_istore hx hb dL_law_171 hl (by decide) rfl (fun ls hl => ?_)
      have hl : lv_has ls 7 [(5, .int (nI 0)), (4, .int (nI (3 * i))), (3, .ref ad), (2, .ref hm), (1, .ref h), (0, .ref b)] := hl
      refine lv_aload_n hx hb dL_law_173 rfl (lv_at hl 3 rfl) ?_
      refine lv_aload_n hx hb dL_law_174 rfl (lv_at hl 5 rfl) ?_
      refine lv_iload hx hb dL_law_175 (lv_at hl 1 rfl) ?_
      refine lv_iconst (v := nI 1) hx hb dL_law_177 (by decide) ?_
      refine lv_iadd hx hb dL_law_178 ?_
      refine cw_topi (y := nI ((3 * i) + 1)) (nI_add _ _) ?_
      refine lr_scr hx hb hX hbl hbA hS (k := ((3 * i) + 1)) (v := (nI p₁)) (by omega) hL hx1 dL_law_179 ?_
      refine cw_callWi (As := [.int (nI p₁)]) (rest := []) (S := mdS) (BW := fun w => (mdU hm b1 b2 b3 b4 b5 b6 b7 cI cZ (n + 1) w)) (W0 := (mdW hm b1 b2 b3 b4 b5 b6 b7 cI cZ er mo mf mt ma mc ms mq n)) (wr := (lwH h a1 a2 a3 a4 a5 cI cZ cJ ad u.1.1 u.1.2.1 u.1.2.2.1 u.1.2.2.2.1 u.1.2.2.2.2 (n + 1) u.2)) ⟨hx, hb, hml, hown, hts⟩ (m0_X1_send l D cI cZ hm b1 b2 b3 b4 b5 b6 b7 er mo mf mt ma mc ms mq o f sd c₀ n hmd _ p₁ hp hr2) (kL_X1_send hts 2 0 0 60 ⟨by decide, by decide⟩) hK2 hP hD hS hA [0, 1, 2, 3, 4, 5, 6, 7] [8, 9, 10, 11, 12, 13, 14] rfl rfl (by decide) (by decide) (by decide) (fun _ => rfl) 0 rfl rfl rfl rfl hl.1 rfl (Nat.le_of_ble_eq_true rfl) dL_law_180 ⟨by show cells + 1 + 0 ≤ 1046; omega, by show slots + 6 + 0 ≤ 11262; omega⟩ (fun r w H locs hu hP hD hS => ?_)
      obtain ⟨rfl, her, hmd'⟩ := hu
      have hP : va_P D cdCl ((lwH h a1 a2 a3 a4 a5 cI cZ cJ ad u.1.1 u.1.2.1 u.1.2.2.1 u.1.2.2.2.1 u.1.2.2.2.2 (n + 1) u.2) ++ (mdU hm b1 b2 b3 b4 b5 b6 b7 cI cZ (n + 1) w)) H := hP
      have hD : va_D A ((lwH h a1 a2 a3 a4 a5 cI cZ cJ ad u.1.1 u.1.2.1 u.1.2.2.1 u.1.2.2.2.1 u.1.2.2.2.2 (n + 1) u.2) ++ (mdU hm b1 b2 b3 b4 b5 b6 b7 cI cZ (n + 1) w)) := hD
      exact tail 0 _ (by decide) hP hD hS hdk' hmd' (lw_bd_add hbd) her (fun _ => hg) hl
  · refine lr_call (As := [.ref h, .int x, .ref ad]) (rest := []) (S := Unit) (BW := fun _ => (lwH h a1 a2 a3 a4 a5 cI cZ cJ ad pr se rk ck cu n g)) (W0 := (lwH h a1 a2 a3 a4 a5 cI cZ cJ ad pr se rk ck cu n g)) (wr := (mdW hm b1 b2 b3 b4 b5 b6 b7 cI cZ er mo mf mt ma mc ms mq n)) ⟨hx, hb, hml, hown, hts⟩ (hx1_L_send l D cI cZ cJ h a1 a2 a3 a4 a5 ad pr se rk ck cu n g _ x (x1_X0_send l D cI cZ h a1 a2 a3 a4 a5 pr se rk ck cu o f sd c₀ n hdk hlt x hbad)) (kL_L_send hts ⟨by decide, by decide⟩) hXS (fun q hq => hS.2.1 q hq (hA2 q hq)) hK hP hD hS hA [0, 1, 2, 3, 4, 5, 6] [7, 8, 9, 10, 11, 12, 13, 14] rfl rfl (by decide) (by decide) (by decide) (fun _ => rfl) rfl hl.1 rfl (Nat.le_of_ble_eq_true rfl) dL_law_168 ⟨hcl, hsl⟩ (fun r u H locs hu hP hD hS => ?_)
    obtain rfl : r = nI 1 := hu
    have hP : va_P D cdCl ((mdW hm b1 b2 b3 b4 b5 b6 b7 cI cZ er mo mf mt ma mc ms mq n) ++ (lwH h a1 a2 a3 a4 a5 cI cZ cJ ad pr se rk ck cu n g)) H := hP
    have hD : va_D A ((mdW hm b1 b2 b3 b4 b5 b6 b7 cI cZ er mo mf mt ma mc ms mq n) ++ (lwH h a1 a2 a3 a4 a5 cI cZ cJ ad pr se rk ck cu n g)) := hD
    refine lv_istore hx hb dL_law_171 hl (by decide) rfl (fun ls hl => ?_)
    have hl : lv_has ls 7 [(5, .int (nI 1)), (4, .int (nI (3 * i))), (3, .ref ad), (2, .ref hm), (1, .ref h), (0, .ref b)] := hl
    refine lv_aload_n hx hb dL_law_173 rfl (lv_at hl 3 rfl) ?_
    refine lv_aload_n hx hb dL_law_174 rfl (lv_at hl 5 rfl) ?_
    refine lv_iload hx hb dL_law_175 (lv_at hl 1 rfl) ?_
    refine lv_iconst (v := nI 1) hx hb dL_law_177 (by decide) ?_
    refine lv_iadd hx hb dL_law_178 ?_
    refine cw_topi (y := nI ((3 * i) + 1)) (nI_add _ _) ?_
    refine lr_scr hx hb hX hbl hbA hS (k := ((3 * i) + 1)) (v := x) (by omega) hL hx1 dL_law_179 ?_
    refine cw_callWi (As := [.int x]) (rest := []) (S := mdS) (BW := fun w => (mdU hm b1 b2 b3 b4 b5 b6 b7 cI cZ n w)) (W0 := (mdW hm b1 b2 b3 b4 b5 b6 b7 cI cZ er mo mf mt ma mc ms mq n)) (wr := (lwH h a1 a2 a3 a4 a5 cI cZ cJ ad pr se rk ck cu n g)) ⟨hx, hb, hml, hown, hts⟩ (m1_X1_send l D cI cZ hm b1 b2 b3 b4 b5 b6 b7 er mo mf mt ma mc ms mq o f sd c₀ n hmd _ x hbad) (kL_X1_send hts 2 0 0 60 ⟨by decide, by decide⟩) hK2 hP hD hS hA [0, 1, 2, 3, 4, 5, 6, 7] [8, 9, 10, 11, 12, 13, 14] rfl rfl (by decide) (by decide) (by decide) (fun _ => rfl) 0 rfl rfl rfl rfl hl.1 rfl (Nat.le_of_ble_eq_true rfl) dL_law_180 ⟨by show cells + 1 + 0 ≤ 1046; omega, by show slots + 6 + 0 ≤ 11262; omega⟩ (fun r w H locs hu hP hD hS => ?_)
    obtain ⟨her, hmd'⟩ := hu
    have hP : va_P D cdCl ((lwH h a1 a2 a3 a4 a5 cI cZ cJ ad pr se rk ck cu n g) ++ (mdU hm b1 b2 b3 b4 b5 b6 b7 cI cZ n w)) H := hP
    have hD : va_D A ((lwH h a1 a2 a3 a4 a5 cI cZ cJ ad pr se rk ck cu n g) ++ (mdU hm b1 b2 b3 b4 b5 b6 b7 cI cZ n w)) := hD
    exact tail 1 _ (by decide) hP hD hS hdk hmd' hbd her (fun z => absurd z (by decide)) hl
set_option maxHeartbeats 4000000 in
set_option maxRecDepth 100000 in
/-- receive -/
theorem lw_c2 {p : Program} {l : Launch} {e : Env} {s : State} {m : MethodId} {args : Array Value} {below : List Frame} {meth : Method} {c : Code} {Q : State → Prop} {D : va_G} {cI cZ cJ : ClassId} {h a1 a2 a3 a4 a5 ad hm b1 b2 b3 b4 b5 b6 b7 b L : Nat} {xs : Nat → Int32} {A : Nat → Prop} {c0 : Cond} (hx : p.tables.exec = Jvm.exec) (hb : c.code = cL_law) (hml : c.maxLocals = 7) (hown : s.vm.findClass RL = some m.cls) (hts : ∀ w ∈ c0 :: tW, w.before args s = true) (hlt : l.stackTraces = false) (hXS : xt_S s) (hK : va_K D cdCl (lwT cI cZ cJ) s) (hX : va_X b L xs s s.heap) (hbl : b < s.heap.size) (hbA : ¬ A b) (hA : ∀ q, s.heap.size ≤ q → A q) (hA2 : ∀ q, q < s.heap.size → ¬ A q) (hL : L ≤ 1536) (i : Nat) (hi : 3 * i + 3 ≤ L) (cells slots : Nat) (hcl : cells + 1 ≤ 1046) (hsl : slots + 6 ≤ 11262) {H : Heap} {locs : List Loc} {ls : Array Slot} (hI : lwI D cI cZ cJ h a1 a2 a3 a4 a5 ad hm b1 b2 b3 b4 b5 b6 b7 A s.heap H locs) (hl : lv_has ls 7 [(4, .int (nI (3 * i))), (3, .ref ad), (2, .ref hm), (1, .ref h), (0, .ref b)]) (kk : ∀ (H : Heap) (locs : List Loc) (ls : Array Slot), lwI D cI cZ cJ h a1 a2 a3 a4 a5 ad hm b1 b2 b3 b4 b5 b6 b7 A s.heap H locs → lv_has ls 7 [(4, .int (nI (3 * i))), (3, .ref ad), (2, .ref hm), (1, .ref h), (0, .ref b)] → W p l e room_1 s m args below meth c H locs (cells + 1) (slots + 6) Q (F0 m 737 ls [])) : W p l e room_1 s m args below meth c H locs (cells) (slots) Q (F0 m 216 ls []) := by
  obtain ⟨pr, se, rk, ck, cu, g, er, mo, mf, mt, ma, mc, ms, mq, o, f, sd, c₀, n, hP, hD, hS, hdk, hmd, hbd⟩ := hI
  have hn := hdk.1
  have hwf := hdk.2.1
  have hK2 : va_K D cdCl (dkT cI cZ) s := hK.sub [0, 1] rfl
  obtain ⟨x, hx1⟩ : ∃ x, xs (3 * i + 1) = x := ⟨_, rfl⟩
  obtain ⟨z, hx2⟩ : ∃ z, xs (3 * i + 2) = z := ⟨_, rfl⟩
  have tail : ∀ (kc : Nat) (r : Int32) {pr se rk ck cu : Nat → Int32} {g : Nat → Int64} {er : Int32} {mo mf mt ma mc ms mq : Nat → Int32} {o f : Nat → Nat} {sd : Nat → Bool} {c₀ : Nat → Nat} {n : Nat} {H : Heap} {locs : List Loc} {ls : Array Slot}, kc < 3 → va_P D cdCl ((lwH h a1 a2 a3 a4 a5 cI cZ cJ ad pr se rk ck cu n g) ++ (mdW hm b1 b2 b3 b4 b5 b6 b7 cI cZ er mo mf mt ma mc ms mq n)) H → va_D A ((lwH h a1 a2 a3 a4 a5 cI cZ cJ ad pr se rk ck cu n g) ++ (mdW hm b1 b2 b3 b4 b5 b6 b7 cI cZ er mo mf mt ma mc ms mq n)) → va_S A s.heap H locs → cd_dk o f sd c₀ n pr se rk ck cu → cd_md o f sd c₀ n mo mf mc ms → (∀ p, p < 6 → c₀ p ≤ cd_mn o p n) → er = nI kc → (kc = 0 → g 0 = r.toInt64) → lv_has ls 7 [(5, .int (nI kc)), (4, .int (nI (3 * i))), (3, .ref ad), (2, .ref hm), (1, .ref h), (0, .ref b)] → W p l e room_1 s m args below meth c H locs (cells + 1) (slots + 6) Q (F0 m 251 ls [.int r]) := by
    intro kc r pr se rk ck cu g er mo mf mt ma mc ms mq o f sd c₀ n H locs ls h3 hP hD hS hdk hmd hbd her hg hl
    refine lv_istore hx hb dL_law_251 hl (by decide) rfl (fun ls hl => ?_)
    have hl : lv_has ls 7 [(6, .int r), (5, .int (nI kc)), (4, .int (nI (3 * i))), (3, .ref ad), (2, .ref hm), (1, .ref h), (0, .ref b)] := hl
    refine lv_aload_n hx hb dL_law_253 rfl (lv_at hl 4 rfl) ?_
    have hPm := hP.sub (ws' := (mdW hm b1 b2 b3 b4 b5 b6 b7 cI cZ er mo mf mt ma mc ms mq n)) [7, 8, 9, 10, 11, 12, 13, 14] rfl
    refine cw_callR (As := []) (rest := []) ⟨hx, hb, hml, hown, hts⟩ (c_X1_thrown l D cI cZ hm b1 b2 b3 b4 b5 b6 b7 er mo mf mt ma mc ms mq o f sd c₀ n hmd) (kL_X1_thrown hts 0 0 0 0 ⟨by decide, by decide⟩) hK2 hPm 0 rfl rfl rfl rfl hl.1 rfl (Nat.le_of_ble_eq_true rfl) dL_law_254 ⟨by show cells + 1 + 0 ≤ 1046; omega, by show slots + 6 + 0 ≤ 11262; omega⟩ ?_
    refine cw_topi (y := nI kc) her ?_
    refine lv_iload hx hb dL_law_257 (lv_at hl 1 rfl) ?_
    refine cw_eq (tgt := 264) (x := kc) (y := kc) hx hb dL_law_259 (by decide) (by omega) (by omega) (fun hc => ?_) (fun hc => ?_)
    · refine lv_iload hx hb dL_law_264 (lv_at hl 1 rfl) ?_
      refine lv_if_ne (tgt := 281) hx hb dL_law_266 (by decide) (fun hc2 => ?_) (fun hc2 => ?_)
      · refine lv_goto (tgt := 737) hx hb dL_law_281 (by decide) ?_
        exact kk H locs ls ⟨pr, se, rk, ck, cu, g, er, mo, mf, mt, ma, mc, ms, mq, o, f, sd, c₀, n, hP, hD, hS, hdk, hmd, hbd⟩ (lv_sub hl [2, 3, 4, 5, 6] rfl)
      · have hk0 : kc = 0 := (nI_eq (b := 0) (by omega) (by decide)).mp hc2
        replace hg := hg hk0
        refine lv_aload_n hx hb dL_law_269 rfl (lv_at hl 3 rfl) ?_
        refine lv_iconst (v := nI 0) hx hb dL_law_270 (by decide) ?_
        refine va_lald hx hb hK hP 6 2 rfl rfl (vp_in_nI (by decide) (by decide)) dL_law_271 ?_
        refine cw_topl (y := r.toInt64) (by rw [nI_clamp (by decide)]; exact hg) ?_
        refine lv_iload hx hb dL_law_272 (lv_at hl 0 rfl) ?_
        refine lv_i2l hx hb dL_law_274 rfl ?_
        refine W.lcmp hx hb dL_law_275 ?_
        refine cw_topi (y := 0) (lw_cmp _) ?_
        refine lv_if_eq (tgt := 281) hx hb dL_law_276 (by decide) (fun hc3 => ?_) (fun hc3 => ?_)
        · refine lv_goto (tgt := 737) hx hb dL_law_281 (by decide) ?_
          exact kk H locs ls ⟨pr, se, rk, ck, cu, g, er, mo, mf, mt, ma, mc, ms, mq, o, f, sd, c₀, n, hP, hD, hS, hdk, hmd, hbd⟩ (lv_sub hl [2, 3, 4, 5, 6] rfl)
        · exact absurd rfl hc3
    · exact absurd rfl hc
  refine lv_aload_n hx hb dL_law_216 rfl (lv_at hl 3 rfl) ?_
  refine lv_aload_n hx hb dL_law_217 rfl (lv_at hl 4 rfl) ?_
  refine lv_iload hx hb dL_law_218 (lv_at hl 0 rfl) ?_
  refine lv_iconst (v := nI 1) hx hb dL_law_220 (by decide) ?_
  refine lv_iadd hx hb dL_law_221 ?_
  refine cw_topi (y := nI ((3 * i) + 1)) (nI_add _ _) ?_
  refine lr_scr hx hb hX hbl hbA hS (k := ((3 * i) + 1)) (v := x) (by omega) hL hx1 dL_law_222 ?_
  refine lv_aload_n hx hb dL_law_223 rfl (lv_at hl 4 rfl) ?_
  refine lv_iload hx hb dL_law_224 (lv_at hl 0 rfl) ?_
  refine lv_iconst (v := nI 2) hx hb dL_law_226 (by decide) ?_
  refine lv_iadd hx hb dL_law_227 ?_
  refine cw_topi (y := nI ((3 * i) + 2)) (nI_add _ _) ?_
  refine lr_scr hx hb hX hbl hbA hS (k := ((3 * i) + 2)) (v := z) (by omega) hL hx2 dL_law_228 ?_
  refine lv_aload_n hx hb dL_law_229 rfl (lv_at hl 1 rfl) ?_
  rcases cd_ix x (n := 6) (by decide) with ⟨p₁, hp, rfl⟩ | hbad
  · rcases Classical.em (∀ k, k < n → z = nI k → sd k = true → o k ≠ p₁ → False) with hb3 | hb3
    · refine lr_call (As := [.ref h, .int (nI p₁), .int z, .ref ad]) (rest := []) (S := Unit) (BW := fun _ => (lwH h a1 a2 a3 a4 a5 cI cZ cJ ad pr se rk ck cu n g)) (W0 := (lwH h a1 a2 a3 a4 a5 cI cZ cJ ad pr se rk ck cu n g)) (wr := (mdW hm b1 b2 b3 b4 b5 b6 b7 cI cZ er mo mf mt ma mc ms mq n)) ⟨hx, hb, hml, hown, hts⟩ (hx1_L_receive l D cI cZ cJ h a1 a2 a3 a4 a5 ad pr se rk ck cu n g _ (nI p₁) z (x3_X0_receive l D cI cZ h a1 a2 a3 a4 a5 pr se rk ck cu o f sd c₀ n hdk hlt p₁ hp z hb3)) (kL_L_receive hts ⟨by decide, by decide⟩) hXS (fun q hq => hS.2.1 q hq (hA2 q hq)) hK hP hD hS hA [0, 1, 2, 3, 4, 5, 6] [7, 8, 9, 10, 11, 12, 13, 14] rfl rfl (by decide) (by decide) (by decide) (fun _ => rfl) rfl hl.1 rfl (Nat.le_of_ble_eq_true rfl) dL_law_230 ⟨hcl, hsl⟩ (fun r u H locs hu hP hD hS => ?_)
      obtain rfl : r = nI 1 := hu
      have hP : va_P D cdCl ((mdW hm b1 b2 b3 b4 b5 b6 b7 cI cZ er mo mf mt ma mc ms mq n) ++ (lwH h a1 a2 a3 a4 a5 cI cZ cJ ad pr se rk ck cu n g)) H := hP
      have hD : va_D A ((mdW hm b1 b2 b3 b4 b5 b6 b7 cI cZ er mo mf mt ma mc ms mq n) ++ (lwH h a1 a2 a3 a4 a5 cI cZ cJ ad pr se rk ck cu n g)) := hD
      refine lv_istore hx hb dL_law_233 hl (by decide) rfl (fun ls hl => ?_)
      have hl : lv_has ls 7 [(5, .int (nI 1)), (4, .int (nI (3 * i))), (3, .ref ad), (2, .ref hm), (1, .ref h), (0, .ref b)] := hl
      refine lv_aload_n hx hb dL_law_235 rfl (lv_at hl 3 rfl) ?_
      refine lv_aload_n hx hb dL_law_236 rfl (lv_at hl 5 rfl) ?_
      refine lv_iload hx hb dL_law_237 (lv_at hl 1 rfl) ?_
      refine lv_iconst (v := nI 1) hx hb dL_law_239 (by decide) ?_
      refine lv_iadd hx hb dL_law_240 ?_
      refine cw_topi (y := nI ((3 * i) + 1)) (nI_add _ _) ?_
      refine lr_scr hx hb hX hbl hbA hS (k := ((3 * i) + 1)) (v := (nI p₁)) (by omega) hL hx1 dL_law_241 ?_
      refine lv_aload_n hx hb dL_law_242 rfl (lv_at hl 5 rfl) ?_
      refine lv_iload hx hb dL_law_243 (lv_at hl 1 rfl) ?_
      refine lv_iconst (v := nI 2) hx hb dL_law_245 (by decide) ?_
      refine lv_iadd hx hb dL_law_246 ?_
      refine cw_topi (y := nI ((3 * i) + 2)) (nI_add _ _) ?_
      refine lr_scr hx hb hX hbl hbA hS (k := ((3 * i) + 2)) (v := z) (by omega) hL hx2 dL_law_247 ?_
      refine cw_callWi (As := [.int (nI p₁), .int z]) (rest := []) (S := mdS) (BW := fun w => (mdU hm b1 b2 b3 b4 b5 b6 b7 cI cZ n w)) (W0 := (mdW hm b1 b2 b3 b4 b5 b6 b7 cI cZ er mo mf mt ma mc ms mq n)) (wr := (lwH h a1 a2 a3 a4 a5 cI cZ cJ ad pr se rk ck cu n g)) ⟨hx, hb, hml, hown, hts⟩ (m3_X1_receive l D cI cZ hm b1 b2 b3 b4 b5 b6 b7 er mo mf mt ma mc ms mq o f sd c₀ n hmd _ p₁ hp z hb3) (kL_X1_receive hts 2 0 0 60 ⟨by decide, by decide⟩) hK2 hP hD hS hA [0, 1, 2, 3, 4, 5, 6, 7] [8, 9, 10, 11, 12, 13, 14] rfl rfl (by decide) (by decide) (by decide) (fun _ => rfl) 0 rfl rfl rfl rfl hl.1 rfl (Nat.le_of_ble_eq_true rfl) dL_law_248 ⟨by show cells + 1 + 0 ≤ 1046; omega, by show slots + 6 + 0 ≤ 11262; omega⟩ (fun r w H locs hu hP hD hS => ?_)
      obtain ⟨her, hmd'⟩ := hu
      have hP : va_P D cdCl ((lwH h a1 a2 a3 a4 a5 cI cZ cJ ad pr se rk ck cu n g) ++ (mdU hm b1 b2 b3 b4 b5 b6 b7 cI cZ n w)) H := hP
      have hD : va_D A ((lwH h a1 a2 a3 a4 a5 cI cZ cJ ad pr se rk ck cu n g) ++ (mdU hm b1 b2 b3 b4 b5 b6 b7 cI cZ n w)) := hD
      exact tail 1 _ (by decide) hP hD hS hdk hmd' hbd her (fun z => absurd z (by decide)) hl
    · obtain ⟨k, hk, rfl, hsk, hok2⟩ : ∃ k, k < n ∧ z = nI k ∧ sd k = true ∧ o k ≠ p₁ := Classical.byContradiction (fun hno => hb3 (fun k h1 h2 h3 h4 => hno ⟨k, h1, h2, h3, h4⟩))
      by_cases hr2 : n = 200
      · refine lr_call (As := [.ref h, .int (nI p₁), .int (nI k), .ref ad]) (rest := []) (S := Unit) (BW := fun _ => (lwH h a1 a2 a3 a4 a5 cI cZ cJ ad pr se rk ck cu n g)) (W0 := (lwH h a1 a2 a3 a4 a5 cI cZ cJ ad pr se rk ck cu n g)) (wr := (mdW hm b1 b2 b3 b4 b5 b6 b7 cI cZ er mo mf mt ma mc ms mq n)) ⟨hx, hb, hml, hown, hts⟩ (hx2_L_receive l D cI cZ cJ h a1 a2 a3 a4 a5 ad pr se rk ck cu n g _ (nI p₁) (nI k) (x2_X0_receive l D cI cZ h a1 a2 a3 a4 a5 pr se rk ck cu o f sd c₀ n hdk hlt p₁ k hp hk hsk hok2 hr2)) (kL_L_receive hts ⟨by decide, by decide⟩) hXS (fun q hq => hS.2.1 q hq (hA2 q hq)) hK hP hD hS hA [0, 1, 2, 3, 4, 5, 6] [7, 8, 9, 10, 11, 12, 13, 14] rfl rfl (by decide) (by decide) (by decide) (fun _ => rfl) rfl hl.1 rfl (Nat.le_of_ble_eq_true rfl) dL_law_230 ⟨hcl, hsl⟩ (fun r u H locs hu hP hD hS => ?_)
        obtain rfl : r = nI 2 := hu
        have hP : va_P D cdCl ((mdW hm b1 b2 b3 b4 b5 b6 b7 cI cZ er mo mf mt ma mc ms mq n) ++ (lwH h a1 a2 a3 a4 a5 cI cZ cJ ad pr se rk ck cu n g)) H := hP
        have hD : va_D A ((mdW hm b1 b2 b3 b4 b5 b6 b7 cI cZ er mo mf mt ma mc ms mq n) ++ (lwH h a1 a2 a3 a4 a5 cI cZ cJ ad pr se rk ck cu n g)) := hD
        refine lv_istore hx hb dL_law_233 hl (by decide) rfl (fun ls hl => ?_)
        have hl : lv_has ls 7 [(5, .int (nI 2)), (4, .int (nI (3 * i))), (3, .ref ad), (2, .ref hm), (1, .ref h), (0, .ref b)] := hl
        refine lv_aload_n hx hb dL_law_235 rfl (lv_at hl 3 rfl) ?_
        refine lv_aload_n hx hb dL_law_236 rfl (lv_at hl 5 rfl) ?_
        refine lv_iload hx hb dL_law_237 (lv_at hl 1 rfl) ?_
        refine lv_iconst (v := nI 1) hx hb dL_law_239 (by decide) ?_
        refine lv_iadd hx hb dL_law_240 ?_
        refine cw_topi (y := nI ((3 * i) + 1)) (nI_add _ _) ?_
        refine lr_scr hx hb hX hbl hbA hS (k := ((3 * i) + 1)) (v := (nI p₁)) (by omega) hL hx1 dL_law_241 ?_
        refine lv_aload_n hx hb dL_law_242 rfl (lv_at hl 5 rfl) ?_
        refine lv_iload hx hb dL_law_243 (lv_at hl 1 rfl) ?_
        refine lv_iconst (v := nI 2) hx hb dL_law_245 (by decide) ?_
        refine lv_iadd hx hb dL_law_246 ?_
        refine cw_topi (y := nI ((3 * i) + 2)) (nI_add _ _) ?_
        refine lr_scr hx hb hX hbl hbA hS (k := ((3 * i) + 2)) (v := (nI k)) (by omega) hL hx2 dL_law_247 ?_
        refine cw_callWi (As := [.int (nI p₁), .int (nI k)]) (rest := []) (S := mdS) (BW := fun w => (mdU hm b1 b2 b3 b4 b5 b6 b7 cI cZ n w)) (W0 := (mdW hm b1 b2 b3 b4 b5 b6 b7 cI cZ er mo mf mt ma mc ms mq n)) (wr := (lwH h a1 a2 a3 a4 a5 cI cZ cJ ad pr se rk ck cu n g)) ⟨hx, hb, hml, hown, hts⟩ (m2_X1_receive l D cI cZ hm b1 b2 b3 b4 b5 b6 b7 er mo mf mt ma mc ms mq o f sd c₀ n hmd _ p₁ k hp hk hsk hok2 hr2) (kL_X1_receive hts 2 0 0 60 ⟨by decide, by decide⟩) hK2 hP hD hS hA [0, 1, 2, 3, 4, 5, 6, 7] [8, 9, 10, 11, 12, 13, 14] rfl rfl (by decide) (by decide) (by decide) (fun _ => rfl) 0 rfl rfl rfl rfl hl.1 rfl (Nat.le_of_ble_eq_true rfl) dL_law_248 ⟨by show cells + 1 + 0 ≤ 1046; omega, by show slots + 6 + 0 ≤ 11262; omega⟩ (fun r w H locs hu hP hD hS => ?_)
        obtain ⟨her, hmd'⟩ := hu
        have hP : va_P D cdCl ((lwH h a1 a2 a3 a4 a5 cI cZ cJ ad pr se rk ck cu n g) ++ (mdU hm b1 b2 b3 b4 b5 b6 b7 cI cZ n w)) H := hP
        have hD : va_D A ((lwH h a1 a2 a3 a4 a5 cI cZ cJ ad pr se rk ck cu n g) ++ (mdU hm b1 b2 b3 b4 b5 b6 b7 cI cZ n w)) := hD
        exact tail 2 _ (by decide) hP hD hS hdk hmd' hbd her (fun z => absurd z (by decide)) hl
      · have hr2 : n < 200 := by omega
        refine lr_call (As := [.ref h, .int (nI p₁), .int (nI k), .ref ad]) (rest := []) (S := dkS × (Nat → Int64)) (BW := fun u => (lwH h a1 a2 a3 a4 a5 cI cZ cJ ad u.1.1 u.1.2.1 u.1.2.2.1 u.1.2.2.2.1 u.1.2.2.2.2 (n + 1) u.2)) (W0 := (lwH h a1 a2 a3 a4 a5 cI cZ cJ ad pr se rk ck cu n g)) (wr := (mdW hm b1 b2 b3 b4 b5 b6 b7 cI cZ er mo mf mt ma mc ms mq n)) ⟨hx, hb, hml, hown, hts⟩ (h0_L_receive l D cI cZ cJ h a1 a2 a3 a4 a5 ad pr se rk ck cu n g _ (nI p₁) (nI k) (c_X0_receive l D cI cZ h a1 a2 a3 a4 a5 pr se rk ck cu o f sd c₀ n hdk _ p₁ k hp hk hsk hok2 hr2)) (kL_L_receive hts ⟨by decide, by decide⟩) hXS (fun q hq => hS.2.1 q hq (hA2 q hq)) hK hP hD hS hA [0, 1, 2, 3, 4, 5, 6] [7, 8, 9, 10, 11, 12, 13, 14] rfl rfl (by decide) (by decide) (by decide) (fun _ => rfl) rfl hl.1 rfl (Nat.le_of_ble_eq_true rfl) dL_law_230 ⟨hcl, hsl⟩ (fun r u H locs hu hP hD hS => ?_)
        obtain ⟨rfl, v', ⟨rfl, hdk'⟩, hg⟩ := hu
        have hP : va_P D cdCl ((mdW hm b1 b2 b3 b4 b5 b6 b7 cI cZ er mo mf mt ma mc ms mq n) ++ (lwH h a1 a2 a3 a4 a5 cI cZ cJ ad u.1.1 u.1.2.1 u.1.2.2.1 u.1.2.2.2.1 u.1.2.2.2.2 (n + 1) u.2)) H := hP
        have hD : va_D A ((mdW hm b1 b2 b3 b4 b5 b6 b7 cI cZ er mo mf mt ma mc ms mq n) ++ (lwH h a1 a2 a3 a4 a5 cI cZ cJ ad u.1.1 u.1.2.1 u.1.2.2.1 u.1.2.2.2.1 u.1.2.2.2.2 (n + 1) u.2)) := hD
        refine lv_istore hx hb dL_law_233 hl (by decide) rfl (fun ls hl => ?_)
        have hl : lv_has ls 7 [(5, .int (nI 0)), (4, .int (nI (3 * i))), (3, .ref ad), (2, .ref hm), (1, .ref h), (0, .ref b)] := hl
        refine lv_aload_n hx hb dL_law_235 rfl (lv_at hl 3 rfl) ?_
        refine lv_aload_n hx hb dL_law_236 rfl (lv_at hl 5 rfl) ?_
        refine lv_iload hx hb dL_law_237 (lv_at hl 1 rfl) ?_
        refine lv_iconst (v := nI 1) hx hb dL_law_239 (by decide) ?_
        refine lv_iadd hx hb dL_law_240 ?_
        refine cw_topi (y := nI ((3 * i) + 1)) (nI_add _ _) ?_
        refine lr_scr hx hb hX hbl hbA hS (k := ((3 * i) + 1)) (v := (nI p₁)) (by omega) hL hx1 dL_law_241 ?_
        refine lv_aload_n hx hb dL_law_242 rfl (lv_at hl 5 rfl) ?_
        refine lv_iload hx hb dL_law_243 (lv_at hl 1 rfl) ?_
        refine lv_iconst (v := nI 2) hx hb dL_law_245 (by decide) ?_
        refine lv_iadd hx hb dL_law_246 ?_
        refine cw_topi (y := nI ((3 * i) + 2)) (nI_add _ _) ?_
        refine lr_scr hx hb hX hbl hbA hS (k := ((3 * i) + 2)) (v := (nI k)) (by omega) hL hx2 dL_law_247 ?_
        refine cw_callWi (As := [.int (nI p₁), .int (nI k)]) (rest := []) (S := mdS) (BW := fun w => (mdU hm b1 b2 b3 b4 b5 b6 b7 cI cZ (n + 1) w)) (W0 := (mdW hm b1 b2 b3 b4 b5 b6 b7 cI cZ er mo mf mt ma mc ms mq n)) (wr := (lwH h a1 a2 a3 a4 a5 cI cZ cJ ad u.1.1 u.1.2.1 u.1.2.2.1 u.1.2.2.2.1 u.1.2.2.2.2 (n + 1) u.2)) ⟨hx, hb, hml, hown, hts⟩ (m0_X1_receive l D cI cZ hm b1 b2 b3 b4 b5 b6 b7 er mo mf mt ma mc ms mq o f sd c₀ n hmd _ p₁ k hp hk hsk hok2 hr2) (kL_X1_receive hts 2 0 0 60 ⟨by decide, by decide⟩) hK2 hP hD hS hA [0, 1, 2, 3, 4, 5, 6, 7] [8, 9, 10, 11, 12, 13, 14] rfl rfl (by decide) (by decide) (by decide) (fun _ => rfl) 0 rfl rfl rfl rfl hl.1 rfl (Nat.le_of_ble_eq_true rfl) dL_law_248 ⟨by show cells + 1 + 0 ≤ 1046; omega, by show slots + 6 + 0 ≤ 11262; omega⟩ (fun r w H locs hu hP hD hS => ?_)
        obtain ⟨rfl, her, hmd'⟩ := hu
        have hP : va_P D cdCl ((lwH h a1 a2 a3 a4 a5 cI cZ cJ ad u.1.1 u.1.2.1 u.1.2.2.1 u.1.2.2.2.1 u.1.2.2.2.2 (n + 1) u.2) ++ (mdU hm b1 b2 b3 b4 b5 b6 b7 cI cZ (n + 1) w)) H := hP
        have hD : va_D A ((lwH h a1 a2 a3 a4 a5 cI cZ cJ ad u.1.1 u.1.2.1 u.1.2.2.1 u.1.2.2.2.1 u.1.2.2.2.2 (n + 1) u.2) ++ (mdU hm b1 b2 b3 b4 b5 b6 b7 cI cZ (n + 1) w)) := hD
        exact tail 0 _ (by decide) hP hD hS hdk' hmd' (lw_bd_add hbd) her (fun _ => hg) hl
  · refine lr_call (As := [.ref h, .int x, .int z, .ref ad]) (rest := []) (S := Unit) (BW := fun _ => (lwH h a1 a2 a3 a4 a5 cI cZ cJ ad pr se rk ck cu n g)) (W0 := (lwH h a1 a2 a3 a4 a5 cI cZ cJ ad pr se rk ck cu n g)) (wr := (mdW hm b1 b2 b3 b4 b5 b6 b7 cI cZ er mo mf mt ma mc ms mq n)) ⟨hx, hb, hml, hown, hts⟩ (hx1_L_receive l D cI cZ cJ h a1 a2 a3 a4 a5 ad pr se rk ck cu n g _ x z (x1_X0_receive l D cI cZ h a1 a2 a3 a4 a5 pr se rk ck cu o f sd c₀ n hdk hlt x hbad z)) (kL_L_receive hts ⟨by decide, by decide⟩) hXS (fun q hq => hS.2.1 q hq (hA2 q hq)) hK hP hD hS hA [0, 1, 2, 3, 4, 5, 6] [7, 8, 9, 10, 11, 12, 13, 14] rfl rfl (by decide) (by decide) (by decide) (fun _ => rfl) rfl hl.1 rfl (Nat.le_of_ble_eq_true rfl) dL_law_230 ⟨hcl, hsl⟩ (fun r u H locs hu hP hD hS => ?_)
    obtain rfl : r = nI 1 := hu
    have hP : va_P D cdCl ((mdW hm b1 b2 b3 b4 b5 b6 b7 cI cZ er mo mf mt ma mc ms mq n) ++ (lwH h a1 a2 a3 a4 a5 cI cZ cJ ad pr se rk ck cu n g)) H := hP
    have hD : va_D A ((mdW hm b1 b2 b3 b4 b5 b6 b7 cI cZ er mo mf mt ma mc ms mq n) ++ (lwH h a1 a2 a3 a4 a5 cI cZ cJ ad pr se rk ck cu n g)) := hD
    refine lv_istore hx hb dL_law_233 hl (by decide) rfl (fun ls hl => ?_)
    have hl : lv_has ls 7 [(5, .int (nI 1)), (4, .int (nI (3 * i))), (3, .ref ad), (2, .ref hm), (1, .ref h), (0, .ref b)] := hl
    refine lv_aload_n hx hb dL_law_235 rfl (lv_at hl 3 rfl) ?_
    refine lv_aload_n hx hb dL_law_236 rfl (lv_at hl 5 rfl) ?_
    refine lv_iload hx hb dL_law_237 (lv_at hl 1 rfl) ?_
    refine lv_iconst (v := nI 1) hx hb dL_law_239 (by decide) ?_
    refine lv_iadd hx hb dL_law_240 ?_
    refine cw_topi (y := nI ((3 * i) + 1)) (nI_add _ _) ?_
    refine lr_scr hx hb hX hbl hbA hS (k := ((3 * i) + 1)) (v := x) (by omega) hL hx1 dL_law_241 ?_
    refine lv_aload_n hx hb dL_law_242 rfl (lv_at hl 5 rfl) ?_
    refine lv_iload hx hb dL_law_243 (lv_at hl 1 rfl) ?_
    refine lv_iconst (v := nI 2) hx hb dL_law_245 (by decide) ?_
    refine lv_iadd hx hb dL_law_246 ?_
    refine cw_topi (y := nI ((3 * i) + 2)) (nI_add _ _) ?_
    refine lr_scr hx hb hX hbl hbA hS (k := ((3 * i) + 2)) (v := z) (by omega) hL hx2 dL_law_247 ?_
    refine cw_callWi (As := [.int x, .int z]) (rest := []) (S := mdS) (BW := fun w => (mdU hm b1 b2 b3 b4 b5 b6 b7 cI cZ n w)) (W0 := (mdW hm b1 b2 b3 b4 b5 b6 b7 cI cZ er mo mf mt ma mc ms mq n)) (wr := (lwH h a1 a2 a3 a4 a5 cI cZ cJ ad pr se rk ck cu n g)) ⟨hx, hb, hml, hown, hts⟩ (m1_X1_receive l D cI cZ hm b1 b2 b3 b4 b5 b6 b7 er mo mf mt ma mc ms mq o f sd c₀ n hmd _ x hbad z) (kL_X1_receive hts 2 0 0 60 ⟨by decide, by decide⟩) hK2 hP hD hS hA [0, 1, 2, 3, 4, 5, 6, 7] [8, 9, 10, 11, 12, 13, 14] rfl rfl (by decide) (by decide) (by decide) (fun _ => rfl) 0 rfl rfl rfl rfl hl.1 rfl (Nat.le_of_ble_eq_true rfl) dL_law_248 ⟨by show cells + 1 + 0 ≤ 1046; omega, by show slots + 6 + 0 ≤ 11262; omega⟩ (fun r w H locs hu hP hD hS => ?_)
    obtain ⟨her, hmd'⟩ := hu
    have hP : va_P D cdCl ((lwH h a1 a2 a3 a4 a5 cI cZ cJ ad pr se rk ck cu n g) ++ (mdU hm b1 b2 b3 b4 b5 b6 b7 cI cZ n w)) H := hP
    have hD : va_D A ((lwH h a1 a2 a3 a4 a5 cI cZ cJ ad pr se rk ck cu n g) ++ (mdU hm b1 b2 b3 b4 b5 b6 b7 cI cZ n w)) := hD
    exact tail 1 _ (by decide) hP hD hS hdk hmd' hbd her (fun z => absurd z (by decide)) hl
set_option maxHeartbeats 4000000 in
set_option maxRecDepth 100000 in
/-- undo -/
theorem lw_c3 {p : Program} {l : Launch} {e : Env} {s : State} {m : MethodId} {args : Array Value} {below : List Frame} {meth : Method} {c : Code} {Q : State → Prop} {D : va_G} {cI cZ cJ : ClassId} {h a1 a2 a3 a4 a5 ad hm b1 b2 b3 b4 b5 b6 b7 b L : Nat} {xs : Nat → Int32} {A : Nat → Prop} {c0 : Cond} (hx : p.tables.exec = Jvm.exec) (hb : c.code = cL_law) (hml : c.maxLocals = 7) (hown : s.vm.findClass RL = some m.cls) (hts : ∀ w ∈ c0 :: tW, w.before args s = true) (hlt : l.stackTraces = false) (hXS : xt_S s) (hK : va_K D cdCl (lwT cI cZ cJ) s) (hX : va_X b L xs s s.heap) (hbl : b < s.heap.size) (hbA : ¬ A b) (hA : ∀ q, s.heap.size ≤ q → A q) (hA2 : ∀ q, q < s.heap.size → ¬ A q) (hL : L ≤ 1536) (i : Nat) (hi : 3 * i + 3 ≤ L) (cells slots : Nat) (hcl : cells + 1 ≤ 1046) (hsl : slots + 6 ≤ 11262) {H : Heap} {locs : List Loc} {ls : Array Slot} (hI : lwI D cI cZ cJ h a1 a2 a3 a4 a5 ad hm b1 b2 b3 b4 b5 b6 b7 A s.heap H locs) (hl : lv_has ls 7 [(4, .int (nI (3 * i))), (3, .ref ad), (2, .ref hm), (1, .ref h), (0, .ref b)]) (kk : ∀ (H : Heap) (locs : List Loc) (ls : Array Slot), lwI D cI cZ cJ h a1 a2 a3 a4 a5 ad hm b1 b2 b3 b4 b5 b6 b7 A s.heap H locs → lv_has ls 7 [(4, .int (nI (3 * i))), (3, .ref ad), (2, .ref hm), (1, .ref h), (0, .ref b)] → W p l e room_1 s m args below meth c H locs (cells + 1) (slots + 6) Q (F0 m 737 ls [])) : W p l e room_1 s m args below meth c H locs (cells) (slots) Q (F0 m 284 ls []) := by
  obtain ⟨pr, se, rk, ck, cu, g, er, mo, mf, mt, ma, mc, ms, mq, o, f, sd, c₀, n, hP, hD, hS, hdk, hmd, hbd⟩ := hI
  have hn := hdk.1
  have hwf := hdk.2.1
  have hK2 : va_K D cdCl (dkT cI cZ) s := hK.sub [0, 1] rfl
  obtain ⟨x, hx1⟩ : ∃ x, xs (3 * i + 1) = x := ⟨_, rfl⟩
  have tail : ∀ (kc : Nat) {pr se rk ck cu : Nat → Int32} {g : Nat → Int64} {er : Int32} {mo mf mt ma mc ms mq : Nat → Int32} {o f : Nat → Nat} {sd : Nat → Bool} {c₀ : Nat → Nat} {n : Nat} {H : Heap} {locs : List Loc} {ls : Array Slot}, kc < 3 → va_P D cdCl ((lwH h a1 a2 a3 a4 a5 cI cZ cJ ad pr se rk ck cu n g) ++ (mdW hm b1 b2 b3 b4 b5 b6 b7 cI cZ er mo mf mt ma mc ms mq n)) H → va_D A ((lwH h a1 a2 a3 a4 a5 cI cZ cJ ad pr se rk ck cu n g) ++ (mdW hm b1 b2 b3 b4 b5 b6 b7 cI cZ er mo mf mt ma mc ms mq n)) → va_S A s.heap H locs → cd_dk o f sd c₀ n pr se rk ck cu → cd_md o f sd c₀ n mo mf mc ms → (∀ p, p < 6 → c₀ p ≤ cd_mn o p n) → er = nI kc → lv_has ls 7 [(5, .int (nI kc)), (4, .int (nI (3 * i))), (3, .ref ad), (2, .ref hm), (1, .ref h), (0, .ref b)] → W p l e room_1 s m args below meth c H locs (cells + 1) (slots + 6) Q (F0 m 306 ls []) := by
    intro kc pr se rk ck cu g er mo mf mt ma mc ms mq o f sd c₀ n H locs ls h3 hP hD hS hdk hmd hbd her hl
    refine lv_aload_n hx hb dL_law_306 rfl (lv_at hl 3 rfl) ?_
    have hPm := hP.sub (ws' := (mdW hm b1 b2 b3 b4 b5 b6 b7 cI cZ er mo mf mt ma mc ms mq n)) [7, 8, 9, 10, 11, 12, 13, 14] rfl
    refine cw_callR (As := []) (rest := []) ⟨hx, hb, hml, hown, hts⟩ (c_X1_thrown l D cI cZ hm b1 b2 b3 b4 b5 b6 b7 er mo mf mt ma mc ms mq o f sd c₀ n hmd) (kL_X1_thrown hts 0 0 0 0 ⟨by decide, by decide⟩) hK2 hPm 0 rfl rfl rfl rfl hl.1 rfl (Nat.le_of_ble_eq_true rfl) dL_law_307 ⟨by show cells + 1 + 0 ≤ 1046; omega, by show slots + 6 + 0 ≤ 11262; omega⟩ ?_
    refine cw_topi (y := nI kc) her ?_
    refine lv_iload hx hb dL_law_310 (lv_at hl 0 rfl) ?_
    refine cw_eq (tgt := 317) (x := kc) (y := kc) hx hb dL_law_312 (by decide) (by omega) (by omega) (fun hc => ?_) (fun hc => ?_)
    · refine lv_goto (tgt := 737) hx hb dL_law_317 (by decide) ?_
      exact kk H locs ls ⟨pr, se, rk, ck, cu, g, er, mo, mf, mt, ma, mc, ms, mq, o, f, sd, c₀, n, hP, hD, hS, hdk, hmd, hbd⟩ (lv_sub hl [1, 2, 3, 4, 5] rfl)
    · exact absurd rfl hc
  refine lv_aload_n hx hb dL_law_284 rfl (lv_at hl 3 rfl) ?_
  refine lv_aload_n hx hb dL_law_285 rfl (lv_at hl 4 rfl) ?_
  refine lv_iload hx hb dL_law_286 (lv_at hl 0 rfl) ?_
  refine lv_iconst (v := nI 1) hx hb dL_law_288 (by decide) ?_
  refine lv_iadd hx hb dL_law_289 ?_
  refine cw_topi (y := nI ((3 * i) + 1)) (nI_add _ _) ?_
  refine lr_scr hx hb hX hbl hbA hS (k := ((3 * i) + 1)) (v := x) (by omega) hL hx1 dL_law_290 ?_
  rcases cd_ix x (n := n + 1) (by omega) with ⟨j, hj, rfl⟩ | hbad
  · refine lr_call (As := [.ref h, .int (nI j)]) (rest := []) (S := dkS × (Nat → Int64)) (BW := fun u => (lwH h a1 a2 a3 a4 a5 cI cZ cJ ad u.1.1 u.1.2.1 u.1.2.2.1 u.1.2.2.2.1 u.1.2.2.2.2 (n - j) u.2)) (W0 := (lwH h a1 a2 a3 a4 a5 cI cZ cJ ad pr se rk ck cu n g)) (wr := (mdW hm b1 b2 b3 b4 b5 b6 b7 cI cZ er mo mf mt ma mc ms mq n)) ⟨hx, hb, hml, hown, hts⟩ (h0_L_undo l D cI cZ cJ h a1 a2 a3 a4 a5 ad pr se rk ck cu n g _ (nI j) (c_X0_undo l D cI cZ h a1 a2 a3 a4 a5 pr se rk ck cu o f sd c₀ n hdk _ j (by omega))) (kL_L_undo hts ⟨by decide, by decide⟩) hXS (fun q hq => hS.2.1 q hq (hA2 q hq)) hK hP hD hS hA [0, 1, 2, 3, 4, 5, 6] [7, 8, 9, 10, 11, 12, 13, 14] rfl rfl (by decide) (by decide) (by decide) (fun _ => rfl) rfl hl.1 rfl (Nat.le_of_ble_eq_true rfl) dL_law_291 ⟨hcl, hsl⟩ (fun r u H locs hu hP hD hS => ?_)
    obtain ⟨rfl, hdk', -⟩ := hu
    have hP : va_P D cdCl ((mdW hm b1 b2 b3 b4 b5 b6 b7 cI cZ er mo mf mt ma mc ms mq n) ++ (lwH h a1 a2 a3 a4 a5 cI cZ cJ ad u.1.1 u.1.2.1 u.1.2.2.1 u.1.2.2.2.1 u.1.2.2.2.2 (n - j) u.2)) H := hP
    have hD : va_D A ((mdW hm b1 b2 b3 b4 b5 b6 b7 cI cZ er mo mf mt ma mc ms mq n) ++ (lwH h a1 a2 a3 a4 a5 cI cZ cJ ad u.1.1 u.1.2.1 u.1.2.2.1 u.1.2.2.2.1 u.1.2.2.2.2 (n - j) u.2)) := hD
    refine lv_istore hx hb dL_law_294 hl (by decide) rfl (fun ls hl => ?_)
    have hl : lv_has ls 7 [(5, .int (nI 0)), (4, .int (nI (3 * i))), (3, .ref ad), (2, .ref hm), (1, .ref h), (0, .ref b)] := hl
    refine lv_aload_n hx hb dL_law_296 rfl (lv_at hl 3 rfl) ?_
    refine lv_aload_n hx hb dL_law_297 rfl (lv_at hl 5 rfl) ?_
    refine lv_iload hx hb dL_law_298 (lv_at hl 1 rfl) ?_
    refine lv_iconst (v := nI 1) hx hb dL_law_300 (by decide) ?_
    refine lv_iadd hx hb dL_law_301 ?_
    refine cw_topi (y := nI ((3 * i) + 1)) (nI_add _ _) ?_
    refine lr_scr hx hb hX hbl hbA hS (k := ((3 * i) + 1)) (v := (nI j)) (by omega) hL hx1 dL_law_302 ?_
    refine cw_callWv (As := [.int (nI j)]) (rest := []) (S := mdS) (BW := fun w => (mdU hm b1 b2 b3 b4 b5 b6 b7 cI cZ (n - j) w)) (W0 := (mdW hm b1 b2 b3 b4 b5 b6 b7 cI cZ er mo mf mt ma mc ms mq n)) (wr := (lwH h a1 a2 a3 a4 a5 cI cZ cJ ad u.1.1 u.1.2.1 u.1.2.2.1 u.1.2.2.2.1 u.1.2.2.2.2 (n - j) u.2)) ⟨hx, hb, hml, hown, hts⟩ (m0_X1_undo l D cI cZ hm b1 b2 b3 b4 b5 b6 b7 er mo mf mt ma mc ms mq o f sd c₀ n hmd _ j (by omega)) (kL_X1_undo hts 2 0 0 60 ⟨by decide, by decide⟩) hK2 hP hD hS hA [0, 1, 2, 3, 4, 5, 6, 7] [8, 9, 10, 11, 12, 13, 14] rfl rfl (by decide) (by decide) (by decide) (fun _ => rfl) 0 rfl rfl rfl rfl hl.1 rfl (Nat.le_of_ble_eq_true rfl) dL_law_303 ⟨by show cells + 1 + 0 ≤ 1046; omega, by show slots + 6 + 0 ≤ 11262; omega⟩ (fun w H locs hu hP hD hS => ?_)
    obtain ⟨her, hmd'⟩ := hu
    have hP : va_P D cdCl ((lwH h a1 a2 a3 a4 a5 cI cZ cJ ad u.1.1 u.1.2.1 u.1.2.2.1 u.1.2.2.2.1 u.1.2.2.2.2 (n - j) u.2) ++ (mdU hm b1 b2 b3 b4 b5 b6 b7 cI cZ (n - j) w)) H := hP
    have hD : va_D A ((lwH h a1 a2 a3 a4 a5 cI cZ cJ ad u.1.1 u.1.2.1 u.1.2.2.1 u.1.2.2.2.1 u.1.2.2.2.2 (n - j) u.2) ++ (mdU hm b1 b2 b3 b4 b5 b6 b7 cI cZ (n - j) w)) := hD
    exact tail 0 (by decide) hP hD hS hdk' hmd' (fun p hp => Nat.min_le_right _ _) her hl
  · have hbad := lw_le hn hbad
    refine lr_call (As := [.ref h, .int x]) (rest := []) (S := Unit) (BW := fun _ => (lwH h a1 a2 a3 a4 a5 cI cZ cJ ad pr se rk ck cu n g)) (W0 := (lwH h a1 a2 a3 a4 a5 cI cZ cJ ad pr se rk ck cu n g)) (wr := (mdW hm b1 b2 b3 b4 b5 b6 b7 cI cZ er mo mf mt ma mc ms mq n)) ⟨hx, hb, hml, hown, hts⟩ (hx1_L_undo l D cI cZ cJ h a1 a2 a3 a4 a5 ad pr se rk ck cu n g _ x (x_X0_undo l D cI cZ h a1 a2 a3 a4 a5 pr se rk ck cu o f sd c₀ n hdk hlt x hbad)) (kL_L_undo hts ⟨by decide, by decide⟩) hXS (fun q hq => hS.2.1 q hq (hA2 q hq)) hK hP hD hS hA [0, 1, 2, 3, 4, 5, 6] [7, 8, 9, 10, 11, 12, 13, 14] rfl rfl (by decide) (by decide) (by decide) (fun _ => rfl) rfl hl.1 rfl (Nat.le_of_ble_eq_true rfl) dL_law_291 ⟨hcl, hsl⟩ (fun r u H locs hu hP hD hS => ?_)
    obtain rfl : r = nI 1 := hu
    have hP : va_P D cdCl ((mdW hm b1 b2 b3 b4 b5 b6 b7 cI cZ er mo mf mt ma mc ms mq n) ++ (lwH h a1 a2 a3 a4 a5 cI cZ cJ ad pr se rk ck cu n g)) H := hP
    have hD : va_D A ((mdW hm b1 b2 b3 b4 b5 b6 b7 cI cZ er mo mf mt ma mc ms mq n) ++ (lwH h a1 a2 a3 a4 a5 cI cZ cJ ad pr se rk ck cu n g)) := hD
    refine lv_istore hx hb dL_law_294 hl (by decide) rfl (fun ls hl => ?_)
    have hl : lv_has ls 7 [(5, .int (nI 1)), (4, .int (nI (3 * i))), (3, .ref ad), (2, .ref hm), (1, .ref h), (0, .ref b)] := hl
    refine lv_aload_n hx hb dL_law_296 rfl (lv_at hl 3 rfl) ?_
    refine lv_aload_n hx hb dL_law_297 rfl (lv_at hl 5 rfl) ?_
    refine lv_iload hx hb dL_law_298 (lv_at hl 1 rfl) ?_
    refine lv_iconst (v := nI 1) hx hb dL_law_300 (by decide) ?_
    refine lv_iadd hx hb dL_law_301 ?_
    refine cw_topi (y := nI ((3 * i) + 1)) (nI_add _ _) ?_
    refine lr_scr hx hb hX hbl hbA hS (k := ((3 * i) + 1)) (v := x) (by omega) hL hx1 dL_law_302 ?_
    refine cw_callWv (As := [.int x]) (rest := []) (S := mdS) (BW := fun w => (mdU hm b1 b2 b3 b4 b5 b6 b7 cI cZ n w)) (W0 := (mdW hm b1 b2 b3 b4 b5 b6 b7 cI cZ er mo mf mt ma mc ms mq n)) (wr := (lwH h a1 a2 a3 a4 a5 cI cZ cJ ad pr se rk ck cu n g)) ⟨hx, hb, hml, hown, hts⟩ (m1_X1_undo l D cI cZ hm b1 b2 b3 b4 b5 b6 b7 er mo mf mt ma mc ms mq o f sd c₀ n hmd _ x hbad) (kL_X1_undo hts 2 0 0 60 ⟨by decide, by decide⟩) hK2 hP hD hS hA [0, 1, 2, 3, 4, 5, 6, 7] [8, 9, 10, 11, 12, 13, 14] rfl rfl (by decide) (by decide) (by decide) (fun _ => rfl) 0 rfl rfl rfl rfl hl.1 rfl (Nat.le_of_ble_eq_true rfl) dL_law_303 ⟨by show cells + 1 + 0 ≤ 1046; omega, by show slots + 6 + 0 ≤ 11262; omega⟩ (fun w H locs hu hP hD hS => ?_)
    obtain ⟨her, hmd'⟩ := hu
    have hP : va_P D cdCl ((lwH h a1 a2 a3 a4 a5 cI cZ cJ ad pr se rk ck cu n g) ++ (mdU hm b1 b2 b3 b4 b5 b6 b7 cI cZ n w)) H := hP
    have hD : va_D A ((lwH h a1 a2 a3 a4 a5 cI cZ cJ ad pr se rk ck cu n g) ++ (mdU hm b1 b2 b3 b4 b5 b6 b7 cI cZ n w)) := hD
    exact tail 1 (by decide) hP hD hS hdk hmd' hbd her hl
set_option maxHeartbeats 4000000 in
set_option maxRecDepth 100000 in
/-- before -/
theorem lw_c4 {p : Program} {l : Launch} {e : Env} {s : State} {m : MethodId} {args : Array Value} {below : List Frame} {meth : Method} {c : Code} {Q : State → Prop} {D : va_G} {cI cZ cJ : ClassId} {h a1 a2 a3 a4 a5 ad hm b1 b2 b3 b4 b5 b6 b7 b L : Nat} {xs : Nat → Int32} {A : Nat → Prop} {c0 : Cond} (hx : p.tables.exec = Jvm.exec) (hb : c.code = cL_law) (hml : c.maxLocals = 7) (hown : s.vm.findClass RL = some m.cls) (hts : ∀ w ∈ c0 :: tW, w.before args s = true) (hlt : l.stackTraces = false) (hXS : xt_S s) (hK : va_K D cdCl (lwT cI cZ cJ) s) (hX : va_X b L xs s s.heap) (hbl : b < s.heap.size) (hbA : ¬ A b) (hA : ∀ q, s.heap.size ≤ q → A q) (hA2 : ∀ q, q < s.heap.size → ¬ A q) (hL : L ≤ 1536) (i : Nat) (hi : 3 * i + 3 ≤ L) (cells slots : Nat) (hcl : cells + 1 ≤ 1046) (hsl : slots + 6 ≤ 11262) {H : Heap} {locs : List Loc} {ls : Array Slot} (hI : lwI D cI cZ cJ h a1 a2 a3 a4 a5 ad hm b1 b2 b3 b4 b5 b6 b7 A s.heap H locs) (hl : lv_has ls 7 [(4, .int (nI (3 * i))), (3, .ref ad), (2, .ref hm), (1, .ref h), (0, .ref b)]) (kk : ∀ (H : Heap) (locs : List Loc) (ls : Array Slot), lwI D cI cZ cJ h a1 a2 a3 a4 a5 ad hm b1 b2 b3 b4 b5 b6 b7 A s.heap H locs → lv_has ls 7 [(4, .int (nI (3 * i))), (3, .ref ad), (2, .ref hm), (1, .ref h), (0, .ref b)] → W p l e room_1 s m args below meth c H locs (cells + 1) (slots + 6) Q (F0 m 737 ls [])) : W p l e room_1 s m args below meth c H locs (cells) (slots) Q (F0 m 320 ls []) := by
  obtain ⟨pr, se, rk, ck, cu, g, er, mo, mf, mt, ma, mc, ms, mq, o, f, sd, c₀, n, hP, hD, hS, hdk, hmd, hbd⟩ := hI
  have hn := hdk.1
  have hwf := hdk.2.1
  have hK2 : va_K D cdCl (dkT cI cZ) s := hK.sub [0, 1] rfl
  obtain ⟨x, hx1⟩ : ∃ x, xs (3 * i + 1) = x := ⟨_, rfl⟩
  obtain ⟨z, hx2⟩ : ∃ z, xs (3 * i + 2) = z := ⟨_, rfl⟩
  have tail : ∀ (kc : Nat) (r : Int32) {pr se rk ck cu : Nat → Int32} {g : Nat → Int64} {er : Int32} {mo mf mt ma mc ms mq : Nat → Int32} {o f : Nat → Nat} {sd : Nat → Bool} {c₀ : Nat → Nat} {n : Nat} {H : Heap} {locs : List Loc} {ls : Array Slot}, kc < 3 → va_P D cdCl ((lwH h a1 a2 a3 a4 a5 cI cZ cJ ad pr se rk ck cu n g) ++ (mdW hm b1 b2 b3 b4 b5 b6 b7 cI cZ er mo mf mt ma mc ms mq n)) H → va_D A ((lwH h a1 a2 a3 a4 a5 cI cZ cJ ad pr se rk ck cu n g) ++ (mdW hm b1 b2 b3 b4 b5 b6 b7 cI cZ er mo mf mt ma mc ms mq n)) → va_S A s.heap H locs → cd_dk o f sd c₀ n pr se rk ck cu → cd_md o f sd c₀ n mo mf mc ms → (∀ p, p < 6 → c₀ p ≤ cd_mn o p n) → er = nI kc → (kc = 0 → g 0 = r.toInt64 ∧ (r = 0 ∨ r = 1)) → lv_has ls 7 [(5, .int (nI kc)), (4, .int (nI (3 * i))), (3, .ref ad), (2, .ref hm), (1, .ref h), (0, .ref b)] → W p l e room_1 s m args below meth c H locs (cells + 1) (slots + 6) Q (F0 m 355 ls [.int r]) := by
    intro kc r pr se rk ck cu g er mo mf mt ma mc ms mq o f sd c₀ n H locs ls h3 hP hD hS hdk hmd hbd her hg hl
    refine lv_istore hx hb dL_law_355 hl (by decide) rfl (fun ls hl => ?_)
    have hl : lv_has ls 7 [(6, .int r), (5, .int (nI kc)), (4, .int (nI (3 * i))), (3, .ref ad), (2, .ref hm), (1, .ref h), (0, .ref b)] := hl
    refine lv_aload_n hx hb dL_law_357 rfl (lv_at hl 4 rfl) ?_
    have hPm := hP.sub (ws' := (mdW hm b1 b2 b3 b4 b5 b6 b7 cI cZ er mo mf mt ma mc ms mq n)) [7, 8, 9, 10, 11, 12, 13, 14] rfl
    refine cw_callR (As := []) (rest := []) ⟨hx, hb, hml, hown, hts⟩ (c_X1_thrown l D cI cZ hm b1 b2 b3 b4 b5 b6 b7 er mo mf mt ma mc ms mq o f sd c₀ n hmd) (kL_X1_thrown hts 0 0 0 0 ⟨by decide, by decide⟩) hK2 hPm 0 rfl rfl rfl rfl hl.1 rfl (Nat.le_of_ble_eq_true rfl) dL_law_358 ⟨by show cells + 1 + 0 ≤ 1046; omega, by show slots + 6 + 0 ≤ 11262; omega⟩ ?_
    refine cw_topi (y := nI kc) her ?_
    refine lv_iload hx hb dL_law_361 (lv_at hl 1 rfl) ?_
    refine cw_eq (tgt := 368) (x := kc) (y := kc) hx hb dL_law_363 (by decide) (by omega) (by omega) (fun hc => ?_) (fun hc => ?_)
    · refine lv_iload hx hb dL_law_368 (lv_at hl 1 rfl) ?_
      refine lv_if_ne (tgt := 392) hx hb dL_law_370 (by decide) (fun hc2 => ?_) (fun hc2 => ?_)
      · refine lv_goto (tgt := 737) hx hb dL_law_392 (by decide) ?_
        exact kk H locs ls ⟨pr, se, rk, ck, cu, g, er, mo, mf, mt, ma, mc, ms, mq, o, f, sd, c₀, n, hP, hD, hS, hdk, hmd, hbd⟩ (lv_sub hl [2, 3, 4, 5, 6] rfl)
      · have hk0 : kc = 0 := (nI_eq (b := 0) (by omega) (by decide)).mp hc2
        replace hg := hg hk0
        refine lv_aload_n hx hb dL_law_373 rfl (lv_at hl 3 rfl) ?_
        refine lv_iconst (v := nI 0) hx hb dL_law_374 (by decide) ?_
        refine va_lald hx hb hK hP 6 2 rfl rfl (vp_in_nI (by decide) (by decide)) dL_law_375 ?_
        refine cw_topl (y := r.toInt64) (by rw [nI_clamp (by decide)]; exact hg.1) ?_
        refine lv_iload hx hb dL_law_376 (lv_at hl 0 rfl) ?_
        refine lv_if_eq (tgt := 385) hx hb dL_law_378 (by decide) (fun hc4 => ?_) (fun hc4 => ?_)
        · subst hc4
          refine lv_lconst (v := (0 : Int32).toInt64) hx hb dL_law_385 (by decide) ?_
          refine W.lcmp hx hb dL_law_386 ?_
          refine cw_topi (y := 0) (lw_cmp _) ?_
          refine lv_if_eq (tgt := 392) hx hb dL_law_387 (by decide) (fun hc3 => ?_) (fun hc3 => ?_)
          · refine lv_goto (tgt := 737) hx hb dL_law_392 (by decide) ?_
            exact kk H locs ls ⟨pr, se, rk, ck, cu, g, er, mo, mf, mt, ma, mc, ms, mq, o, f, sd, c₀, n, hP, hD, hS, hdk, hmd, hbd⟩ (lv_sub hl [2, 3, 4, 5, 6] rfl)
          · exact absurd rfl hc3
        · obtain rfl : r = 1 := hg.2.resolve_left hc4
          refine lv_lconst (v := (1 : Int32).toInt64) hx hb dL_law_381 (by decide) ?_
          refine lv_goto (tgt := 386) hx hb dL_law_382 (by decide) ?_
          refine W.lcmp hx hb dL_law_386 ?_
          refine cw_topi (y := 0) (lw_cmp _) ?_
          refine lv_if_eq (tgt := 392) hx hb dL_law_387 (by decide) (fun hc3 => ?_) (fun hc3 => ?_)
          · refine lv_goto (tgt := 737) hx hb dL_law_392 (by decide) ?_
            exact kk H locs ls ⟨pr, se, rk, ck, cu, g, er, mo, mf, mt, ma, mc, ms, mq, o, f, sd, c₀, n, hP, hD, hS, hdk, hmd, hbd⟩ (lv_sub hl [2, 3, 4, 5, 6] rfl)
          · exact absurd rfl hc3
    · exact absurd rfl hc
  refine lv_aload_n hx hb dL_law_320 rfl (lv_at hl 3 rfl) ?_
  refine lv_aload_n hx hb dL_law_321 rfl (lv_at hl 4 rfl) ?_
  refine lv_iload hx hb dL_law_322 (lv_at hl 0 rfl) ?_
  refine lv_iconst (v := nI 1) hx hb dL_law_324 (by decide) ?_
  refine lv_iadd hx hb dL_law_325 ?_
  refine cw_topi (y := nI ((3 * i) + 1)) (nI_add _ _) ?_
  refine lr_scr hx hb hX hbl hbA hS (k := ((3 * i) + 1)) (v := x) (by omega) hL hx1 dL_law_326 ?_
  refine lv_aload_n hx hb dL_law_327 rfl (lv_at hl 4 rfl) ?_
  refine lv_iload hx hb dL_law_328 (lv_at hl 0 rfl) ?_
  refine lv_iconst (v := nI 2) hx hb dL_law_330 (by decide) ?_
  refine lv_iadd hx hb dL_law_331 ?_
  refine cw_topi (y := nI ((3 * i) + 2)) (nI_add _ _) ?_
  refine lr_scr hx hb hX hbl hbA hS (k := ((3 * i) + 2)) (v := z) (by omega) hL hx2 dL_law_332 ?_
  refine lv_aload_n hx hb dL_law_333 rfl (lv_at hl 1 rfl) ?_
  rcases cd_ix x (n := n) (by omega) with ⟨k, hk, rfl⟩ | hbad
  · rcases cd_ix z (n := n) (by omega) with ⟨j, hj, rfl⟩ | hbad
    · refine lr_call (As := [.ref h, .int (nI k), .int (nI j), .ref ad]) (rest := []) (S := Nat → Int64) (BW := fun u => (lwH h a1 a2 a3 a4 a5 cI cZ cJ ad pr se rk ck cu n u)) (W0 := (lwH h a1 a2 a3 a4 a5 cI cZ cJ ad pr se rk ck cu n g)) (wr := (mdW hm b1 b2 b3 b4 b5 b6 b7 cI cZ er mo mf mt ma mc ms mq n)) ⟨hx, hb, hml, hown, hts⟩ (h0_L_before l D cI cZ cJ h a1 a2 a3 a4 a5 ad pr se rk ck cu n g _ (nI k) (nI j) _ (lw_bI _) (c_X0_before l D cI cZ h a1 a2 a3 a4 a5 pr se rk ck cu o f sd c₀ n hdk k j hk hj)) (kL_L_before hts ⟨by decide, by decide⟩) hXS (fun q hq => hS.2.1 q hq (hA2 q hq)) hK hP hD hS hA [0, 1, 2, 3, 4, 5, 6] [7, 8, 9, 10, 11, 12, 13, 14] rfl rfl (by decide) (by decide) (by decide) (fun _ => rfl) rfl hl.1 rfl (Nat.le_of_ble_eq_true rfl) dL_law_334 ⟨hcl, hsl⟩ (fun r u H locs hu hP hD hS => ?_)
      obtain ⟨rfl, hg⟩ := hu
      have hP : va_P D cdCl ((mdW hm b1 b2 b3 b4 b5 b6 b7 cI cZ er mo mf mt ma mc ms mq n) ++ (lwH h a1 a2 a3 a4 a5 cI cZ cJ ad pr se rk ck cu n u)) H := hP
      have hD : va_D A ((mdW hm b1 b2 b3 b4 b5 b6 b7 cI cZ er mo mf mt ma mc ms mq n) ++ (lwH h a1 a2 a3 a4 a5 cI cZ cJ ad pr se rk ck cu n u)) := hD
      refine lv_istore hx hb dL_law_337 hl (by decide) rfl (fun ls hl => ?_)
      have hl : lv_has ls 7 [(5, .int (nI 0)), (4, .int (nI (3 * i))), (3, .ref ad), (2, .ref hm), (1, .ref h), (0, .ref b)] := hl
      refine lv_aload_n hx hb dL_law_339 rfl (lv_at hl 3 rfl) ?_
      refine lv_aload_n hx hb dL_law_340 rfl (lv_at hl 5 rfl) ?_
      refine lv_iload hx hb dL_law_341 (lv_at hl 1 rfl) ?_
      refine lv_iconst (v := nI 1) hx hb dL_law_343 (by decide) ?_
      refine lv_iadd hx hb dL_law_344 ?_
      refine cw_topi (y := nI ((3 * i) + 1)) (nI_add _ _) ?_
      refine lr_scr hx hb hX hbl hbA hS (k := ((3 * i) + 1)) (v := (nI k)) (by omega) hL hx1 dL_law_345 ?_
      refine lv_aload_n hx hb dL_law_346 rfl (lv_at hl 5 rfl) ?_
      refine lv_iload hx hb dL_law_347 (lv_at hl 1 rfl) ?_
      refine lv_iconst (v := nI 2) hx hb dL_law_349 (by decide) ?_
      refine lv_iadd hx hb dL_law_350 ?_
      refine cw_topi (y := nI ((3 * i) + 2)) (nI_add _ _) ?_
      refine lr_scr hx hb hX hbl hbA hS (k := ((3 * i) + 2)) (v := (nI j)) (by omega) hL hx2 dL_law_351 ?_
      refine cw_callWi (As := [.int (nI k), .int (nI j)]) (rest := []) (S := mdS) (BW := fun w => (mdU hm b1 b2 b3 b4 b5 b6 b7 cI cZ n w)) (W0 := (mdW hm b1 b2 b3 b4 b5 b6 b7 cI cZ er mo mf mt ma mc ms mq n)) (wr := (lwH h a1 a2 a3 a4 a5 cI cZ cJ ad pr se rk ck cu n u)) ⟨hx, hb, hml, hown, hts⟩ (m0_X1_before l D cI cZ hm b1 b2 b3 b4 b5 b6 b7 er mo mf mt ma mc ms mq o f sd c₀ n hmd _ k j hk hj) (kL_X1_before hts 2 0 0 60 ⟨by decide, by decide⟩) hK2 hP hD hS hA [0, 1, 2, 3, 4, 5, 6, 7] [8, 9, 10, 11, 12, 13, 14] rfl rfl (by decide) (by decide) (by decide) (fun _ => rfl) 0 rfl rfl rfl rfl hl.1 rfl (Nat.le_of_ble_eq_true rfl) dL_law_352 ⟨by show cells + 1 + 0 ≤ 1046; omega, by show slots + 6 + 0 ≤ 11262; omega⟩ (fun r w H locs hu hP hD hS => ?_)
      obtain ⟨rfl, her, hmd'⟩ := hu
      have hP : va_P D cdCl ((lwH h a1 a2 a3 a4 a5 cI cZ cJ ad pr se rk ck cu n u) ++ (mdU hm b1 b2 b3 b4 b5 b6 b7 cI cZ n w)) H := hP
      have hD : va_D A ((lwH h a1 a2 a3 a4 a5 cI cZ cJ ad pr se rk ck cu n u) ++ (mdU hm b1 b2 b3 b4 b5 b6 b7 cI cZ n w)) := hD
      exact tail 0 _ (by decide) hP hD hS hdk hmd' hbd her (fun _ => ⟨hg, lw_bI _⟩) hl
    · refine lr_call (As := [.ref h, .int (nI k), .int z, .ref ad]) (rest := []) (S := Unit) (BW := fun _ => (lwH h a1 a2 a3 a4 a5 cI cZ cJ ad pr se rk ck cu n g)) (W0 := (lwH h a1 a2 a3 a4 a5 cI cZ cJ ad pr se rk ck cu n g)) (wr := (mdW hm b1 b2 b3 b4 b5 b6 b7 cI cZ er mo mf mt ma mc ms mq n)) ⟨hx, hb, hml, hown, hts⟩ (hx1_L_before l D cI cZ cJ h a1 a2 a3 a4 a5 ad pr se rk ck cu n g _ (nI k) z (x2_X0_before l D cI cZ h a1 a2 a3 a4 a5 pr se rk ck cu o f sd c₀ n hdk hlt k hk z hbad)) (kL_L_before hts ⟨by decide, by decide⟩) hXS (fun q hq => hS.2.1 q hq (hA2 q hq)) hK hP hD hS hA [0, 1, 2, 3, 4, 5, 6] [7, 8, 9, 10, 11, 12, 13, 14] rfl rfl (by decide) (by decide) (by decide) (fun _ => rfl) rfl hl.1 rfl (Nat.le_of_ble_eq_true rfl) dL_law_334 ⟨hcl, hsl⟩ (fun r u H locs hu hP hD hS => ?_)
      obtain rfl : r = nI 1 := hu
      have hP : va_P D cdCl ((mdW hm b1 b2 b3 b4 b5 b6 b7 cI cZ er mo mf mt ma mc ms mq n) ++ (lwH h a1 a2 a3 a4 a5 cI cZ cJ ad pr se rk ck cu n g)) H := hP
      have hD : va_D A ((mdW hm b1 b2 b3 b4 b5 b6 b7 cI cZ er mo mf mt ma mc ms mq n) ++ (lwH h a1 a2 a3 a4 a5 cI cZ cJ ad pr se rk ck cu n g)) := hD
      refine lv_istore hx hb dL_law_337 hl (by decide) rfl (fun ls hl => ?_)
      have hl : lv_has ls 7 [(5, .int (nI 1)), (4, .int (nI (3 * i))), (3, .ref ad), (2, .ref hm), (1, .ref h), (0, .ref b)] := hl
      refine lv_aload_n hx hb dL_law_339 rfl (lv_at hl 3 rfl) ?_
      refine lv_aload_n hx hb dL_law_340 rfl (lv_at hl 5 rfl) ?_
      refine lv_iload hx hb dL_law_341 (lv_at hl 1 rfl) ?_
      refine lv_iconst (v := nI 1) hx hb dL_law_343 (by decide) ?_
      refine lv_iadd hx hb dL_law_344 ?_
      refine cw_topi (y := nI ((3 * i) + 1)) (nI_add _ _) ?_
      refine lr_scr hx hb hX hbl hbA hS (k := ((3 * i) + 1)) (v := (nI k)) (by omega) hL hx1 dL_law_345 ?_
      refine lv_aload_n hx hb dL_law_346 rfl (lv_at hl 5 rfl) ?_
      refine lv_iload hx hb dL_law_347 (lv_at hl 1 rfl) ?_
      refine lv_iconst (v := nI 2) hx hb dL_law_349 (by decide) ?_
      refine lv_iadd hx hb dL_law_350 ?_
      refine cw_topi (y := nI ((3 * i) + 2)) (nI_add _ _) ?_
      refine lr_scr hx hb hX hbl hbA hS (k := ((3 * i) + 2)) (v := z) (by omega) hL hx2 dL_law_351 ?_
      refine cw_callWi (As := [.int (nI k), .int z]) (rest := []) (S := mdS) (BW := fun w => (mdU hm b1 b2 b3 b4 b5 b6 b7 cI cZ n w)) (W0 := (mdW hm b1 b2 b3 b4 b5 b6 b7 cI cZ er mo mf mt ma mc ms mq n)) (wr := (lwH h a1 a2 a3 a4 a5 cI cZ cJ ad pr se rk ck cu n g)) ⟨hx, hb, hml, hown, hts⟩ (m2_X1_before l D cI cZ hm b1 b2 b3 b4 b5 b6 b7 er mo mf mt ma mc ms mq o f sd c₀ n hmd _ k hk z hbad) (kL_X1_before hts 2 0 0 60 ⟨by decide, by decide⟩) hK2 hP hD hS hA [0, 1, 2, 3, 4, 5, 6, 7] [8, 9, 10, 11, 12, 13, 14] rfl rfl (by decide) (by decide) (by decide) (fun _ => rfl) 0 rfl rfl rfl rfl hl.1 rfl (Nat.le_of_ble_eq_true rfl) dL_law_352 ⟨by show cells + 1 + 0 ≤ 1046; omega, by show slots + 6 + 0 ≤ 11262; omega⟩ (fun r w H locs hu hP hD hS => ?_)
      obtain ⟨her, hmd'⟩ := hu
      have hP : va_P D cdCl ((lwH h a1 a2 a3 a4 a5 cI cZ cJ ad pr se rk ck cu n g) ++ (mdU hm b1 b2 b3 b4 b5 b6 b7 cI cZ n w)) H := hP
      have hD : va_D A ((lwH h a1 a2 a3 a4 a5 cI cZ cJ ad pr se rk ck cu n g) ++ (mdU hm b1 b2 b3 b4 b5 b6 b7 cI cZ n w)) := hD
      exact tail 1 _ (by decide) hP hD hS hdk hmd' hbd her (fun z => absurd z (by decide)) hl
  · refine lr_call (As := [.ref h, .int x, .int z, .ref ad]) (rest := []) (S := Unit) (BW := fun _ => (lwH h a1 a2 a3 a4 a5 cI cZ cJ ad pr se rk ck cu n g)) (W0 := (lwH h a1 a2 a3 a4 a5 cI cZ cJ ad pr se rk ck cu n g)) (wr := (mdW hm b1 b2 b3 b4 b5 b6 b7 cI cZ er mo mf mt ma mc ms mq n)) ⟨hx, hb, hml, hown, hts⟩ (hx1_L_before l D cI cZ cJ h a1 a2 a3 a4 a5 ad pr se rk ck cu n g _ x z (x1_X0_before l D cI cZ h a1 a2 a3 a4 a5 pr se rk ck cu o f sd c₀ n hdk hlt x z hbad)) (kL_L_before hts ⟨by decide, by decide⟩) hXS (fun q hq => hS.2.1 q hq (hA2 q hq)) hK hP hD hS hA [0, 1, 2, 3, 4, 5, 6] [7, 8, 9, 10, 11, 12, 13, 14] rfl rfl (by decide) (by decide) (by decide) (fun _ => rfl) rfl hl.1 rfl (Nat.le_of_ble_eq_true rfl) dL_law_334 ⟨hcl, hsl⟩ (fun r u H locs hu hP hD hS => ?_)
    obtain rfl : r = nI 1 := hu
    have hP : va_P D cdCl ((mdW hm b1 b2 b3 b4 b5 b6 b7 cI cZ er mo mf mt ma mc ms mq n) ++ (lwH h a1 a2 a3 a4 a5 cI cZ cJ ad pr se rk ck cu n g)) H := hP
    have hD : va_D A ((mdW hm b1 b2 b3 b4 b5 b6 b7 cI cZ er mo mf mt ma mc ms mq n) ++ (lwH h a1 a2 a3 a4 a5 cI cZ cJ ad pr se rk ck cu n g)) := hD
    refine lv_istore hx hb dL_law_337 hl (by decide) rfl (fun ls hl => ?_)
    have hl : lv_has ls 7 [(5, .int (nI 1)), (4, .int (nI (3 * i))), (3, .ref ad), (2, .ref hm), (1, .ref h), (0, .ref b)] := hl
    refine lv_aload_n hx hb dL_law_339 rfl (lv_at hl 3 rfl) ?_
    refine lv_aload_n hx hb dL_law_340 rfl (lv_at hl 5 rfl) ?_
    refine lv_iload hx hb dL_law_341 (lv_at hl 1 rfl) ?_
    refine lv_iconst (v := nI 1) hx hb dL_law_343 (by decide) ?_
    refine lv_iadd hx hb dL_law_344 ?_
    refine cw_topi (y := nI ((3 * i) + 1)) (nI_add _ _) ?_
    refine lr_scr hx hb hX hbl hbA hS (k := ((3 * i) + 1)) (v := x) (by omega) hL hx1 dL_law_345 ?_
    refine lv_aload_n hx hb dL_law_346 rfl (lv_at hl 5 rfl) ?_
    refine lv_iload hx hb dL_law_347 (lv_at hl 1 rfl) ?_
    refine lv_iconst (v := nI 2) hx hb dL_law_349 (by decide) ?_
    refine lv_iadd hx hb dL_law_350 ?_
    refine cw_topi (y := nI ((3 * i) + 2)) (nI_add _ _) ?_
    refine lr_scr hx hb hX hbl hbA hS (k := ((3 * i) + 2)) (v := z) (by omega) hL hx2 dL_law_351 ?_
    refine cw_callWi (As := [.int x, .int z]) (rest := []) (S := mdS) (BW := fun w => (mdU hm b1 b2 b3 b4 b5 b6 b7 cI cZ n w)) (W0 := (mdW hm b1 b2 b3 b4 b5 b6 b7 cI cZ er mo mf mt ma mc ms mq n)) (wr := (lwH h a1 a2 a3 a4 a5 cI cZ cJ ad pr se rk ck cu n g)) ⟨hx, hb, hml, hown, hts⟩ (m1_X1_before l D cI cZ hm b1 b2 b3 b4 b5 b6 b7 er mo mf mt ma mc ms mq o f sd c₀ n hmd _ x z hbad) (kL_X1_before hts 2 0 0 60 ⟨by decide, by decide⟩) hK2 hP hD hS hA [0, 1, 2, 3, 4, 5, 6, 7] [8, 9, 10, 11, 12, 13, 14] rfl rfl (by decide) (by decide) (by decide) (fun _ => rfl) 0 rfl rfl rfl rfl hl.1 rfl (Nat.le_of_ble_eq_true rfl) dL_law_352 ⟨by show cells + 1 + 0 ≤ 1046; omega, by show slots + 6 + 0 ≤ 11262; omega⟩ (fun r w H locs hu hP hD hS => ?_)
    obtain ⟨her, hmd'⟩ := hu
    have hP : va_P D cdCl ((lwH h a1 a2 a3 a4 a5 cI cZ cJ ad pr se rk ck cu n g) ++ (mdU hm b1 b2 b3 b4 b5 b6 b7 cI cZ n w)) H := hP
    have hD : va_D A ((lwH h a1 a2 a3 a4 a5 cI cZ cJ ad pr se rk ck cu n g) ++ (mdU hm b1 b2 b3 b4 b5 b6 b7 cI cZ n w)) := hD
    exact tail 1 _ (by decide) hP hD hS hdk hmd' hbd her (fun z => absurd z (by decide)) hl
set_option maxHeartbeats 4000000 in
set_option maxRecDepth 100000 in
/-- apart -/
theorem lw_c5 {p : Program} {l : Launch} {e : Env} {s : State} {m : MethodId} {args : Array Value} {below : List Frame} {meth : Method} {c : Code} {Q : State → Prop} {D : va_G} {cI cZ cJ : ClassId} {h a1 a2 a3 a4 a5 ad hm b1 b2 b3 b4 b5 b6 b7 b L : Nat} {xs : Nat → Int32} {A : Nat → Prop} {c0 : Cond} (hx : p.tables.exec = Jvm.exec) (hb : c.code = cL_law) (hml : c.maxLocals = 7) (hown : s.vm.findClass RL = some m.cls) (hts : ∀ w ∈ c0 :: tW, w.before args s = true) (hlt : l.stackTraces = false) (hXS : xt_S s) (hK : va_K D cdCl (lwT cI cZ cJ) s) (hX : va_X b L xs s s.heap) (hbl : b < s.heap.size) (hbA : ¬ A b) (hA : ∀ q, s.heap.size ≤ q → A q) (hA2 : ∀ q, q < s.heap.size → ¬ A q) (hL : L ≤ 1536) (i : Nat) (hi : 3 * i + 3 ≤ L) (cells slots : Nat) (hcl : cells + 1 ≤ 1046) (hsl : slots + 6 ≤ 11262) {H : Heap} {locs : List Loc} {ls : Array Slot} (hI : lwI D cI cZ cJ h a1 a2 a3 a4 a5 ad hm b1 b2 b3 b4 b5 b6 b7 A s.heap H locs) (hl : lv_has ls 7 [(4, .int (nI (3 * i))), (3, .ref ad), (2, .ref hm), (1, .ref h), (0, .ref b)]) (kk : ∀ (H : Heap) (locs : List Loc) (ls : Array Slot), lwI D cI cZ cJ h a1 a2 a3 a4 a5 ad hm b1 b2 b3 b4 b5 b6 b7 A s.heap H locs → lv_has ls 7 [(4, .int (nI (3 * i))), (3, .ref ad), (2, .ref hm), (1, .ref h), (0, .ref b)] → W p l e room_1 s m args below meth c H locs (cells + 1) (slots + 6) Q (F0 m 737 ls [])) : W p l e room_1 s m args below meth c H locs (cells) (slots) Q (F0 m 395 ls []) := by
  obtain ⟨pr, se, rk, ck, cu, g, er, mo, mf, mt, ma, mc, ms, mq, o, f, sd, c₀, n, hP, hD, hS, hdk, hmd, hbd⟩ := hI
  have hn := hdk.1
  have hwf := hdk.2.1
  have hK2 : va_K D cdCl (dkT cI cZ) s := hK.sub [0, 1] rfl
  obtain ⟨x, hx1⟩ : ∃ x, xs (3 * i + 1) = x := ⟨_, rfl⟩
  obtain ⟨z, hx2⟩ : ∃ z, xs (3 * i + 2) = z := ⟨_, rfl⟩
  have tail : ∀ (kc : Nat) (r : Int32) {pr se rk ck cu : Nat → Int32} {g : Nat → Int64} {er : Int32} {mo mf mt ma mc ms mq : Nat → Int32} {o f : Nat → Nat} {sd : Nat → Bool} {c₀ : Nat → Nat} {n : Nat} {H : Heap} {locs : List Loc} {ls : Array Slot}, kc < 3 → va_P D cdCl ((lwH h a1 a2 a3 a4 a5 cI cZ cJ ad pr se rk ck cu n g) ++ (mdW hm b1 b2 b3 b4 b5 b6 b7 cI cZ er mo mf mt ma mc ms mq n)) H → va_D A ((lwH h a1 a2 a3 a4 a5 cI cZ cJ ad pr se rk ck cu n g) ++ (mdW hm b1 b2 b3 b4 b5 b6 b7 cI cZ er mo mf mt ma mc ms mq n)) → va_S A s.heap H locs → cd_dk o f sd c₀ n pr se rk ck cu → cd_md o f sd c₀ n mo mf mc ms → (∀ p, p < 6 → c₀ p ≤ cd_mn o p n) → er = nI kc → (kc = 0 → g 0 = r.toInt64 ∧ (r = 0 ∨ r = 1)) → lv_has ls 7 [(5, .int (nI kc)), (4, .int (nI (3 * i))), (3, .ref ad), (2, .ref hm), (1, .ref h), (0, .ref b)] → W p l e room_1 s m args below meth c H locs (cells + 1) (slots + 6) Q (F0 m 430 ls [.int r]) := by
    intro kc r pr se rk ck cu g er mo mf mt ma mc ms mq o f sd c₀ n H locs ls h3 hP hD hS hdk hmd hbd her hg hl
    refine lv_istore hx hb dL_law_430 hl (by decide) rfl (fun ls hl => ?_)
    have hl : lv_has ls 7 [(6, .int r), (5, .int (nI kc)), (4, .int (nI (3 * i))), (3, .ref ad), (2, .ref hm), (1, .ref h), (0, .ref b)] := hl
    refine lv_aload_n hx hb dL_law_432 rfl (lv_at hl 4 rfl) ?_
    have hPm := hP.sub (ws' := (mdW hm b1 b2 b3 b4 b5 b6 b7 cI cZ er mo mf mt ma mc ms mq n)) [7, 8, 9, 10, 11, 12, 13, 14] rfl
    refine cw_callR (As := []) (rest := []) ⟨hx, hb, hml, hown, hts⟩ (c_X1_thrown l D cI cZ hm b1 b2 b3 b4 b5 b6 b7 er mo mf mt ma mc ms mq o f sd c₀ n hmd) (kL_X1_thrown hts 0 0 0 0 ⟨by decide, by decide⟩) hK2 hPm 0 rfl rfl rfl rfl hl.1 rfl (Nat.le_of_ble_eq_true rfl) dL_law_433 ⟨by show cells + 1 + 0 ≤ 1046; omega, by show slots + 6 + 0 ≤ 11262; omega⟩ ?_
    refine cw_topi (y := nI kc) her ?_
    refine lv_iload hx hb dL_law_436 (lv_at hl 1 rfl) ?_
    refine cw_eq (tgt := 443) (x := kc) (y := kc) hx hb dL_law_438 (by decide) (by omega) (by omega) (fun hc => ?_) (fun hc => ?_)
    · refine lv_iload hx hb dL_law_443 (lv_at hl 1 rfl) ?_
      refine lv_if_ne (tgt := 467) hx hb dL_law_445 (by decide) (fun hc2 => ?_) (fun hc2 => ?_)
      · refine lv_goto (tgt := 737) hx hb dL_law_467 (by decide) ?_
        exact kk H locs ls ⟨pr, se, rk, ck, cu, g, er, mo, mf, mt, ma, mc, ms, mq, o, f, sd, c₀, n, hP, hD, hS, hdk, hmd, hbd⟩ (lv_sub hl [2, 3, 4, 5, 6] rfl)
      · have hk0 : kc = 0 := (nI_eq (b := 0) (by omega) (by decide)).mp hc2
        replace hg := hg hk0
        refine lv_aload_n hx hb dL_law_448 rfl (lv_at hl 3 rfl) ?_
        refine lv_iconst (v := nI 0) hx hb dL_law_449 (by decide) ?_
        refine va_lald hx hb hK hP 6 2 rfl rfl (vp_in_nI (by decide) (by decide)) dL_law_450 ?_
        refine cw_topl (y := r.toInt64) (by rw [nI_clamp (by decide)]; exact hg.1) ?_
        refine lv_iload hx hb dL_law_451 (lv_at hl 0 rfl) ?_
        refine lv_if_eq (tgt := 460) hx hb dL_law_453 (by decide) (fun hc4 => ?_) (fun hc4 => ?_)
        · subst hc4
          refine lv_lconst (v := (0 : Int32).toInt64) hx hb dL_law_460 (by decide) ?_
          refine W.lcmp hx hb dL_law_461 ?_
          refine cw_topi (y := 0) (lw_cmp _) ?_
          refine lv_if_eq (tgt := 467) hx hb dL_law_462 (by decide) (fun hc3 => ?_) (fun hc3 => ?_)
          · refine lv_goto (tgt := 737) hx hb dL_law_467 (by decide) ?_
            exact kk H locs ls ⟨pr, se, rk, ck, cu, g, er, mo, mf, mt, ma, mc, ms, mq, o, f, sd, c₀, n, hP, hD, hS, hdk, hmd, hbd⟩ (lv_sub hl [2, 3, 4, 5, 6] rfl)
          · exact absurd rfl hc3
        · obtain rfl : r = 1 := hg.2.resolve_left hc4
          refine lv_lconst (v := (1 : Int32).toInt64) hx hb dL_law_456 (by decide) ?_
          refine lv_goto (tgt := 461) hx hb dL_law_457 (by decide) ?_
          refine W.lcmp hx hb dL_law_461 ?_
          refine cw_topi (y := 0) (lw_cmp _) ?_
          refine lv_if_eq (tgt := 467) hx hb dL_law_462 (by decide) (fun hc3 => ?_) (fun hc3 => ?_)
          · refine lv_goto (tgt := 737) hx hb dL_law_467 (by decide) ?_
            exact kk H locs ls ⟨pr, se, rk, ck, cu, g, er, mo, mf, mt, ma, mc, ms, mq, o, f, sd, c₀, n, hP, hD, hS, hdk, hmd, hbd⟩ (lv_sub hl [2, 3, 4, 5, 6] rfl)
          · exact absurd rfl hc3
    · exact absurd rfl hc
  refine lv_aload_n hx hb dL_law_395 rfl (lv_at hl 3 rfl) ?_
  refine lv_aload_n hx hb dL_law_396 rfl (lv_at hl 4 rfl) ?_
  refine lv_iload hx hb dL_law_397 (lv_at hl 0 rfl) ?_
  refine lv_iconst (v := nI 1) hx hb dL_law_399 (by decide) ?_
  refine lv_iadd hx hb dL_law_400 ?_
  refine cw_topi (y := nI ((3 * i) + 1)) (nI_add _ _) ?_
  refine lr_scr hx hb hX hbl hbA hS (k := ((3 * i) + 1)) (v := x) (by omega) hL hx1 dL_law_401 ?_
  refine lv_aload_n hx hb dL_law_402 rfl (lv_at hl 4 rfl) ?_
  refine lv_iload hx hb dL_law_403 (lv_at hl 0 rfl) ?_
  refine lv_iconst (v := nI 2) hx hb dL_law_405 (by decide) ?_
  refine lv_iadd hx hb dL_law_406 ?_
  refine cw_topi (y := nI ((3 * i) + 2)) (nI_add _ _) ?_
  refine lr_scr hx hb hX hbl hbA hS (k := ((3 * i) + 2)) (v := z) (by omega) hL hx2 dL_law_407 ?_
  refine lv_aload_n hx hb dL_law_408 rfl (lv_at hl 1 rfl) ?_
  rcases cd_ix x (n := n) (by omega) with ⟨k, hk, rfl⟩ | hbad
  · rcases cd_ix z (n := n) (by omega) with ⟨j, hj, rfl⟩ | hbad
    · refine lr_call (As := [.ref h, .int (nI k), .int (nI j), .ref ad]) (rest := []) (S := Nat → Int64) (BW := fun u => (lwH h a1 a2 a3 a4 a5 cI cZ cJ ad pr se rk ck cu n u)) (W0 := (lwH h a1 a2 a3 a4 a5 cI cZ cJ ad pr se rk ck cu n g)) (wr := (mdW hm b1 b2 b3 b4 b5 b6 b7 cI cZ er mo mf mt ma mc ms mq n)) ⟨hx, hb, hml, hown, hts⟩ (h0_L_apart l D cI cZ cJ h a1 a2 a3 a4 a5 ad pr se rk ck cu n g _ (nI k) (nI j) _ (lw_bI _) (c_X0_apart l D cI cZ h a1 a2 a3 a4 a5 pr se rk ck cu o f sd c₀ n hdk k j hk hj)) (kL_L_apart hts ⟨by decide, by decide⟩) hXS (fun q hq => hS.2.1 q hq (hA2 q hq)) hK hP hD hS hA [0, 1, 2, 3, 4, 5, 6] [7, 8, 9, 10, 11, 12, 13, 14] rfl rfl (by decide) (by decide) (by decide) (fun _ => rfl) rfl hl.1 rfl (Nat.le_of_ble_eq_true rfl) dL_law_409 ⟨hcl, hsl⟩ (fun r u H locs hu hP hD hS => ?_)
      obtain ⟨rfl, hg⟩ := hu
      have hP : va_P D cdCl ((mdW hm b1 b2 b3 b4 b5 b6 b7 cI cZ er mo mf mt ma mc ms mq n) ++ (lwH h a1 a2 a3 a4 a5 cI cZ cJ ad pr se rk ck cu n u)) H := hP
      have hD : va_D A ((mdW hm b1 b2 b3 b4 b5 b6 b7 cI cZ er mo mf mt ma mc ms mq n) ++ (lwH h a1 a2 a3 a4 a5 cI cZ cJ ad pr se rk ck cu n u)) := hD
      refine lv_istore hx hb dL_law_412 hl (by decide) rfl (fun ls hl => ?_)
      have hl : lv_has ls 7 [(5, .int (nI 0)), (4, .int (nI (3 * i))), (3, .ref ad), (2, .ref hm), (1, .ref h), (0, .ref b)] := hl
      refine lv_aload_n hx hb dL_law_414 rfl (lv_at hl 3 rfl) ?_
      refine lv_aload_n hx hb dL_law_415 rfl (lv_at hl 5 rfl) ?_
      refine lv_iload hx hb dL_law_416 (lv_at hl 1 rfl) ?_
      refine lv_iconst (v := nI 1) hx hb dL_law_418 (by decide) ?_
      refine lv_iadd hx hb dL_law_419 ?_
      refine cw_topi (y := nI ((3 * i) + 1)) (nI_add _ _) ?_
      refine lr_scr hx hb hX hbl hbA hS (k := ((3 * i) + 1)) (v := (nI k)) (by omega) hL hx1 dL_law_420 ?_
      refine lv_aload_n hx hb dL_law_421 rfl (lv_at hl 5 rfl) ?_
      refine lv_iload hx hb dL_law_422 (lv_at hl 1 rfl) ?_
      refine lv_iconst (v := nI 2) hx hb dL_law_424 (by decide) ?_
      refine lv_iadd hx hb dL_law_425 ?_
      refine cw_topi (y := nI ((3 * i) + 2)) (nI_add _ _) ?_
      refine lr_scr hx hb hX hbl hbA hS (k := ((3 * i) + 2)) (v := (nI j)) (by omega) hL hx2 dL_law_426 ?_
      refine cw_callWi (As := [.int (nI k), .int (nI j)]) (rest := []) (S := mdS) (BW := fun w => (mdU hm b1 b2 b3 b4 b5 b6 b7 cI cZ n w)) (W0 := (mdW hm b1 b2 b3 b4 b5 b6 b7 cI cZ er mo mf mt ma mc ms mq n)) (wr := (lwH h a1 a2 a3 a4 a5 cI cZ cJ ad pr se rk ck cu n u)) ⟨hx, hb, hml, hown, hts⟩ (m0_X1_apart l D cI cZ hm b1 b2 b3 b4 b5 b6 b7 er mo mf mt ma mc ms mq o f sd c₀ n hmd _ k j hk hj) (kL_X1_apart hts 2 0 0 60 ⟨by decide, by decide⟩) hK2 hP hD hS hA [0, 1, 2, 3, 4, 5, 6, 7] [8, 9, 10, 11, 12, 13, 14] rfl rfl (by decide) (by decide) (by decide) (fun _ => rfl) 0 rfl rfl rfl rfl hl.1 rfl (Nat.le_of_ble_eq_true rfl) dL_law_427 ⟨by show cells + 1 + 0 ≤ 1046; omega, by show slots + 6 + 0 ≤ 11262; omega⟩ (fun r w H locs hu hP hD hS => ?_)
      obtain ⟨rfl, her, hmd'⟩ := hu
      have hP : va_P D cdCl ((lwH h a1 a2 a3 a4 a5 cI cZ cJ ad pr se rk ck cu n u) ++ (mdU hm b1 b2 b3 b4 b5 b6 b7 cI cZ n w)) H := hP
      have hD : va_D A ((lwH h a1 a2 a3 a4 a5 cI cZ cJ ad pr se rk ck cu n u) ++ (mdU hm b1 b2 b3 b4 b5 b6 b7 cI cZ n w)) := hD
      exact tail 0 _ (by decide) hP hD hS hdk hmd' hbd her (fun _ => ⟨hg, lw_bI _⟩) hl
    · refine lr_call (As := [.ref h, .int (nI k), .int z, .ref ad]) (rest := []) (S := Unit) (BW := fun _ => (lwH h a1 a2 a3 a4 a5 cI cZ cJ ad pr se rk ck cu n g)) (W0 := (lwH h a1 a2 a3 a4 a5 cI cZ cJ ad pr se rk ck cu n g)) (wr := (mdW hm b1 b2 b3 b4 b5 b6 b7 cI cZ er mo mf mt ma mc ms mq n)) ⟨hx, hb, hml, hown, hts⟩ (hx1_L_apart l D cI cZ cJ h a1 a2 a3 a4 a5 ad pr se rk ck cu n g _ (nI k) z (x2_X0_apart l D cI cZ h a1 a2 a3 a4 a5 pr se rk ck cu o f sd c₀ n hdk hlt k hk z hbad)) (kL_L_apart hts ⟨by decide, by decide⟩) hXS (fun q hq => hS.2.1 q hq (hA2 q hq)) hK hP hD hS hA [0, 1, 2, 3, 4, 5, 6] [7, 8, 9, 10, 11, 12, 13, 14] rfl rfl (by decide) (by decide) (by decide) (fun _ => rfl) rfl hl.1 rfl (Nat.le_of_ble_eq_true rfl) dL_law_409 ⟨hcl, hsl⟩ (fun r u H locs hu hP hD hS => ?_)
      obtain rfl : r = nI 1 := hu
      have hP : va_P D cdCl ((mdW hm b1 b2 b3 b4 b5 b6 b7 cI cZ er mo mf mt ma mc ms mq n) ++ (lwH h a1 a2 a3 a4 a5 cI cZ cJ ad pr se rk ck cu n g)) H := hP
      have hD : va_D A ((mdW hm b1 b2 b3 b4 b5 b6 b7 cI cZ er mo mf mt ma mc ms mq n) ++ (lwH h a1 a2 a3 a4 a5 cI cZ cJ ad pr se rk ck cu n g)) := hD
      refine lv_istore hx hb dL_law_412 hl (by decide) rfl (fun ls hl => ?_)
      have hl : lv_has ls 7 [(5, .int (nI 1)), (4, .int (nI (3 * i))), (3, .ref ad), (2, .ref hm), (1, .ref h), (0, .ref b)] := hl
      refine lv_aload_n hx hb dL_law_414 rfl (lv_at hl 3 rfl) ?_
      refine lv_aload_n hx hb dL_law_415 rfl (lv_at hl 5 rfl) ?_
      refine lv_iload hx hb dL_law_416 (lv_at hl 1 rfl) ?_
      refine lv_iconst (v := nI 1) hx hb dL_law_418 (by decide) ?_
      refine lv_iadd hx hb dL_law_419 ?_
      refine cw_topi (y := nI ((3 * i) + 1)) (nI_add _ _) ?_
      refine lr_scr hx hb hX hbl hbA hS (k := ((3 * i) + 1)) (v := (nI k)) (by omega) hL hx1 dL_law_420 ?_
      refine lv_aload_n hx hb dL_law_421 rfl (lv_at hl 5 rfl) ?_
      refine lv_iload hx hb dL_law_422 (lv_at hl 1 rfl) ?_
      refine lv_iconst (v := nI 2) hx hb dL_law_424 (by decide) ?_
      refine lv_iadd hx hb dL_law_425 ?_
      refine cw_topi (y := nI ((3 * i) + 2)) (nI_add _ _) ?_
      refine lr_scr hx hb hX hbl hbA hS (k := ((3 * i) + 2)) (v := z) (by omega) hL hx2 dL_law_426 ?_
      refine cw_callWi (As := [.int (nI k), .int z]) (rest := []) (S := mdS) (BW := fun w => (mdU hm b1 b2 b3 b4 b5 b6 b7 cI cZ n w)) (W0 := (mdW hm b1 b2 b3 b4 b5 b6 b7 cI cZ er mo mf mt ma mc ms mq n)) (wr := (lwH h a1 a2 a3 a4 a5 cI cZ cJ ad pr se rk ck cu n g)) ⟨hx, hb, hml, hown, hts⟩ (m2_X1_apart l D cI cZ hm b1 b2 b3 b4 b5 b6 b7 er mo mf mt ma mc ms mq o f sd c₀ n hmd _ k hk z hbad) (kL_X1_apart hts 2 0 0 60 ⟨by decide, by decide⟩) hK2 hP hD hS hA [0, 1, 2, 3, 4, 5, 6, 7] [8, 9, 10, 11, 12, 13, 14] rfl rfl (by decide) (by decide) (by decide) (fun _ => rfl) 0 rfl rfl rfl rfl hl.1 rfl (Nat.le_of_ble_eq_true rfl) dL_law_427 ⟨by show cells + 1 + 0 ≤ 1046; omega, by show slots + 6 + 0 ≤ 11262; omega⟩ (fun r w H locs hu hP hD hS => ?_)
      obtain ⟨her, hmd'⟩ := hu
      have hP : va_P D cdCl ((lwH h a1 a2 a3 a4 a5 cI cZ cJ ad pr se rk ck cu n g) ++ (mdU hm b1 b2 b3 b4 b5 b6 b7 cI cZ n w)) H := hP
      have hD : va_D A ((lwH h a1 a2 a3 a4 a5 cI cZ cJ ad pr se rk ck cu n g) ++ (mdU hm b1 b2 b3 b4 b5 b6 b7 cI cZ n w)) := hD
      exact tail 1 _ (by decide) hP hD hS hdk hmd' hbd her (fun z => absurd z (by decide)) hl
  · refine lr_call (As := [.ref h, .int x, .int z, .ref ad]) (rest := []) (S := Unit) (BW := fun _ => (lwH h a1 a2 a3 a4 a5 cI cZ cJ ad pr se rk ck cu n g)) (W0 := (lwH h a1 a2 a3 a4 a5 cI cZ cJ ad pr se rk ck cu n g)) (wr := (mdW hm b1 b2 b3 b4 b5 b6 b7 cI cZ er mo mf mt ma mc ms mq n)) ⟨hx, hb, hml, hown, hts⟩ (hx1_L_apart l D cI cZ cJ h a1 a2 a3 a4 a5 ad pr se rk ck cu n g _ x z (x1_X0_apart l D cI cZ h a1 a2 a3 a4 a5 pr se rk ck cu o f sd c₀ n hdk hlt x z hbad)) (kL_L_apart hts ⟨by decide, by decide⟩) hXS (fun q hq => hS.2.1 q hq (hA2 q hq)) hK hP hD hS hA [0, 1, 2, 3, 4, 5, 6] [7, 8, 9, 10, 11, 12, 13, 14] rfl rfl (by decide) (by decide) (by decide) (fun _ => rfl) rfl hl.1 rfl (Nat.le_of_ble_eq_true rfl) dL_law_409 ⟨hcl, hsl⟩ (fun r u H locs hu hP hD hS => ?_)
    obtain rfl : r = nI 1 := hu
    have hP : va_P D cdCl ((mdW hm b1 b2 b3 b4 b5 b6 b7 cI cZ er mo mf mt ma mc ms mq n) ++ (lwH h a1 a2 a3 a4 a5 cI cZ cJ ad pr se rk ck cu n g)) H := hP
    have hD : va_D A ((mdW hm b1 b2 b3 b4 b5 b6 b7 cI cZ er mo mf mt ma mc ms mq n) ++ (lwH h a1 a2 a3 a4 a5 cI cZ cJ ad pr se rk ck cu n g)) := hD
    refine lv_istore hx hb dL_law_412 hl (by decide) rfl (fun ls hl => ?_)
    have hl : lv_has ls 7 [(5, .int (nI 1)), (4, .int (nI (3 * i))), (3, .ref ad), (2, .ref hm), (1, .ref h), (0, .ref b)] := hl
    refine lv_aload_n hx hb dL_law_414 rfl (lv_at hl 3 rfl) ?_
    refine lv_aload_n hx hb dL_law_415 rfl (lv_at hl 5 rfl) ?_
    refine lv_iload hx hb dL_law_416 (lv_at hl 1 rfl) ?_
    refine lv_iconst (v := nI 1) hx hb dL_law_418 (by decide) ?_
    refine lv_iadd hx hb dL_law_419 ?_
    refine cw_topi (y := nI ((3 * i) + 1)) (nI_add _ _) ?_
    refine lr_scr hx hb hX hbl hbA hS (k := ((3 * i) + 1)) (v := x) (by omega) hL hx1 dL_law_420 ?_
    refine lv_aload_n hx hb dL_law_421 rfl (lv_at hl 5 rfl) ?_
    refine lv_iload hx hb dL_law_422 (lv_at hl 1 rfl) ?_
    refine lv_iconst (v := nI 2) hx hb dL_law_424 (by decide) ?_
    refine lv_iadd hx hb dL_law_425 ?_
    refine cw_topi (y := nI ((3 * i) + 2)) (nI_add _ _) ?_
    refine lr_scr hx hb hX hbl hbA hS (k := ((3 * i) + 2)) (v := z) (by omega) hL hx2 dL_law_426 ?_
    refine cw_callWi (As := [.int x, .int z]) (rest := []) (S := mdS) (BW := fun w => (mdU hm b1 b2 b3 b4 b5 b6 b7 cI cZ n w)) (W0 := (mdW hm b1 b2 b3 b4 b5 b6 b7 cI cZ er mo mf mt ma mc ms mq n)) (wr := (lwH h a1 a2 a3 a4 a5 cI cZ cJ ad pr se rk ck cu n g)) ⟨hx, hb, hml, hown, hts⟩ (m1_X1_apart l D cI cZ hm b1 b2 b3 b4 b5 b6 b7 er mo mf mt ma mc ms mq o f sd c₀ n hmd _ x z hbad) (kL_X1_apart hts 2 0 0 60 ⟨by decide, by decide⟩) hK2 hP hD hS hA [0, 1, 2, 3, 4, 5, 6, 7] [8, 9, 10, 11, 12, 13, 14] rfl rfl (by decide) (by decide) (by decide) (fun _ => rfl) 0 rfl rfl rfl rfl hl.1 rfl (Nat.le_of_ble_eq_true rfl) dL_law_427 ⟨by show cells + 1 + 0 ≤ 1046; omega, by show slots + 6 + 0 ≤ 11262; omega⟩ (fun r w H locs hu hP hD hS => ?_)
    obtain ⟨her, hmd'⟩ := hu
    have hP : va_P D cdCl ((lwH h a1 a2 a3 a4 a5 cI cZ cJ ad pr se rk ck cu n g) ++ (mdU hm b1 b2 b3 b4 b5 b6 b7 cI cZ n w)) H := hP
    have hD : va_D A ((lwH h a1 a2 a3 a4 a5 cI cZ cJ ad pr se rk ck cu n g) ++ (mdU hm b1 b2 b3 b4 b5 b6 b7 cI cZ n w)) := hD
    exact tail 1 _ (by decide) hP hD hS hdk hmd' hbd her (fun z => absurd z (by decide)) hl
set_option maxHeartbeats 4000000 in
set_option maxRecDepth 100000 in
/-- rank -/
theorem lw_c6 {p : Program} {l : Launch} {e : Env} {s : State} {m : MethodId} {args : Array Value} {below : List Frame} {meth : Method} {c : Code} {Q : State → Prop} {D : va_G} {cI cZ cJ : ClassId} {h a1 a2 a3 a4 a5 ad hm b1 b2 b3 b4 b5 b6 b7 b L : Nat} {xs : Nat → Int32} {A : Nat → Prop} {c0 : Cond} (hx : p.tables.exec = Jvm.exec) (hb : c.code = cL_law) (hml : c.maxLocals = 7) (hown : s.vm.findClass RL = some m.cls) (hts : ∀ w ∈ c0 :: tW, w.before args s = true) (hlt : l.stackTraces = false) (hXS : xt_S s) (hK : va_K D cdCl (lwT cI cZ cJ) s) (hX : va_X b L xs s s.heap) (hbl : b < s.heap.size) (hbA : ¬ A b) (hA : ∀ q, s.heap.size ≤ q → A q) (hA2 : ∀ q, q < s.heap.size → ¬ A q) (hL : L ≤ 1536) (i : Nat) (hi : 3 * i + 3 ≤ L) (cells slots : Nat) (hcl : cells + 1 ≤ 1046) (hsl : slots + 6 ≤ 11262) {H : Heap} {locs : List Loc} {ls : Array Slot} (hI : lwI D cI cZ cJ h a1 a2 a3 a4 a5 ad hm b1 b2 b3 b4 b5 b6 b7 A s.heap H locs) (hl : lv_has ls 7 [(4, .int (nI (3 * i))), (3, .ref ad), (2, .ref hm), (1, .ref h), (0, .ref b)]) (kk : ∀ (H : Heap) (locs : List Loc) (ls : Array Slot), lwI D cI cZ cJ h a1 a2 a3 a4 a5 ad hm b1 b2 b3 b4 b5 b6 b7 A s.heap H locs → lv_has ls 7 [(4, .int (nI (3 * i))), (3, .ref ad), (2, .ref hm), (1, .ref h), (0, .ref b)] → W p l e room_1 s m args below meth c H locs (cells + 1) (slots + 6) Q (F0 m 737 ls [])) : W p l e room_1 s m args below meth c H locs (cells) (slots) Q (F0 m 470 ls []) := by
  obtain ⟨pr, se, rk, ck, cu, g, er, mo, mf, mt, ma, mc, ms, mq, o, f, sd, c₀, n, hP, hD, hS, hdk, hmd, hbd⟩ := hI
  have hn := hdk.1
  have hwf := hdk.2.1
  have hK2 : va_K D cdCl (dkT cI cZ) s := hK.sub [0, 1] rfl
  obtain ⟨x, hx1⟩ : ∃ x, xs (3 * i + 1) = x := ⟨_, rfl⟩
  have tail : ∀ (kc : Nat) (r : Int32) {pr se rk ck cu : Nat → Int32} {g : Nat → Int64} {er : Int32} {mo mf mt ma mc ms mq : Nat → Int32} {o f : Nat → Nat} {sd : Nat → Bool} {c₀ : Nat → Nat} {n : Nat} {H : Heap} {locs : List Loc} {ls : Array Slot}, kc < 3 → va_P D cdCl ((lwH h a1 a2 a3 a4 a5 cI cZ cJ ad pr se rk ck cu n g) ++ (mdW hm b1 b2 b3 b4 b5 b6 b7 cI cZ er mo mf mt ma mc ms mq n)) H → va_D A ((lwH h a1 a2 a3 a4 a5 cI cZ cJ ad pr se rk ck cu n g) ++ (mdW hm b1 b2 b3 b4 b5 b6 b7 cI cZ er mo mf mt ma mc ms mq n)) → va_S A s.heap H locs → cd_dk o f sd c₀ n pr se rk ck cu → cd_md o f sd c₀ n mo mf mc ms → (∀ p, p < 6 → c₀ p ≤ cd_mn o p n) → er = nI kc → (kc = 0 → g 0 = r.toInt64) → lv_has ls 7 [(5, .int (nI kc)), (4, .int (nI (3 * i))), (3, .ref ad), (2, .ref hm), (1, .ref h), (0, .ref b)] → W p l e room_1 s m args below meth c H locs (cells + 1) (slots + 6) Q (F0 m 493 ls [.int r]) := by
    intro kc r pr se rk ck cu g er mo mf mt ma mc ms mq o f sd c₀ n H locs ls h3 hP hD hS hdk hmd hbd her hg hl
    refine lv_istore hx hb dL_law_493 hl (by decide) rfl (fun ls hl => ?_)
    have hl : lv_has ls 7 [(6, .int r), (5, .int (nI kc)), (4, .int (nI (3 * i))), (3, .ref ad), (2, .ref hm), (1, .ref h), (0, .ref b)] := hl
    refine lv_aload_n hx hb dL_law_495 rfl (lv_at hl 4 rfl) ?_
    have hPm := hP.sub (ws' := (mdW hm b1 b2 b3 b4 b5 b6 b7 cI cZ er mo mf mt ma mc ms mq n)) [7, 8, 9, 10, 11, 12, 13, 14] rfl
    refine cw_callR (As := []) (rest := []) ⟨hx, hb, hml, hown, hts⟩ (c_X1_thrown l D cI cZ hm b1 b2 b3 b4 b5 b6 b7 er mo mf mt ma mc ms mq o f sd c₀ n hmd) (kL_X1_thrown hts 0 0 0 0 ⟨by decide, by decide⟩) hK2 hPm 0 rfl rfl rfl rfl hl.1 rfl (Nat.le_of_ble_eq_true rfl) dL_law_496 ⟨by show cells + 1 + 0 ≤ 1046; omega, by show slots + 6 + 0 ≤ 11262; omega⟩ ?_
    refine cw_topi (y := nI kc) her ?_
    refine lv_iload hx hb dL_law_499 (lv_at hl 1 rfl) ?_
    refine cw_eq (tgt := 506) (x := kc) (y := kc) hx hb dL_law_501 (by decide) (by omega) (by omega) (fun hc => ?_) (fun hc => ?_)
    · refine lv_iload hx hb dL_law_506 (lv_at hl 1 rfl) ?_
      refine lv_if_ne (tgt := 523) hx hb dL_law_508 (by decide) (fun hc2 => ?_) (fun hc2 => ?_)
      · refine lv_goto (tgt := 737) hx hb dL_law_523 (by decide) ?_
        exact kk H locs ls ⟨pr, se, rk, ck, cu, g, er, mo, mf, mt, ma, mc, ms, mq, o, f, sd, c₀, n, hP, hD, hS, hdk, hmd, hbd⟩ (lv_sub hl [2, 3, 4, 5, 6] rfl)
      · have hk0 : kc = 0 := (nI_eq (b := 0) (by omega) (by decide)).mp hc2
        replace hg := hg hk0
        refine lv_aload_n hx hb dL_law_511 rfl (lv_at hl 3 rfl) ?_
        refine lv_iconst (v := nI 0) hx hb dL_law_512 (by decide) ?_
        refine va_lald hx hb hK hP 6 2 rfl rfl (vp_in_nI (by decide) (by decide)) dL_law_513 ?_
        refine cw_topl (y := r.toInt64) (by rw [nI_clamp (by decide)]; exact hg) ?_
        refine lv_iload hx hb dL_law_514 (lv_at hl 0 rfl) ?_
        refine lv_i2l hx hb dL_law_516 rfl ?_
        refine W.lcmp hx hb dL_law_517 ?_
        refine cw_topi (y := 0) (lw_cmp _) ?_
        refine lv_if_eq (tgt := 523) hx hb dL_law_518 (by decide) (fun hc3 => ?_) (fun hc3 => ?_)
        · refine lv_goto (tgt := 737) hx hb dL_law_523 (by decide) ?_
          exact kk H locs ls ⟨pr, se, rk, ck, cu, g, er, mo, mf, mt, ma, mc, ms, mq, o, f, sd, c₀, n, hP, hD, hS, hdk, hmd, hbd⟩ (lv_sub hl [2, 3, 4, 5, 6] rfl)
        · exact absurd rfl hc3
    · exact absurd rfl hc
  refine lv_aload_n hx hb dL_law_470 rfl (lv_at hl 3 rfl) ?_
  refine lv_aload_n hx hb dL_law_471 rfl (lv_at hl 4 rfl) ?_
  refine lv_iload hx hb dL_law_472 (lv_at hl 0 rfl) ?_
  refine lv_iconst (v := nI 1) hx hb dL_law_474 (by decide) ?_
  refine lv_iadd hx hb dL_law_475 ?_
  refine cw_topi (y := nI ((3 * i) + 1)) (nI_add _ _) ?_
  refine lr_scr hx hb hX hbl hbA hS (k := ((3 * i) + 1)) (v := x) (by omega) hL hx1 dL_law_476 ?_
  refine lv_aload_n hx hb dL_law_477 rfl (lv_at hl 1 rfl) ?_
  rcases cd_ix x (n := n) (by omega) with ⟨k, hk, rfl⟩ | hbad
  · refine lr_call (As := [.ref h, .int (nI k), .ref ad]) (rest := []) (S := Nat → Int64) (BW := fun u => (lwH h a1 a2 a3 a4 a5 cI cZ cJ ad pr se rk ck cu n u)) (W0 := (lwH h a1 a2 a3 a4 a5 cI cZ cJ ad pr se rk ck cu n g)) (wr := (mdW hm b1 b2 b3 b4 b5 b6 b7 cI cZ er mo mf mt ma mc ms mq n)) ⟨hx, hb, hml, hown, hts⟩ (h0_L_rank l D cI cZ cJ h a1 a2 a3 a4 a5 ad pr se rk ck cu n g _ (nI k) _ (c_X0_rank l D cI cZ h a1 a2 a3 a4 a5 pr se rk ck cu o f sd c₀ n hdk k hk)) (kL_L_rank hts ⟨by decide, by decide⟩) hXS (fun q hq => hS.2.1 q hq (hA2 q hq)) hK hP hD hS hA [0, 1, 2, 3, 4, 5, 6] [7, 8, 9, 10, 11, 12, 13, 14] rfl rfl (by decide) (by decide) (by decide) (fun _ => rfl) rfl hl.1 rfl (Nat.le_of_ble_eq_true rfl) dL_law_478 ⟨hcl, hsl⟩ (fun r u H locs hu hP hD hS => ?_)
    obtain ⟨rfl, hg⟩ := hu
    have hP : va_P D cdCl ((mdW hm b1 b2 b3 b4 b5 b6 b7 cI cZ er mo mf mt ma mc ms mq n) ++ (lwH h a1 a2 a3 a4 a5 cI cZ cJ ad pr se rk ck cu n u)) H := hP
    have hD : va_D A ((mdW hm b1 b2 b3 b4 b5 b6 b7 cI cZ er mo mf mt ma mc ms mq n) ++ (lwH h a1 a2 a3 a4 a5 cI cZ cJ ad pr se rk ck cu n u)) := hD
    refine lv_istore hx hb dL_law_481 hl (by decide) rfl (fun ls hl => ?_)
    have hl : lv_has ls 7 [(5, .int (nI 0)), (4, .int (nI (3 * i))), (3, .ref ad), (2, .ref hm), (1, .ref h), (0, .ref b)] := hl
    refine lv_aload_n hx hb dL_law_483 rfl (lv_at hl 3 rfl) ?_
    refine lv_aload_n hx hb dL_law_484 rfl (lv_at hl 5 rfl) ?_
    refine lv_iload hx hb dL_law_485 (lv_at hl 1 rfl) ?_
    refine lv_iconst (v := nI 1) hx hb dL_law_487 (by decide) ?_
    refine lv_iadd hx hb dL_law_488 ?_
    refine cw_topi (y := nI ((3 * i) + 1)) (nI_add _ _) ?_
    refine lr_scr hx hb hX hbl hbA hS (k := ((3 * i) + 1)) (v := (nI k)) (by omega) hL hx1 dL_law_489 ?_
    refine cw_callWi (As := [.int (nI k)]) (rest := []) (S := mdS) (BW := fun w => (mdU hm b1 b2 b3 b4 b5 b6 b7 cI cZ n w)) (W0 := (mdW hm b1 b2 b3 b4 b5 b6 b7 cI cZ er mo mf mt ma mc ms mq n)) (wr := (lwH h a1 a2 a3 a4 a5 cI cZ cJ ad pr se rk ck cu n u)) ⟨hx, hb, hml, hown, hts⟩ (m0_X1_rank l D cI cZ hm b1 b2 b3 b4 b5 b6 b7 er mo mf mt ma mc ms mq o f sd c₀ n hmd _ k hk) (kL_X1_rank hts 2 0 0 60 ⟨by decide, by decide⟩) hK2 hP hD hS hA [0, 1, 2, 3, 4, 5, 6, 7] [8, 9, 10, 11, 12, 13, 14] rfl rfl (by decide) (by decide) (by decide) (fun _ => rfl) 0 rfl rfl rfl rfl hl.1 rfl (Nat.le_of_ble_eq_true rfl) dL_law_490 ⟨by show cells + 1 + 0 ≤ 1046; omega, by show slots + 6 + 0 ≤ 11262; omega⟩ (fun r w H locs hu hP hD hS => ?_)
    obtain ⟨rfl, her, hmd'⟩ := hu
    have hP : va_P D cdCl ((lwH h a1 a2 a3 a4 a5 cI cZ cJ ad pr se rk ck cu n u) ++ (mdU hm b1 b2 b3 b4 b5 b6 b7 cI cZ n w)) H := hP
    have hD : va_D A ((lwH h a1 a2 a3 a4 a5 cI cZ cJ ad pr se rk ck cu n u) ++ (mdU hm b1 b2 b3 b4 b5 b6 b7 cI cZ n w)) := hD
    exact tail 0 _ (by decide) hP hD hS hdk hmd' hbd her (fun _ => hg) hl
  · refine lr_call (As := [.ref h, .int x, .ref ad]) (rest := []) (S := Unit) (BW := fun _ => (lwH h a1 a2 a3 a4 a5 cI cZ cJ ad pr se rk ck cu n g)) (W0 := (lwH h a1 a2 a3 a4 a5 cI cZ cJ ad pr se rk ck cu n g)) (wr := (mdW hm b1 b2 b3 b4 b5 b6 b7 cI cZ er mo mf mt ma mc ms mq n)) ⟨hx, hb, hml, hown, hts⟩ (hx1_L_rank l D cI cZ cJ h a1 a2 a3 a4 a5 ad pr se rk ck cu n g _ x (x_X0_rank l D cI cZ h a1 a2 a3 a4 a5 pr se rk ck cu o f sd c₀ n hdk hlt x hbad)) (kL_L_rank hts ⟨by decide, by decide⟩) hXS (fun q hq => hS.2.1 q hq (hA2 q hq)) hK hP hD hS hA [0, 1, 2, 3, 4, 5, 6] [7, 8, 9, 10, 11, 12, 13, 14] rfl rfl (by decide) (by decide) (by decide) (fun _ => rfl) rfl hl.1 rfl (Nat.le_of_ble_eq_true rfl) dL_law_478 ⟨hcl, hsl⟩ (fun r u H locs hu hP hD hS => ?_)
    obtain rfl : r = nI 1 := hu
    have hP : va_P D cdCl ((mdW hm b1 b2 b3 b4 b5 b6 b7 cI cZ er mo mf mt ma mc ms mq n) ++ (lwH h a1 a2 a3 a4 a5 cI cZ cJ ad pr se rk ck cu n g)) H := hP
    have hD : va_D A ((mdW hm b1 b2 b3 b4 b5 b6 b7 cI cZ er mo mf mt ma mc ms mq n) ++ (lwH h a1 a2 a3 a4 a5 cI cZ cJ ad pr se rk ck cu n g)) := hD
    refine lv_istore hx hb dL_law_481 hl (by decide) rfl (fun ls hl => ?_)
    have hl : lv_has ls 7 [(5, .int (nI 1)), (4, .int (nI (3 * i))), (3, .ref ad), (2, .ref hm), (1, .ref h), (0, .ref b)] := hl
    refine lv_aload_n hx hb dL_law_483 rfl (lv_at hl 3 rfl) ?_
    refine lv_aload_n hx hb dL_law_484 rfl (lv_at hl 5 rfl) ?_
    refine lv_iload hx hb dL_law_485 (lv_at hl 1 rfl) ?_
    refine lv_iconst (v := nI 1) hx hb dL_law_487 (by decide) ?_
    refine lv_iadd hx hb dL_law_488 ?_
    refine cw_topi (y := nI ((3 * i) + 1)) (nI_add _ _) ?_
    refine lr_scr hx hb hX hbl hbA hS (k := ((3 * i) + 1)) (v := x) (by omega) hL hx1 dL_law_489 ?_
    refine cw_callWi (As := [.int x]) (rest := []) (S := mdS) (BW := fun w => (mdU hm b1 b2 b3 b4 b5 b6 b7 cI cZ n w)) (W0 := (mdW hm b1 b2 b3 b4 b5 b6 b7 cI cZ er mo mf mt ma mc ms mq n)) (wr := (lwH h a1 a2 a3 a4 a5 cI cZ cJ ad pr se rk ck cu n g)) ⟨hx, hb, hml, hown, hts⟩ (m1_X1_rank l D cI cZ hm b1 b2 b3 b4 b5 b6 b7 er mo mf mt ma mc ms mq o f sd c₀ n hmd _ x hbad) (kL_X1_rank hts 2 0 0 60 ⟨by decide, by decide⟩) hK2 hP hD hS hA [0, 1, 2, 3, 4, 5, 6, 7] [8, 9, 10, 11, 12, 13, 14] rfl rfl (by decide) (by decide) (by decide) (fun _ => rfl) 0 rfl rfl rfl rfl hl.1 rfl (Nat.le_of_ble_eq_true rfl) dL_law_490 ⟨by show cells + 1 + 0 ≤ 1046; omega, by show slots + 6 + 0 ≤ 11262; omega⟩ (fun r w H locs hu hP hD hS => ?_)
    obtain ⟨her, hmd'⟩ := hu
    have hP : va_P D cdCl ((lwH h a1 a2 a3 a4 a5 cI cZ cJ ad pr se rk ck cu n g) ++ (mdU hm b1 b2 b3 b4 b5 b6 b7 cI cZ n w)) H := hP
    have hD : va_D A ((lwH h a1 a2 a3 a4 a5 cI cZ cJ ad pr se rk ck cu n g) ++ (mdU hm b1 b2 b3 b4 b5 b6 b7 cI cZ n w)) := hD
    exact tail 1 _ (by decide) hP hD hS hdk hmd' hbd her (fun z => absurd z (by decide)) hl
set_option maxHeartbeats 4000000 in
set_option maxRecDepth 100000 in
/-- clock -/
theorem lw_c7 {p : Program} {l : Launch} {e : Env} {s : State} {m : MethodId} {args : Array Value} {below : List Frame} {meth : Method} {c : Code} {Q : State → Prop} {D : va_G} {cI cZ cJ : ClassId} {h a1 a2 a3 a4 a5 ad hm b1 b2 b3 b4 b5 b6 b7 b L : Nat} {xs : Nat → Int32} {A : Nat → Prop} {c0 : Cond} (hx : p.tables.exec = Jvm.exec) (hb : c.code = cL_law) (hml : c.maxLocals = 7) (hown : s.vm.findClass RL = some m.cls) (hts : ∀ w ∈ c0 :: tW, w.before args s = true) (hlt : l.stackTraces = false) (hXS : xt_S s) (hK : va_K D cdCl (lwT cI cZ cJ) s) (hX : va_X b L xs s s.heap) (hbl : b < s.heap.size) (hbA : ¬ A b) (hA : ∀ q, s.heap.size ≤ q → A q) (hA2 : ∀ q, q < s.heap.size → ¬ A q) (hL : L ≤ 1536) (i : Nat) (hi : 3 * i + 3 ≤ L) (cells slots : Nat) (hcl : cells + 1 ≤ 1046) (hsl : slots + 6 ≤ 11262) {H : Heap} {locs : List Loc} {ls : Array Slot} (hI : lwI D cI cZ cJ h a1 a2 a3 a4 a5 ad hm b1 b2 b3 b4 b5 b6 b7 A s.heap H locs) (hl : lv_has ls 7 [(4, .int (nI (3 * i))), (3, .ref ad), (2, .ref hm), (1, .ref h), (0, .ref b)]) (kk : ∀ (H : Heap) (locs : List Loc) (ls : Array Slot), lwI D cI cZ cJ h a1 a2 a3 a4 a5 ad hm b1 b2 b3 b4 b5 b6 b7 A s.heap H locs → lv_has ls 7 [(4, .int (nI (3 * i))), (3, .ref ad), (2, .ref hm), (1, .ref h), (0, .ref b)] → W p l e room_1 s m args below meth c H locs (cells + 1) (slots + 6) Q (F0 m 737 ls [])) : W p l e room_1 s m args below meth c H locs (cells) (slots) Q (F0 m 526 ls []) := by
  obtain ⟨pr, se, rk, ck, cu, g, er, mo, mf, mt, ma, mc, ms, mq, o, f, sd, c₀, n, hP, hD, hS, hdk, hmd, hbd⟩ := hI
  have hn := hdk.1
  have hwf := hdk.2.1
  have hK2 : va_K D cdCl (dkT cI cZ) s := hK.sub [0, 1] rfl
  obtain ⟨x, hx1⟩ : ∃ x, xs (3 * i + 1) = x := ⟨_, rfl⟩
  obtain ⟨z, hx2⟩ : ∃ z, xs (3 * i + 2) = z := ⟨_, rfl⟩
  have tail : ∀ (kc : Nat) (r : Int32) {pr se rk ck cu : Nat → Int32} {g : Nat → Int64} {er : Int32} {mo mf mt ma mc ms mq : Nat → Int32} {o f : Nat → Nat} {sd : Nat → Bool} {c₀ : Nat → Nat} {n : Nat} {H : Heap} {locs : List Loc} {ls : Array Slot}, kc < 3 → va_P D cdCl ((lwH h a1 a2 a3 a4 a5 cI cZ cJ ad pr se rk ck cu n g) ++ (mdW hm b1 b2 b3 b4 b5 b6 b7 cI cZ er mo mf mt ma mc ms mq n)) H → va_D A ((lwH h a1 a2 a3 a4 a5 cI cZ cJ ad pr se rk ck cu n g) ++ (mdW hm b1 b2 b3 b4 b5 b6 b7 cI cZ er mo mf mt ma mc ms mq n)) → va_S A s.heap H locs → cd_dk o f sd c₀ n pr se rk ck cu → cd_md o f sd c₀ n mo mf mc ms → (∀ p, p < 6 → c₀ p ≤ cd_mn o p n) → er = nI kc → (kc = 0 → g 0 = r.toInt64) → lv_has ls 7 [(5, .int (nI kc)), (4, .int (nI (3 * i))), (3, .ref ad), (2, .ref hm), (1, .ref h), (0, .ref b)] → W p l e room_1 s m args below meth c H locs (cells + 1) (slots + 6) Q (F0 m 561 ls [.int r]) := by
    intro kc r pr se rk ck cu g er mo mf mt ma mc ms mq o f sd c₀ n H locs ls h3 hP hD hS hdk hmd hbd her hg hl
    refine lv_istore hx hb dL_law_561 hl (by decide) rfl (fun ls hl => ?_)
    have hl : lv_has ls 7 [(6, .int r), (5, .int (nI kc)), (4, .int (nI (3 * i))), (3, .ref ad), (2, .ref hm), (1, .ref h), (0, .ref b)] := hl
    refine lv_aload_n hx hb dL_law_563 rfl (lv_at hl 4 rfl) ?_
    have hPm := hP.sub (ws' := (mdW hm b1 b2 b3 b4 b5 b6 b7 cI cZ er mo mf mt ma mc ms mq n)) [7, 8, 9, 10, 11, 12, 13, 14] rfl
    refine cw_callR (As := []) (rest := []) ⟨hx, hb, hml, hown, hts⟩ (c_X1_thrown l D cI cZ hm b1 b2 b3 b4 b5 b6 b7 er mo mf mt ma mc ms mq o f sd c₀ n hmd) (kL_X1_thrown hts 0 0 0 0 ⟨by decide, by decide⟩) hK2 hPm 0 rfl rfl rfl rfl hl.1 rfl (Nat.le_of_ble_eq_true rfl) dL_law_564 ⟨by show cells + 1 + 0 ≤ 1046; omega, by show slots + 6 + 0 ≤ 11262; omega⟩ ?_
    refine cw_topi (y := nI kc) her ?_
    refine lv_iload hx hb dL_law_567 (lv_at hl 1 rfl) ?_
    refine cw_eq (tgt := 574) (x := kc) (y := kc) hx hb dL_law_569 (by decide) (by omega) (by omega) (fun hc => ?_) (fun hc => ?_)
    · refine lv_iload hx hb dL_law_574 (lv_at hl 1 rfl) ?_
      refine lv_if_ne (tgt := 591) hx hb dL_law_576 (by decide) (fun hc2 => ?_) (fun hc2 => ?_)
      · refine lv_goto (tgt := 737) hx hb dL_law_591 (by decide) ?_
        exact kk H locs ls ⟨pr, se, rk, ck, cu, g, er, mo, mf, mt, ma, mc, ms, mq, o, f, sd, c₀, n, hP, hD, hS, hdk, hmd, hbd⟩ (lv_sub hl [2, 3, 4, 5, 6] rfl)
      · have hk0 : kc = 0 := (nI_eq (b := 0) (by omega) (by decide)).mp hc2
        replace hg := hg hk0
        refine lv_aload_n hx hb dL_law_579 rfl (lv_at hl 3 rfl) ?_
        refine lv_iconst (v := nI 0) hx hb dL_law_580 (by decide) ?_
        refine va_lald hx hb hK hP 6 2 rfl rfl (vp_in_nI (by decide) (by decide)) dL_law_581 ?_
        refine cw_topl (y := r.toInt64) (by rw [nI_clamp (by decide)]; exact hg) ?_
        refine lv_iload hx hb dL_law_582 (lv_at hl 0 rfl) ?_
        refine lv_i2l hx hb dL_law_584 rfl ?_
        refine W.lcmp hx hb dL_law_585 ?_
        refine cw_topi (y := 0) (lw_cmp _) ?_
        refine lv_if_eq (tgt := 591) hx hb dL_law_586 (by decide) (fun hc3 => ?_) (fun hc3 => ?_)
        · refine lv_goto (tgt := 737) hx hb dL_law_591 (by decide) ?_
          exact kk H locs ls ⟨pr, se, rk, ck, cu, g, er, mo, mf, mt, ma, mc, ms, mq, o, f, sd, c₀, n, hP, hD, hS, hdk, hmd, hbd⟩ (lv_sub hl [2, 3, 4, 5, 6] rfl)
        · exact absurd rfl hc3
    · exact absurd rfl hc
  refine lv_aload_n hx hb dL_law_526 rfl (lv_at hl 3 rfl) ?_
  refine lv_aload_n hx hb dL_law_527 rfl (lv_at hl 4 rfl) ?_
  refine lv_iload hx hb dL_law_528 (lv_at hl 0 rfl) ?_
  refine lv_iconst (v := nI 1) hx hb dL_law_530 (by decide) ?_
  refine lv_iadd hx hb dL_law_531 ?_
  refine cw_topi (y := nI ((3 * i) + 1)) (nI_add _ _) ?_
  refine lr_scr hx hb hX hbl hbA hS (k := ((3 * i) + 1)) (v := x) (by omega) hL hx1 dL_law_532 ?_
  refine lv_aload_n hx hb dL_law_533 rfl (lv_at hl 4 rfl) ?_
  refine lv_iload hx hb dL_law_534 (lv_at hl 0 rfl) ?_
  refine lv_iconst (v := nI 2) hx hb dL_law_536 (by decide) ?_
  refine lv_iadd hx hb dL_law_537 ?_
  refine cw_topi (y := nI ((3 * i) + 2)) (nI_add _ _) ?_
  refine lr_scr hx hb hX hbl hbA hS (k := ((3 * i) + 2)) (v := z) (by omega) hL hx2 dL_law_538 ?_
  refine lv_aload_n hx hb dL_law_539 rfl (lv_at hl 1 rfl) ?_
  rcases cd_ix z (n := 6) (by decide) with ⟨p₁, hp, rfl⟩ | hbad
  · rcases cd_ix x (n := n) (by omega) with ⟨k, hk, rfl⟩ | hbad
    · refine lr_call (As := [.ref h, .int (nI k), .int (nI p₁), .ref ad]) (rest := []) (S := Nat → Int64) (BW := fun u => (lwH h a1 a2 a3 a4 a5 cI cZ cJ ad pr se rk ck cu n u)) (W0 := (lwH h a1 a2 a3 a4 a5 cI cZ cJ ad pr se rk ck cu n g)) (wr := (mdW hm b1 b2 b3 b4 b5 b6 b7 cI cZ er mo mf mt ma mc ms mq n)) ⟨hx, hb, hml, hown, hts⟩ (h0_L_clock l D cI cZ cJ h a1 a2 a3 a4 a5 ad pr se rk ck cu n g _ (nI k) (nI p₁) _ (c_X0_clock l D cI cZ h a1 a2 a3 a4 a5 pr se rk ck cu o f sd c₀ n hdk k p₁ hk hp)) (kL_L_clock hts ⟨by decide, by decide⟩) hXS (fun q hq => hS.2.1 q hq (hA2 q hq)) hK hP hD hS hA [0, 1, 2, 3, 4, 5, 6] [7, 8, 9, 10, 11, 12, 13, 14] rfl rfl (by decide) (by decide) (by decide) (fun _ => rfl) rfl hl.1 rfl (Nat.le_of_ble_eq_true rfl) dL_law_540 ⟨hcl, hsl⟩ (fun r u H locs hu hP hD hS => ?_)
      obtain ⟨rfl, hg⟩ := hu
      have hP : va_P D cdCl ((mdW hm b1 b2 b3 b4 b5 b6 b7 cI cZ er mo mf mt ma mc ms mq n) ++ (lwH h a1 a2 a3 a4 a5 cI cZ cJ ad pr se rk ck cu n u)) H := hP
      have hD : va_D A ((mdW hm b1 b2 b3 b4 b5 b6 b7 cI cZ er mo mf mt ma mc ms mq n) ++ (lwH h a1 a2 a3 a4 a5 cI cZ cJ ad pr se rk ck cu n u)) := hD
      refine lv_istore hx hb dL_law_543 hl (by decide) rfl (fun ls hl => ?_)
      have hl : lv_has ls 7 [(5, .int (nI 0)), (4, .int (nI (3 * i))), (3, .ref ad), (2, .ref hm), (1, .ref h), (0, .ref b)] := hl
      refine lv_aload_n hx hb dL_law_545 rfl (lv_at hl 3 rfl) ?_
      refine lv_aload_n hx hb dL_law_546 rfl (lv_at hl 5 rfl) ?_
      refine lv_iload hx hb dL_law_547 (lv_at hl 1 rfl) ?_
      refine lv_iconst (v := nI 1) hx hb dL_law_549 (by decide) ?_
      refine lv_iadd hx hb dL_law_550 ?_
      refine cw_topi (y := nI ((3 * i) + 1)) (nI_add _ _) ?_
      refine lr_scr hx hb hX hbl hbA hS (k := ((3 * i) + 1)) (v := (nI k)) (by omega) hL hx1 dL_law_551 ?_
      refine lv_aload_n hx hb dL_law_552 rfl (lv_at hl 5 rfl) ?_
      refine lv_iload hx hb dL_law_553 (lv_at hl 1 rfl) ?_
      refine lv_iconst (v := nI 2) hx hb dL_law_555 (by decide) ?_
      refine lv_iadd hx hb dL_law_556 ?_
      refine cw_topi (y := nI ((3 * i) + 2)) (nI_add _ _) ?_
      refine lr_scr hx hb hX hbl hbA hS (k := ((3 * i) + 2)) (v := (nI p₁)) (by omega) hL hx2 dL_law_557 ?_
      refine cw_callWi (As := [.int (nI k), .int (nI p₁)]) (rest := []) (S := mdS) (BW := fun w => (mdU hm b1 b2 b3 b4 b5 b6 b7 cI cZ n w)) (W0 := (mdW hm b1 b2 b3 b4 b5 b6 b7 cI cZ er mo mf mt ma mc ms mq n)) (wr := (lwH h a1 a2 a3 a4 a5 cI cZ cJ ad pr se rk ck cu n u)) ⟨hx, hb, hml, hown, hts⟩ (m0_X1_clock l D cI cZ hm b1 b2 b3 b4 b5 b6 b7 er mo mf mt ma mc ms mq o f sd c₀ n hmd _ k p₁ hk hp) (kL_X1_clock hts 2 0 0 60 ⟨by decide, by decide⟩) hK2 hP hD hS hA [0, 1, 2, 3, 4, 5, 6, 7] [8, 9, 10, 11, 12, 13, 14] rfl rfl (by decide) (by decide) (by decide) (fun _ => rfl) 0 rfl rfl rfl rfl hl.1 rfl (Nat.le_of_ble_eq_true rfl) dL_law_558 ⟨by show cells + 1 + 0 ≤ 1046; omega, by show slots + 6 + 0 ≤ 11262; omega⟩ (fun r w H locs hu hP hD hS => ?_)
      obtain ⟨rfl, her, hmd'⟩ := hu
      have hP : va_P D cdCl ((lwH h a1 a2 a3 a4 a5 cI cZ cJ ad pr se rk ck cu n u) ++ (mdU hm b1 b2 b3 b4 b5 b6 b7 cI cZ n w)) H := hP
      have hD : va_D A ((lwH h a1 a2 a3 a4 a5 cI cZ cJ ad pr se rk ck cu n u) ++ (mdU hm b1 b2 b3 b4 b5 b6 b7 cI cZ n w)) := hD
      exact tail 0 _ (by decide) hP hD hS hdk hmd' hbd her (fun _ => hg) hl
    · refine lr_call (As := [.ref h, .int x, .int (nI p₁), .ref ad]) (rest := []) (S := Unit) (BW := fun _ => (lwH h a1 a2 a3 a4 a5 cI cZ cJ ad pr se rk ck cu n g)) (W0 := (lwH h a1 a2 a3 a4 a5 cI cZ cJ ad pr se rk ck cu n g)) (wr := (mdW hm b1 b2 b3 b4 b5 b6 b7 cI cZ er mo mf mt ma mc ms mq n)) ⟨hx, hb, hml, hown, hts⟩ (hx2_L_clock l D cI cZ cJ h a1 a2 a3 a4 a5 ad pr se rk ck cu n g _ x (nI p₁) (x2_X0_clock l D cI cZ h a1 a2 a3 a4 a5 pr se rk ck cu o f sd c₀ n hdk hlt p₁ hp x hbad)) (kL_L_clock hts ⟨by decide, by decide⟩) hXS (fun q hq => hS.2.1 q hq (hA2 q hq)) hK hP hD hS hA [0, 1, 2, 3, 4, 5, 6] [7, 8, 9, 10, 11, 12, 13, 14] rfl rfl (by decide) (by decide) (by decide) (fun _ => rfl) rfl hl.1 rfl (Nat.le_of_ble_eq_true rfl) dL_law_540 ⟨hcl, hsl⟩ (fun r u H locs hu hP hD hS => ?_)
      obtain rfl : r = nI 2 := hu
      have hP : va_P D cdCl ((mdW hm b1 b2 b3 b4 b5 b6 b7 cI cZ er mo mf mt ma mc ms mq n) ++ (lwH h a1 a2 a3 a4 a5 cI cZ cJ ad pr se rk ck cu n g)) H := hP
      have hD : va_D A ((mdW hm b1 b2 b3 b4 b5 b6 b7 cI cZ er mo mf mt ma mc ms mq n) ++ (lwH h a1 a2 a3 a4 a5 cI cZ cJ ad pr se rk ck cu n g)) := hD
      refine lv_istore hx hb dL_law_543 hl (by decide) rfl (fun ls hl => ?_)
      have hl : lv_has ls 7 [(5, .int (nI 2)), (4, .int (nI (3 * i))), (3, .ref ad), (2, .ref hm), (1, .ref h), (0, .ref b)] := hl
      refine lv_aload_n hx hb dL_law_545 rfl (lv_at hl 3 rfl) ?_
      refine lv_aload_n hx hb dL_law_546 rfl (lv_at hl 5 rfl) ?_
      refine lv_iload hx hb dL_law_547 (lv_at hl 1 rfl) ?_
      refine lv_iconst (v := nI 1) hx hb dL_law_549 (by decide) ?_
      refine lv_iadd hx hb dL_law_550 ?_
      refine cw_topi (y := nI ((3 * i) + 1)) (nI_add _ _) ?_
      refine lr_scr hx hb hX hbl hbA hS (k := ((3 * i) + 1)) (v := x) (by omega) hL hx1 dL_law_551 ?_
      refine lv_aload_n hx hb dL_law_552 rfl (lv_at hl 5 rfl) ?_
      refine lv_iload hx hb dL_law_553 (lv_at hl 1 rfl) ?_
      refine lv_iconst (v := nI 2) hx hb dL_law_555 (by decide) ?_
      refine lv_iadd hx hb dL_law_556 ?_
      refine cw_topi (y := nI ((3 * i) + 2)) (nI_add _ _) ?_
      refine lr_scr hx hb hX hbl hbA hS (k := ((3 * i) + 2)) (v := (nI p₁)) (by omega) hL hx2 dL_law_557 ?_
      refine cw_callWi (As := [.int x, .int (nI p₁)]) (rest := []) (S := mdS) (BW := fun w => (mdU hm b1 b2 b3 b4 b5 b6 b7 cI cZ n w)) (W0 := (mdW hm b1 b2 b3 b4 b5 b6 b7 cI cZ er mo mf mt ma mc ms mq n)) (wr := (lwH h a1 a2 a3 a4 a5 cI cZ cJ ad pr se rk ck cu n g)) ⟨hx, hb, hml, hown, hts⟩ (m2_X1_clock l D cI cZ hm b1 b2 b3 b4 b5 b6 b7 er mo mf mt ma mc ms mq o f sd c₀ n hmd _ p₁ hp x hbad) (kL_X1_clock hts 2 0 0 60 ⟨by decide, by decide⟩) hK2 hP hD hS hA [0, 1, 2, 3, 4, 5, 6, 7] [8, 9, 10, 11, 12, 13, 14] rfl rfl (by decide) (by decide) (by decide) (fun _ => rfl) 0 rfl rfl rfl rfl hl.1 rfl (Nat.le_of_ble_eq_true rfl) dL_law_558 ⟨by show cells + 1 + 0 ≤ 1046; omega, by show slots + 6 + 0 ≤ 11262; omega⟩ (fun r w H locs hu hP hD hS => ?_)
      obtain ⟨her, hmd'⟩ := hu
      have hP : va_P D cdCl ((lwH h a1 a2 a3 a4 a5 cI cZ cJ ad pr se rk ck cu n g) ++ (mdU hm b1 b2 b3 b4 b5 b6 b7 cI cZ n w)) H := hP
      have hD : va_D A ((lwH h a1 a2 a3 a4 a5 cI cZ cJ ad pr se rk ck cu n g) ++ (mdU hm b1 b2 b3 b4 b5 b6 b7 cI cZ n w)) := hD
      exact tail 2 _ (by decide) hP hD hS hdk hmd' hbd her (fun z => absurd z (by decide)) hl
  · refine lr_call (As := [.ref h, .int x, .int z, .ref ad]) (rest := []) (S := Unit) (BW := fun _ => (lwH h a1 a2 a3 a4 a5 cI cZ cJ ad pr se rk ck cu n g)) (W0 := (lwH h a1 a2 a3 a4 a5 cI cZ cJ ad pr se rk ck cu n g)) (wr := (mdW hm b1 b2 b3 b4 b5 b6 b7 cI cZ er mo mf mt ma mc ms mq n)) ⟨hx, hb, hml, hown, hts⟩ (hx1_L_clock l D cI cZ cJ h a1 a2 a3 a4 a5 ad pr se rk ck cu n g _ x z (x1_X0_clock l D cI cZ h a1 a2 a3 a4 a5 pr se rk ck cu o f sd c₀ n hdk hlt x z hbad)) (kL_L_clock hts ⟨by decide, by decide⟩) hXS (fun q hq => hS.2.1 q hq (hA2 q hq)) hK hP hD hS hA [0, 1, 2, 3, 4, 5, 6] [7, 8, 9, 10, 11, 12, 13, 14] rfl rfl (by decide) (by decide) (by decide) (fun _ => rfl) rfl hl.1 rfl (Nat.le_of_ble_eq_true rfl) dL_law_540 ⟨hcl, hsl⟩ (fun r u H locs hu hP hD hS => ?_)
    obtain rfl : r = nI 1 := hu
    have hP : va_P D cdCl ((mdW hm b1 b2 b3 b4 b5 b6 b7 cI cZ er mo mf mt ma mc ms mq n) ++ (lwH h a1 a2 a3 a4 a5 cI cZ cJ ad pr se rk ck cu n g)) H := hP
    have hD : va_D A ((mdW hm b1 b2 b3 b4 b5 b6 b7 cI cZ er mo mf mt ma mc ms mq n) ++ (lwH h a1 a2 a3 a4 a5 cI cZ cJ ad pr se rk ck cu n g)) := hD
    refine lv_istore hx hb dL_law_543 hl (by decide) rfl (fun ls hl => ?_)
    have hl : lv_has ls 7 [(5, .int (nI 1)), (4, .int (nI (3 * i))), (3, .ref ad), (2, .ref hm), (1, .ref h), (0, .ref b)] := hl
    refine lv_aload_n hx hb dL_law_545 rfl (lv_at hl 3 rfl) ?_
    refine lv_aload_n hx hb dL_law_546 rfl (lv_at hl 5 rfl) ?_
    refine lv_iload hx hb dL_law_547 (lv_at hl 1 rfl) ?_
    refine lv_iconst (v := nI 1) hx hb dL_law_549 (by decide) ?_
    refine lv_iadd hx hb dL_law_550 ?_
    refine cw_topi (y := nI ((3 * i) + 1)) (nI_add _ _) ?_
    refine lr_scr hx hb hX hbl hbA hS (k := ((3 * i) + 1)) (v := x) (by omega) hL hx1 dL_law_551 ?_
    refine lv_aload_n hx hb dL_law_552 rfl (lv_at hl 5 rfl) ?_
    refine lv_iload hx hb dL_law_553 (lv_at hl 1 rfl) ?_
    refine lv_iconst (v := nI 2) hx hb dL_law_555 (by decide) ?_
    refine lv_iadd hx hb dL_law_556 ?_
    refine cw_topi (y := nI ((3 * i) + 2)) (nI_add _ _) ?_
    refine lr_scr hx hb hX hbl hbA hS (k := ((3 * i) + 2)) (v := z) (by omega) hL hx2 dL_law_557 ?_
    refine cw_callWi (As := [.int x, .int z]) (rest := []) (S := mdS) (BW := fun w => (mdU hm b1 b2 b3 b4 b5 b6 b7 cI cZ n w)) (W0 := (mdW hm b1 b2 b3 b4 b5 b6 b7 cI cZ er mo mf mt ma mc ms mq n)) (wr := (lwH h a1 a2 a3 a4 a5 cI cZ cJ ad pr se rk ck cu n g)) ⟨hx, hb, hml, hown, hts⟩ (m1_X1_clock l D cI cZ hm b1 b2 b3 b4 b5 b6 b7 er mo mf mt ma mc ms mq o f sd c₀ n hmd _ x z hbad) (kL_X1_clock hts 2 0 0 60 ⟨by decide, by decide⟩) hK2 hP hD hS hA [0, 1, 2, 3, 4, 5, 6, 7] [8, 9, 10, 11, 12, 13, 14] rfl rfl (by decide) (by decide) (by decide) (fun _ => rfl) 0 rfl rfl rfl rfl hl.1 rfl (Nat.le_of_ble_eq_true rfl) dL_law_558 ⟨by show cells + 1 + 0 ≤ 1046; omega, by show slots + 6 + 0 ≤ 11262; omega⟩ (fun r w H locs hu hP hD hS => ?_)
    obtain ⟨her, hmd'⟩ := hu
    have hP : va_P D cdCl ((lwH h a1 a2 a3 a4 a5 cI cZ cJ ad pr se rk ck cu n g) ++ (mdU hm b1 b2 b3 b4 b5 b6 b7 cI cZ n w)) H := hP
    have hD : va_D A ((lwH h a1 a2 a3 a4 a5 cI cZ cJ ad pr se rk ck cu n g) ++ (mdU hm b1 b2 b3 b4 b5 b6 b7 cI cZ n w)) := hD
    exact tail 1 _ (by decide) hP hD hS hdk hmd' hbd her (fun z => absurd z (by decide)) hl
set_option maxHeartbeats 4000000 in
set_option maxRecDepth 100000 in
/-- cut -/
theorem lw_c8 {p : Program} {l : Launch} {e : Env} {s : State} {m : MethodId} {args : Array Value} {below : List Frame} {meth : Method} {c : Code} {Q : State → Prop} {D : va_G} {cI cZ cJ : ClassId} {h a1 a2 a3 a4 a5 ad hm b1 b2 b3 b4 b5 b6 b7 b L : Nat} {xs : Nat → Int32} {A : Nat → Prop} {c0 : Cond} (hx : p.tables.exec = Jvm.exec) (hb : c.code = cL_law) (hml : c.maxLocals = 7) (hown : s.vm.findClass RL = some m.cls) (hts : ∀ w ∈ c0 :: tW, w.before args s = true) (hlt : l.stackTraces = false) (hXS : xt_S s) (hK : va_K D cdCl (lwT cI cZ cJ) s) (hX : va_X b L xs s s.heap) (hbl : b < s.heap.size) (hbA : ¬ A b) (hA : ∀ q, s.heap.size ≤ q → A q) (hA2 : ∀ q, q < s.heap.size → ¬ A q) (hL : L ≤ 1536) (i : Nat) (hi : 3 * i + 3 ≤ L) (cells slots : Nat) (hcl : cells + 1 ≤ 1046) (hsl : slots + 6 ≤ 11262) {H : Heap} {locs : List Loc} {ls : Array Slot} (hI : lwI D cI cZ cJ h a1 a2 a3 a4 a5 ad hm b1 b2 b3 b4 b5 b6 b7 A s.heap H locs) (hl : lv_has ls 7 [(4, .int (nI (3 * i))), (3, .ref ad), (2, .ref hm), (1, .ref h), (0, .ref b)]) (kk : ∀ (H : Heap) (locs : List Loc) (ls : Array Slot), lwI D cI cZ cJ h a1 a2 a3 a4 a5 ad hm b1 b2 b3 b4 b5 b6 b7 A s.heap H locs → lv_has ls 7 [(4, .int (nI (3 * i))), (3, .ref ad), (2, .ref hm), (1, .ref h), (0, .ref b)] → W p l e room_1 s m args below meth c H locs (cells + 1) (slots + 6) Q (F0 m 737 ls [])) : W p l e room_1 s m args below meth c H locs (cells) (slots) Q (F0 m 594 ls []) := by
  obtain ⟨pr, se, rk, ck, cu, g, er, mo, mf, mt, ma, mc, ms, mq, o, f, sd, c₀, n, hP, hD, hS, hdk, hmd, hbd⟩ := hI
  have hn := hdk.1
  have hwf := hdk.2.1
  have hK2 : va_K D cdCl (dkT cI cZ) s := hK.sub [0, 1] rfl
  obtain ⟨x, hx1⟩ : ∃ x, xs (3 * i + 1) = x := ⟨_, rfl⟩
  obtain ⟨z, hx2⟩ : ∃ z, xs (3 * i + 2) = z := ⟨_, rfl⟩
  have tail : ∀ (kc : Nat) {pr se rk ck cu : Nat → Int32} {g : Nat → Int64} {er : Int32} {mo mf mt ma mc ms mq : Nat → Int32} {o f : Nat → Nat} {sd : Nat → Bool} {c₀ : Nat → Nat} {n : Nat} {H : Heap} {locs : List Loc} {ls : Array Slot}, kc < 3 → va_P D cdCl ((lwH h a1 a2 a3 a4 a5 cI cZ cJ ad pr se rk ck cu n g) ++ (mdW hm b1 b2 b3 b4 b5 b6 b7 cI cZ er mo mf mt ma mc ms mq n)) H → va_D A ((lwH h a1 a2 a3 a4 a5 cI cZ cJ ad pr se rk ck cu n g) ++ (mdW hm b1 b2 b3 b4 b5 b6 b7 cI cZ er mo mf mt ma mc ms mq n)) → va_S A s.heap H locs → cd_dk o f sd c₀ n pr se rk ck cu → cd_md o f sd c₀ n mo mf mc ms → (∀ p, p < 6 → c₀ p ≤ cd_mn o p n) → er = nI kc → lv_has ls 7 [(5, .int (nI kc)), (4, .int (nI (3 * i))), (3, .ref ad), (2, .ref hm), (1, .ref h), (0, .ref b)] → W p l e room_1 s m args below meth c H locs (cells + 1) (slots + 6) Q (F0 m 628 ls []) := by
    intro kc pr se rk ck cu g er mo mf mt ma mc ms mq o f sd c₀ n H locs ls h3 hP hD hS hdk hmd hbd her hl
    refine lv_aload_n hx hb dL_law_628 rfl (lv_at hl 3 rfl) ?_
    have hPm := hP.sub (ws' := (mdW hm b1 b2 b3 b4 b5 b6 b7 cI cZ er mo mf mt ma mc ms mq n)) [7, 8, 9, 10, 11, 12, 13, 14] rfl
    refine cw_callR (As := []) (rest := []) ⟨hx, hb, hml, hown, hts⟩ (c_X1_thrown l D cI cZ hm b1 b2 b3 b4 b5 b6 b7 er mo mf mt ma mc ms mq o f sd c₀ n hmd) (kL_X1_thrown hts 0 0 0 0 ⟨by decide, by decide⟩) hK2 hPm 0 rfl rfl rfl rfl hl.1 rfl (Nat.le_of_ble_eq_true rfl) dL_law_629 ⟨by show cells + 1 + 0 ≤ 1046; omega, by show slots + 6 + 0 ≤ 11262; omega⟩ ?_
    refine cw_topi (y := nI kc) her ?_
    refine lv_iload hx hb dL_law_632 (lv_at hl 0 rfl) ?_
    refine cw_eq (tgt := 639) (x := kc) (y := kc) hx hb dL_law_634 (by decide) (by omega) (by omega) (fun hc => ?_) (fun hc => ?_)
    · refine lv_goto (tgt := 737) hx hb dL_law_639 (by decide) ?_
      exact kk H locs ls ⟨pr, se, rk, ck, cu, g, er, mo, mf, mt, ma, mc, ms, mq, o, f, sd, c₀, n, hP, hD, hS, hdk, hmd, hbd⟩ (lv_sub hl [1, 2, 3, 4, 5] rfl)
    · exact absurd rfl hc
  refine lv_aload_n hx hb dL_law_594 rfl (lv_at hl 3 rfl) ?_
  refine lv_aload_n hx hb dL_law_595 rfl (lv_at hl 4 rfl) ?_
  refine lv_iload hx hb dL_law_596 (lv_at hl 0 rfl) ?_
  refine lv_iconst (v := nI 1) hx hb dL_law_598 (by decide) ?_
  refine lv_iadd hx hb dL_law_599 ?_
  refine cw_topi (y := nI ((3 * i) + 1)) (nI_add _ _) ?_
  refine lr_scr hx hb hX hbl hbA hS (k := ((3 * i) + 1)) (v := x) (by omega) hL hx1 dL_law_600 ?_
  refine lv_aload_n hx hb dL_law_601 rfl (lv_at hl 4 rfl) ?_
  refine lv_iload hx hb dL_law_602 (lv_at hl 0 rfl) ?_
  refine lv_iconst (v := nI 2) hx hb dL_law_604 (by decide) ?_
  refine lv_iadd hx hb dL_law_605 ?_
  refine cw_topi (y := nI ((3 * i) + 2)) (nI_add _ _) ?_
  refine lr_scr hx hb hX hbl hbA hS (k := ((3 * i) + 2)) (v := z) (by omega) hL hx2 dL_law_606 ?_
  rcases cd_ix x (n := 6) (by decide) with ⟨p₁, hp, rfl⟩ | hbad
  · have hmn := cd_mn_le o p₁ n
    rcases cd_ix z (n := cd_mn o p₁ n + 1) (by omega) with ⟨j, hj, rfl⟩ | hbad
    · refine lr_call (As := [.ref h, .int (nI p₁), .int (nI j)]) (rest := []) (S := dkS × (Nat → Int64)) (BW := fun u => (lwH h a1 a2 a3 a4 a5 cI cZ cJ ad u.1.1 u.1.2.1 u.1.2.2.1 u.1.2.2.2.1 u.1.2.2.2.2 n u.2)) (W0 := (lwH h a1 a2 a3 a4 a5 cI cZ cJ ad pr se rk ck cu n g)) (wr := (mdW hm b1 b2 b3 b4 b5 b6 b7 cI cZ er mo mf mt ma mc ms mq n)) ⟨hx, hb, hml, hown, hts⟩ (h0_L_cut l D cI cZ cJ h a1 a2 a3 a4 a5 ad pr se rk ck cu n g _ (nI p₁) (nI j) (c_X0_cut l D cI cZ h a1 a2 a3 a4 a5 pr se rk ck cu o f sd c₀ n hdk _ p₁ j hp (by omega))) (kL_L_cut hts ⟨by decide, by decide⟩) hXS (fun q hq => hS.2.1 q hq (hA2 q hq)) hK hP hD hS hA [0, 1, 2, 3, 4, 5, 6] [7, 8, 9, 10, 11, 12, 13, 14] rfl rfl (by decide) (by decide) (by decide) (fun _ => rfl) rfl hl.1 rfl (Nat.le_of_ble_eq_true rfl) dL_law_607 ⟨hcl, hsl⟩ (fun r u H locs hu hP hD hS => ?_)
      obtain ⟨rfl, hdk', -⟩ := hu
      have hP : va_P D cdCl ((mdW hm b1 b2 b3 b4 b5 b6 b7 cI cZ er mo mf mt ma mc ms mq n) ++ (lwH h a1 a2 a3 a4 a5 cI cZ cJ ad u.1.1 u.1.2.1 u.1.2.2.1 u.1.2.2.2.1 u.1.2.2.2.2 n u.2)) H := hP
      have hD : va_D A ((mdW hm b1 b2 b3 b4 b5 b6 b7 cI cZ er mo mf mt ma mc ms mq n) ++ (lwH h a1 a2 a3 a4 a5 cI cZ cJ ad u.1.1 u.1.2.1 u.1.2.2.1 u.1.2.2.2.1 u.1.2.2.2.2 n u.2)) := hD
      refine lv_istore hx hb dL_law_610 hl (by decide) rfl (fun ls hl => ?_)
      have hl : lv_has ls 7 [(5, .int (nI 0)), (4, .int (nI (3 * i))), (3, .ref ad), (2, .ref hm), (1, .ref h), (0, .ref b)] := hl
      refine lv_aload_n hx hb dL_law_612 rfl (lv_at hl 3 rfl) ?_
      refine lv_aload_n hx hb dL_law_613 rfl (lv_at hl 5 rfl) ?_
      refine lv_iload hx hb dL_law_614 (lv_at hl 1 rfl) ?_
      refine lv_iconst (v := nI 1) hx hb dL_law_616 (by decide) ?_
      refine lv_iadd hx hb dL_law_617 ?_
      refine cw_topi (y := nI ((3 * i) + 1)) (nI_add _ _) ?_
      refine lr_scr hx hb hX hbl hbA hS (k := ((3 * i) + 1)) (v := (nI p₁)) (by omega) hL hx1 dL_law_618 ?_
      refine lv_aload_n hx hb dL_law_619 rfl (lv_at hl 5 rfl) ?_
      refine lv_iload hx hb dL_law_620 (lv_at hl 1 rfl) ?_
      refine lv_iconst (v := nI 2) hx hb dL_law_622 (by decide) ?_
      refine lv_iadd hx hb dL_law_623 ?_
      refine cw_topi (y := nI ((3 * i) + 2)) (nI_add _ _) ?_
      refine lr_scr hx hb hX hbl hbA hS (k := ((3 * i) + 2)) (v := (nI j)) (by omega) hL hx2 dL_law_624 ?_
      refine cw_callWv (As := [.int (nI p₁), .int (nI j)]) (rest := []) (S := mdS) (BW := fun w => (mdU hm b1 b2 b3 b4 b5 b6 b7 cI cZ n w)) (W0 := (mdW hm b1 b2 b3 b4 b5 b6 b7 cI cZ er mo mf mt ma mc ms mq n)) (wr := (lwH h a1 a2 a3 a4 a5 cI cZ cJ ad u.1.1 u.1.2.1 u.1.2.2.1 u.1.2.2.2.1 u.1.2.2.2.2 n u.2)) ⟨hx, hb, hml, hown, hts⟩ (m0_X1_cut l D cI cZ hm b1 b2 b3 b4 b5 b6 b7 er mo mf mt ma mc ms mq o f sd c₀ n hmd _ p₁ hp j (by omega)) (kL_X1_cut hts 2 0 0 60 ⟨by decide, by decide⟩) hK2 hP hD hS hA [0, 1, 2, 3, 4, 5, 6, 7] [8, 9, 10, 11, 12, 13, 14] rfl rfl (by decide) (by decide) (by decide) (fun _ => rfl) 0 rfl rfl rfl rfl hl.1 rfl (Nat.le_of_ble_eq_true rfl) dL_law_625 ⟨by show cells + 1 + 0 ≤ 1046; omega, by show slots + 6 + 0 ≤ 11262; omega⟩ (fun w H locs hu hP hD hS => ?_)
      obtain ⟨her, hmd'⟩ := hu
      have hP : va_P D cdCl ((lwH h a1 a2 a3 a4 a5 cI cZ cJ ad u.1.1 u.1.2.1 u.1.2.2.1 u.1.2.2.2.1 u.1.2.2.2.2 n u.2) ++ (mdU hm b1 b2 b3 b4 b5 b6 b7 cI cZ n w)) H := hP
      have hD : va_D A ((lwH h a1 a2 a3 a4 a5 cI cZ cJ ad u.1.1 u.1.2.1 u.1.2.2.1 u.1.2.2.2.1 u.1.2.2.2.2 n u.2) ++ (mdU hm b1 b2 b3 b4 b5 b6 b7 cI cZ n w)) := hD
      exact tail 0 (by decide) hP hD hS hdk' hmd' (lw_bd_cut hbd (by omega)) her hl
    · have hbad := lw_le (by omega) hbad
      refine lr_call (As := [.ref h, .int (nI p₁), .int z]) (rest := []) (S := Unit) (BW := fun _ => (lwH h a1 a2 a3 a4 a5 cI cZ cJ ad pr se rk ck cu n g)) (W0 := (lwH h a1 a2 a3 a4 a5 cI cZ cJ ad pr se rk ck cu n g)) (wr := (mdW hm b1 b2 b3 b4 b5 b6 b7 cI cZ er mo mf mt ma mc ms mq n)) ⟨hx, hb, hml, hown, hts⟩ (hx1_L_cut l D cI cZ cJ h a1 a2 a3 a4 a5 ad pr se rk ck cu n g _ (nI p₁) z (x2_X0_cut l D cI cZ h a1 a2 a3 a4 a5 pr se rk ck cu o f sd c₀ n hdk hlt p₁ hp z hbad)) (kL_L_cut hts ⟨by decide, by decide⟩) hXS (fun q hq => hS.2.1 q hq (hA2 q hq)) hK hP hD hS hA [0, 1, 2, 3, 4, 5, 6] [7, 8, 9, 10, 11, 12, 13, 14] rfl rfl (by decide) (by decide) (by decide) (fun _ => rfl) rfl hl.1 rfl (Nat.le_of_ble_eq_true rfl) dL_law_607 ⟨hcl, hsl⟩ (fun r u H locs hu hP hD hS => ?_)
      obtain rfl : r = nI 1 := hu
      have hP : va_P D cdCl ((mdW hm b1 b2 b3 b4 b5 b6 b7 cI cZ er mo mf mt ma mc ms mq n) ++ (lwH h a1 a2 a3 a4 a5 cI cZ cJ ad pr se rk ck cu n g)) H := hP
      have hD : va_D A ((mdW hm b1 b2 b3 b4 b5 b6 b7 cI cZ er mo mf mt ma mc ms mq n) ++ (lwH h a1 a2 a3 a4 a5 cI cZ cJ ad pr se rk ck cu n g)) := hD
      refine lv_istore hx hb dL_law_610 hl (by decide) rfl (fun ls hl => ?_)
      have hl : lv_has ls 7 [(5, .int (nI 1)), (4, .int (nI (3 * i))), (3, .ref ad), (2, .ref hm), (1, .ref h), (0, .ref b)] := hl
      refine lv_aload_n hx hb dL_law_612 rfl (lv_at hl 3 rfl) ?_
      refine lv_aload_n hx hb dL_law_613 rfl (lv_at hl 5 rfl) ?_
      refine lv_iload hx hb dL_law_614 (lv_at hl 1 rfl) ?_
      refine lv_iconst (v := nI 1) hx hb dL_law_616 (by decide) ?_
      refine lv_iadd hx hb dL_law_617 ?_
      refine cw_topi (y := nI ((3 * i) + 1)) (nI_add _ _) ?_
      refine lr_scr hx hb hX hbl hbA hS (k := ((3 * i) + 1)) (v := (nI p₁)) (by omega) hL hx1 dL_law_618 ?_
      refine lv_aload_n hx hb dL_law_619 rfl (lv_at hl 5 rfl) ?_
      refine lv_iload hx hb dL_law_620 (lv_at hl 1 rfl) ?_
      refine lv_iconst (v := nI 2) hx hb dL_law_622 (by decide) ?_
      refine lv_iadd hx hb dL_law_623 ?_
      refine cw_topi (y := nI ((3 * i) + 2)) (nI_add _ _) ?_
      refine lr_scr hx hb hX hbl hbA hS (k := ((3 * i) + 2)) (v := z) (by omega) hL hx2 dL_law_624 ?_
      refine cw_callWv (As := [.int (nI p₁), .int z]) (rest := []) (S := mdS) (BW := fun w => (mdU hm b1 b2 b3 b4 b5 b6 b7 cI cZ n w)) (W0 := (mdW hm b1 b2 b3 b4 b5 b6 b7 cI cZ er mo mf mt ma mc ms mq n)) (wr := (lwH h a1 a2 a3 a4 a5 cI cZ cJ ad pr se rk ck cu n g)) ⟨hx, hb, hml, hown, hts⟩ (m2_X1_cut l D cI cZ hm b1 b2 b3 b4 b5 b6 b7 er mo mf mt ma mc ms mq o f sd c₀ n hmd _ p₁ hp z hbad) (kL_X1_cut hts 2 0 0 60 ⟨by decide, by decide⟩) hK2 hP hD hS hA [0, 1, 2, 3, 4, 5, 6, 7] [8, 9, 10, 11, 12, 13, 14] rfl rfl (by decide) (by decide) (by decide) (fun _ => rfl) 0 rfl rfl rfl rfl hl.1 rfl (Nat.le_of_ble_eq_true rfl) dL_law_625 ⟨by show cells + 1 + 0 ≤ 1046; omega, by show slots + 6 + 0 ≤ 11262; omega⟩ (fun w H locs hu hP hD hS => ?_)
      obtain ⟨her, hmd'⟩ := hu
      have hP : va_P D cdCl ((lwH h a1 a2 a3 a4 a5 cI cZ cJ ad pr se rk ck cu n g) ++ (mdU hm b1 b2 b3 b4 b5 b6 b7 cI cZ n w)) H := hP
      have hD : va_D A ((lwH h a1 a2 a3 a4 a5 cI cZ cJ ad pr se rk ck cu n g) ++ (mdU hm b1 b2 b3 b4 b5 b6 b7 cI cZ n w)) := hD
      exact tail 1 (by decide) hP hD hS hdk hmd' hbd her hl
  · refine lr_call (As := [.ref h, .int x, .int z]) (rest := []) (S := Unit) (BW := fun _ => (lwH h a1 a2 a3 a4 a5 cI cZ cJ ad pr se rk ck cu n g)) (W0 := (lwH h a1 a2 a3 a4 a5 cI cZ cJ ad pr se rk ck cu n g)) (wr := (mdW hm b1 b2 b3 b4 b5 b6 b7 cI cZ er mo mf mt ma mc ms mq n)) ⟨hx, hb, hml, hown, hts⟩ (hx1_L_cut l D cI cZ cJ h a1 a2 a3 a4 a5 ad pr se rk ck cu n g _ x z (x1_X0_cut l D cI cZ h a1 a2 a3 a4 a5 pr se rk ck cu o f sd c₀ n hdk hlt x hbad z)) (kL_L_cut hts ⟨by decide, by decide⟩) hXS (fun q hq => hS.2.1 q hq (hA2 q hq)) hK hP hD hS hA [0, 1, 2, 3, 4, 5, 6] [7, 8, 9, 10, 11, 12, 13, 14] rfl rfl (by decide) (by decide) (by decide) (fun _ => rfl) rfl hl.1 rfl (Nat.le_of_ble_eq_true rfl) dL_law_607 ⟨hcl, hsl⟩ (fun r u H locs hu hP hD hS => ?_)
    obtain rfl : r = nI 1 := hu
    have hP : va_P D cdCl ((mdW hm b1 b2 b3 b4 b5 b6 b7 cI cZ er mo mf mt ma mc ms mq n) ++ (lwH h a1 a2 a3 a4 a5 cI cZ cJ ad pr se rk ck cu n g)) H := hP
    have hD : va_D A ((mdW hm b1 b2 b3 b4 b5 b6 b7 cI cZ er mo mf mt ma mc ms mq n) ++ (lwH h a1 a2 a3 a4 a5 cI cZ cJ ad pr se rk ck cu n g)) := hD
    refine lv_istore hx hb dL_law_610 hl (by decide) rfl (fun ls hl => ?_)
    have hl : lv_has ls 7 [(5, .int (nI 1)), (4, .int (nI (3 * i))), (3, .ref ad), (2, .ref hm), (1, .ref h), (0, .ref b)] := hl
    refine lv_aload_n hx hb dL_law_612 rfl (lv_at hl 3 rfl) ?_
    refine lv_aload_n hx hb dL_law_613 rfl (lv_at hl 5 rfl) ?_
    refine lv_iload hx hb dL_law_614 (lv_at hl 1 rfl) ?_
    refine lv_iconst (v := nI 1) hx hb dL_law_616 (by decide) ?_
    refine lv_iadd hx hb dL_law_617 ?_
    refine cw_topi (y := nI ((3 * i) + 1)) (nI_add _ _) ?_
    refine lr_scr hx hb hX hbl hbA hS (k := ((3 * i) + 1)) (v := x) (by omega) hL hx1 dL_law_618 ?_
    refine lv_aload_n hx hb dL_law_619 rfl (lv_at hl 5 rfl) ?_
    refine lv_iload hx hb dL_law_620 (lv_at hl 1 rfl) ?_
    refine lv_iconst (v := nI 2) hx hb dL_law_622 (by decide) ?_
    refine lv_iadd hx hb dL_law_623 ?_
    refine cw_topi (y := nI ((3 * i) + 2)) (nI_add _ _) ?_
    refine lr_scr hx hb hX hbl hbA hS (k := ((3 * i) + 2)) (v := z) (by omega) hL hx2 dL_law_624 ?_
    refine cw_callWv (As := [.int x, .int z]) (rest := []) (S := mdS) (BW := fun w => (mdU hm b1 b2 b3 b4 b5 b6 b7 cI cZ n w)) (W0 := (mdW hm b1 b2 b3 b4 b5 b6 b7 cI cZ er mo mf mt ma mc ms mq n)) (wr := (lwH h a1 a2 a3 a4 a5 cI cZ cJ ad pr se rk ck cu n g)) ⟨hx, hb, hml, hown, hts⟩ (m1_X1_cut l D cI cZ hm b1 b2 b3 b4 b5 b6 b7 er mo mf mt ma mc ms mq o f sd c₀ n hmd _ x hbad z) (kL_X1_cut hts 2 0 0 60 ⟨by decide, by decide⟩) hK2 hP hD hS hA [0, 1, 2, 3, 4, 5, 6, 7] [8, 9, 10, 11, 12, 13, 14] rfl rfl (by decide) (by decide) (by decide) (fun _ => rfl) 0 rfl rfl rfl rfl hl.1 rfl (Nat.le_of_ble_eq_true rfl) dL_law_625 ⟨by show cells + 1 + 0 ≤ 1046; omega, by show slots + 6 + 0 ≤ 11262; omega⟩ (fun w H locs hu hP hD hS => ?_)
    obtain ⟨her, hmd'⟩ := hu
    have hP : va_P D cdCl ((lwH h a1 a2 a3 a4 a5 cI cZ cJ ad pr se rk ck cu n g) ++ (mdU hm b1 b2 b3 b4 b5 b6 b7 cI cZ n w)) H := hP
    have hD : va_D A ((lwH h a1 a2 a3 a4 a5 cI cZ cJ ad pr se rk ck cu n g) ++ (mdU hm b1 b2 b3 b4 b5 b6 b7 cI cZ n w)) := hD
    exact tail 1 (by decide) hP hD hS hdk hmd' hbd her hl
set_option maxHeartbeats 4000000 in
set_option maxRecDepth 100000 in
/-- whole -/
theorem lw_c9 {p : Program} {l : Launch} {e : Env} {s : State} {m : MethodId} {args : Array Value} {below : List Frame} {meth : Method} {c : Code} {Q : State → Prop} {D : va_G} {cI cZ cJ : ClassId} {h a1 a2 a3 a4 a5 ad hm b1 b2 b3 b4 b5 b6 b7 b L : Nat} {xs : Nat → Int32} {A : Nat → Prop} {c0 : Cond} (hx : p.tables.exec = Jvm.exec) (hb : c.code = cL_law) (hml : c.maxLocals = 7) (hown : s.vm.findClass RL = some m.cls) (hts : ∀ w ∈ c0 :: tW, w.before args s = true) (hlt : l.stackTraces = false) (hXS : xt_S s) (hK : va_K D cdCl (lwT cI cZ cJ) s) (hX : va_X b L xs s s.heap) (hbl : b < s.heap.size) (hbA : ¬ A b) (hA : ∀ q, s.heap.size ≤ q → A q) (hA2 : ∀ q, q < s.heap.size → ¬ A q) (hL : L ≤ 1536) (i : Nat) (hi : 3 * i + 3 ≤ L) (cells slots : Nat) (hcl : cells + 1 ≤ 1046) (hsl : slots + 6 ≤ 11262) {H : Heap} {locs : List Loc} {ls : Array Slot} (hI : lwI D cI cZ cJ h a1 a2 a3 a4 a5 ad hm b1 b2 b3 b4 b5 b6 b7 A s.heap H locs) (hl : lv_has ls 7 [(4, .int (nI (3 * i))), (3, .ref ad), (2, .ref hm), (1, .ref h), (0, .ref b)]) (kk : ∀ (H : Heap) (locs : List Loc) (ls : Array Slot), lwI D cI cZ cJ h a1 a2 a3 a4 a5 ad hm b1 b2 b3 b4 b5 b6 b7 A s.heap H locs → lv_has ls 7 [(4, .int (nI (3 * i))), (3, .ref ad), (2, .ref hm), (1, .ref h), (0, .ref b)] → W p l e room_1 s m args below meth c H locs (cells + 1) (slots + 6) Q (F0 m 737 ls [])) : W p l e room_1 s m args below meth c H locs (cells) (slots) Q (F0 m 642 ls []) := by
  obtain ⟨pr, se, rk, ck, cu, g, er, mo, mf, mt, ma, mc, ms, mq, o, f, sd, c₀, n, hP, hD, hS, hdk, hmd, hbd⟩ := hI
  have hn := hdk.1
  have hwf := hdk.2.1
  have hK2 : va_K D cdCl (dkT cI cZ) s := hK.sub [0, 1] rfl
  refine lv_aload_n hx hb dL_law_642 rfl (lv_at hl 3 rfl) ?_
  obtain ⟨r₀, hr1, hr0⟩ : ∃ r₀ : Int32, (cd_wc o f c₀ n → r₀ = 1) ∧ (¬ cd_wc o f c₀ n → r₀ = 0) := by
    rcases Classical.em (cd_wc o f c₀ n) with h9 | h9
    · exact ⟨1, fun _ => rfl, fun z => absurd h9 z⟩
    · exact ⟨0, fun z => absurd z h9, fun _ => rfl⟩
  have hP2 := hP.sub (ws' := (dkW h a1 a2 a3 a4 a5 cI cZ pr se rk ck cu n)) [0, 1, 2, 3, 4, 5] rfl
  refine cw_callR (As := []) (rest := []) ⟨hx, hb, hml, hown, hts⟩ (c_X0_whole l D cI cZ h a1 a2 a3 a4 a5 pr se rk ck cu o f sd c₀ n hdk r₀ hr1 hr0) (kL_X0_whole hts 3 0 0 90 ⟨by decide, by decide⟩) hK2 hP2 0 rfl rfl rfl rfl hl.1 rfl (Nat.le_of_ble_eq_true rfl) dL_law_643 ⟨by show cells + 0 ≤ 1046; omega, by show slots + 0 ≤ 11262; omega⟩ ?_
  refine lv_aload_n hx hb dL_law_646 rfl (lv_at hl 2 rfl) ?_
  refine cw_callWi (As := []) (rest := [.int (r₀)]) (S := mdS) (BW := fun w => (mdU hm b1 b2 b3 b4 b5 b6 b7 cI cZ n w)) (W0 := (mdW hm b1 b2 b3 b4 b5 b6 b7 cI cZ er mo mf mt ma mc ms mq n)) (wr := (lwH h a1 a2 a3 a4 a5 cI cZ cJ ad pr se rk ck cu n g)) ⟨hx, hb, hml, hown, hts⟩ (m0_X1_whole l D cI cZ hm b1 b2 b3 b4 b5 b6 b7 er mo mf mt ma mc ms mq o f sd c₀ n hmd _ r₀ hr1 hr0) (kL_X1_whole hts 3 0 0 90 ⟨by decide, by decide⟩) hK2 hP hD hS hA [7, 8, 9, 10, 11, 12, 13, 14] [0, 1, 2, 3, 4, 5, 6] rfl rfl (by decide) (by decide) (by decide) (fun _ => rfl) 0 rfl rfl rfl rfl hl.1 rfl (Nat.le_of_ble_eq_true rfl) dL_law_647 ⟨by show cells + 0 ≤ 1046; omega, by show slots + 0 ≤ 11262; omega⟩ (fun r w H locs hu hP hD hS => ?_)
  obtain ⟨hrr, her, hmd'⟩ := hu
  have hP : va_P D cdCl ((lwH h a1 a2 a3 a4 a5 cI cZ cJ ad pr se rk ck cu n g) ++ (mdU hm b1 b2 b3 b4 b5 b6 b7 cI cZ n w)) H := hP
  have hD : va_D A ((lwH h a1 a2 a3 a4 a5 cI cZ cJ ad pr se rk ck cu n g) ++ (mdU hm b1 b2 b3 b4 b5 b6 b7 cI cZ n w)) := hD
  refine lv_icmp_eq (tgt := 737) hx hb dL_law_650 (by decide) (fun hc => ?_) (fun hc => ?_)
  · refine W.widen (k := cells + 1) (n := slots + 6) (by omega) (by omega) ?_
    exact kk H locs ls ⟨pr, se, rk, ck, cu, g, w.1, w.2.1, w.2.2.1, w.2.2.2.1, w.2.2.2.2.1, w.2.2.2.2.2.1, w.2.2.2.2.2.2.1, w.2.2.2.2.2.2.2, o, f, sd, c₀, n, hP, hD, hS, hdk, hmd', hbd⟩ (lv_sub hl [0, 1, 2, 3, 4] rfl)
  · exact absurd hrr.symm hc
set_option maxHeartbeats 4000000 in
set_option maxRecDepth 100000 in
/-- close -/
theorem lw_c10 {p : Program} {l : Launch} {e : Env} {s : State} {m : MethodId} {args : Array Value} {below : List Frame} {meth : Method} {c : Code} {Q : State → Prop} {D : va_G} {cI cZ cJ : ClassId} {h a1 a2 a3 a4 a5 ad hm b1 b2 b3 b4 b5 b6 b7 b L : Nat} {xs : Nat → Int32} {A : Nat → Prop} {c0 : Cond} (hx : p.tables.exec = Jvm.exec) (hb : c.code = cL_law) (hml : c.maxLocals = 7) (hown : s.vm.findClass RL = some m.cls) (hts : ∀ w ∈ c0 :: tW, w.before args s = true) (hlt : l.stackTraces = false) (hXS : xt_S s) (hK : va_K D cdCl (lwT cI cZ cJ) s) (hX : va_X b L xs s s.heap) (hbl : b < s.heap.size) (hbA : ¬ A b) (hA : ∀ q, s.heap.size ≤ q → A q) (hA2 : ∀ q, q < s.heap.size → ¬ A q) (hL : L ≤ 1536) (i : Nat) (hi : 3 * i + 3 ≤ L) (cells slots : Nat) (hcl : cells + 1 ≤ 1046) (hsl : slots + 6 ≤ 11262) {H : Heap} {locs : List Loc} {ls : Array Slot} (hI : lwI D cI cZ cJ h a1 a2 a3 a4 a5 ad hm b1 b2 b3 b4 b5 b6 b7 A s.heap H locs) (hl : lv_has ls 7 [(4, .int (nI (3 * i))), (3, .ref ad), (2, .ref hm), (1, .ref h), (0, .ref b)]) (kk : ∀ (H : Heap) (locs : List Loc) (ls : Array Slot), lwI D cI cZ cJ h a1 a2 a3 a4 a5 ad hm b1 b2 b3 b4 b5 b6 b7 A s.heap H locs → lv_has ls 7 [(4, .int (nI (3 * i))), (3, .ref ad), (2, .ref hm), (1, .ref h), (0, .ref b)] → W p l e room_1 s m args below meth c H locs (cells + 1) (slots + 6) Q (F0 m 737 ls [])) : W p l e room_1 s m args below meth c H locs (cells) (slots) Q (F0 m 655 ls []) := by
  obtain ⟨pr, se, rk, ck, cu, g, er, mo, mf, mt, ma, mc, ms, mq, o, f, sd, c₀, n, hP, hD, hS, hdk, hmd, hbd⟩ := hI
  have hn := hdk.1
  have hwf := hdk.2.1
  have hK2 : va_K D cdCl (dkT cI cZ) s := hK.sub [0, 1] rfl
  refine lv_aload_n hx hb dL_law_655 rfl (lv_at hl 3 rfl) ?_
  refine cw_callWi (As := []) (rest := []) (S := dkS) (BW := fun u => (dkU h a1 a2 a3 a4 a5 cI cZ n u)) (W0 := (dkW h a1 a2 a3 a4 a5 cI cZ pr se rk ck cu n)) (wr := lwO cJ ad g ++ (mdW hm b1 b2 b3 b4 b5 b6 b7 cI cZ er mo mf mt ma mc ms mq n)) ⟨hx, hb, hml, hown, hts⟩ (c_X0_close l D cI cZ h a1 a2 a3 a4 a5 pr se rk ck cu o f sd c₀ n hdk _) (kL_X0_close hts 3 0 0 90 ⟨by decide, by decide⟩) hK2 hP hD hS hA [0, 1, 2, 3, 4, 5] [6, 7, 8, 9, 10, 11, 12, 13, 14] rfl rfl (by decide) (by decide) (by decide) (fun _ => rfl) 0 rfl rfl rfl rfl hl.1 rfl (Nat.le_of_ble_eq_true rfl) dL_law_656 ⟨by show cells + 0 ≤ 1046; omega, by show slots + 0 ≤ 11262; omega⟩ (fun r u H locs hu hP hD hS => ?_)
  obtain ⟨rfl, hdk'⟩ := hu
  have hP : va_P D cdCl ((lwO cJ ad g ++ (mdW hm b1 b2 b3 b4 b5 b6 b7 cI cZ er mo mf mt ma mc ms mq n)) ++ (dkU h a1 a2 a3 a4 a5 cI cZ n u)) H := hP
  have hD : va_D A ((lwO cJ ad g ++ (mdW hm b1 b2 b3 b4 b5 b6 b7 cI cZ er mo mf mt ma mc ms mq n)) ++ (dkU h a1 a2 a3 a4 a5 cI cZ n u)) := hD
  refine lv_aload_n hx hb dL_law_659 rfl (lv_at hl 2 rfl) ?_
  refine cw_callWi (As := []) (rest := [.int (nI (cd_s6 (cd_cl o f c₀ n)))]) (S := mdS) (BW := fun w => (mdU hm b1 b2 b3 b4 b5 b6 b7 cI cZ n w)) (W0 := (mdW hm b1 b2 b3 b4 b5 b6 b7 cI cZ er mo mf mt ma mc ms mq n)) (wr := (lwH h a1 a2 a3 a4 a5 cI cZ cJ ad u.1 u.2.1 u.2.2.1 u.2.2.2.1 u.2.2.2.2 n g)) ⟨hx, hb, hml, hown, hts⟩ (m0_X1_close l D cI cZ hm b1 b2 b3 b4 b5 b6 b7 er mo mf mt ma mc ms mq o f sd c₀ n hmd _ hbd) (kL_X1_close hts 3 0 0 90 ⟨by decide, by decide⟩) hK2 hP hD hS hA [1, 2, 3, 4, 5, 6, 7, 8] [9, 10, 11, 12, 13, 14, 0] rfl rfl (by decide) (by decide) (by decide) (fun _ => rfl) 0 rfl rfl rfl rfl hl.1 rfl (Nat.le_of_ble_eq_true rfl) dL_law_660 ⟨by show cells + 0 ≤ 1046; omega, by show slots + 0 ≤ 11262; omega⟩ (fun r w H locs hu hP hD hS => ?_)
  obtain ⟨hrr, her, hmd'⟩ := hu
  have hP : va_P D cdCl ((lwH h a1 a2 a3 a4 a5 cI cZ cJ ad u.1 u.2.1 u.2.2.1 u.2.2.2.1 u.2.2.2.2 n g) ++ (mdU hm b1 b2 b3 b4 b5 b6 b7 cI cZ n w)) H := hP
  have hD : va_D A ((lwH h a1 a2 a3 a4 a5 cI cZ cJ ad u.1 u.2.1 u.2.2.1 u.2.2.2.1 u.2.2.2.2 n g) ++ (mdU hm b1 b2 b3 b4 b5 b6 b7 cI cZ n w)) := hD
  refine lv_icmp_eq (tgt := 737) hx hb dL_law_663 (by decide) (fun hc => ?_) (fun hc => ?_)
  · refine W.widen (k := cells + 1) (n := slots + 6) (by omega) (by omega) ?_
    exact kk H locs ls ⟨u.1, u.2.1, u.2.2.1, u.2.2.2.1, u.2.2.2.2, g, w.1, w.2.1, w.2.2.1, w.2.2.2.1, w.2.2.2.2.1, w.2.2.2.2.2.1, w.2.2.2.2.2.2.1, w.2.2.2.2.2.2.2, o, f, sd, (cd_cl o f c₀ n), n, hP, hD, hS, hdk', hmd', ((cd_cl_inv hwf hbd n (Nat.le_refl _)).2.1)⟩ (lv_sub hl [0, 1, 2, 3, 4] rfl)
  · exact absurd hrr.symm hc
set_option maxHeartbeats 4000000 in
set_option maxRecDepth 100000 in
/-- open -/
theorem lw_c11 {p : Program} {l : Launch} {e : Env} {s : State} {m : MethodId} {args : Array Value} {below : List Frame} {meth : Method} {c : Code} {Q : State → Prop} {D : va_G} {cI cZ cJ : ClassId} {h a1 a2 a3 a4 a5 ad hm b1 b2 b3 b4 b5 b6 b7 b L : Nat} {xs : Nat → Int32} {A : Nat → Prop} {c0 : Cond} (hx : p.tables.exec = Jvm.exec) (hb : c.code = cL_law) (hml : c.maxLocals = 7) (hown : s.vm.findClass RL = some m.cls) (hts : ∀ w ∈ c0 :: tW, w.before args s = true) (hlt : l.stackTraces = false) (hXS : xt_S s) (hK : va_K D cdCl (lwT cI cZ cJ) s) (hX : va_X b L xs s s.heap) (hbl : b < s.heap.size) (hbA : ¬ A b) (hA : ∀ q, s.heap.size ≤ q → A q) (hA2 : ∀ q, q < s.heap.size → ¬ A q) (hL : L ≤ 1536) (i : Nat) (hi : 3 * i + 3 ≤ L) (cells slots : Nat) (hcl : cells + 1 ≤ 1046) (hsl : slots + 6 ≤ 11262) {H : Heap} {locs : List Loc} {ls : Array Slot} (hI : lwI D cI cZ cJ h a1 a2 a3 a4 a5 ad hm b1 b2 b3 b4 b5 b6 b7 A s.heap H locs) (hl : lv_has ls 7 [(4, .int (nI (3 * i))), (3, .ref ad), (2, .ref hm), (1, .ref h), (0, .ref b)]) (kk : ∀ (H : Heap) (locs : List Loc) (ls : Array Slot), lwI D cI cZ cJ h a1 a2 a3 a4 a5 ad hm b1 b2 b3 b4 b5 b6 b7 A s.heap H locs → lv_has ls 7 [(4, .int (nI (3 * i))), (3, .ref ad), (2, .ref hm), (1, .ref h), (0, .ref b)] → W p l e room_1 s m args below meth c H locs (cells + 1) (slots + 6) Q (F0 m 737 ls [])) : W p l e room_1 s m args below meth c H locs (cells) (slots) Q (F0 m 668 ls []) := by
  obtain ⟨pr, se, rk, ck, cu, g, er, mo, mf, mt, ma, mc, ms, mq, o, f, sd, c₀, n, hP, hD, hS, hdk, hmd, hbd⟩ := hI
  have hn := hdk.1
  have hwf := hdk.2.1
  have hK2 : va_K D cdCl (dkT cI cZ) s := hK.sub [0, 1] rfl
  refine lv_aload_n hx hb dL_law_668 rfl (lv_at hl 3 rfl) ?_
  refine cw_callWi (As := []) (rest := []) (S := dkS) (BW := fun u => (dkU h a1 a2 a3 a4 a5 cI cZ n u)) (W0 := (dkW h a1 a2 a3 a4 a5 cI cZ pr se rk ck cu n)) (wr := lwO cJ ad g ++ (mdW hm b1 b2 b3 b4 b5 b6 b7 cI cZ er mo mf mt ma mc ms mq n)) ⟨hx, hb, hml, hown, hts⟩ (c_X0_open l D cI cZ h a1 a2 a3 a4 a5 pr se rk ck cu o f sd c₀ n hdk _) (kL_X0_open hts 3 0 0 90 ⟨by decide, by decide⟩) hK2 hP hD hS hA [0, 1, 2, 3, 4, 5] [6, 7, 8, 9, 10, 11, 12, 13, 14] rfl rfl (by decide) (by decide) (by decide) (fun _ => rfl) 0 rfl rfl rfl rfl hl.1 rfl (Nat.le_of_ble_eq_true rfl) dL_law_669 ⟨by show cells + 0 ≤ 1046; omega, by show slots + 0 ≤ 11262; omega⟩ (fun r u H locs hu hP hD hS => ?_)
  obtain ⟨rfl, hdk'⟩ := hu
  have hP : va_P D cdCl ((lwO cJ ad g ++ (mdW hm b1 b2 b3 b4 b5 b6 b7 cI cZ er mo mf mt ma mc ms mq n)) ++ (dkU h a1 a2 a3 a4 a5 cI cZ n u)) H := hP
  have hD : va_D A ((lwO cJ ad g ++ (mdW hm b1 b2 b3 b4 b5 b6 b7 cI cZ er mo mf mt ma mc ms mq n)) ++ (dkU h a1 a2 a3 a4 a5 cI cZ n u)) := hD
  refine lv_aload_n hx hb dL_law_672 rfl (lv_at hl 2 rfl) ?_
  refine cw_callWi (As := []) (rest := [.int (nI (cd_s6 (cd_op o f c₀ n)))]) (S := mdS) (BW := fun w => (mdU hm b1 b2 b3 b4 b5 b6 b7 cI cZ n w)) (W0 := (mdW hm b1 b2 b3 b4 b5 b6 b7 cI cZ er mo mf mt ma mc ms mq n)) (wr := (lwH h a1 a2 a3 a4 a5 cI cZ cJ ad u.1 u.2.1 u.2.2.1 u.2.2.2.1 u.2.2.2.2 n g)) ⟨hx, hb, hml, hown, hts⟩ (m0_X1_open l D cI cZ hm b1 b2 b3 b4 b5 b6 b7 er mo mf mt ma mc ms mq o f sd c₀ n hmd _ hbd) (kL_X1_open hts 3 0 0 90 ⟨by decide, by decide⟩) hK2 hP hD hS hA [1, 2, 3, 4, 5, 6, 7, 8] [9, 10, 11, 12, 13, 14, 0] rfl rfl (by decide) (by decide) (by decide) (fun _ => rfl) 0 rfl rfl rfl rfl hl.1 rfl (Nat.le_of_ble_eq_true rfl) dL_law_673 ⟨by show cells + 0 ≤ 1046; omega, by show slots + 0 ≤ 11262; omega⟩ (fun r w H locs hu hP hD hS => ?_)
  obtain ⟨hrr, her, hmd'⟩ := hu
  have hP : va_P D cdCl ((lwH h a1 a2 a3 a4 a5 cI cZ cJ ad u.1 u.2.1 u.2.2.1 u.2.2.2.1 u.2.2.2.2 n g) ++ (mdU hm b1 b2 b3 b4 b5 b6 b7 cI cZ n w)) H := hP
  have hD : va_D A ((lwH h a1 a2 a3 a4 a5 cI cZ cJ ad u.1 u.2.1 u.2.2.1 u.2.2.2.1 u.2.2.2.2 n g) ++ (mdU hm b1 b2 b3 b4 b5 b6 b7 cI cZ n w)) := hD
  refine lv_icmp_eq (tgt := 737) hx hb dL_law_676 (by decide) (fun hc => ?_) (fun hc => ?_)
  · refine W.widen (k := cells + 1) (n := slots + 6) (by omega) (by omega) ?_
    exact kk H locs ls ⟨u.1, u.2.1, u.2.2.1, u.2.2.2.1, u.2.2.2.2, g, w.1, w.2.1, w.2.2.1, w.2.2.2.1, w.2.2.2.2.1, w.2.2.2.2.2.1, w.2.2.2.2.2.2.1, w.2.2.2.2.2.2.2, o, f, sd, (cd_op o f c₀ n), n, hP, hD, hS, hdk', hmd', (fun p hp => Nat.le_trans ((cd_op_inv hwf n (Nat.le_refl _)).1 p) (hbd p hp))⟩ (lv_sub hl [0, 1, 2, 3, 4] rfl)
  · exact absurd hrr.symm hc
set_option maxHeartbeats 4000000 in
set_option maxRecDepth 100000 in
/-- count -/
theorem lw_c12 {p : Program} {l : Launch} {e : Env} {s : State} {m : MethodId} {args : Array Value} {below : List Frame} {meth : Method} {c : Code} {Q : State → Prop} {D : va_G} {cI cZ cJ : ClassId} {h a1 a2 a3 a4 a5 ad hm b1 b2 b3 b4 b5 b6 b7 b L : Nat} {xs : Nat → Int32} {A : Nat → Prop} {c0 : Cond} (hx : p.tables.exec = Jvm.exec) (hb : c.code = cL_law) (hml : c.maxLocals = 7) (hown : s.vm.findClass RL = some m.cls) (hts : ∀ w ∈ c0 :: tW, w.before args s = true) (hlt : l.stackTraces = false) (hXS : xt_S s) (hK : va_K D cdCl (lwT cI cZ cJ) s) (hX : va_X b L xs s s.heap) (hbl : b < s.heap.size) (hbA : ¬ A b) (hA : ∀ q, s.heap.size ≤ q → A q) (hA2 : ∀ q, q < s.heap.size → ¬ A q) (hL : L ≤ 1536) (i : Nat) (hi : 3 * i + 3 ≤ L) (cells slots : Nat) (hcl : cells + 1 ≤ 1046) (hsl : slots + 6 ≤ 11262) {H : Heap} {locs : List Loc} {ls : Array Slot} (hI : lwI D cI cZ cJ h a1 a2 a3 a4 a5 ad hm b1 b2 b3 b4 b5 b6 b7 A s.heap H locs) (hl : lv_has ls 7 [(4, .int (nI (3 * i))), (3, .ref ad), (2, .ref hm), (1, .ref h), (0, .ref b)]) (kk : ∀ (H : Heap) (locs : List Loc) (ls : Array Slot), lwI D cI cZ cJ h a1 a2 a3 a4 a5 ad hm b1 b2 b3 b4 b5 b6 b7 A s.heap H locs → lv_has ls 7 [(4, .int (nI (3 * i))), (3, .ref ad), (2, .ref hm), (1, .ref h), (0, .ref b)] → W p l e room_1 s m args below meth c H locs (cells + 1) (slots + 6) Q (F0 m 737 ls [])) : W p l e room_1 s m args below meth c H locs (cells) (slots) Q (F0 m 681 ls []) := by
  obtain ⟨pr, se, rk, ck, cu, g, er, mo, mf, mt, ma, mc, ms, mq, o, f, sd, c₀, n, hP, hD, hS, hdk, hmd, hbd⟩ := hI
  have hn := hdk.1
  have hwf := hdk.2.1
  have hK2 : va_K D cdCl (dkT cI cZ) s := hK.sub [0, 1] rfl
  obtain ⟨x, hx1⟩ : ∃ x, xs (3 * i + 1) = x := ⟨_, rfl⟩
  have tail : ∀ (kc : Nat) (r : Int32) {pr se rk ck cu : Nat → Int32} {g : Nat → Int64} {er : Int32} {mo mf mt ma mc ms mq : Nat → Int32} {o f : Nat → Nat} {sd : Nat → Bool} {c₀ : Nat → Nat} {n : Nat} {H : Heap} {locs : List Loc} {ls : Array Slot}, kc < 3 → va_P D cdCl ((lwH h a1 a2 a3 a4 a5 cI cZ cJ ad pr se rk ck cu n g) ++ (mdW hm b1 b2 b3 b4 b5 b6 b7 cI cZ er mo mf mt ma mc ms mq n)) H → va_D A ((lwH h a1 a2 a3 a4 a5 cI cZ cJ ad pr se rk ck cu n g) ++ (mdW hm b1 b2 b3 b4 b5 b6 b7 cI cZ er mo mf mt ma mc ms mq n)) → va_S A s.heap H locs → cd_dk o f sd c₀ n pr se rk ck cu → cd_md o f sd c₀ n mo mf mc ms → (∀ p, p < 6 → c₀ p ≤ cd_mn o p n) → er = nI kc → (kc = 0 → g 0 = r.toInt64) → lv_has ls 7 [(5, .int (nI kc)), (4, .int (nI (3 * i))), (3, .ref ad), (2, .ref hm), (1, .ref h), (0, .ref b)] → W p l e room_1 s m args below meth c H locs (cells + 1) (slots + 6) Q (F0 m 704 ls [.int r]) := by
    intro kc r pr se rk ck cu g er mo mf mt ma mc ms mq o f sd c₀ n H locs ls h3 hP hD hS hdk hmd hbd her hg hl
    refine lv_istore hx hb dL_law_704 hl (by decide) rfl (fun ls hl => ?_)
    have hl : lv_has ls 7 [(6, .int r), (5, .int (nI kc)), (4, .int (nI (3 * i))), (3, .ref ad), (2, .ref hm), (1, .ref h), (0, .ref b)] := hl
    refine lv_aload_n hx hb dL_law_706 rfl (lv_at hl 4 rfl) ?_
    have hPm := hP.sub (ws' := (mdW hm b1 b2 b3 b4 b5 b6 b7 cI cZ er mo mf mt ma mc ms mq n)) [7, 8, 9, 10, 11, 12, 13, 14] rfl
    refine cw_callR (As := []) (rest := []) ⟨hx, hb, hml, hown, hts⟩ (c_X1_thrown l D cI cZ hm b1 b2 b3 b4 b5 b6 b7 er mo mf mt ma mc ms mq o f sd c₀ n hmd) (kL_X1_thrown hts 0 0 0 0 ⟨by decide, by decide⟩) hK2 hPm 0 rfl rfl rfl rfl hl.1 rfl (Nat.le_of_ble_eq_true rfl) dL_law_707 ⟨by show cells + 1 + 0 ≤ 1046; omega, by show slots + 6 + 0 ≤ 11262; omega⟩ ?_
    refine cw_topi (y := nI kc) her ?_
    refine lv_iload hx hb dL_law_710 (lv_at hl 1 rfl) ?_
    refine cw_eq (tgt := 717) (x := kc) (y := kc) hx hb dL_law_712 (by decide) (by omega) (by omega) (fun hc => ?_) (fun hc => ?_)
    · refine lv_iload hx hb dL_law_717 (lv_at hl 1 rfl) ?_
      refine lv_if_ne (tgt := 734) hx hb dL_law_719 (by decide) (fun hc2 => ?_) (fun hc2 => ?_)
      · refine lv_goto (tgt := 737) hx hb dL_law_734 (by decide) ?_
        exact kk H locs ls ⟨pr, se, rk, ck, cu, g, er, mo, mf, mt, ma, mc, ms, mq, o, f, sd, c₀, n, hP, hD, hS, hdk, hmd, hbd⟩ (lv_sub hl [2, 3, 4, 5, 6] rfl)
      · have hk0 : kc = 0 := (nI_eq (b := 0) (by omega) (by decide)).mp hc2
        replace hg := hg hk0
        refine lv_aload_n hx hb dL_law_722 rfl (lv_at hl 3 rfl) ?_
        refine lv_iconst (v := nI 0) hx hb dL_law_723 (by decide) ?_
        refine va_lald hx hb hK hP 6 2 rfl rfl (vp_in_nI (by decide) (by decide)) dL_law_724 ?_
        refine cw_topl (y := r.toInt64) (by rw [nI_clamp (by decide)]; exact hg) ?_
        refine lv_iload hx hb dL_law_725 (lv_at hl 0 rfl) ?_
        refine lv_i2l hx hb dL_law_727 rfl ?_
        refine W.lcmp hx hb dL_law_728 ?_
        refine cw_topi (y := 0) (lw_cmp _) ?_
        refine lv_if_eq (tgt := 734) hx hb dL_law_729 (by decide) (fun hc3 => ?_) (fun hc3 => ?_)
        · refine lv_goto (tgt := 737) hx hb dL_law_734 (by decide) ?_
          exact kk H locs ls ⟨pr, se, rk, ck, cu, g, er, mo, mf, mt, ma, mc, ms, mq, o, f, sd, c₀, n, hP, hD, hS, hdk, hmd, hbd⟩ (lv_sub hl [2, 3, 4, 5, 6] rfl)
        · exact absurd rfl hc3
    · exact absurd rfl hc
  refine lv_aload_n hx hb dL_law_681 rfl (lv_at hl 3 rfl) ?_
  refine lv_aload_n hx hb dL_law_682 rfl (lv_at hl 4 rfl) ?_
  refine lv_iload hx hb dL_law_683 (lv_at hl 0 rfl) ?_
  refine lv_iconst (v := nI 1) hx hb dL_law_685 (by decide) ?_
  refine lv_iadd hx hb dL_law_686 ?_
  refine cw_topi (y := nI ((3 * i) + 1)) (nI_add _ _) ?_
  refine lr_scr hx hb hX hbl hbA hS (k := ((3 * i) + 1)) (v := x) (by omega) hL hx1 dL_law_687 ?_
  refine lv_aload_n hx hb dL_law_688 rfl (lv_at hl 1 rfl) ?_
  rcases cd_ix x (n := 4) (by decide) with ⟨j, hj, rfl⟩ | hbad
  · rcases (show j = 0 ∨ j = 1 ∨ j = 2 ∨ j = 3 by omega) with rfl | rfl | rfl | rfl
    · refine lr_call (As := [.ref h, .int (nI 0), .ref ad]) (rest := []) (S := Nat → Int64) (BW := fun u => (lwH h a1 a2 a3 a4 a5 cI cZ cJ ad pr se rk ck cu n u)) (W0 := (lwH h a1 a2 a3 a4 a5 cI cZ cJ ad pr se rk ck cu n g)) (wr := (mdW hm b1 b2 b3 b4 b5 b6 b7 cI cZ er mo mf mt ma mc ms mq n)) ⟨hx, hb, hml, hown, hts⟩ (h0_L_count l D cI cZ cJ h a1 a2 a3 a4 a5 ad pr se rk ck cu n g _ (nI 0) _ (c_X0_count0 l D cI cZ h a1 a2 a3 a4 a5 pr se rk ck cu o f sd c₀ n hdk )) (kL_L_count hts ⟨by decide, by decide⟩) hXS (fun q hq => hS.2.1 q hq (hA2 q hq)) hK hP hD hS hA [0, 1, 2, 3, 4, 5, 6] [7, 8, 9, 10, 11, 12, 13, 14] rfl rfl (by decide) (by decide) (by decide) (fun _ => rfl) rfl hl.1 rfl (Nat.le_of_ble_eq_true rfl) dL_law_689 ⟨hcl, hsl⟩ (fun r u H locs hu hP hD hS => ?_)
      obtain ⟨rfl, hg⟩ := hu
      have hP : va_P D cdCl ((mdW hm b1 b2 b3 b4 b5 b6 b7 cI cZ er mo mf mt ma mc ms mq n) ++ (lwH h a1 a2 a3 a4 a5 cI cZ cJ ad pr se rk ck cu n u)) H := hP
      have hD : va_D A ((mdW hm b1 b2 b3 b4 b5 b6 b7 cI cZ er mo mf mt ma mc ms mq n) ++ (lwH h a1 a2 a3 a4 a5 cI cZ cJ ad pr se rk ck cu n u)) := hD
      refine lv_istore hx hb dL_law_692 hl (by decide) rfl (fun ls hl => ?_)
      have hl : lv_has ls 7 [(5, .int (nI 0)), (4, .int (nI (3 * i))), (3, .ref ad), (2, .ref hm), (1, .ref h), (0, .ref b)] := hl
      refine lv_aload_n hx hb dL_law_694 rfl (lv_at hl 3 rfl) ?_
      refine lv_aload_n hx hb dL_law_695 rfl (lv_at hl 5 rfl) ?_
      refine lv_iload hx hb dL_law_696 (lv_at hl 1 rfl) ?_
      refine lv_iconst (v := nI 1) hx hb dL_law_698 (by decide) ?_
      refine lv_iadd hx hb dL_law_699 ?_
      refine cw_topi (y := nI ((3 * i) + 1)) (nI_add _ _) ?_
      refine lr_scr hx hb hX hbl hbA hS (k := ((3 * i) + 1)) (v := (nI 0)) (by omega) hL hx1 dL_law_700 ?_
      refine cw_callWi (As := [.int (nI 0)]) (rest := []) (S := mdS) (BW := fun w => (mdU hm b1 b2 b3 b4 b5 b6 b7 cI cZ n w)) (W0 := (mdW hm b1 b2 b3 b4 b5 b6 b7 cI cZ er mo mf mt ma mc ms mq n)) (wr := (lwH h a1 a2 a3 a4 a5 cI cZ cJ ad pr se rk ck cu n u)) ⟨hx, hb, hml, hown, hts⟩ (m0_X1_count l D cI cZ hm b1 b2 b3 b4 b5 b6 b7 er mo mf mt ma mc ms mq o f sd c₀ n hmd _ ) (kL_X1_count hts 3 0 0 90 ⟨by decide, by decide⟩) hK2 hP hD hS hA [0, 1, 2, 3, 4, 5, 6, 7] [8, 9, 10, 11, 12, 13, 14] rfl rfl (by decide) (by decide) (by decide) (fun _ => rfl) 0 rfl rfl rfl rfl hl.1 rfl (Nat.le_of_ble_eq_true rfl) dL_law_701 ⟨by show cells + 1 + 0 ≤ 1046; omega, by show slots + 6 + 0 ≤ 11262; omega⟩ (fun r w H locs hu hP hD hS => ?_)
      obtain ⟨rfl, her, hmd'⟩ := hu
      have hP : va_P D cdCl ((lwH h a1 a2 a3 a4 a5 cI cZ cJ ad pr se rk ck cu n u) ++ (mdU hm b1 b2 b3 b4 b5 b6 b7 cI cZ n w)) H := hP
      have hD : va_D A ((lwH h a1 a2 a3 a4 a5 cI cZ cJ ad pr se rk ck cu n u) ++ (mdU hm b1 b2 b3 b4 b5 b6 b7 cI cZ n w)) := hD
      exact tail 0 _ (by decide) hP hD hS hdk hmd' hbd her (fun _ => hg) hl
    · refine lr_call (As := [.ref h, .int (nI 1), .ref ad]) (rest := []) (S := Nat → Int64) (BW := fun u => (lwH h a1 a2 a3 a4 a5 cI cZ cJ ad pr se rk ck cu n u)) (W0 := (lwH h a1 a2 a3 a4 a5 cI cZ cJ ad pr se rk ck cu n g)) (wr := (mdW hm b1 b2 b3 b4 b5 b6 b7 cI cZ er mo mf mt ma mc ms mq n)) ⟨hx, hb, hml, hown, hts⟩ (h0_L_count l D cI cZ cJ h a1 a2 a3 a4 a5 ad pr se rk ck cu n g _ (nI 1) _ (c_X0_count1 l D cI cZ h a1 a2 a3 a4 a5 pr se rk ck cu o f sd c₀ n hdk )) (kL_L_count hts ⟨by decide, by decide⟩) hXS (fun q hq => hS.2.1 q hq (hA2 q hq)) hK hP hD hS hA [0, 1, 2, 3, 4, 5, 6] [7, 8, 9, 10, 11, 12, 13, 14] rfl rfl (by decide) (by decide) (by decide) (fun _ => rfl) rfl hl.1 rfl (Nat.le_of_ble_eq_true rfl) dL_law_689 ⟨hcl, hsl⟩ (fun r u H locs hu hP hD hS => ?_)
      obtain ⟨rfl, hg⟩ := hu
      have hP : va_P D cdCl ((mdW hm b1 b2 b3 b4 b5 b6 b7 cI cZ er mo mf mt ma mc ms mq n) ++ (lwH h a1 a2 a3 a4 a5 cI cZ cJ ad pr se rk ck cu n u)) H := hP
      have hD : va_D A ((mdW hm b1 b2 b3 b4 b5 b6 b7 cI cZ er mo mf mt ma mc ms mq n) ++ (lwH h a1 a2 a3 a4 a5 cI cZ cJ ad pr se rk ck cu n u)) := hD
      refine lv_istore hx hb dL_law_692 hl (by decide) rfl (fun ls hl => ?_)
      have hl : lv_has ls 7 [(5, .int (nI 0)), (4, .int (nI (3 * i))), (3, .ref ad), (2, .ref hm), (1, .ref h), (0, .ref b)] := hl
      refine lv_aload_n hx hb dL_law_694 rfl (lv_at hl 3 rfl) ?_
      refine lv_aload_n hx hb dL_law_695 rfl (lv_at hl 5 rfl) ?_
      refine lv_iload hx hb dL_law_696 (lv_at hl 1 rfl) ?_
      refine lv_iconst (v := nI 1) hx hb dL_law_698 (by decide) ?_
      refine lv_iadd hx hb dL_law_699 ?_
      refine cw_topi (y := nI ((3 * i) + 1)) (nI_add _ _) ?_
      refine lr_scr hx hb hX hbl hbA hS (k := ((3 * i) + 1)) (v := (nI 1)) (by omega) hL hx1 dL_law_700 ?_
      refine cw_callWi (As := [.int (nI 1)]) (rest := []) (S := mdS) (BW := fun w => (mdU hm b1 b2 b3 b4 b5 b6 b7 cI cZ n w)) (W0 := (mdW hm b1 b2 b3 b4 b5 b6 b7 cI cZ er mo mf mt ma mc ms mq n)) (wr := (lwH h a1 a2 a3 a4 a5 cI cZ cJ ad pr se rk ck cu n u)) ⟨hx, hb, hml, hown, hts⟩ (m1_X1_count l D cI cZ hm b1 b2 b3 b4 b5 b6 b7 er mo mf mt ma mc ms mq o f sd c₀ n hmd _ ) (kL_X1_count hts 3 0 0 90 ⟨by decide, by decide⟩) hK2 hP hD hS hA [0, 1, 2, 3, 4, 5, 6, 7] [8, 9, 10, 11, 12, 13, 14] rfl rfl (by decide) (by decide) (by decide) (fun _ => rfl) 0 rfl rfl rfl rfl hl.1 rfl (Nat.le_of_ble_eq_true rfl) dL_law_701 ⟨by show cells + 1 + 0 ≤ 1046; omega, by show slots + 6 + 0 ≤ 11262; omega⟩ (fun r w H locs hu hP hD hS => ?_)
      obtain ⟨rfl, her, hmd'⟩ := hu
      have hP : va_P D cdCl ((lwH h a1 a2 a3 a4 a5 cI cZ cJ ad pr se rk ck cu n u) ++ (mdU hm b1 b2 b3 b4 b5 b6 b7 cI cZ n w)) H := hP
      have hD : va_D A ((lwH h a1 a2 a3 a4 a5 cI cZ cJ ad pr se rk ck cu n u) ++ (mdU hm b1 b2 b3 b4 b5 b6 b7 cI cZ n w)) := hD
      exact tail 0 _ (by decide) hP hD hS hdk hmd' hbd her (fun _ => hg) hl
    · refine lr_call (As := [.ref h, .int (nI 2), .ref ad]) (rest := []) (S := Nat → Int64) (BW := fun u => (lwH h a1 a2 a3 a4 a5 cI cZ cJ ad pr se rk ck cu n u)) (W0 := (lwH h a1 a2 a3 a4 a5 cI cZ cJ ad pr se rk ck cu n g)) (wr := (mdW hm b1 b2 b3 b4 b5 b6 b7 cI cZ er mo mf mt ma mc ms mq n)) ⟨hx, hb, hml, hown, hts⟩ (h0_L_count l D cI cZ cJ h a1 a2 a3 a4 a5 ad pr se rk ck cu n g _ (nI 2) _ (c_X0_count2 l D cI cZ h a1 a2 a3 a4 a5 pr se rk ck cu o f sd c₀ n hdk )) (kL_L_count hts ⟨by decide, by decide⟩) hXS (fun q hq => hS.2.1 q hq (hA2 q hq)) hK hP hD hS hA [0, 1, 2, 3, 4, 5, 6] [7, 8, 9, 10, 11, 12, 13, 14] rfl rfl (by decide) (by decide) (by decide) (fun _ => rfl) rfl hl.1 rfl (Nat.le_of_ble_eq_true rfl) dL_law_689 ⟨hcl, hsl⟩ (fun r u H locs hu hP hD hS => ?_)
      obtain ⟨rfl, hg⟩ := hu
      have hP : va_P D cdCl ((mdW hm b1 b2 b3 b4 b5 b6 b7 cI cZ er mo mf mt ma mc ms mq n) ++ (lwH h a1 a2 a3 a4 a5 cI cZ cJ ad pr se rk ck cu n u)) H := hP
      have hD : va_D A ((mdW hm b1 b2 b3 b4 b5 b6 b7 cI cZ er mo mf mt ma mc ms mq n) ++ (lwH h a1 a2 a3 a4 a5 cI cZ cJ ad pr se rk ck cu n u)) := hD
      refine lv_istore hx hb dL_law_692 hl (by decide) rfl (fun ls hl => ?_)
      have hl : lv_has ls 7 [(5, .int (nI 0)), (4, .int (nI (3 * i))), (3, .ref ad), (2, .ref hm), (1, .ref h), (0, .ref b)] := hl
      refine lv_aload_n hx hb dL_law_694 rfl (lv_at hl 3 rfl) ?_
      refine lv_aload_n hx hb dL_law_695 rfl (lv_at hl 5 rfl) ?_
      refine lv_iload hx hb dL_law_696 (lv_at hl 1 rfl) ?_
      refine lv_iconst (v := nI 1) hx hb dL_law_698 (by decide) ?_
      refine lv_iadd hx hb dL_law_699 ?_
      refine cw_topi (y := nI ((3 * i) + 1)) (nI_add _ _) ?_
      refine lr_scr hx hb hX hbl hbA hS (k := ((3 * i) + 1)) (v := (nI 2)) (by omega) hL hx1 dL_law_700 ?_
      refine cw_callWi (As := [.int (nI 2)]) (rest := []) (S := mdS) (BW := fun w => (mdU hm b1 b2 b3 b4 b5 b6 b7 cI cZ n w)) (W0 := (mdW hm b1 b2 b3 b4 b5 b6 b7 cI cZ er mo mf mt ma mc ms mq n)) (wr := (lwH h a1 a2 a3 a4 a5 cI cZ cJ ad pr se rk ck cu n u)) ⟨hx, hb, hml, hown, hts⟩ (m2_X1_count l D cI cZ hm b1 b2 b3 b4 b5 b6 b7 er mo mf mt ma mc ms mq o f sd c₀ n hmd _ ) (kL_X1_count hts 3 0 0 90 ⟨by decide, by decide⟩) hK2 hP hD hS hA [0, 1, 2, 3, 4, 5, 6, 7] [8, 9, 10, 11, 12, 13, 14] rfl rfl (by decide) (by decide) (by decide) (fun _ => rfl) 0 rfl rfl rfl rfl hl.1 rfl (Nat.le_of_ble_eq_true rfl) dL_law_701 ⟨by show cells + 1 + 0 ≤ 1046; omega, by show slots + 6 + 0 ≤ 11262; omega⟩ (fun r w H locs hu hP hD hS => ?_)
      obtain ⟨rfl, her, hmd'⟩ := hu
      have hP : va_P D cdCl ((lwH h a1 a2 a3 a4 a5 cI cZ cJ ad pr se rk ck cu n u) ++ (mdU hm b1 b2 b3 b4 b5 b6 b7 cI cZ n w)) H := hP
      have hD : va_D A ((lwH h a1 a2 a3 a4 a5 cI cZ cJ ad pr se rk ck cu n u) ++ (mdU hm b1 b2 b3 b4 b5 b6 b7 cI cZ n w)) := hD
      exact tail 0 _ (by decide) hP hD hS hdk hmd' hbd her (fun _ => hg) hl
    · refine lr_call (As := [.ref h, .int (nI 3), .ref ad]) (rest := []) (S := Nat → Int64) (BW := fun u => (lwH h a1 a2 a3 a4 a5 cI cZ cJ ad pr se rk ck cu n u)) (W0 := (lwH h a1 a2 a3 a4 a5 cI cZ cJ ad pr se rk ck cu n g)) (wr := (mdW hm b1 b2 b3 b4 b5 b6 b7 cI cZ er mo mf mt ma mc ms mq n)) ⟨hx, hb, hml, hown, hts⟩ (h0_L_count l D cI cZ cJ h a1 a2 a3 a4 a5 ad pr se rk ck cu n g _ (nI 3) _ (c_X0_count3 l D cI cZ h a1 a2 a3 a4 a5 pr se rk ck cu o f sd c₀ n hdk )) (kL_L_count hts ⟨by decide, by decide⟩) hXS (fun q hq => hS.2.1 q hq (hA2 q hq)) hK hP hD hS hA [0, 1, 2, 3, 4, 5, 6] [7, 8, 9, 10, 11, 12, 13, 14] rfl rfl (by decide) (by decide) (by decide) (fun _ => rfl) rfl hl.1 rfl (Nat.le_of_ble_eq_true rfl) dL_law_689 ⟨hcl, hsl⟩ (fun r u H locs hu hP hD hS => ?_)
      obtain ⟨rfl, hg⟩ := hu
      have hP : va_P D cdCl ((mdW hm b1 b2 b3 b4 b5 b6 b7 cI cZ er mo mf mt ma mc ms mq n) ++ (lwH h a1 a2 a3 a4 a5 cI cZ cJ ad pr se rk ck cu n u)) H := hP
      have hD : va_D A ((mdW hm b1 b2 b3 b4 b5 b6 b7 cI cZ er mo mf mt ma mc ms mq n) ++ (lwH h a1 a2 a3 a4 a5 cI cZ cJ ad pr se rk ck cu n u)) := hD
      refine lv_istore hx hb dL_law_692 hl (by decide) rfl (fun ls hl => ?_)
      have hl : lv_has ls 7 [(5, .int (nI 0)), (4, .int (nI (3 * i))), (3, .ref ad), (2, .ref hm), (1, .ref h), (0, .ref b)] := hl
      refine lv_aload_n hx hb dL_law_694 rfl (lv_at hl 3 rfl) ?_
      refine lv_aload_n hx hb dL_law_695 rfl (lv_at hl 5 rfl) ?_
      refine lv_iload hx hb dL_law_696 (lv_at hl 1 rfl) ?_
      refine lv_iconst (v := nI 1) hx hb dL_law_698 (by decide) ?_
      refine lv_iadd hx hb dL_law_699 ?_
      refine cw_topi (y := nI ((3 * i) + 1)) (nI_add _ _) ?_
      refine lr_scr hx hb hX hbl hbA hS (k := ((3 * i) + 1)) (v := (nI 3)) (by omega) hL hx1 dL_law_700 ?_
      refine cw_callWi (As := [.int (nI 3)]) (rest := []) (S := mdS) (BW := fun w => (mdU hm b1 b2 b3 b4 b5 b6 b7 cI cZ n w)) (W0 := (mdW hm b1 b2 b3 b4 b5 b6 b7 cI cZ er mo mf mt ma mc ms mq n)) (wr := (lwH h a1 a2 a3 a4 a5 cI cZ cJ ad pr se rk ck cu n u)) ⟨hx, hb, hml, hown, hts⟩ (m3_X1_count l D cI cZ hm b1 b2 b3 b4 b5 b6 b7 er mo mf mt ma mc ms mq o f sd c₀ n hmd _ hbd) (kL_X1_count hts 3 0 0 90 ⟨by decide, by decide⟩) hK2 hP hD hS hA [0, 1, 2, 3, 4, 5, 6, 7] [8, 9, 10, 11, 12, 13, 14] rfl rfl (by decide) (by decide) (by decide) (fun _ => rfl) 0 rfl rfl rfl rfl hl.1 rfl (Nat.le_of_ble_eq_true rfl) dL_law_701 ⟨by show cells + 1 + 0 ≤ 1046; omega, by show slots + 6 + 0 ≤ 11262; omega⟩ (fun r w H locs hu hP hD hS => ?_)
      obtain ⟨rfl, her, hmd'⟩ := hu
      have hP : va_P D cdCl ((lwH h a1 a2 a3 a4 a5 cI cZ cJ ad pr se rk ck cu n u) ++ (mdU hm b1 b2 b3 b4 b5 b6 b7 cI cZ n w)) H := hP
      have hD : va_D A ((lwH h a1 a2 a3 a4 a5 cI cZ cJ ad pr se rk ck cu n u) ++ (mdU hm b1 b2 b3 b4 b5 b6 b7 cI cZ n w)) := hD
      exact tail 0 _ (by decide) hP hD hS hdk hmd' hbd her (fun _ => hg) hl
  · refine lr_call (As := [.ref h, .int x, .ref ad]) (rest := []) (S := Unit) (BW := fun _ => (lwH h a1 a2 a3 a4 a5 cI cZ cJ ad pr se rk ck cu n g)) (W0 := (lwH h a1 a2 a3 a4 a5 cI cZ cJ ad pr se rk ck cu n g)) (wr := (mdW hm b1 b2 b3 b4 b5 b6 b7 cI cZ er mo mf mt ma mc ms mq n)) ⟨hx, hb, hml, hown, hts⟩ (hx1_L_count l D cI cZ cJ h a1 a2 a3 a4 a5 ad pr se rk ck cu n g _ x (x_X0_count l D cI cZ h a1 a2 a3 a4 a5 pr se rk ck cu o f sd c₀ n hdk hlt x hbad)) (kL_L_count hts ⟨by decide, by decide⟩) hXS (fun q hq => hS.2.1 q hq (hA2 q hq)) hK hP hD hS hA [0, 1, 2, 3, 4, 5, 6] [7, 8, 9, 10, 11, 12, 13, 14] rfl rfl (by decide) (by decide) (by decide) (fun _ => rfl) rfl hl.1 rfl (Nat.le_of_ble_eq_true rfl) dL_law_689 ⟨hcl, hsl⟩ (fun r u H locs hu hP hD hS => ?_)
    obtain rfl : r = nI 1 := hu
    have hP : va_P D cdCl ((mdW hm b1 b2 b3 b4 b5 b6 b7 cI cZ er mo mf mt ma mc ms mq n) ++ (lwH h a1 a2 a3 a4 a5 cI cZ cJ ad pr se rk ck cu n g)) H := hP
    have hD : va_D A ((mdW hm b1 b2 b3 b4 b5 b6 b7 cI cZ er mo mf mt ma mc ms mq n) ++ (lwH h a1 a2 a3 a4 a5 cI cZ cJ ad pr se rk ck cu n g)) := hD
    refine lv_istore hx hb dL_law_692 hl (by decide) rfl (fun ls hl => ?_)
    have hl : lv_has ls 7 [(5, .int (nI 1)), (4, .int (nI (3 * i))), (3, .ref ad), (2, .ref hm), (1, .ref h), (0, .ref b)] := hl
    refine lv_aload_n hx hb dL_law_694 rfl (lv_at hl 3 rfl) ?_
    refine lv_aload_n hx hb dL_law_695 rfl (lv_at hl 5 rfl) ?_
    refine lv_iload hx hb dL_law_696 (lv_at hl 1 rfl) ?_
    refine lv_iconst (v := nI 1) hx hb dL_law_698 (by decide) ?_
    refine lv_iadd hx hb dL_law_699 ?_
    refine cw_topi (y := nI ((3 * i) + 1)) (nI_add _ _) ?_
    refine lr_scr hx hb hX hbl hbA hS (k := ((3 * i) + 1)) (v := x) (by omega) hL hx1 dL_law_700 ?_
    refine cw_callWi (As := [.int x]) (rest := []) (S := mdS) (BW := fun w => (mdU hm b1 b2 b3 b4 b5 b6 b7 cI cZ n w)) (W0 := (mdW hm b1 b2 b3 b4 b5 b6 b7 cI cZ er mo mf mt ma mc ms mq n)) (wr := (lwH h a1 a2 a3 a4 a5 cI cZ cJ ad pr se rk ck cu n g)) ⟨hx, hb, hml, hown, hts⟩ (mx_X1_count l D cI cZ hm b1 b2 b3 b4 b5 b6 b7 er mo mf mt ma mc ms mq o f sd c₀ n hmd _ x hbad) (kL_X1_count hts 3 0 0 90 ⟨by decide, by decide⟩) hK2 hP hD hS hA [0, 1, 2, 3, 4, 5, 6, 7] [8, 9, 10, 11, 12, 13, 14] rfl rfl (by decide) (by decide) (by decide) (fun _ => rfl) 0 rfl rfl rfl rfl hl.1 rfl (Nat.le_of_ble_eq_true rfl) dL_law_701 ⟨by show cells + 1 + 0 ≤ 1046; omega, by show slots + 6 + 0 ≤ 11262; omega⟩ (fun r w H locs hu hP hD hS => ?_)
    obtain ⟨her, hmd'⟩ := hu
    have hP : va_P D cdCl ((lwH h a1 a2 a3 a4 a5 cI cZ cJ ad pr se rk ck cu n g) ++ (mdU hm b1 b2 b3 b4 b5 b6 b7 cI cZ n w)) H := hP
    have hD : va_D A ((lwH h a1 a2 a3 a4 a5 cI cZ cJ ad pr se rk ck cu n g) ++ (mdU hm b1 b2 b3 b4 b5 b6 b7 cI cZ n w)) := hD
    exact tail 1 _ (by decide) hP hD hS hdk hmd' hbd her (fun z => absurd z (by decide)) hl
