/-! CALLS THAT WRITE: the callee's world is a part of the caller's; behind the call the rest, unchanged, and the callee's new world -/
section CX
variable {p : Program} {l : Launch} {e : Env} {R : Room} {s : State} {m : MethodId} {args : Array Value} {below : List Frame} {meth : Method} {c : Code} {H : Heap} {locs : List Loc} {cells slots : Nat} {Q : State → Prop}
variable {cc : ByteArray} {pc : Nat} {ls : Array Slot} {rest : List Value} {D : va_G} {cl : List vw_C} {A : Nat → Prop} {a : Nat} {tys : List (ClassId × FieldType)} {H0 : Heap}
/-- the start of a callee that writes its world -/
abbrev cw_Pc (D : va_G) (cl : List vw_C) (tys : List (ClassId × FieldType)) (W0 : va_W) (sz : Nat) (av : List Value) : Array Value → State → Prop := va_Pc av (fun U => U.heap.size = sz ∧ va_P D cl W0 U.heap ∧ va_K D cl tys U ∧ va_D (fun _ => True) W0)
theorem cw_preW {W0 : va_W} {C : String} {As : List Value} {q0 ci : Nat} {q : vw_C} {fs : List Value} (hK : va_K D cl tys s) (hP0 : va_P D cl W0 H) (hD0 : va_D (fun _ => True) W0) (he : W0[q0]? = some (a, .inr (ci, fs))) (hc : cl[ci]? = some q) (hC : q.1 = C) :
    PreV s H C a (cw_Pc D cl tys W0 H.size (.ref a :: As)) As := by
  subst hC
  exact ⟨fun a U g mk q => ⟨q.1, q.2.1, q.2.2.1, va_K.moved (u := U) (U := U.calling g mk a) (Vm.Alike.refl U.vm) q.2.2.2.1, q.2.2.2.2⟩, va_recv hK hP0 hc he, fun U hU hW => ⟨rfl, by rw [hU], by rw [hU]; exact hP0, va_K.moved hW.alike hK, hD0⟩⟩
theorem cw_callWi {S : Type} {post : Int32 → S → Prop} {BW : S → va_W} {W0 W1 wr : va_W} {y : MethodName} {bytes : ByteArray} {maxL nL n index : Nat} {ret : Option FieldType} {wy : List Cond} {rm : Room} {Ts : List Cond} {own C : String} {As st0 : List Value} {ci : Nat} {q : vw_C} {fs : List Value}
    (S0 : CallFix p m c cc nL s args Ts own) (hM : Met l y wy rm (cw_Pc D cl tys W0 H.size (.ref a :: As)) (va_Qi post (fun u t => va_P D cl (BW u) t.heap) (va_A W0 H.size)) 0 0 (va_A W0 H.size)) (cw : CallW R s args own C index y bytes maxL ret wy rm 0 0 n)
    (hK : va_K D cl tys s) (hP : va_P D cl W1 H) (hD : va_D A W1) (hS : va_S A H0 H locs) (hA : ∀ q, H0.size ≤ q → A q) (isC isR : List Nat) (hC : isC.map (fun i => W1[i]?) = W0.map some) (hR : isR.map (fun i => W1[i]?) = wr.map some) (hnC : va_nd isC = true) (hnR : va_nd isR = true) (hdis : ∀ i ∈ isR, i ∉ isC) (hfst : ∀ u, (BW u).map (·.1) = W0.map (·.1))
    (q0 : Nat) (he : W0[q0]? = some (a, .inr (ci, fs))) (hc : cl[ci]? = some q) (hC2 : q.1 = C) (hn : As.length = n) (hsz : ls.size = nL) (hst : st0 = As.reverse ++ .ref a :: rest) (hW : (rest.map fun v => v.category).sum ≤ 8) (hdg : decode cc pc = .ok (.invokevirtual index, 3)) (hf : cells + 0 ≤ R.cells ∧ slots + 0 ≤ R.slots)
    (kk : ∀ (r : Int32) (u : S) (H1 : Heap) (locs1 : List Loc), post r u → va_P D cl (wr ++ BW u) H1 → va_D A (wr ++ BW u) → va_S A H0 H1 locs1 → W p l e R s m args below meth c H1 locs1 cells slots Q (F0 m (pc + 3) ls (.int r :: rest))) : W p l e R s m args below meth c H locs cells slots Q (F0 m pc ls st0) := by
  have hP0 : va_P D cl W0 H := fun k q h => by
    obtain ⟨i, -, hi⟩ := va_in_of isC hC h
    exact hP i q hi
  have hD0 : va_D (fun _ => True) W0 := (hD.sub isC hnC hC).weaken (fun _ _ _ _ => trivial)
  have hF := va_free (wc := W0) hD hS hA isC hC
  refine va_calli (va_runV S0 hM cw (cw_preW hK hP0 hD0 he hc hC2) rfl hn hsz hst (lv_room hW) hdg hf) hS (fun q _ h => hF q h) hF (fun r u t H1 locs1 ht hvm hp hB hz hk hS1 => ?_)
  rw [ht] at hB
  obtain ⟨hP1, hD1⟩ := va_join hP hD isC isR hC hR hnR hdis hk hF hB (cw_D_same (hD0.self (sz := H.size)) (hfst u))
  exact kk r u H1 locs1 hp hP1 hD1 hS1
theorem cw_callWv {S : Type} {post : S → Prop} {BW : S → va_W} {W0 W1 wr : va_W} {y : MethodName} {bytes : ByteArray} {maxL nL n index : Nat} {ret : Option FieldType} {wy : List Cond} {rm : Room} {Ts : List Cond} {own C : String} {As st0 : List Value} {ci : Nat} {q : vw_C} {fs : List Value}
    (S0 : CallFix p m c cc nL s args Ts own) (hM : Met l y wy rm (cw_Pc D cl tys W0 H.size (.ref a :: As)) (va_Qv post (fun u t => va_P D cl (BW u) t.heap) (va_A W0 H.size)) 0 0 (va_A W0 H.size)) (cw : CallW R s args own C index y bytes maxL ret wy rm 0 0 n)
    (hK : va_K D cl tys s) (hP : va_P D cl W1 H) (hD : va_D A W1) (hS : va_S A H0 H locs) (hA : ∀ q, H0.size ≤ q → A q) (isC isR : List Nat) (hC : isC.map (fun i => W1[i]?) = W0.map some) (hR : isR.map (fun i => W1[i]?) = wr.map some) (hnC : va_nd isC = true) (hnR : va_nd isR = true) (hdis : ∀ i ∈ isR, i ∉ isC) (hfst : ∀ u, (BW u).map (·.1) = W0.map (·.1))
    (q0 : Nat) (he : W0[q0]? = some (a, .inr (ci, fs))) (hc : cl[ci]? = some q) (hC2 : q.1 = C) (hn : As.length = n) (hsz : ls.size = nL) (hst : st0 = As.reverse ++ .ref a :: rest) (hW : (rest.map fun v => v.category).sum ≤ 8) (hdg : decode cc pc = .ok (.invokevirtual index, 3)) (hf : cells + 0 ≤ R.cells ∧ slots + 0 ≤ R.slots)
    (kk : ∀ (u : S) (H1 : Heap) (locs1 : List Loc), post u → va_P D cl (wr ++ BW u) H1 → va_D A (wr ++ BW u) → va_S A H0 H1 locs1 → W p l e R s m args below meth c H1 locs1 cells slots Q (F0 m (pc + 3) ls rest)) : W p l e R s m args below meth c H locs cells slots Q (F0 m pc ls st0) := by
  have hP0 : va_P D cl W0 H := fun k q h => by
    obtain ⟨i, -, hi⟩ := va_in_of isC hC h
    exact hP i q hi
  have hD0 : va_D (fun _ => True) W0 := (hD.sub isC hnC hC).weaken (fun _ _ _ _ => trivial)
  have hF := va_free (wc := W0) hD hS hA isC hC
  refine va_callv (va_runV S0 hM cw (cw_preW hK hP0 hD0 he hc hC2) rfl hn hsz hst (lv_room hW) hdg hf) hS (fun q _ h => hF q h) hF (fun u t H1 locs1 ht hvm hp hB hz hk hS1 => ?_)
  rw [ht] at hB
  obtain ⟨hP1, hD1⟩ := va_join hP hD isC isR hC hR hnR hdis hk hF hB (cw_D_same (hD0.self (sz := H.size)) (hfst u))
  exact kk u H1 locs1 hp hP1 hD1 hS1
end CX
/-! the desk's state behind a write -/
abbrev dkS : Type := (Nat → Int32) × (Nat → Int32) × (Nat → Int32) × (Nat → Int32) × (Nat → Int32)
abbrev dkU (h a1 a2 a3 a4 a5 : Nat) (cI cZ : ClassId) (n : Nat) (u : dkS) : va_W := dkW h a1 a2 a3 a4 a5 cI cZ u.1 u.2.1 u.2.2.1 u.2.2.2.1 u.2.2.2.2 n
abbrev dkP (o f : Nat → Nat) (sd : Nat → Bool) (c : Nat → Nat) (n : Nat) (u : dkS) : Prop := cd_dk o f sd c n u.1 u.2.1 u.2.2.1 u.2.2.2.1 u.2.2.2.2
def cd_up {α : Type} (g : Nat → α) (k : Nat) (v : α) : Nat → α := fun j => if j = k then v else g j
theorem cd_up_s {α : Type} (g : Nat → α) (k : Nat) (v : α) : cd_up g k v k = v := if_pos rfl
theorem cd_up_n {α : Type} (g : Nat → α) {k j : Nat} (v : α) (h : j ≠ k) : cd_up g k v j = g j := if_neg h
theorem cd_dk_c {o f : Nat → Nat} {sd : Nat → Bool} {c c' : Nat → Nat} {n : Nat} {pr se rk ck cu : Nat → Int32} (h : cd_dk o f sd c n pr se rk ck cu) (e : ∀ p, p < 6 → c p = c' p) : cd_dk o f sd c' n pr se rk ck cu := by
  obtain ⟨h1, h2, h3, h4, h5, h6, h7, h8⟩ := h
  exact ⟨h1, h2, fun p hp => by rw [← e p hp]; exact h3 p hp, h4, h5, h6, h7, fun p hp => by rw [← e p hp]; exact h8 p hp⟩
theorem cd_dk_cu {o f : Nat → Nat} {sd : Nat → Bool} {c : Nat → Nat} {n : Nat} {pr se rk ck cu : Nat → Int32} (h : cd_dk o f sd c n pr se rk ck cu) {q v : Nat} (hv : v ≤ 200) : cd_dk o f sd (cd_up c q v) n pr se rk ck (upd cu q (nI v)) := by
  obtain ⟨h1, h2, h3, h4, h5, h6, h7, h8⟩ := h
  refine ⟨h1, h2, fun p hp => ?_, h4, h5, h6, h7, fun p hp => ?_⟩
  · by_cases e : p = q
    · subst e; rw [cd_up_s]; exact hv
    · rw [cd_up_n _ _ e]; exact h3 p hp
  · by_cases e : p = q
    · subst e; rw [cd_up_s, pk_us]
    · rw [cd_up_n _ _ e, pk_un e]; exact h8 p hp
theorem cd_dk_ck {o f : Nat → Nat} {sd : Nat → Bool} {c : Nat → Nat} {n : Nat} {pr se rk ck cu : Nat → Int32} (h : cd_dk o f sd c n pr se rk ck cu) {i : Nat} {v : Int32} (hi : n * 6 ≤ i) : cd_dk o f sd c n pr se rk (upd ck i v) cu := by
  obtain ⟨h1, h2, h3, h4, h5, h6, h7, h8⟩ := h
  exact ⟨h1, h2, h3, h4, h5, h6, fun k p hk hp => by rw [pk_un (by omega)]; exact h7 k p hk hp, h8⟩
theorem cd_dk_rk {o f : Nat → Nat} {sd : Nat → Bool} {c : Nat → Nat} {n : Nat} {pr se rk ck cu : Nat → Int32} (h : cd_dk o f sd c n pr se rk ck cu) {v : Int32} : cd_dk o f sd c n pr se (upd rk n v) ck cu := by
  obtain ⟨h1, h2, h3, h4, h5, h6, h7, h8⟩ := h
  exact ⟨h1, h2, h3, h4, h5, fun k hk => by rw [pk_un (by omega)]; exact h6 k hk, h7, h8⟩
/-- fewer events: undo -/
theorem cd_dk_n {o f : Nat → Nat} {sd : Nat → Bool} {c : Nat → Nat} {n n' : Nat} {pr se rk ck cu : Nat → Int32} (h : cd_dk o f sd c n pr se rk ck cu) (hn : n' ≤ n) : cd_dk o f sd c n' pr se rk ck cu := by
  obtain ⟨h1, h2, h3, h4, h5, h6, h7, h8⟩ := h
  exact ⟨by omega, h2.le hn, h3, fun k hk => h4 k (by omega), fun k hk => h5 k (by omega), fun k hk => h6 k (by omega), fun k p hk hp => h7 k p (by omega) hp, h8⟩
/-- one event more -/
theorem cd_wf_add {o f : Nat → Nat} {n p j : Nat} (h : cd_wf o f n) (hp : p < 6) (hj : j ≤ n) : cd_wf (cd_up o n p) (cd_up f n j) (n + 1) := by
  intro k hk
  by_cases e : k = n
  · subst e; rw [cd_up_s, cd_up_s]; exact ⟨hp, hj⟩
  · rw [cd_up_n _ _ e, cd_up_n _ _ e]; exact h k (by omega)
theorem cd_up_old {o f : Nat → Nat} {n p j : Nat} : ∀ k, k < n → o k = cd_up o n p k ∧ f k = cd_up f n j k := fun k hk => ⟨(cd_up_n _ _ (by omega)).symm, (cd_up_n _ _ (by omega)).symm⟩
theorem cd_ck_new {o f : Nat → Nat} {n p j : Nat} (hj : j ≤ n) (q : Nat) : cd_ck (cd_up o n p) (cd_up f n j) (n + 1) q = max (cd_ck o f (cd_fm o p n) q) (cd_ck o f j q) + (if p = q then 1 else 0) := by
  rw [cd_ck_s (by rw [cd_up_s]; exact hj), cd_up_s, cd_up_s, cd_fm_congr p n (fun k hk => (cd_up_old (o := o) (f := f) (p := p) (j := j) k hk).1.symm), ← cd_ck_congr cd_up_old (cd_fm_le o p n), ← cd_ck_congr cd_up_old hj]
theorem cd_rk_new {o f : Nat → Nat} {n p j : Nat} (hj : j ≤ n) : cd_rk (cd_up o n p) (cd_up f n j) (n + 1) = 1 + max (cd_rk o f (cd_fm o p n)) (cd_rk o f j) := by
  rw [cd_rk_s (by rw [cd_up_s]; exact hj), cd_up_s, cd_up_s, cd_fm_congr p n (fun k hk => (cd_up_old (o := o) (f := f) (p := p) (j := j) k hk).1.symm), ← cd_rk_congr cd_up_old (cd_fm_le o p n), ← cd_rk_congr cd_up_old hj]
theorem cd_dk_add {o f : Nat → Nat} {sd : Nat → Bool} {c : Nat → Nat} {n p j : Nat} {b : Bool} {pr se rk ck cu pr' se' rk' : Nat → Int32} (h : cd_dk o f sd c n pr se rk ck cu) (hn : n < 200) (hp : p < 6) (hj : j ≤ n) (e1 : pr' = upd pr n (nI p)) (e2 : se' = upd se n (cd_bI (b = true))) (e3 : rk' = upd rk n (nI (1 + max (cd_rk o f (cd_fm o p n)) (cd_rk o f j))))
    (e4 : ∀ q, q < 6 → ck (n * 6 + q) = nI (max (cd_ck o f (cd_fm o p n) q) (cd_ck o f j q) + (if p = q then 1 else 0))) : cd_dk (cd_up o n p) (cd_up f n j) (cd_up sd n b) c (n + 1) pr' se' rk' ck cu := by
  subst e1 e2 e3
  obtain ⟨h1, h2, h3, h4, h5, h6, h7, h8⟩ := h
  refine ⟨hn, cd_wf_add h2 hp hj, h3, fun k hk => ?_, fun k hk => ?_, fun k hk => ?_, fun k q hk hq => ?_, h8⟩
  · by_cases e : k = n
    · subst e; rw [pk_us, cd_up_s]
    · rw [pk_un e, cd_up_n _ _ e]; exact h4 k (by omega)
  · by_cases e : k = n
    · subst e; rw [pk_us]; simp only [cd_up_s]
    · rw [pk_un e]; simp only [cd_up_n _ _ e]; exact h5 k (by omega)
  · by_cases e : k = n
    · subst e; rw [pk_us, cd_rk_new hj]
    · rw [pk_un e, ← cd_rk_congr cd_up_old (show k + 1 ≤ n by omega)]; exact h6 k (by omega)
  · by_cases e : k = n
    · subst e; rw [e4 q hq, cd_ck_new hj]
    · rw [← cd_ck_congr cd_up_old (show k + 1 ≤ n by omega)]; exact h7 k q (by omega) hq
/-- the cut while it grows to event k: done as far as q -/
def cd_gw (o f c : Nat → Nat) (k q : Nat) : Nat → Nat := fun p => if p < q then max (c p) (cd_ck o f (k + 1) p) else c p
theorem cd_gw_s (o f c : Nat → Nat) (k q : Nat) : cd_gw o f c k (q + 1) = cd_up (cd_gw o f c k q) q (max (c q) (cd_ck o f (k + 1) q)) := by
  funext p
  unfold cd_gw cd_up
  by_cases e : p = q
  · subst e; rw [if_pos (by omega), if_pos rfl]
  · rw [if_neg e]
    by_cases h : p < q
    · rw [if_pos (by omega)]; exact (if_pos h).symm
    · rw [if_neg (by omega)]; exact (if_neg h).symm
/-- the cut while it shrinks with the events: done as far as q -/
def cd_uw (o c : Nat → Nat) (n q : Nat) : Nat → Nat := fun p => if p < q then min (c p) (cd_mn o p n) else c p
theorem cd_uw_s (o c : Nat → Nat) (n q : Nat) : cd_uw o c n (q + 1) = cd_up (cd_uw o c n q) q (min (c q) (cd_mn o q n)) := by
  funext p
  unfold cd_uw cd_up
  by_cases e : p = q
  · subst e; rw [if_pos (by omega), if_pos rfl]
  · rw [if_neg e]
    by_cases h : p < q
    · rw [if_pos (by omega)]; exact (if_pos h).symm
    · rw [if_neg (by omega)]; exact (if_neg h).symm
