/-! THE MODEL: its cells, what they hold; the pure side of its searches -/
abbrev mdW (h b1 b2 b3 b4 b5 b6 b7 : Nat) (cI cZ : ClassId) (er : Int32) (mo mf mt ma mc ms mq : Nat → Int32) (n : Nat) : va_W := [(h, .inr (1, [.int er, .ref b1, .ref b2, .ref b3, .ref b4, .ref b5, .ref b6, .ref b7, .int (nI n)])), (b1, .inl (cI, 200, .inl mo)), (b2, .inl (cI, 200, .inl mf)), (b3, .inl (cI, 200, .inl mt)), (b4, .inl (cI, 200, .inl ma)), (b5, .inl (cI, 6, .inl mc)), (b6, .inl (cZ, 200, .inl ms)), (b7, .inl (cZ, 200, .inl mq))]
abbrev mdS : Type := Int32 × (Nat → Int32) × (Nat → Int32) × (Nat → Int32) × (Nat → Int32) × (Nat → Int32) × (Nat → Int32) × (Nat → Int32)
abbrev mdU (h b1 b2 b3 b4 b5 b6 b7 : Nat) (cI cZ : ClassId) (n : Nat) (u : mdS) : va_W := mdW h b1 b2 b3 b4 b5 b6 b7 cI cZ u.1 u.2.1 u.2.2.1 u.2.2.2.1 u.2.2.2.2.1 u.2.2.2.2.2.1 u.2.2.2.2.2.2.1 u.2.2.2.2.2.2.2 n
def cd_md (o f : Nat → Nat) (sd : Nat → Bool) (c : Nat → Nat) (n : Nat) (mo mf mc ms : Nat → Int32) : Prop :=
  n ≤ 200 ∧ cd_wf o f n ∧ (∀ p, p < 6 → c p ≤ 200) ∧ (∀ k, k < n → mo k = nI (o k)) ∧ (∀ k, k < n → mf k = cd_pI (f k)) ∧ (∀ k, k < n → ms k = cd_bI (sd k = true)) ∧ (∀ p, p < 6 → mc p = nI (c p))
abbrev mdP (o f : Nat → Nat) (sd : Nat → Bool) (c : Nat → Nat) (n : Nat) (u : mdS) : Prop := cd_md o f sd c n u.2.1 u.2.2.1 u.2.2.2.2.2.1 u.2.2.2.2.2.2.1
theorem cd_bI_congr {P Q : Prop} [Decidable P] [Decidable Q] (h : P ↔ Q) : cd_bI P = cd_bI Q := by
  by_cases hp : P
  · rw [cd_bI_t hp, cd_bI_t (h.mp hp)]
  · rw [cd_bI_f hp, cd_bI_f (fun z => hp (h.mpr z))]
theorem cd_l_le {x y : Int32} : x.toInt64 ≤ y.toInt64 ↔ x.toInt ≤ y.toInt := by rw [Int64.le_iff_toInt_le, Int32.toInt_toInt64, Int32.toInt_toInt64]
theorem cd_md_c {o f : Nat → Nat} {sd : Nat → Bool} {c c' : Nat → Nat} {n : Nat} {mo mf mc ms : Nat → Int32} (h : cd_md o f sd c n mo mf mc ms) (e : ∀ p, p < 6 → c p = c' p) : cd_md o f sd c' n mo mf mc ms := by
  obtain ⟨h1, h2, h3, h4, h5, h6, h7⟩ := h
  exact ⟨h1, h2, fun p hp => by rw [← e p hp]; exact h3 p hp, h4, h5, h6, fun p hp => by rw [← e p hp]; exact h7 p hp⟩
theorem cd_md_cu {o f : Nat → Nat} {sd : Nat → Bool} {c : Nat → Nat} {n : Nat} {mo mf mc ms : Nat → Int32} (h : cd_md o f sd c n mo mf mc ms) {q v : Nat} (hv : v ≤ 200) : cd_md o f sd (cd_up c q v) n mo mf (upd mc q (nI v)) ms := by
  obtain ⟨h1, h2, h3, h4, h5, h6, h7⟩ := h
  refine ⟨h1, h2, fun p hp => ?_, h4, h5, h6, fun p hp => ?_⟩
  · by_cases e : p = q
    · subst e; rw [cd_up_s]; exact hv
    · rw [cd_up_n _ _ e]; exact h3 p hp
  · by_cases e : p = q
    · subst e; rw [cd_up_s, pk_us]
    · rw [cd_up_n _ _ e, pk_un e]; exact h7 p hp
theorem cd_md_n {o f : Nat → Nat} {sd : Nat → Bool} {c : Nat → Nat} {n n' : Nat} {mo mf mc ms : Nat → Int32} (h : cd_md o f sd c n mo mf mc ms) (hn : n' ≤ n) : cd_md o f sd c n' mo mf mc ms := by
  obtain ⟨h1, h2, h3, h4, h5, h6, h7⟩ := h
  exact ⟨by omega, h2.le hn, h3, fun k hk => h4 k (by omega), fun k hk => h5 k (by omega), fun k hk => h6 k (by omega), h7⟩
theorem cd_md_add {o f : Nat → Nat} {sd : Nat → Bool} {c : Nat → Nat} {n p j : Nat} {b : Bool} {mo mf mc ms : Nat → Int32} (h : cd_md o f sd c n mo mf mc ms) (hn : n < 200) (hp : p < 6) (hj : j ≤ n) : cd_md (cd_up o n p) (cd_up f n j) (cd_up sd n b) c (n + 1) (upd mo n (nI p)) (upd mf n (cd_pI j)) mc (upd ms n (cd_bI (b = true))) := by
  obtain ⟨h1, h2, h3, h4, h5, h6, h7⟩ := h
  refine ⟨hn, cd_wf_add h2 hp hj, h3, fun k hk => ?_, fun k hk => ?_, fun k hk => ?_, h7⟩
  · by_cases e : k = n
    · subst e; rw [pk_us, cd_up_s]
    · rw [pk_un e, cd_up_n _ _ e]; exact h4 k (by omega)
  · by_cases e : k = n
    · subst e; rw [pk_us, cd_up_s]
    · rw [pk_un e, cd_up_n _ _ e]; exact h5 k (by omega)
  · by_cases e : k = n
    · subst e; rw [pk_us]; simp only [cd_up_s]
    · rw [pk_un e]; simp only [cd_up_n _ _ e]; exact h6 k (by omega)
/-! ===== the first event whose sender is not in the cut ===== -/
abbrev cd_opn (o f c : Nat → Nat) (e : Nat) : Prop := cd_mn o (o e) e < c (o e) ∧ f e ≠ 0 ∧ ¬ (cd_mn o (o (f e - 1)) (f e - 1) < c (o (f e - 1)))
def cd_o0 (o f c : Nat → Nat) : Nat → Nat → Nat
  | 0, _ => 0
  | d + 1, e => if cd_opn o f c e then e + 1 else cd_o0 o f c d (e + 1)
theorem cd_o0_s {o f c : Nat → Nat} : ∀ d e j, cd_o0 o f c d e = j + 1 → cd_opn o f c j ∧ e ≤ j ∧ j < e + d := by
  intro d
  induction d with
  | zero => intro e j h; cases h
  | succ d ih =>
    intro e j h
    by_cases z : cd_opn o f c e
    · have h : (if cd_opn o f c e then e + 1 else cd_o0 o f c d (e + 1)) = j + 1 := h
      rw [if_pos z] at h
      have e1 : e = j := by omega
      subst e1
      exact ⟨z, by omega, by omega⟩
    · have h : (if cd_opn o f c e then e + 1 else cd_o0 o f c d (e + 1)) = j + 1 := h
      rw [if_neg z] at h
      obtain ⟨h1, h2, h3⟩ := ih _ _ h
      exact ⟨h1, by omega, by omega⟩
theorem cd_o0_0 {o f c : Nat → Nat} : ∀ d e, cd_o0 o f c d e = 0 → ∀ k, e ≤ k → k < e + d → ¬ cd_opn o f c k := by
  intro d
  induction d with
  | zero => intro e _ k h1 h2; omega
  | succ d ih =>
    intro e h k h1 h2
    have h : (if cd_opn o f c e then e + 1 else cd_o0 o f c d (e + 1)) = 0 := h
    by_cases z : cd_opn o f c e
    · rw [if_pos z] at h; cases h
    · rw [if_neg z] at h
      by_cases ek : k = e
      · subst ek; exact z
      · exact ih _ h k (by omega) (by omega)
theorem cd_o0_wr {o f c : Nat → Nat} {n : Nat} : cd_o0 o f c n 0 = 0 ↔ cd_wr o f c n := by
  constructor
  · intro h e he hi j hj
    have h1 := cd_o0_0 n 0 h e (by omega) (by omega)
    refine Classical.byContradiction (fun z => h1 ⟨hi, by omega, ?_⟩)
    rw [hj, Nat.add_sub_cancel]
    exact z
  · intro h
    cases hc : cd_o0 o f c n 0 with
    | zero => rfl
    | succ j =>
      obtain ⟨⟨h1, h2, h3⟩, -, h4⟩ := cd_o0_s n 0 j hc
      exact absurd (h j (by omega) h1 (f j - 1) (by omega)) h3
/-! ===== the search backwards ===== -/
def cd_pc (o f : Nat → Nat) (mq : Nat → Int32) (i : Nat) : Prop := (∀ j, cd_fm o (o i) i = j + 1 → mq j = 1) ∧ (∀ j, f i = j + 1 → mq j = 1)
def cd_bi (o f : Nat → Nat) (n k w t a : Nat) (mt mq : Nat → Int32) : Prop :=
  a < n ∧ (a = k ∨ mq a = 1) ∧ (∀ i, i < n → mq i = 0 ∨ mq i = 1) ∧ (∀ i, i < n → mq i = 1 → cd_bf o f k i) ∧ (∀ i, i < t → ∃ j, j < n ∧ mt i = nI j ∧ mq j = 1) ∧ t + cd_ct (fun i => mq i = 0) n ≤ n ∧
  (∀ i, i < n → (i = k ∨ mq i = 1) → i = a ∨ (∃ q, q < t ∧ mt q = nI i) ∨ cd_pc o f mq i) ∧ (1 ≤ w → ∀ j, cd_fm o (o a) a = j + 1 → mq j = 1) ∧ (2 ≤ w → ∀ j, f a = j + 1 → mq j = 1)
/-- the parent that is looked at: the former one, then the sender -/
def cd_pa (o f : Nat → Nat) (w a : Nat) : Nat := if w = 0 then cd_fm o (o a) a else f a
theorem cd_bi_skip {o f : Nat → Nat} {n k w t a : Nat} {mt mq : Nat → Int32} (h : cd_bi o f n k w t a mt mq) (hw : w < 2) (hp : ∀ j, cd_pa o f w a = j + 1 → mq j = 1) : cd_bi o f n k (w + 1) t a mt mq := by
  obtain ⟨h1, h2, h3, h4, h5, h6, h7, h8, h9⟩ := h
  refine ⟨h1, h2, h3, h4, h5, h6, h7, fun _ j hj => ?_, fun hw2 j hj => ?_⟩
  · by_cases e : w = 0
    · exact hp j (by unfold cd_pa; rw [if_pos e]; exact hj)
    · exact h8 (by omega) j hj
  · exact hp j (by unfold cd_pa; rw [if_neg (by omega)]; exact hj)
theorem cd_ct_upd {mq : Nat → Int32} {j : Nat} (hj0 : mq j = 0) : ∀ n, j < n → cd_ct (fun i => upd mq j 1 i = 0) n + 1 = cd_ct (fun i => mq i = 0) n := by
  intro n
  induction n with
  | zero => intro h; omega
  | succ n ih =>
    intro h
    show cd_ct (fun i => upd mq j 1 i = 0) n + (if upd mq j 1 n = 0 then 1 else 0) + 1 = cd_ct (fun i => mq i = 0) n + (if mq n = 0 then 1 else 0)
    by_cases e : n = j
    · subst e
      rw [pk_us, if_neg (by decide), if_pos hj0]
      have e2 : cd_ct (fun i => upd mq n 1 i = 0) n = cd_ct (fun i => mq i = 0) n := cd_ct_congr n (fun i hi => by rw [pk_un (by omega)])
      omega
    · rw [pk_un e]
      have := ih (by omega)
      omega
theorem cd_bf_pa {o f : Nat → Nat} {n k w a j : Nat} (hwf : cd_wf o f n) (hk : k < n) (ha : a < n) (h : a = k ∨ cd_bf o f k a) (hp : cd_pa o f w a = j + 1) : j < a ∧ cd_bf o f k j := by
  have hf := (hwf a ha).2
  have hfm := cd_fm_le o (o a) a
  have hj : j < a := by
    unfold cd_pa at hp
    split at hp <;> omega
  have hbj : cd_bf o f a j := by
    unfold cd_pa at hp
    split at hp
    · exact Or.inl (by rw [hp]; exact cd_b_self hwf (by omega))
    · exact Or.inr (by rw [hp]; exact cd_b_self hwf (by omega))
  refine ⟨hj, ?_⟩
  rcases h with rfl | h
  · exact hbj
  · have h1 := (cd_bf_iff hwf hk a).mp h
    have h2 := (cd_bf_iff hwf ha j).mp hbj
    have h3 := cd_b_lt hwf (by omega) h1.2
    exact (cd_bf_iff hwf hk j).mpr ⟨by omega, cd_b_tr hwf (by omega) h1.2 h2.2⟩
theorem cd_bi_push {o f : Nat → Nat} {n k w t a j : Nat} {mt mq : Nat → Int32} (hwf : cd_wf o f n) (hk : k < n) (h : cd_bi o f n k w t a mt mq) (hw : w < 2) (hp : cd_pa o f w a = j + 1) (hj0 : mq j = 0) (hn : n ≤ 200) : cd_bi o f n k (w + 1) (t + 1) a (upd mt t (nI j)) (upd mq j 1) := by
  obtain ⟨h1, h2, h3, h4, h5, h6, h7, h8, h9⟩ := h
  obtain ⟨hja, hbj⟩ := cd_bf_pa hwf hk h1 (h2.imp id (h4 a h1)) hp
  have up : ∀ i, mq i = 1 → upd mq j 1 i = 1 := fun i hi => by
    by_cases e : i = j
    · subst e; exact pk_us
    · rw [pk_un e]; exact hi
  have pcu : ∀ i, cd_pc o f mq i → cd_pc o f (upd mq j 1) i := fun i hi => ⟨fun q hq => up q (hi.1 q hq), fun q hq => up q (hi.2 q hq)⟩
  refine ⟨h1, h2.imp id (up a), fun i hi => ?_, fun i hi hm => ?_, fun i hi => ?_, ?_, fun i hi hm => ?_, fun _ q hq => ?_, fun hw2 q hq => ?_⟩
  · by_cases e : i = j
    · subst e; exact Or.inr pk_us
    · rw [pk_un e]; exact h3 i hi
  · by_cases e : i = j
    · subst e; exact hbj
    · rw [pk_un e] at hm; exact h4 i hi hm
  · by_cases e : i = t
    · subst e; exact ⟨j, by omega, pk_us, pk_us⟩
    · obtain ⟨q, q1, q2, q3⟩ := h5 i (by omega)
      exact ⟨q, q1, by rw [pk_un e]; exact q2, up q q3⟩
  · have := cd_ct_upd hj0 n (by omega)
    omega
  · by_cases e : i = j
    · subst e; exact Or.inr (Or.inl ⟨t, by omega, pk_us⟩)
    · have hm' : i = k ∨ mq i = 1 := hm.imp id (fun z => by rw [pk_un e] at z; exact z)
      rcases h7 i hi hm' with z | ⟨q, q1, q2⟩ | z
      · exact Or.inl z
      · exact Or.inr (Or.inl ⟨q, by omega, by rw [pk_un (by omega)]; exact q2⟩)
      · exact Or.inr (Or.inr (pcu i z))
  · by_cases e : w = 0
    · have e2 : cd_fm o (o a) a = j + 1 := by unfold cd_pa at hp; rw [if_pos e] at hp; exact hp
      have e3 : q = j := by omega
      subst e3; exact pk_us
    · exact up q (h8 (by omega) q hq)
  · have e2 : f a = j + 1 := by unfold cd_pa at hp; rw [if_neg (by omega)] at hp; exact hp
    have e3 : q = j := by omega
    subst e3; exact pk_us
theorem cd_bi_pop {o f : Nat → Nat} {n k t a : Nat} {mt mq : Nat → Int32} (hn : n ≤ 200) (h : cd_bi o f n k 2 (t + 1) a mt mq) : ∃ a', a' < n ∧ mt t = nI a' ∧ cd_bi o f n k 0 t a' mt mq := by
  obtain ⟨h1, h2, h3, h4, h5, h6, h7, h8, h9⟩ := h
  obtain ⟨a', q1, q2, q3⟩ := h5 t (by omega)
  refine ⟨a', q1, q2, q1, Or.inr q3, h3, h4, fun i hi => h5 i (by omega), by omega, fun i hi hm => ?_, fun z => by omega, fun z => by omega⟩
  rcases h7 i hi hm with rfl | ⟨q, z1, z2⟩ | z
  · exact Or.inr (Or.inr ⟨h8 (by omega), h9 (by omega)⟩)
  · by_cases e : q = t
    · subst e
      left
      have e1 : nI i = nI a' := by rw [← z2, q2]
      exact (nI_eq (by omega) (by omega)).mp e1
    · exact Or.inr (Or.inl ⟨q, by omega, z2⟩)
  · exact Or.inr (Or.inr z)
theorem cd_bi_end {o f : Nat → Nat} {n k a : Nat} {mt mq : Nat → Int32} (hwf : cd_wf o f n) (hk : k < n) (h : cd_bi o f n k 2 0 a mt mq) : ∀ i, i < n → mq i = cd_bI (i ≠ k ∧ cd_mn o (o i) i < cd_ck o f (k + 1) (o i)) := by
  obtain ⟨h1, h2, h3, h4, h5, h6, h7, h8, h9⟩ := h
  have cl : ∀ i, i < n → (i = k ∨ mq i = 1) → cd_pc o f mq i := fun i hi hm => by
    rcases h7 i hi hm with rfl | ⟨q, z1, -⟩ | z
    · exact ⟨h8 (by omega), h9 (by omega)⟩
    · exact absurd z1 (Nat.not_lt_zero _)
    · exact z
  have key : ∀ j, j ≤ n → (∀ i, j = i + 1 → mq i = 1) → ∀ e, cd_b o f j e → mq e = 1 := by
    intro j
    induction j using Nat.strongRecOn with
    | _ j ih =>
      intro hj hs e hb
      cases j with
      | zero => exact absurd hb cd_b_0
      | succ i =>
        have hi := hs i rfl
        have hf := (hwf i (by omega)).2
        have hfm := cd_fm_le o (o i) i
        have hpc := cl i (by omega) (Or.inr hi)
        rcases (cd_b_s hwf (by omega) e).mp hb with rfl | z | z
        · exact hi
        · exact ih _ (by omega) (by omega) hpc.1 e z
        · exact ih _ (by omega) (by omega) hpc.2 e z
  intro i hi
  have hpk := cl k hk (Or.inl rfl)
  have hf := (hwf k hk).2
  have hfm := cd_fm_le o (o k) k
  by_cases hb : cd_bf o f k i
  · have hm : mq i = 1 := by
      rcases hb with z | z
      · exact key _ (by omega) hpk.1 i z
      · exact key _ (by omega) hpk.2 i z
    rw [hm]
    have hz : i ≠ k ∧ cd_mn o (o i) i < cd_ck o f (k + 1) (o i) := (cd_bf_iff hwf hk i).mp hb
    exact (cd_bI_t hz).symm
  · have hm : mq i = 0 := by
      rcases h3 i hi with z | z
      · exact z
      · exact absurd (h4 i hi z) hb
    rw [hm]
    have hz : ¬ (i ≠ k ∧ cd_mn o (o i) i < cd_ck o f (k + 1) (o i)) := fun z => hb ((cd_bf_iff hwf hk i).mpr z)
    exact (cd_bI_f hz).symm
theorem cd_bi_0 {o f : Nat → Nat} {n k : Nat} {mt mq : Nat → Int32} (hk : k < n) (h0 : ∀ i, i < n → mq i = 0) : cd_bi o f n k 0 0 k mt mq := by
  refine ⟨hk, Or.inl rfl, fun i hi => Or.inl (h0 i hi), fun i hi hm => ?_, fun i hi => absurd hi (Nat.not_lt_zero _), ?_, fun i hi hm => ?_, fun z => by omega, fun z => by omega⟩
  · rw [h0 i hi] at hm; exact absurd hm (by decide)
  · have := cd_ct_le (P := fun i => mq i = 0) n
    omega
  · rcases hm with z | z
    · exact Or.inl z
    · rw [h0 i hi] at z; exact absurd z (by decide)
