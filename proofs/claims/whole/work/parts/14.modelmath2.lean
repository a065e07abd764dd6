/-! closing and opening by single steps come to the class's one pass -/
theorem cd_s6_lt {g g' : Nat → Nat} {q : Nat} (hq : q < 6) (h : ∀ p, p < 6 → p ≠ q → g' p = g p) (hl : g' q < g q) : cd_s6 g' < cd_s6 g := by
  have hh : ∀ p, p < 6 → g' p ≤ g p := fun p hp => by
    by_cases e : p = q
    · subst e; omega
    · rw [h p hp e]; exact Nat.le_refl _
  have a0 := hh 0 (by omega)
  have a1 := hh 1 (by omega)
  have a2 := hh 2 (by omega)
  have a3 := hh 3 (by omega)
  have a4 := hh 4 (by omega)
  have a5 := hh 5 (by omega)
  unfold cd_s6
  have e6 : q = 0 ∨ q = 1 ∨ q = 2 ∨ q = 3 ∨ q = 4 ∨ q = 5 := by omega
  rcases e6 with rfl | rfl | rfl | rfl | rfl | rfl <;> omega
theorem cd_s6_congr {g g' : Nat → Nat} (h : ∀ p, p < 6 → g p = g' p) : cd_s6 g = cd_s6 g' := by
  unfold cd_s6
  rw [h 0 (by omega), h 1 (by omega), h 2 (by omega), h 3 (by omega), h 4 (by omega), h 5 (by omega)]
theorem cd_in_s6 {o f c : Nat → Nat} {n : Nat} (hwf : cd_wf o f n) (hb : ∀ p, p < 6 → c p ≤ cd_mn o p n) : cd_ct (fun e => cd_mn o (o e) e < c (o e)) n = cd_s6 c := by
  rw [cd_ct_s6 o c n (fun k hk => (hwf k hk).1)]
  exact cd_s6_congr (fun p hp => Nat.min_eq_left (hb p hp))
theorem cd_close_step {o f c₀ c : Nat → Nat} {n e j : Nat} (hwf : cd_wf o f n) (hb : ∀ p, p < 6 → c₀ p ≤ cd_mn o p n) (hle : ∀ p, p < 6 → c p ≤ cd_cl o f c₀ n p) (he : e < n) (hj : f e = j + 1) (ho : cd_opn o f c e) : c (o j) + 1 ≤ cd_cl o f c₀ n (o j) := by
  obtain ⟨h1, h2, h3⟩ := ho
  rw [hj, Nat.add_sub_cancel] at h3
  obtain ⟨-, -, i3, -⟩ := cd_cl_inv hwf hb n (Nat.le_refl _)
  have hw : cd_wr o f (cd_cl o f c₀ n) n := (cd_w_iff hwf).mpr i3
  have hf := (hwf e he).2
  have h4 : cd_mn o (o e) e < cd_cl o f c₀ n (o e) := Nat.lt_of_lt_of_le h1 (hle _ (hwf e he).1)
  have h5 : cd_mn o (o j) j < cd_cl o f c₀ n (o j) := hw e he h4 j hj
  omega
theorem cd_close_end {o f c₀ c : Nat → Nat} {n : Nat} (hwf : cd_wf o f n) (hb : ∀ p, p < 6 → c₀ p ≤ cd_mn o p n) (hlo : ∀ p, p < 6 → c₀ p ≤ c p) (hle : ∀ p, p < 6 → c p ≤ cd_cl o f c₀ n p) (h : cd_o0 o f c n 0 = 0) : ∀ p, p < 6 → c p = cd_cl o f c₀ n p := by
  obtain ⟨-, -, -, i4⟩ := cd_cl_inv hwf hb n (Nat.le_refl _)
  have hw : cd_wc o f c n := (cd_w_iff hwf).mp (cd_o0_wr.mp h)
  intro p hp
  have h1 := i4 c hlo hw p hp
  have h2 := hle p hp
  omega
theorem cd_open_step {o f c₀ c : Nat → Nat} {n e : Nat} (hwf : cd_wf o f n) (hlo : ∀ p, p < 6 → cd_op o f c₀ n p ≤ c p) (he : e < n) (ho : cd_opn o f c e) : cd_op o f c₀ n (o e) ≤ c (o e) - 1 ∧ 0 < c (o e) := by
  obtain ⟨h1, h2, h3⟩ := ho
  obtain ⟨-, i3, -⟩ := cd_op_inv (c := c₀) hwf n (Nat.le_refl _)
  have hw : cd_wr o f (cd_op o f c₀ n) n := (cd_w_iff hwf).mpr i3
  have hf := (hwf e he).2
  refine ⟨?_, by omega⟩
  rcases Nat.lt_or_ge (cd_mn o (o e) e) (cd_op o f c₀ n (o e)) with z | z
  · have h5 : cd_mn o (o (f e - 1)) (f e - 1) < cd_op o f c₀ n (o (f e - 1)) := hw e he z (f e - 1) (by omega)
    have h6 := hlo (o (f e - 1)) (hwf (f e - 1) (by omega)).1
    omega
  · omega
theorem cd_open_end {o f c₀ c : Nat → Nat} {n : Nat} (hwf : cd_wf o f n) (hlo : ∀ p, p < 6 → cd_op o f c₀ n p ≤ c p) (hle : ∀ p, p < 6 → c p ≤ c₀ p) (h : cd_o0 o f c n 0 = 0) : ∀ p, p < 6 → c p = cd_op o f c₀ n p := by
  obtain ⟨-, -, i4⟩ := cd_op_inv (c := c₀) hwf n (Nat.le_refl _)
  have hw : cd_wc o f c n := (cd_w_iff hwf).mp (cd_o0_wr.mp h)
  intro p hp
  have h1 := i4 c hle hw p hp
  have h2 := hlo p hp
  omega
/-- of the g events ahead of g, those that are not before it -/
theorem cd_ap_ct {o f : Nat → Nat} {n g : Nat} (hwf : cd_wf o f n) (hg : g < n) : cd_ct (fun e => ¬ (e ≠ g ∧ cd_mn o (o e) e < cd_ck o f (g + 1) (o e))) g = g - (cd_s6 (cd_ck o f (g + 1)) - 1) := by
  have h1 := cd_ck_pos hwf hg
  have h2 := cd_ct_not (P := fun e => e ≠ g ∧ cd_mn o (o e) e < cd_ck o f (g + 1) (o e)) g
  have h3 : cd_ct (fun e => e ≠ g ∧ cd_mn o (o e) e < cd_ck o f (g + 1) (o e)) g = cd_ct (fun e => cd_mn o (o e) e < cd_ck o f (g + 1) (o e)) g := cd_ct_congr g (fun e he => ⟨fun z => z.2, fun z => ⟨by omega, z⟩⟩)
  omega
theorem cd_ap_s {o f : Nat → Nat} {g : Nat} : cd_ap o f (g + 1) = cd_ap o f g + (g - (cd_s6 (cd_ck o f (g + 1)) - 1)) := rfl
/-- how many events of process p are, or are before, event k: the model's count of its clock -/
theorem cd_ck_ct {o f : Nat → Nat} {n k p : Nat} (hwf : cd_wf o f n) (hk : k < n) : ∀ m, m ≤ n → cd_ct (fun i => (i ≠ k ∧ cd_mn o (o i) i < cd_ck o f (k + 1) (o i)) ∧ o i = p) m + (if o k = p ∧ k < m then 1 else 0) = min (cd_ck o f (k + 1) p) (cd_mn o p m) := by
  intro m
  induction m with
  | zero => intro _; simp [cd_ct, cd_mn]
  | succ m ih =>
    intro hm
    have ih := ih (by omega)
    show cd_ct _ m + (if (m ≠ k ∧ cd_mn o (o m) m < cd_ck o f (k + 1) (o m)) ∧ o m = p then 1 else 0) + _ = _
    by_cases hp : o m = p
    · rw [cd_mn_eq hp]
      by_cases e : m = k
      · subst e
        have h1 := cd_ck_own hwf hk
        rw [hp] at h1
        rw [if_neg (fun z => z.1.1 rfl), if_pos ⟨hp, by omega⟩]
        rw [if_neg (by omega)] at ih
        omega
      · by_cases hl : cd_mn o p m < cd_ck o f (k + 1) p
        · rw [if_pos ⟨⟨e, by rw [hp]; exact hl⟩, hp⟩]
          by_cases z : o k = p ∧ k < m
          · rw [if_pos z] at ih; rw [if_pos ⟨z.1, by omega⟩]; omega
          · rw [if_neg z] at ih; rw [if_neg (fun y => z ⟨y.1, by omega⟩)]; omega
        · rw [if_neg (fun z => hl (by have := z.1.2; rw [hp] at this; exact this))]
          by_cases z : o k = p ∧ k < m
          · rw [if_pos z] at ih; rw [if_pos ⟨z.1, by omega⟩]; omega
          · rw [if_neg z] at ih; rw [if_neg (fun y => z ⟨y.1, by omega⟩)]; omega
    · rw [cd_mn_ne hp, if_neg (fun z => hp z.2)]
      by_cases z : o k = p ∧ k < m
      · rw [if_pos z] at ih; rw [if_pos ⟨z.1, by omega⟩]; omega
      · rw [if_neg z] at ih
        rw [if_neg (fun y => by
          rcases Nat.lt_or_ge k m with q | q
          · exact z ⟨y.1, q⟩
          · have : k = m := by omega
            subst this; exact hp y.1)]
        omega
theorem cd_ck_ct_n {o f : Nat → Nat} {n k p : Nat} (hwf : cd_wf o f n) (hk : k < n) : (if o k = p then 1 else 0) + cd_ct (fun i => (i ≠ k ∧ cd_mn o (o i) i < cd_ck o f (k + 1) (o i)) ∧ o i = p) n = cd_ck o f (k + 1) p := by
  have h1 := cd_ck_ct (p := p) hwf hk n (Nat.le_refl _)
  have h2 := cd_ck_le hwf p (k + 1) hk
  have h3 := cd_mn_mono o p n (show k + 1 ≤ n by omega)
  rw [Nat.min_eq_left (by omega)] at h1
  by_cases z : o k = p
  · rw [if_pos ⟨z, hk⟩] at h1; rw [if_pos z]; omega
  · rw [if_neg (fun y => z y.1)] at h1; rw [if_neg z]; omega
