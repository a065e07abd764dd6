/-! PURE: the graph of events. o k: the process of event k; f k: what event k receives, 0 for nothing, j + 1 for event j. An event 'in code' is 0 (none) or its number + 1. -/
def cd_rec {α : Type} (z : α) (F : Nat → α → α → α) (a b : Nat → Nat) : Nat → Nat → α
  | 0 => fun _ => z
  | n + 1 => fun j => if j = n + 1 then F n (cd_rec z F a b n (a n)) (cd_rec z F a b n (b n)) else cd_rec z F a b n j
theorem cd_rec_up {α : Type} (z : α) (F : Nat → α → α → α) (a b : Nat → Nat) {j n : Nat} (h : j ≤ n) : ∀ m, n ≤ m → cd_rec z F a b m j = cd_rec z F a b n j := by
  intro m
  induction m with
  | zero => intro hm; have e : n = 0 := by omega
            subst e; rfl
  | succ m ih =>
    intro hm
    by_cases e : n = m + 1
    · subst e; rfl
    · rw [← ih (by omega)]
      show (if j = m + 1 then _ else _) = _
      rw [if_neg (by omega)]
def cd_at {α : Type} (z : α) (F : Nat → α → α → α) (a b : Nat → Nat) (j : Nat) : α := cd_rec z F a b j j
theorem cd_at_s {α : Type} (z : α) (F : Nat → α → α → α) (a b : Nat → Nat) {k : Nat} (ha : a k ≤ k) (hb : b k ≤ k) : cd_at z F a b (k + 1) = F k (cd_at z F a b (a k)) (cd_at z F a b (b k)) := by
  show (if k + 1 = k + 1 then F k (cd_rec z F a b k (a k)) (cd_rec z F a b k (b k)) else _) = _
  rw [if_pos rfl, cd_rec_up z F a b (Nat.le_refl (a k)) k ha, cd_rec_up z F a b (Nat.le_refl (b k)) k hb]
  rfl
theorem cd_rec_congr {α : Type} (z : α) {F F' : Nat → α → α → α} {a a' b b' : Nat → Nat} : ∀ n, (∀ k, k < n → F k = F' k ∧ a k = a' k ∧ b k = b' k) → ∀ j, cd_rec z F a b n j = cd_rec z F' a' b' n j := by
  intro n
  induction n with
  | zero => intro _ j; rfl
  | succ n ih =>
    intro h j
    have ih := ih (fun k hk => h k (by omega))
    obtain ⟨h1, h2, h3⟩ := h n (by omega)
    show (if j = n + 1 then F n (cd_rec z F a b n (a n)) (cd_rec z F a b n (b n)) else cd_rec z F a b n j) = (if j = n + 1 then F' n (cd_rec z F' a' b' n (a' n)) (cd_rec z F' a' b' n (b' n)) else cd_rec z F' a' b' n j)
    rw [ih, ih, ih, h1, h2, h3]
/-- the last event of process p below n, in code -/
def cd_fm (o : Nat → Nat) (p : Nat) : Nat → Nat
  | 0 => 0
  | n + 1 => if o n = p then n + 1 else cd_fm o p n
/-- how many events of process p lie below n -/
def cd_mn (o : Nat → Nat) (p : Nat) : Nat → Nat
  | 0 => 0
  | n + 1 => cd_mn o p n + (if o n = p then 1 else 0)
theorem cd_mn_s (o : Nat → Nat) (p n : Nat) : cd_mn o p (n + 1) = cd_mn o p n + (if o n = p then 1 else 0) := rfl
theorem cd_mn_eq {o : Nat → Nat} {p n : Nat} (h : o n = p) : cd_mn o p (n + 1) = cd_mn o p n + 1 := by rw [cd_mn_s, if_pos h]
theorem cd_mn_ne {o : Nat → Nat} {p n : Nat} (h : ¬ o n = p) : cd_mn o p (n + 1) = cd_mn o p n := by rw [cd_mn_s, if_neg h]; rfl
theorem cd_fm_eq {o : Nat → Nat} {p n : Nat} (h : o n = p) : cd_fm o p (n + 1) = n + 1 := if_pos h
theorem cd_fm_ne {o : Nat → Nat} {p n : Nat} (h : ¬ o n = p) : cd_fm o p (n + 1) = cd_fm o p n := if_neg h
theorem cd_fm_le (o : Nat → Nat) (p : Nat) : ∀ n, cd_fm o p n ≤ n := by
  intro n
  induction n with
  | zero => exact Nat.le_refl _
  | succ n ih =>
    by_cases h : o n = p
    · rw [cd_fm_eq h]; exact Nat.le_refl _
    · rw [cd_fm_ne h]; omega
theorem cd_fm_of {o : Nat → Nat} {p i : Nat} : ∀ n, cd_fm o p n = i + 1 → o i = p ∧ i < n := by
  intro n
  induction n with
  | zero => intro h; cases h
  | succ n ih =>
    intro h
    by_cases hp : o n = p
    · rw [cd_fm_eq hp] at h
      have e : n = i := by omega
      subst e
      exact ⟨hp, by omega⟩
    · rw [cd_fm_ne hp] at h
      have := ih h
      exact ⟨this.1, by omega⟩
theorem cd_mn_mono (o : Nat → Nat) (p : Nat) {a : Nat} : ∀ b, a ≤ b → cd_mn o p a ≤ cd_mn o p b := by
  intro b
  induction b with
  | zero => intro h; have e : a = 0 := by omega
            subst e; exact Nat.le_refl _
  | succ b ih =>
    intro h
    by_cases e : a = b + 1
    · subst e; exact Nat.le_refl _
    · rw [cd_mn_s]
      have := ih (by omega)
      omega
theorem cd_mn_le (o : Nat → Nat) (p : Nat) : ∀ n, cd_mn o p n ≤ n := by
  intro n
  induction n with
  | zero => exact Nat.le_refl _
  | succ n ih => rw [cd_mn_s]; split <;> omega
theorem cd_mn_lt {o : Nat → Nat} {p e b : Nat} (ho : o e = p) (h : e < b) : cd_mn o p e < cd_mn o p b := by
  have h1 := cd_mn_mono o p b (show e + 1 ≤ b by omega)
  rw [cd_mn_eq ho] at h1
  omega
theorem cd_fm_congr {o o' : Nat → Nat} (p : Nat) : ∀ n, (∀ k, k < n → o k = o' k) → cd_fm o p n = cd_fm o' p n := by
  intro n
  induction n with
  | zero => intro _; rfl
  | succ n ih =>
    intro h
    show (if o n = p then n + 1 else cd_fm o p n) = (if o' n = p then n + 1 else cd_fm o' p n)
    rw [h n (by omega), ih (fun k hk => h k (by omega))]
theorem cd_mn_congr {o o' : Nat → Nat} (p : Nat) : ∀ n, (∀ k, k < n → o k = o' k) → cd_mn o p n = cd_mn o' p n := by
  intro n
  induction n with
  | zero => intro _; rfl
  | succ n ih =>
    intro h
    rw [cd_mn_s, cd_mn_s, h n (by omega), ih (fun k hk => h k (by omega))]
/-- clocks, ranks: of an event in code -/
def cd_ck (o f : Nat → Nat) (j : Nat) : Nat → Nat := cd_at (fun _ => 0) (fun k x y p => max (x p) (y p) + (if o k = p then 1 else 0)) (fun k => cd_fm o (o k) k) f j
def cd_rk (o f : Nat → Nat) (j : Nat) : Nat := cd_at 0 (fun _ x y => 1 + max x y) (fun k => cd_fm o (o k) k) f j
theorem cd_ck_0 (o f : Nat → Nat) (p : Nat) : cd_ck o f 0 p = 0 := rfl
theorem cd_rk_0 (o f : Nat → Nat) : cd_rk o f 0 = 0 := rfl
theorem cd_ck_s {o f : Nat → Nat} {k : Nat} (hf : f k ≤ k) (p : Nat) : cd_ck o f (k + 1) p = max (cd_ck o f (cd_fm o (o k) k) p) (cd_ck o f (f k) p) + (if o k = p then 1 else 0) := by
  have h := cd_at_s (fun _ : Nat => 0) (fun k x y p => max (x p) (y p) + (if o k = p then 1 else 0)) (fun k => cd_fm o (o k) k) f (cd_fm_le o (o k) k) hf
  exact congrFun h p
theorem cd_rk_s {o f : Nat → Nat} {k : Nat} (hf : f k ≤ k) : cd_rk o f (k + 1) = 1 + max (cd_rk o f (cd_fm o (o k) k)) (cd_rk o f (f k)) :=
  cd_at_s 0 (fun _ x y => 1 + max x y) (fun k => cd_fm o (o k) k) f (cd_fm_le o (o k) k) hf
theorem cd_ck_congr {o f o' f' : Nat → Nat} {n : Nat} (h : ∀ k, k < n → o k = o' k ∧ f k = f' k) {j : Nat} (hj : j ≤ n) : cd_ck o f j = cd_ck o' f' j := by
  unfold cd_ck cd_at
  exact cd_rec_congr _ j (fun k hk => ⟨by rw [(h k (by omega)).1], by
    show cd_fm o (o k) k = cd_fm o' (o' k) k
    rw [(h k (by omega)).1]
    exact cd_fm_congr _ k (fun i hi => (h i (by omega)).1), (h k (by omega)).2⟩) j
theorem cd_rk_congr {o f o' f' : Nat → Nat} {n : Nat} (h : ∀ k, k < n → o k = o' k ∧ f k = f' k) {j : Nat} (hj : j ≤ n) : cd_rk o f j = cd_rk o' f' j := by
  unfold cd_rk cd_at
  exact cd_rec_congr _ j (fun k hk => ⟨rfl, by
    show cd_fm o (o k) k = cd_fm o' (o' k) k
    rw [(h k (by omega)).1]
    exact cd_fm_congr _ k (fun i hi => (h i (by omega)).1), (h k (by omega)).2⟩) j
/-- every event receives from an earlier one -/
def cd_wf (o f : Nat → Nat) (n : Nat) : Prop := ∀ k, k < n → o k < 6 ∧ f k ≤ k
theorem cd_wf.le {o f : Nat → Nat} {n m : Nat} (h : cd_wf o f n) (hm : m ≤ n) : cd_wf o f m := fun k hk => h k (by omega)
theorem cd_ck_le {o f : Nat → Nat} {n : Nat} (h : cd_wf o f n) (p : Nat) : ∀ j, j ≤ n → cd_ck o f j p ≤ cd_mn o p j := by
  intro j
  induction j using Nat.strongRecOn with
  | _ j ih =>
    intro hj
    cases j with
    | zero => exact Nat.le_refl _
    | succ k =>
      have hf := (h k (by omega)).2
      rw [cd_ck_s hf, cd_mn_s]
      have ha := cd_fm_le o (o k) k
      have h1 := ih (cd_fm o (o k) k) (by omega) (by omega)
      have h2 := ih (f k) (by omega) (by omega)
      have h3 := cd_mn_mono o p k ha
      have h4 := cd_mn_mono o p k hf
      omega
theorem cd_ck_fm {o f : Nat → Nat} {n : Nat} (h : cd_wf o f n) (p : Nat) : ∀ m, m ≤ n → cd_ck o f (cd_fm o p m) p = cd_mn o p m := by
  intro m
  induction m with
  | zero => intro _; rfl
  | succ m ih =>
    intro hm
    have ih := ih (by omega)
    by_cases hp : o m = p
    · have hf := (h m (by omega)).2
      rw [cd_fm_eq hp, cd_ck_s hf, cd_mn_eq hp, if_pos hp, hp, ih]
      have h2 := cd_ck_le h p (f m) (by omega)
      have h4 := cd_mn_mono o p m hf
      omega
    · rw [cd_fm_ne hp, cd_mn_ne hp, ih]
theorem cd_ck_own {o f : Nat → Nat} {n k : Nat} (h : cd_wf o f n) (hk : k < n) : cd_ck o f (k + 1) (o k) = cd_mn o (o k) k + 1 := by
  have h1 := cd_ck_fm h (o k) (k + 1) (by omega)
  rw [cd_fm_eq rfl, cd_mn_eq rfl] at h1
  exact h1
theorem cd_rk_le {o f : Nat → Nat} {n : Nat} (h : cd_wf o f n) : ∀ j, j ≤ n → cd_rk o f j ≤ j := by
  intro j
  induction j using Nat.strongRecOn with
  | _ j ih =>
    intro hj
    cases j with
    | zero => exact Nat.le_refl _
    | succ k =>
      have hf := (h k (by omega)).2
      rw [cd_rk_s hf]
      have ha := cd_fm_le o (o k) k
      have h1 := ih (cd_fm o (o k) k) (by omega) (by omega)
      have h2 := ih (f k) (by omega) (by omega)
      omega
/-- event e is, or is before, the event j in code -/
def cd_b (o f : Nat → Nat) (j e : Nat) : Prop := cd_mn o (o e) e < cd_ck o f j (o e)
theorem cd_b_0 {o f : Nat → Nat} {e : Nat} : ¬ cd_b o f 0 e := fun h => Nat.not_lt_zero _ h
theorem cd_b_lt {o f : Nat → Nat} {n j e : Nat} (h : cd_wf o f n) (hj : j ≤ n) (hb : cd_b o f j e) : e < j := by
  have h1 := cd_ck_le h (o e) j hj
  have h2 : cd_mn o (o e) e < cd_mn o (o e) j := Nat.lt_of_lt_of_le hb h1
  rcases Nat.lt_or_ge e j with z | z
  · exact z
  · have := cd_mn_mono o (o e) e z
    omega
theorem cd_b_s {o f : Nat → Nat} {n k : Nat} (h : cd_wf o f n) (hk : k < n) (e : Nat) : cd_b o f (k + 1) e ↔ e = k ∨ cd_b o f (cd_fm o (o k) k) e ∨ cd_b o f (f k) e := by
  have hf := (h k hk).2
  constructor
  · intro hb
    have hlt := cd_b_lt h (by omega) hb
    by_cases he : e = k
    · exact Or.inl he
    · right
      unfold cd_b at hb ⊢
      rw [cd_ck_s hf] at hb
      by_cases ho : o k = o e
      · left
        rw [ho, cd_ck_fm h (o e) k (by omega)]
        exact cd_mn_lt rfl (by omega)
      · rw [if_neg ho] at hb
        omega
  · intro hb
    unfold cd_b at hb ⊢
    rw [cd_ck_s hf]
    rcases hb with rfl | hb | hb
    · rw [if_pos rfl, cd_ck_fm h (o e) e (by omega)]
      omega
    · omega
    · omega
theorem cd_b_self {o f : Nat → Nat} {n k : Nat} (h : cd_wf o f n) (hk : k < n) : cd_b o f (k + 1) k := (cd_b_s h hk k).mpr (Or.inl rfl)
theorem cd_b_le {o f : Nat → Nat} {n e : Nat} (h : cd_wf o f n) (p : Nat) : ∀ j, j ≤ n → cd_b o f j e → cd_ck o f (e + 1) p ≤ cd_ck o f j p := by
  intro j
  induction j using Nat.strongRecOn with
  | _ j ih =>
    intro hj hb
    cases j with
    | zero => exact absurd hb cd_b_0
    | succ k =>
      have hf := (h k (by omega)).2
      have ha := cd_fm_le o (o k) k
      rcases (cd_b_s h (by omega) e).mp hb with rfl | hb | hb
      · exact Nat.le_refl _
      · have := ih _ (by omega) (by omega) hb
        rw [cd_ck_s hf]
        omega
      · have := ih _ (by omega) (by omega) hb
        rw [cd_ck_s hf p]
        omega
theorem cd_b_tr {o f : Nat → Nat} {n i j e : Nat} (h : cd_wf o f n) (hj : j ≤ n) (h1 : cd_b o f j i) (h2 : cd_b o f (i + 1) e) : cd_b o f j e :=
  Nat.lt_of_lt_of_le h2 (cd_b_le h (o e) j hj h1)
/-- e is before the event k -/
def cd_bf (o f : Nat → Nat) (k e : Nat) : Prop := cd_b o f (cd_fm o (o k) k) e ∨ cd_b o f (f k) e
theorem cd_bf_iff {o f : Nat → Nat} {n k : Nat} (h : cd_wf o f n) (hk : k < n) (e : Nat) : cd_bf o f k e ↔ e ≠ k ∧ cd_b o f (k + 1) e := by
  constructor
  · intro hb
    have hf := (h k hk).2
    have ha := cd_fm_le o (o k) k
    refine ⟨?_, (cd_b_s h hk e).mpr (Or.inr hb)⟩
    rcases hb with hb | hb
    · have := cd_b_lt h (by omega) hb
      omega
    · have := cd_b_lt h (by omega) hb
      omega
  · intro ⟨h1, h2⟩
    rcases (cd_b_s h hk e).mp h2 with h3 | h3
    · exact absurd h3 h1
    · exact h3
/-- how many below n -/
def cd_ct (P : Nat → Prop) [DecidablePred P] : Nat → Nat
  | 0 => 0
  | n + 1 => cd_ct P n + (if P n then 1 else 0)
def cd_s6 (g : Nat → Nat) : Nat := g 0 + g 1 + g 2 + g 3 + g 4 + g 5
theorem cd_ct_s6 (o c : Nat → Nat) : ∀ n, (∀ k, k < n → o k < 6) → cd_ct (fun e => cd_mn o (o e) e < c (o e)) n = cd_s6 (fun p => min (c p) (cd_mn o p n)) := by
  intro n
  induction n with
  | zero => intro _; simp [cd_ct, cd_s6, cd_mn]
  | succ n ih =>
    intro h
    have ih := ih (fun k hk => h k (by omega))
    show cd_ct _ n + (if cd_mn o (o n) n < c (o n) then 1 else 0) = _
    rw [ih]
    have hn := h n (by omega)
    unfold cd_s6
    simp only [cd_mn_s]
    generalize o n = q at hn ⊢
    have hq : q = 0 ∨ q = 1 ∨ q = 2 ∨ q = 3 ∨ q = 4 ∨ q = 5 := by omega
    rcases hq with rfl | rfl | rfl | rfl | rfl | rfl <;> (simp; split <;> omega)
theorem cd_ct_congr {P P' : Nat → Prop} [DecidablePred P] [DecidablePred P'] : ∀ n, (∀ k, k < n → (P k ↔ P' k)) → cd_ct P n = cd_ct P' n := by
  intro n
  induction n with
  | zero => intro _; rfl
  | succ n ih =>
    intro h
    have ih := ih (fun k hk => h k (by omega))
    have hn := h n (by omega)
    show cd_ct P n + (if P n then 1 else 0) = cd_ct P' n + (if P' n then 1 else 0)
    rw [ih]
    by_cases hp : P n
    · rw [if_pos hp, if_pos (hn.mp hp)]
    · rw [if_neg hp, if_neg (fun z => hp (hn.mpr z))]
theorem cd_ct_not {P : Nat → Prop} [DecidablePred P] : ∀ n, cd_ct (fun k => ¬ P k) n + cd_ct P n = n := by
  intro n
  induction n with
  | zero => rfl
  | succ n ih =>
    show (cd_ct (fun k => ¬ P k) n + (if ¬ P n then 1 else 0)) + (cd_ct P n + (if P n then 1 else 0)) = n + 1
    by_cases hp : P n
    · rw [if_pos hp, if_neg (fun z => z hp)]; omega
    · rw [if_neg hp, if_pos hp]; omega
theorem cd_ct_le {P : Nat → Prop} [DecidablePred P] : ∀ n, cd_ct P n ≤ n := by
  intro n
  have := cd_ct_not (P := P) n
  omega
/-- the clock row of event k sums up to its history -/
theorem cd_ck_sum {o f : Nat → Nat} {n k : Nat} (h : cd_wf o f n) (hk : k < n) : cd_ct (fun e => cd_mn o (o e) e < cd_ck o f (k + 1) (o e)) (k + 1) = cd_s6 (cd_ck o f (k + 1)) := by
  rw [cd_ct_s6 o (cd_ck o f (k + 1)) (k + 1) (fun i hi => (h i (by omega)).1)]
  unfold cd_s6
  have hl := fun p => cd_ck_le h p (k + 1) (by omega)
  simp only [Nat.min_eq_left (hl _)]
theorem cd_ck_pos {o f : Nat → Nat} {n k : Nat} (h : cd_wf o f n) (hk : k < n) : cd_s6 (cd_ck o f (k + 1)) = cd_ct (fun e => cd_mn o (o e) e < cd_ck o f (k + 1) (o e)) k + 1 := by
  rw [← cd_ck_sum h hk]
  show cd_ct _ k + (if cd_mn o (o k) k < cd_ck o f (k + 1) (o k) then 1 else 0) = _
  rw [if_pos (by rw [cd_ck_own h hk]; omega)]
/-! ===== cuts ===== -/
def cd_in (o c : Nat → Nat) (e : Nat) : Prop := cd_mn o (o e) e < c (o e)
def cd_cov (o f c : Nat → Nat) (e : Nat) : Prop := ∀ p, p < 6 → cd_ck o f (e + 1) p ≤ c p
def cd_wr (o f c : Nat → Nat) (n : Nat) : Prop := ∀ e, e < n → cd_in o c e → ∀ j, f e = j + 1 → cd_in o c j
def cd_wc (o f c : Nat → Nat) (n : Nat) : Prop := ∀ e, e < n → cd_in o c e → cd_cov o f c e
theorem cd_w_iff {o f c : Nat → Nat} {n : Nat} (h : cd_wf o f n) : cd_wr o f c n ↔ cd_wc o f c n := by
  constructor
  · intro hr e
    induction e using Nat.strongRecOn with
    | _ e ih =>
      intro he hi p hp
      have hf := (h e he).2
      rw [cd_ck_s hf]
      have h1 : cd_ck o f (cd_fm o (o e) e) p ≤ c p := by
        cases hj : cd_fm o (o e) e with
        | zero => exact Nat.zero_le _
        | succ i =>
          obtain ⟨hi1, hi2⟩ := cd_fm_of e hj
          refine ih i hi2 (by omega) ?_ p hp
          unfold cd_in at hi ⊢
          rw [hi1]
          exact Nat.lt_trans (cd_mn_lt hi1 hi2) hi
      have h2 : cd_ck o f (f e) p ≤ c p := by
        cases hj : f e with
        | zero => exact Nat.zero_le _
        | succ i => exact ih i (by omega) (by omega) (hr e he hi i hj) p hp
      by_cases ho : o e = p
      · subst ho
        rw [if_pos rfl, cd_ck_fm h (o e) e (by omega)]
        have h3 := cd_ck_le h (o e) (f e) (by omega)
        have h4 := cd_mn_mono o (o e) e hf
        unfold cd_in at hi
        omega
      · rw [if_neg ho]
        omega
  · intro hc e he hi j hj
    have hf := (h e he).2
    have hjn : j < n := by omega
    have h1 : cd_b o f (e + 1) j := (cd_b_s h he j).mpr (Or.inr (Or.inr (by rw [hj]; exact cd_b_self h hjn)))
    exact Nat.lt_of_lt_of_le h1 (hc e he hi (o j) (h j hjn).1)
/-- the class's closing, step by step -/
def cd_cl (o f : Nat → Nat) (c : Nat → Nat) : Nat → Nat → Nat
  | 0 => c
  | e + 1 => if cd_mn o (o e) e < cd_cl o f c e (o e) then (fun p => max (cd_cl o f c e p) (cd_ck o f (e + 1) p)) else cd_cl o f c e
theorem cd_cl_inv {o f c : Nat → Nat} {n : Nat} (h : cd_wf o f n) (hc : ∀ p, p < 6 → c p ≤ cd_mn o p n) : ∀ e, e ≤ n → (∀ p, c p ≤ cd_cl o f c e p) ∧ (∀ p, p < 6 → cd_cl o f c e p ≤ cd_mn o p n) ∧ (∀ k, k < e → cd_in o (cd_cl o f c e) k → cd_cov o f (cd_cl o f c e) k) ∧
    ∀ w : Nat → Nat, (∀ p, p < 6 → c p ≤ w p) → cd_wc o f w n → ∀ p, p < 6 → cd_cl o f c e p ≤ w p := by
  intro e
  induction e with
  | zero => intro _; exact ⟨fun _ => Nat.le_refl _, hc, fun k hk => absurd hk (Nat.not_lt_zero _), fun w hw _ => hw⟩
  | succ e ih =>
    intro he
    obtain ⟨h1, h2, h3, h4⟩ := ih (by omega)
    by_cases hi : cd_mn o (o e) e < cd_cl o f c e (o e)
    · have e0 : cd_cl o f c (e + 1) = fun p => max (cd_cl o f c e p) (cd_ck o f (e + 1) p) := if_pos hi
      rw [e0]
      refine ⟨fun p => Nat.le_trans (h1 p) (Nat.le_max_left _ _), fun p hp => ?_, fun k hk hik p hp => ?_, fun w hw hwc p hp => ?_⟩
      · have a1 := h2 p hp
        have a2 := cd_ck_le h p (e + 1) he
        have a3 := cd_mn_mono o p n he
        show max _ _ ≤ _
        omega
      · show _ ≤ max _ _
        by_cases hke : k = e
        · subst hke; exact Nat.le_max_right _ _
        · have hik : cd_mn o (o k) k < max (cd_cl o f c e (o k)) (cd_ck o f (e + 1) (o k)) := hik
          by_cases hb : cd_b o f (e + 1) k
          · exact Nat.le_trans (cd_b_le h p (e + 1) he hb) (Nat.le_max_right _ _)
          · unfold cd_b at hb
            exact Nat.le_trans (h3 k (by omega) (show cd_mn o (o k) k < _ by omega) p hp) (Nat.le_max_left _ _)
      · show max _ _ ≤ _
        have a1 := h4 w hw hwc
        have a2 := hwc e (by omega) (Nat.lt_of_lt_of_le hi (a1 (o e) (h e (by omega)).1)) p hp
        have a3 := a1 p hp
        omega
    · have e0 : cd_cl o f c (e + 1) = cd_cl o f c e := if_neg hi
      rw [e0]
      refine ⟨h1, h2, fun k hk hik => ?_, h4⟩
      by_cases hke : k = e
      · subst hke; exact absurd hik hi
      · exact h3 k (by omega) hik
abbrev cd_c6 (g c : Nat → Nat) : Prop := g 0 ≤ c 0 ∧ g 1 ≤ c 1 ∧ g 2 ≤ c 2 ∧ g 3 ≤ c 3 ∧ g 4 ≤ c 4 ∧ g 5 ≤ c 5
theorem cd_c6_iff {g c : Nat → Nat} : cd_c6 g c ↔ ∀ p, p < 6 → g p ≤ c p := by
  constructor
  · intro ⟨h0, h1, h2, h3, h4, h5⟩ p hp
    have hq : p = 0 ∨ p = 1 ∨ p = 2 ∨ p = 3 ∨ p = 4 ∨ p = 5 := by omega
    rcases hq with rfl | rfl | rfl | rfl | rfl | rfl <;> assumption
  · intro h
    exact ⟨h 0 (by omega), h 1 (by omega), h 2 (by omega), h 3 (by omega), h 4 (by omega), h 5 (by omega)⟩
/-- the class's opening, step by step -/
def cd_op (o f : Nat → Nat) (c : Nat → Nat) : Nat → Nat → Nat
  | 0 => c
  | e + 1 => if cd_mn o (o e) e < cd_op o f c e (o e) ∧ ¬ cd_c6 (cd_ck o f (e + 1)) (cd_op o f c e) then (fun p => if p = o e then cd_mn o (o e) e else cd_op o f c e p) else cd_op o f c e
theorem cd_op_inv {o f c : Nat → Nat} {n : Nat} (h : cd_wf o f n) : ∀ e, e ≤ n → (∀ p, cd_op o f c e p ≤ c p) ∧ (∀ k, k < e → cd_in o (cd_op o f c e) k → cd_cov o f (cd_op o f c e) k) ∧
    ∀ w : Nat → Nat, (∀ p, p < 6 → w p ≤ c p) → cd_wc o f w n → ∀ p, p < 6 → w p ≤ cd_op o f c e p := by
  intro e
  induction e with
  | zero => intro _; exact ⟨fun _ => Nat.le_refl _, fun k hk => absurd hk (Nat.not_lt_zero _), fun w hw _ => hw⟩
  | succ e ih =>
    intro he
    obtain ⟨h1, h3, h4⟩ := ih (by omega)
    by_cases hi : cd_mn o (o e) e < cd_op o f c e (o e) ∧ ¬ cd_c6 (cd_ck o f (e + 1)) (cd_op o f c e)
    · have e0 : cd_op o f c (e + 1) = fun p => if p = o e then cd_mn o (o e) e else cd_op o f c e p := if_pos hi
      rw [e0]
      obtain ⟨hi1, hi2⟩ := hi
      refine ⟨fun p => ?_, fun k hk hik p hp => ?_, fun w hw hwc p hp => ?_⟩
      · show (if _ then _ else _) ≤ _
        split
        · rename_i z; subst z; have := h1 (o e); omega
        · exact h1 p
      · have hik : cd_mn o (o k) k < if o k = o e then cd_mn o (o e) e else cd_op o f c e (o k) := hik
        have hke : k < e := by
          rcases Nat.lt_or_ge k e with z | z
          · exact z
          · have z : k = e := by omega
            subst z
            rw [if_pos rfl] at hik
            omega
        have hin : cd_in o (cd_op o f c e) k := by
          unfold cd_in
          split at hik
          · rename_i z; rw [z] at hik ⊢; omega
          · exact hik
        have hcv := h3 k hke hin p hp
        show _ ≤ (if _ then _ else _)
        split
        · rename_i z; subst z
          have a1 := cd_ck_le h (o e) (k + 1) (by omega)
          have a2 := cd_mn_mono o (o e) e (show k + 1 ≤ e by omega)
          omega
        · exact hcv
      · have a1 := h4 w hw hwc
        show _ ≤ (if _ then _ else _)
        split
        · rename_i z; subst z
          rcases Nat.lt_or_ge (cd_mn o (o e) e) (w (o e)) with z | z
          · exact absurd (cd_c6_iff.mpr (fun q hq => Nat.le_trans (hwc e (by omega) z q hq) (a1 q hq))) hi2
          · exact z
        · exact a1 p hp
    · have e0 : cd_op o f c (e + 1) = cd_op o f c e := if_neg hi
      rw [e0]
      refine ⟨h1, fun k hk hik p hp => ?_, h4⟩
      by_cases hke : k = e
      · subst hke
        rcases Nat.lt_or_ge (cd_op o f c k p) (cd_ck o f (k + 1) p) with z | z
        · exact absurd ⟨hik, fun q => by have := cd_c6_iff.mp q p hp; omega⟩ hi
        · exact z
      · exact h3 k (by omega) hik p hp
