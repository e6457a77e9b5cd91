/-! READING A TEXT: tokens, items, what it tells -/
def t_in (lo hi : Int32) (x : Int32) : Bool := decide (lo.toInt ≤ x.toInt ∧ x.toInt ≤ hi.toInt)
theorem t_lo_in : t_lo = t_in 97 122 := by
  funext x
  unfold t_lo t_in
  rw [show (97 : Int32).toInt = 97 by decide, show (122 : Int32).toInt = 122 by decide]
theorem t_di_in : t_di = t_in 48 57 := by
  funext x
  unfold t_di t_in
  rw [show (48 : Int32).toInt = 48 by decide, show (57 : Int32).toInt = 57 by decide]
def t_c (f : Nat → Int32) : Prop := ∀ p, 240 ≤ p → f p = 0
theorem t_uniq {b : Nat} {H : Heap} {f g : Nat → Int32} (hA : y_A b 240 H f) (hB : y_A b 240 H g) (hf : t_c f) (hg : t_c g) : f = g := by
  funext p
  by_cases hp : p < 240
  · have := (hA p hp).symm.trans (hB p hp)
    injection this with this
    injection this
  · rw [hf p (by omega), hg p (by omega)]
theorem t_canon {b : Nat} {H : Heap} {f : Nat → Int32} (hA : y_A b 240 H f) : ∃ g, t_c g ∧ y_A b 240 H g := by
  refine ⟨fun p => if p < 240 then f p else 0, fun p hp => if_neg (by omega), fun j hj => ?_⟩
  dsimp only
  rw [if_pos hj]; exact hA j hj
theorem t_run_all {P : Int32 → Bool} {t : Nat → Int32} {n : Nat} : ∀ (k p i : Nat), p ≤ i → i < t_run P t n k p → P (t i) = true := by
  intro k
  induction k with
  | zero => intro p i h1 h2; exact absurd (show i < p from h2) (by omega)
  | succ k ih =>
    intro p i h1 h2
    unfold t_run at h2
    split at h2
    · next h =>
      by_cases e : i = p
      · subst e; exact h.2
      · exact ih (p + 1) i (by omega) h2
    · omega
theorem t_pass_all {P : Int32 → Bool} {t : Nat → Int32} {n p : Nat} (i : Nat) (h1 : p ≤ i) (h2 : i < t_pass P t n p) : P (t i) = true := t_run_all _ _ i h1 h2
section TTK
variable {t : Nat → Int32} {n p a : Nat}
theorem t_tok_end (ha : t_at t n p = a) (h : n ≤ a) : t_tok t n p = (0, a) := by
  unfold t_tok
  rw [ha, if_pos h]
theorem t_tok_stop (ha : t_at t n p = a) (h : a < n) (h1 : (t a).toInt = 59) : t_tok t n p = (3, a + 1) := by
  unfold t_tok
  rw [ha, if_neg (by omega), if_pos h1]
theorem t_tok_word (ha : t_at t n p = a) (h : a < n) (h2 : t_lo (t a) = true) : t_tok t n p = (1, t_pass t_lo t n (a + 1)) := by
  have h1 : ¬ (t a).toInt = 59 := by
    have := of_decide_eq_true h2
    omega
  unfold t_tok
  rw [ha, if_neg (by omega), if_neg h1, if_pos h2]
theorem t_tok_num (ha : t_at t n p = a) (h : a < n) (h2 : t_di (t a) = true) : t_tok t n p = (if t_pass t_di t n (a + 1) - a ≤ 2 then 2 else 4, t_pass t_di t n (a + 1)) := by
  have h3 := of_decide_eq_true h2
  have h4 : ¬ t_lo (t a) = true := fun q => by
    have := of_decide_eq_true q
    omega
  unfold t_tok
  rw [ha, if_neg (by omega), if_neg (by omega), if_neg h4, if_pos h2]
theorem t_tok_odd (ha : t_at t n p = a) (h : a < n) (h1 : ¬ (t a).toInt = 59) (h2 : ¬ t_lo (t a) = true) (h3 : ¬ t_di (t a) = true) : t_tok t n p = (4, a + 1) := by
  unfold t_tok
  rw [ha, if_neg (by omega), if_neg h1, if_neg h2, if_neg h3]
/-- a number: its figures, one or two -/
theorem t_tok_dig (h : (t_tok t n p).1 = 2) : (t_tok t n p).2 - t_at t n p ≤ 2 ∧ ∀ i, t_at t n p ≤ i → i < (t_tok t n p).2 → 48 ≤ (t i).toInt ∧ (t i).toInt ≤ 57 := by
  by_cases h0 : n ≤ t_at t n p
  · rw [t_tok_end rfl h0] at h; cases h
  by_cases h1 : (t (t_at t n p)).toInt = 59
  · rw [t_tok_stop rfl (by omega) h1] at h; cases h
  by_cases h2 : t_lo (t (t_at t n p)) = true
  · rw [t_tok_word rfl (by omega) h2] at h; cases h
  by_cases h3 : t_di (t (t_at t n p)) = true
  · rw [t_tok_num rfl (by omega) h3] at h ⊢
    by_cases h4 : t_pass t_di t n (t_at t n p + 1) - t_at t n p ≤ 2
    · refine ⟨h4, fun i i1 i2 => ?_⟩
      by_cases e : i = t_at t n p
      · rw [e]; exact of_decide_eq_true h3
      · exact of_decide_eq_true (t_pass_all (P := t_di) (n := n) (p := t_at t n p + 1) i (by omega) i2)
    · dsimp only at h
      rw [if_neg h4] at h; cases h
  · rw [t_tok_odd rfl (by omega) h1 h2 h3] at h; cases h
end TTK
/-- items -/
def t_NUM : List Nat := [3, 3, 4, 4, 4, 4, 3, 1, 1, 1]
def t_len (t : Nat → Int32) (n p : Nat) : Nat := (t_tok t n p).2 - t_at t n p
def t_it (t : Nat → Int32) (n p : Nat) : Nat := t_item t (t_at t n p) (t_len t n p)
def t_cnt (t : Nat → Int32) (n p : Nat) : Nat := t_NUM.getD (t_it t n p) 0
def t_args (t : Nat → Int32) (n : Nat) : Nat → Nat → Nat × Nat
  | 0, p => if (t_tok t n p).1 = 3 then (1, (t_tok t n p).2) else (2, t_at t n p)
  | k + 1, p => if (t_tok t n p).1 = 2 then t_args t n k (t_tok t n p).2 else (2, t_at t n p)
def t_nx (t : Nat → Int32) (n p : Nat) : Nat × Nat := if (t_tok t n p).1 = 0 then (0, t_at t n p) else if (t_tok t n p).1 = 1 ∧ t_it t n p < 10 then t_args t n (t_cnt t n p) (t_tok t n p).2 else (2, t_at t n p)
def t_ap (t : Nat → Int32) (n : Nat) : Nat → Nat → Nat
  | 0, p => p
  | i + 1, p => (t_tok t n (t_ap t n i p)).2
def t_v (t : Nat → Int32) (n p : Nat) : Int := t_num t (t_at t n p) (t_len t n p)
def t_arg (t : Nat → Int32) (n p i : Nat) : Int := if i < t_cnt t n p then t_v t n (t_ap t n i (t_tok t n p).2) else 0
section TNX
variable {t : Nat → Int32} {n p : Nat}
theorem t_cnt4 : t_cnt t n p ≤ 4 := by
  unfold t_cnt
  have h : ∀ k, k < 10 → t_NUM.getD k 0 ≤ 4 := by decide
  by_cases hk : t_it t n p < 10
  · exact h _ hk
  · have e9 : t_NUM.getD (t_it t n p) 0 = 0 := by
      unfold List.getD
      rw [List.getElem?_eq_none (show t_NUM.length ≤ _ by show 10 ≤ _; omega)]
      rfl
    rw [e9]; omega
theorem t_args_S {k q : Nat} (h : (t_tok t n q).1 = 2) : t_args t n (k + 1) q = t_args t n k (t_tok t n q).2 := if_pos h
theorem t_args_F {k q : Nat} (h : ¬ (t_tok t n q).1 = 2) : t_args t n (k + 1) q = (2, t_at t n q) := if_neg h
theorem t_args_0 {q : Nat} (h : (t_tok t n q).1 = 3) : t_args t n 0 q = (1, (t_tok t n q).2) := if_pos h
theorem t_args_0F {q : Nat} (h : ¬ (t_tok t n q).1 = 3) : t_args t n 0 q = (2, t_at t n q) := if_neg h
theorem t_args_c : ∀ (k q : Nat), (t_args t n k q).1 = 1 ∨ (t_args t n k q).1 = 2 := by
  intro k
  induction k with
  | zero =>
    intro q
    by_cases h : (t_tok t n q).1 = 3
    · rw [t_args_0 h]; exact Or.inl rfl
    · rw [t_args_0F h]; exact Or.inr rfl
  | succ k ih =>
    intro q
    by_cases h : (t_tok t n q).1 = 2
    · rw [t_args_S h]; exact ih _
    · rw [t_args_F h]; exact Or.inr rfl
theorem t_args_le : ∀ (k q : Nat), q ≤ n → q ≤ (t_args t n k q).2 ∧ (t_args t n k q).2 ≤ n := by
  intro k
  induction k with
  | zero =>
    intro q hq
    have hk := t_tok_le (t := t) hq
    by_cases h : (t_tok t n q).1 = 3
    · rw [t_args_0 h]; exact ⟨by show q ≤ _; omega, hk.2.2.1⟩
    · rw [t_args_0F h]; exact ⟨hk.1, by show t_at t n q ≤ n; omega⟩
  | succ k ih =>
    intro q hq
    have hk := t_tok_le (t := t) hq
    by_cases h : (t_tok t n q).1 = 2
    · rw [t_args_S h]
      have := ih (t_tok t n q).2 hk.2.2.1
      omega
    · rw [t_args_F h]; exact ⟨hk.1, by show t_at t n q ≤ n; omega⟩
theorem t_nx_end (h : (t_tok t n p).1 = 0) : t_nx t n p = (0, t_at t n p) := if_pos h
theorem t_nx_bad (h : ¬ (t_tok t n p).1 = 0) (h1 : ¬ ((t_tok t n p).1 = 1 ∧ t_it t n p < 10)) : t_nx t n p = (2, t_at t n p) := by
  unfold t_nx
  rw [if_neg h, if_neg h1]
theorem t_nx_it (h1 : (t_tok t n p).1 = 1 ∧ t_it t n p < 10) : t_nx t n p = t_args t n (t_cnt t n p) (t_tok t n p).2 := by
  unfold t_nx
  rw [if_neg (by omega), if_pos h1]
theorem t_nx_c : (t_nx t n p).1 ≤ 2 := by
  unfold t_nx
  split
  · exact Nat.zero_le _
  · split
    · rcases t_args_c (t := t) (n := n) (t_cnt t n p) (t_tok t n p).2 with h | h <;> omega
    · exact Nat.le_refl _
/-- an item is at least a byte -/
theorem t_nx_lt (hp : p ≤ n) (h : (t_nx t n p).1 = 1) : p < (t_nx t n p).2 ∧ (t_nx t n p).2 ≤ n ∧ (t_tok t n p).1 = 1 ∧ t_it t n p < 10 := by
  by_cases h0 : (t_tok t n p).1 = 0
  · rw [t_nx_end h0] at h; cases h
  by_cases h1 : (t_tok t n p).1 = 1 ∧ t_it t n p < 10
  · rw [t_nx_it h1]
    have hk := t_tok_le (t := t) hp
    have := t_args_le (t := t) (t_cnt t n p) (t_tok t n p).2 hk.2.2.1
    have h3 := hk.2.2.2 h0
    exact ⟨by omega, this.2, h1⟩
  · rw [t_nx_bad h0 h1] at h; cases h
theorem t_nx_le (hp : p ≤ n) : (t_nx t n p).2 ≤ n := by
  by_cases h0 : (t_tok t n p).1 = 0
  · rw [t_nx_end h0]; have hk := t_tok_le (t := t) hp; show t_at t n p ≤ n; omega
  by_cases h1 : (t_tok t n p).1 = 1 ∧ t_it t n p < 10
  · rw [t_nx_it h1]
    have hk := t_tok_le (t := t) hp
    exact (t_args_le (t := t) (t_cnt t n p) (t_tok t n p).2 hk.2.2.1).2
  · rw [t_nx_bad h0 h1]; have hk := t_tok_le (t := t) hp; show t_at t n p ≤ n; omega
theorem t_ap_le {q : Nat} (hq : q ≤ n) : ∀ i, q ≤ t_ap t n i q ∧ t_ap t n i q ≤ n := by
  intro i
  induction i with
  | zero => exact ⟨Nat.le_refl _, hq⟩
  | succ i ih =>
    have hk := t_tok_le (t := t) ih.2
    show q ≤ (t_tok t n (t_ap t n i q)).2 ∧ (t_tok t n (t_ap t n i q)).2 ≤ n
    omega
end TNX
/-- where the i-th item begins -/
def t_ip (t : Nat → Int32) (n : Nat) : Nat → Nat
  | 0 => 0
  | i + 1 => (t_nx t n (t_ip t n i)).2
def t_good (t : Nat → Int32) (n i : Nat) : Prop := ∀ j, j < i → (t_nx t n (t_ip t n j)).1 = 1
theorem t_good_S {t : Nat → Int32} {n i : Nat} (h : t_good t n i) (h1 : (t_nx t n (t_ip t n i)).1 = 1) : t_good t n (i + 1) := fun j hj => by
  by_cases e : j = i
  · rw [e]; exact h1
  · exact h j (by omega)
theorem t_good_le {t : Nat → Int32} {n : Nat} : ∀ i, t_good t n i → i ≤ t_ip t n i ∧ t_ip t n i ≤ n := by
  intro i
  induction i with
  | zero => intro _; exact ⟨Nat.le_refl _, Nat.zero_le _⟩
  | succ i ih =>
    intro h
    have h0 := ih (fun j hj => h j (by omega))
    have h1 := t_nx_lt h0.2 (h i (by omega))
    show i + 1 ≤ (t_nx t n (t_ip t n i)).2 ∧ (t_nx t n (t_ip t n i)).2 ≤ n
    omega
/-- the text as a whole: N items, then its end (0) or a fault (2) at q -/
def t_res (t : Nat → Int32) (n N c q : Nat) : Prop := t_good t n N ∧ t_nx t n (t_ip t n N) = (c, q) ∧ c ≠ 1
theorem t_res.eq {t : Nat → Int32} {n N c q N' c' q' : Nat} (h : t_res t n N c q) (h' : t_res t n N' c' q') : N = N' ∧ c = c' ∧ q = q' := by
  have e : N = N' := by
    rcases Nat.lt_trichotomy N N' with e | e | e
    · exact absurd (h'.1 N e) (by rw [h.2.1]; exact h.2.2)
    · exact e
    · exact absurd (h.1 N' e) (by rw [h'.2.1]; exact h'.2.2)
  subst e
  have := h.2.1.symm.trans h'.2.1
  injection this with a b
  exact ⟨rfl, a, b⟩
/-- an item told, as its call -/
def m_tell (t : Nat → Int32) (n p : Nat) (f : Nat → Int32) (r : Int32) (g : Nat → Int32) : Prop :=
  (t_it t n p = 0 → m_hill f (Int32.ofInt (t_arg t n p 0)) (Int32.ofInt (t_arg t n p 1)) (Int32.ofInt (t_arg t n p 2)) r g) ∧
  (1 ≤ t_it t n p → t_it t n p ≤ 6 → m_thing f (Int32.ofInt ((t_it t n p : Int) - 1)) (Int32.ofInt (t_arg t n p 0)) (Int32.ofInt (t_arg t n p 1)) (Int32.ofInt (t_arg t n p 2)) (Int32.ofInt (t_arg t n p 3)) r g) ∧
  (7 ≤ t_it t n p → m_put f (Int32.ofInt ((t_it t n p : Int) - 7)) (Int32.ofInt (t_arg t n p 0)) r g)
def m_bd (f : Nat → Int32) : Prop := (f 0).toInt ≤ 10 ∧ (f 1).toInt ≤ 8
theorem m_tell.eq {t : Nat → Int32} {n p : Nat} {f g g' : Nat → Int32} {r r' : Int32} (hb : m_bd f) (h : m_tell t n p f r g) (h' : m_tell t n p f r' g') : r = r' ∧ g = g' := by
  by_cases h0 : t_it t n p = 0
  · exact (h.1 h0).eq hb.1 (h'.1 h0)
  by_cases h1 : t_it t n p ≤ 6
  · exact (h.2.1 (by omega) h1).eq hb.2 (h'.2.1 (by omega) h1)
  · exact (h.2.2 (by omega)).eq (h'.2.2 (by omega))
/-- the first i items told, none refused -/
def m_seq (t : Nat → Int32) (n : Nat) (f : Nat → Int32) : Nat → (Nat → Int32) → Prop
  | 0, g => g = f
  | i + 1, g => ∃ (h : Nat → Int32) (r : Int32), m_seq t n f i h ∧ m_bd h ∧ m_tell t n (t_ip t n i) h r g ∧ 0 ≤ r.toInt
theorem m_seq.eq {t : Nat → Int32} {n : Nat} {f : Nat → Int32} : ∀ (i : Nat) (g g' : Nat → Int32), m_seq t n f i g → m_seq t n f i g' → g = g' := by
  intro i
  induction i with
  | zero => intro g g' h h'; exact Eq.trans h (Eq.symm h')
  | succ i ih =>
    rintro g g' ⟨h, r, h1, h2, h3, -⟩ ⟨h', r', h1', h2', h3', -⟩
    cases ih h h' h1 h1'
    exact (h3.eq h2 h3').2
theorem m_seq.down {t : Nat → Int32} {n : Nat} {f : Nat → Int32} : ∀ (i : Nat) (g : Nat → Int32), m_seq t n f i g → ∀ j, j < i → ∃ (h : Nat → Int32) (r : Int32) (g' : Nat → Int32), m_seq t n f j h ∧ m_bd h ∧ m_tell t n (t_ip t n j) h r g' ∧ 0 ≤ r.toInt := by
  intro i
  induction i with
  | zero => intro g _ j hj; exact absurd hj (Nat.not_lt_zero _)
  | succ i ih =>
    rintro g ⟨h, r, h1, h2, h3, h4⟩ j hj
    by_cases e : j = i
    · subst e; exact ⟨h, r, g, h1, h2, h3, h4⟩
    · exact ih h h1 j (by omega)
/-- item i refused, all before it told -/
def m_ref (t : Nat → Int32) (n : Nat) (f : Nat → Int32) (i : Nat) : Prop := ∃ (h : Nat → Int32) (r : Int32) (g : Nat → Int32), m_seq t n f i h ∧ m_bd h ∧ m_tell t n (t_ip t n i) h r g ∧ r.toInt < 0
theorem m_ref.not {t : Nat → Int32} {n : Nat} {f g : Nat → Int32} {i j : Nat} (h : m_ref t n f i) (hj : i < j) (h' : m_seq t n f j g) : False := by
  obtain ⟨a, r, b, a1, a2, a3, a4⟩ := h
  obtain ⟨a', r', b', a1', a2', a3', a4'⟩ := m_seq.down j g h' i hj
  cases m_seq.eq i _ _ a1 a1'
  have := (a3.eq a2 a3').1
  subst this
  omega
theorem m_ref.eq {t : Nat → Int32} {n : Nat} {f : Nat → Int32} {i j : Nat} (h : m_ref t n f i) (h' : m_ref t n f j) : i = j := by
  have key : ∀ {i j : Nat}, m_ref t n f i → m_ref t n f j → ¬ i < j := fun {i j} a b hlt => by
    obtain ⟨c, r, d, c1, -⟩ := b
    exact a.not hlt c1
  rcases Nat.lt_trichotomy i j with e | e | e
  · exact absurd e (key h h')
  · exact e
  · exact absurd e (key h' h)
/-- LAND: what it answers, the row behind -/
def m_land (t : Nat → Int32) (n : Nat) (f : Nat → Int32) (r : Int32) (g : Nat → Int32) : Prop := ∃ N c q : Nat, t_res t n N c q ∧ (c = 2 → r.toInt = -10 - (q : Int) ∧ g = f) ∧ (c = 0 → (m_seq t n (m_beg f) N g ∧ r.toInt = N) ∨ ∃ k, k < N ∧ m_ref t n (m_beg f) k ∧ r.toInt = -1000 - (k : Int) ∧ g = f)
theorem m_land.eq {t : Nat → Int32} {n : Nat} {f g g' : Nat → Int32} {r r' : Int32} (h : m_land t n f r g) (h' : m_land t n f r' g') : r = r' ∧ g = g' := by
  obtain ⟨N, c, q, a1, a2, a3⟩ := h
  obtain ⟨N', c', q', b1, b2, b3⟩ := h'
  obtain ⟨rfl, rfl, rfl⟩ := a1.eq b1
  have hc : c = 0 ∨ c = 2 := by
    have h1 := a1.2.2
    have h2 := t_nx_c (t := t) (n := n) (p := t_ip t n N)
    rw [a1.2.1] at h2
    dsimp only at h2
    omega
  rcases hc with rfl | rfl
  · rcases a3 rfl with ⟨a4, a5⟩ | ⟨k, k1, k2, k3, k4⟩ <;> rcases b3 rfl with ⟨b4, b5⟩ | ⟨k', k1', k2', k3', k4'⟩
    · exact ⟨Int32.toInt_inj.mp (a5.trans b5.symm), m_seq.eq N _ _ a4 b4⟩
    · exact (k2'.not k1' a4).elim
    · exact (k2.not k1 b4).elim
    · cases k2.eq k2'
      exact ⟨Int32.toInt_inj.mp (k3.trans k3'.symm), k4.trans k4'.symm⟩
  · have h1 := a2 rfl
    have h2 := b2 rfl
    exact ⟨Int32.toInt_inj.mp (h1.1.trans h2.1.symm), h1.2.trans h2.2.symm⟩

