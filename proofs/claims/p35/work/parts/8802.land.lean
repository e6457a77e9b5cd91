/-! A LAND AND ITS PICTURE: at which place of the reference's row each number of a land stands -/
abbrev zC : Type := Nat × Nat × Nat × Nat × Nat
def z_C : List zC := [(1, 19, 10, 10, 5), (2, 20, 10, 11, 5), (3, 21, 10, 12, 5), (4, 22, 10, 13, 5), (5, 23, 10, 14, 5), (8, 25, 8, 65, 7), (9, 26, 8, 66, 7), (10, 27, 4, 4, 1), (11, 28, 12, 116, 1), (13, 29, 8, 128, 1), (14, 30, 12, 136, 2), (15, 31, 12, 137, 2)]
def z_pl (c : zC) (j : Nat) : Nat := c.2.2.2.1 + c.2.2.2.2 * j
def z_Kd : List (Nat × Nat) := [(11, 6), (12, 10), (13, 4), (14, 1), (15, 8), (16, 9)]
def z_st (D : va_G) (Y : xY) (s : Nat) (H : Heap) (f : Nat → Int32) (p : Nat) : Prop := ∃ z ∈ z_Kd, Y s = some z.1 ∧ (z.1 : Int) = 11 + (f p).toInt ∧ ∀ k, k < 5 → x_sl D z.2 k s H = some (.int (f (p + k)))
def z_np (p : Nat) : Bool := decide (p = 3) || (decide (p = 8) || (decide (p = 9) || decide (160 ≤ p)))
def z_L (D : va_G) (Y : xY) (q : Nat) (H : Heap) (f : Nat → Int32) : Prop := (x_sl D 2 0 q H = some (.int (f 0)) ∧ x_sl D 2 6 q H = some (.int (f 1)) ∧ x_sl D 2 12 q H = some (.int (f 2))) ∧ (∀ c ∈ z_C, ∃ a : Nat, x_sl D 2 c.1 q H = some (.ref a) ∧ Y a = some c.2.1 ∧ ∀ j, j < c.2.2.1 → y_at a j H = some (.int (f (z_pl c j)))) ∧ (∃ a : Nat, x_sl D 2 7 q H = some (.ref a) ∧ Y a = some 24 ∧ ∀ j, j < 8 → ∃ s : Nat, y_at a j H = some (.ref s) ∧ z_st D Y s H f (60 + 7 * j)) ∧ ∀ p, z_np p = true → f p = 0
/-- the places, each once -/
theorem z_pl_injB : (z_C.all fun c => z_C.all fun d => (List.range c.2.2.1).all fun j => (List.range d.2.2.1).all fun i => !(Nat.beq (z_pl c j) (z_pl d i)) || (Nat.beq c.1 d.1 && Nat.beq j i)) = true := by decide +kernel
theorem z_C_fld0 : ∀ c ∈ z_C, ∀ d ∈ z_C, c.1 = d.1 → c = d := by decide
theorem z_pl_inj (c : zC) (hc : c ∈ z_C) (d : zC) (hd : d ∈ z_C) (j : Nat) (hj : j < c.2.2.1) (i : Nat) (hi : i < d.2.2.1) (h : z_pl c j = z_pl d i) : c = d ∧ j = i := by
  have h1 := List.all_eq_true.mp (List.all_eq_true.mp (List.all_eq_true.mp (List.all_eq_true.mp z_pl_injB c hc) d hd) j (List.mem_range.mpr hj)) i (List.mem_range.mpr hi)
  rw [h, Nat.beq_refl] at h1
  simp only [Bool.not_true, Bool.false_or, Bool.and_eq_true] at h1
  exact ⟨z_C_fld0 c hc d hd (Nat.eq_of_beq_eq_true h1.1), Nat.eq_of_beq_eq_true h1.2⟩
theorem z_pl_int : ∀ c ∈ z_C, ∀ j, j < c.2.2.1 → 2 < z_pl c j ∧ z_pl c j < 160 := by decide +kernel
theorem z_pl_st : ∀ c ∈ z_C, ∀ j, j < c.2.2.1 → ∀ i, i < 8 → ∀ k, k < 5 → z_pl c j ≠ 60 + 7 * i + k := by decide +kernel
theorem z_pl_np : ∀ c ∈ z_C, ∀ j, j < c.2.2.1 → z_np (z_pl c j) = false := by decide +kernel
theorem z_np_all : ∀ p, p < 160 → (z_np p || (decide (p < 3) || ((z_C.any fun c => (List.range c.2.2.1).any fun j => z_pl c j == p) || ((List.range 8).any fun j => (List.range 5).any fun k => 60 + 7 * j + k == p)))) = true := by decide +kernel
theorem z_C_tag : ∀ c ∈ z_C, 19 ≤ c.2.1 ∧ c.2.1 ≤ 31 ∧ c.2.1 ≠ 24 := by decide
theorem z_C_tagi : ∀ c ∈ z_C, ∀ d ∈ z_C, c.2.1 = d.2.1 → c = d := by decide
theorem z_Kd_tag : ∀ z ∈ z_Kd, 11 ≤ z.1 ∧ z.1 ≤ 16 := by decide
/-- a cell of ours that is as it was -/
def x_eq (D : va_G) (g : xG) (b : Nat) (H H' : Heap) : Prop := match g with
  | .inl o => ∀ k, k < o.2.length → x_sl D o.1 k b H' = x_sl D o.1 k b H
  | .inr _ => H'[b]? = H[b]?
theorem x_eq.of {D : va_G} {g : xG} {b : Nat} {H H' : Heap} (e : H'[b]? = H[b]?) : x_eq D g b H H' := by
  rcases g with o | q
  · exact fun _ _ => y_slk rfl e
  · exact e
theorem x_eq.trans {D : va_G} {g : xG} {b : Nat} {H H1 H2 : Heap} (h1 : x_eq D g b H1 H2) (h : x_eq D g b H H1) : x_eq D g b H H2 := by
  rcases g with o | q
  · exact fun k hk => (h1 k hk).trans (h k hk)
  · exact Eq.trans h1 h
theorem x_eq.E {D : va_G} {Y : xY} {H H' : Heap} {b u : Nat} {g : xG} {ef : List (Nat × Nat)} (hE : x_E D x_G ef Y H H') (hb : Y b = some u) (hg : x_G[u]? = some g) (hn : ef.all (fun z => !(Nat.beq z.1 u)) = true) : x_eq D g b H H' := by
  have h9 : ∀ k, (u, k) ∉ ef := fun k hz => by
    have := List.all_eq_true.mp hn _ hz
    rw [Nat.beq_refl] at this
    cases this
  have h := hE b u g hb hg
  rcases g with o | q
  · exact fun k hk => h k hk (h9 k)
  · exact h.1 (h9 0)
def z_fr (D : va_G) (Y : xY) (H H' : Heap) (q : Nat) : Prop := ∀ b u g, Y b = some u → x_G[u]? = some g → b ≠ q → (∀ k, k < 16 → x_sl D 2 k q H ≠ some (.ref b)) → x_eq D g b H H'
section ZLA
variable {D : va_G} {Y Y' : xY} {H H' : Heap} {q : Nat} {f g : Nat → Int32}
theorem z_st.keptS {s p : Nat} (h : z_st D Y s H f p) (hm : ∀ b u, Y b = some u → Y' b = some u) (e : ∀ z ∈ z_Kd, Y s = some z.1 → ∀ k, k < 5 → x_sl D z.2 k s H' = x_sl D z.2 k s H) : z_st D Y' s H' f p := by
  obtain ⟨z, z1, z2, z3, z4⟩ := h
  exact ⟨z, z1, hm _ _ z2, z3, fun k hk => by rw [e z z1 z2 k hk]; exact z4 k hk⟩
theorem z_st.kept {s p : Nat} (h : z_st D Y s H f p) (hm : ∀ b u, Y b = some u → Y' b = some u) (e : H'[s]? = H[s]?) : z_st D Y' s H' f p := h.keptS hm (fun _ _ _ _ _ => y_slk rfl e)
theorem z_st.same {s p : Nat} (h : z_st D Y s H f p) (e : ∀ k, k < 5 → g (p + k) = f (p + k)) : z_st D Y s H g p := by
  obtain ⟨z, z1, z2, z3, z4⟩ := h
  have e0 := e 0 (by decide)
  rw [Nat.add_zero] at e0
  exact ⟨z, z1, z2, by rw [e0]; exact z3, fun k hk => by rw [e k hk]; exact z4 k hk⟩
/-- cells of a land that stay -/
theorem z_L.keptS (h : z_L D Y q H f) (hm : ∀ b u, Y b = some u → Y' b = some u) (h0 : ∀ k, k < 16 → x_sl D 2 k q H' = x_sl D 2 k q H) (hc : ∀ c ∈ z_C, ∀ a : Nat, x_sl D 2 c.1 q H = some (.ref a) → H'[a]? = H[a]?) (hs : ∀ a : Nat, x_sl D 2 7 q H = some (.ref a) → H'[a]? = H[a]? ∧ ∀ j s : Nat, j < 8 → y_at a j H = some (.ref s) → ∀ z ∈ z_Kd, Y s = some z.1 → ∀ k, k < 5 → x_sl D z.2 k s H' = x_sl D z.2 k s H) : z_L D Y' q H' f := by
  obtain ⟨⟨i1, i2, i3⟩, h1, ⟨a, a1, a2, a3⟩, hz⟩ := h
  have hk : ∀ c ∈ z_C, c.1 < 16 := by decide
  refine ⟨⟨by rw [h0 0 (by decide)]; exact i1, by rw [h0 6 (by decide)]; exact i2, by rw [h0 12 (by decide)]; exact i3⟩, fun c hcm => ?_, ⟨a, by rw [h0 7 (by decide)]; exact a1, hm _ _ a2, fun j hj => ?_⟩, hz⟩
  · obtain ⟨b, b1, b2, b3⟩ := h1 c hcm
    exact ⟨b, by rw [h0 _ (hk c hcm)]; exact b1, hm _ _ b2, fun j hj => by rw [z_atk (hc c hcm b b1)]; exact b3 j hj⟩
  · obtain ⟨s, s1, s2⟩ := a3 j hj
    exact ⟨s, by rw [z_atk (hs a a1).1]; exact s1, s2.keptS hm ((hs a a1).2 j s hj s1)⟩
theorem z_L.kept (h : z_L D Y q H f) (hm : ∀ b u, Y b = some u → Y' b = some u) (h0 : H'[q]? = H[q]?) (hc : ∀ c ∈ z_C, ∀ a : Nat, x_sl D 2 c.1 q H = some (.ref a) → H'[a]? = H[a]?) (hs : ∀ a : Nat, x_sl D 2 7 q H = some (.ref a) → H'[a]? = H[a]? ∧ ∀ j s : Nat, j < 8 → y_at a j H = some (.ref s) → H'[s]? = H[s]?) : z_L D Y' q H' f :=
  h.keptS hm (fun _ _ => y_slk rfl h0) hc (fun a ha => ⟨(hs a ha).1, fun j s hj hjs _ _ _ _ _ => y_slk rfl ((hs a ha).2 j s hj hjs)⟩)
/-- a call that touches no land -/
def z_nld (ef : List (Nat × Nat)) : Bool := ef.all (fun z => !(Nat.beq z.1 2) && !(Nat.ble 11 z.1 && Nat.ble z.1 31))
theorem z_nld_ok {ef : List (Nat × Nat)} {t k : Nat} (h : z_nld ef = true) (ht : t = 2 ∨ 11 ≤ t ∧ t ≤ 31) : (t, k) ∉ ef := fun hz => by
  have h1 := List.all_eq_true.mp h _ hz
  rw [Bool.and_eq_true, Bool.not_eq_true', Bool.not_eq_true'] at h1
  rcases ht with rfl | ht
  · exact absurd h1.1 (by show ¬ (Nat.beq 2 2 = false); decide)
  · have h2 := h1.2
    rw [Nat.ble_eq_true_of_le ht.1, Nat.ble_eq_true_of_le ht.2] at h2
    cases h2
theorem z_L.E {ef : List (Nat × Nat)} (h : z_L D Y q H f) (hq : Y q = some 2) (hE : x_E D x_G ef Y H H') (hm : ∀ b u, Y b = some u → Y' b = some u) (hn : z_nld ef = true) : z_L D Y' q H' f := by
  have h' := h
  obtain ⟨-, k1, ⟨b, b1, b2, b3⟩, -⟩ := h'
  have harr : ∀ (a t : Nat), Y a = some t → 19 ≤ t → t ≤ 31 → H'[a]? = H[a]? := fun a t ha h1 h2 => by
    obtain ⟨gg, hg⟩ : ∃ gg, x_G[t]? = some (.inr gg) := by
      rcases (by omega : t = 19 ∨ t = 20 ∨ t = 21 ∨ t = 22 ∨ t = 23 ∨ t = 24 ∨ t = 25 ∨ t = 26 ∨ t = 27 ∨ t = 28 ∨ t = 29 ∨ t = 30 ∨ t = 31) with rfl | rfl | rfl | rfl | rfl | rfl | rfl | rfl | rfl | rfl | rfl | rfl | rfl <;> exact ⟨_, rfl⟩
    exact y_Earr hE ha hg (z_nld_ok hn (Or.inr ⟨by omega, h2⟩))
  refine h.keptS hm (fun k hk => ?_) (fun c hc a ha => ?_) (fun a ha => ?_)
  · exact y_Efld hE hq rfl hk (z_nld_ok hn (Or.inl rfl)) rfl
  · obtain ⟨a', e1, e2, -⟩ := k1 c hc
    cases e1.symm.trans ha
    have := z_C_tag c hc
    exact harr a _ e2 (by omega) (by omega)
  · cases b1.symm.trans ha
    refine ⟨harr b 24 b2 (by omega) (by omega), fun j s hj hs z hz hY k hk => ?_⟩
    simp only [z_Kd, List.mem_cons, List.not_mem_nil, or_false] at hz
    rcases hz with rfl | rfl | rfl | rfl | rfl | rfl <;> exact y_Efld hE hY rfl hk (z_nld_ok hn (Or.inr ⟨by decide, by decide⟩)) rfl
/-- a picture is the only one -/
theorem z_L.uniq (h : z_L D Y q H f) (h' : z_L D Y q H g) : f = g := by
  obtain ⟨⟨i1, i2, i3⟩, h1, ⟨a, a1, a2, a3⟩, hz⟩ := h
  obtain ⟨⟨j1, j2, j3⟩, k1, ⟨b, b1, b2, b3⟩, kz⟩ := h'
  have inj : ∀ {u v : Int32} {o : Option Value}, o = some (.int u) → o = some (.int v) → u = v := fun {u v o} e1 e2 => by
    rw [e1] at e2
    injection e2 with e2
    injection e2
  funext p
  by_cases hp : p < 160
  · have h9 := z_np_all p hp
    simp only [Bool.or_eq_true, decide_eq_true_eq] at h9
    rcases h9 with h9 | h9 | h9 | h9
    · rw [hz p h9, kz p h9]
    · rcases (by omega : p = 0 ∨ p = 1 ∨ p = 2) with rfl | rfl | rfl
      · exact inj i1 j1
      · exact inj i2 j2
      · exact inj i3 j3
    · obtain ⟨c, hc, h9⟩ := List.any_eq_true.mp h9
      obtain ⟨j, hj, h9⟩ := List.any_eq_true.mp h9
      have hj := List.mem_range.mp hj
      have h9 : z_pl c j = p := by simpa using h9
      obtain ⟨x, x1, x2, x3⟩ := h1 c hc
      obtain ⟨y, y1, y2, y3⟩ := k1 c hc
      cases x1.symm.trans y1
      rw [← h9]
      exact inj (x3 j hj) (y3 j hj)
    · obtain ⟨j, hj, h9⟩ := List.any_eq_true.mp h9
      obtain ⟨k, hk, h9⟩ := List.any_eq_true.mp h9
      have hj := List.mem_range.mp hj
      have hk := List.mem_range.mp hk
      have h9 : 60 + 7 * j + k = p := by simpa using h9
      cases a1.symm.trans b1
      obtain ⟨s, s1, z, z1, z2, -, z4⟩ := a3 j hj
      obtain ⟨s', s1', z', z1', z2', -, z4'⟩ := b3 j hj
      cases s1.symm.trans s1'
      have e0 : z.1 = z'.1 := by
        rw [z2] at z2'
        injection z2'
      have e1 : z = z' := by
        have hzk : ∀ u ∈ z_Kd, ∀ v ∈ z_Kd, u.1 = v.1 → u = v := by decide
        exact hzk z z1 z' z1' e0
      subst e1
      rw [← h9]
      exact inj (z4 k hk) (z4' k hk)
  · have : z_np p = true := by simp [z_np]; omega
    rw [hz p this, kz p this]
/-- a number of a column changes -/
theorem z_L.put {c : zC} {j a : Nat} {v : Int32} (h : z_L D Y q H f) (hq : Y q = some 2) (hcm : c ∈ z_C) (hj : j < c.2.2.1) (ha : x_sl D 2 c.1 q H = some (.ref a)) (h1 : y_at a j H' = some (.int v)) (h2 : ∀ i, i < c.2.2.1 → i ≠ j → y_at a i H' = y_at a i H) (ho : ∀ b, b ≠ a → H'[b]? = H[b]?) : z_L D Y q H' (y_up f (z_pl c j) v) := by
  obtain ⟨⟨i1, i2, i3⟩, k1, ⟨b, b1, b2, b3⟩, hz⟩ := h
  obtain ⟨a', a1, a2, a3⟩ := k1 c hcm
  cases a1.symm.trans ha
  have ht := z_C_tag c hcm
  have hne : ∀ (x u : Nat), Y x = some u → u ≠ c.2.1 → x ≠ a := fun x u hx hu e0 => by
    subst e0
    rw [hx] at a2
    injection a2 with a2
    exact hu a2
  have hq0 : H'[q]? = H[q]? := ho q (hne q 2 hq (by omega))
  have hp := z_pl_int c hcm j hj
  refine ⟨⟨?_, ?_, ?_⟩, fun d hd => ?_, ⟨b, y_slk b1 hq0, b2, fun i hi => ?_⟩, fun p' hp' => by rw [y_up_ne (fun e0 => by rw [e0, z_pl_np c hcm j hj] at hp'; cases hp')]; exact hz p' hp'⟩
  · rw [y_up_ne (by omega)]; exact y_slk i1 hq0
  · rw [y_up_ne (by omega)]; exact y_slk i2 hq0
  · rw [y_up_ne (by omega)]; exact y_slk i3 hq0
  · obtain ⟨b', e1, e2, e3⟩ := k1 d hd
    by_cases hcd : d = c
    · subst hcd
      cases e1.symm.trans ha
      refine ⟨a, y_slk ha hq0, e2, fun i hi => ?_⟩
      by_cases hij : i = j
      · subst hij; rw [y_up_at]; exact h1
      · rw [y_up_ne (fun e0 => hij (z_pl_inj d hd d hd i hi j hj e0).2), h2 i hi hij]; exact e3 i hi
    · have hn : b' ≠ a := hne b' _ e2 (fun e0 => hcd (z_C_tagi d hd c hcm e0))
      refine ⟨b', y_slk e1 hq0, e2, fun i hi => ?_⟩
      rw [y_up_ne (fun e0 => hcd (z_pl_inj d hd c hcm i hi j hj e0).1), z_atk (ho b' hn)]; exact e3 i hi
  · obtain ⟨s, s1, s2⟩ := b3 i hi
    have hb : b ≠ a := hne b 24 b2 (by omega)
    refine ⟨s, by rw [z_atk (ho b hb)]; exact s1, (s2.kept (fun _ _ hh => hh) ?_).same (fun k hk => y_up_ne (Ne.symm (z_pl_st c hcm j hj i hi k hk)))⟩
    obtain ⟨z, z1, z2, -⟩ := s2
    have := z_Kd_tag z z1
    exact ho s (hne s _ z2 (by omega))
/-- a number of the land itself changes: hills, things, letters -/
theorem z_L.puti {k p : Nat} {v : Int32} (h : z_L D Y q H f) (hq : Y q = some 2) (hkp : (k, p) ∈ [(0, 0), (6, 1), (12, 2)]) (h1 : x_sl D 2 k q H' = some (.int v)) (h2 : ∀ i, i < 16 → i ≠ k → x_sl D 2 i q H' = x_sl D 2 i q H) (ho : ∀ b, b ≠ q → H'[b]? = H[b]?) : z_L D Y q H' (y_up f p v) := by
  have hp : p < 3 ∧ (∀ c ∈ z_C, c.1 ≠ k ∧ c.1 < 16) ∧ k ≠ 7 := by
    simp only [List.mem_cons, List.not_mem_nil, or_false, Prod.mk.injEq] at hkp
    rcases hkp with ⟨rfl, rfl⟩ | ⟨rfl, rfl⟩ | ⟨rfl, rfl⟩ <;> decide
  obtain ⟨⟨i1, i2, i3⟩, k1, ⟨b, b1, b2, b3⟩, hz⟩ := h
  have hne : ∀ (x u : Nat), Y x = some u → u ≠ 2 → x ≠ q := fun x u hx hu e0 => by
    subst e0
    rw [hx] at hq
    injection hq with hq
    exact hu hq
  refine ⟨?_, fun c hc => ?_, ⟨b, by rw [h2 7 (by decide) (Ne.symm hp.2.2)]; exact b1, b2, fun i hi => ?_⟩, fun p' hp' => by rw [y_up_ne (fun e0 => by subst e0; have : z_np p' = false := (by rcases (by omega : p' = 0 ∨ p' = 1 ∨ p' = 2) with rfl | rfl | rfl <;> rfl); rw [this] at hp'; cases hp')]; exact hz p' hp'⟩
  · simp only [List.mem_cons, List.not_mem_nil, or_false, Prod.mk.injEq] at hkp
    rcases hkp with ⟨rfl, rfl⟩ | ⟨rfl, rfl⟩ | ⟨rfl, rfl⟩
    · exact ⟨by rw [y_up_at]; exact h1, by rw [y_up_ne (by decide), h2 6 (by decide) (by decide)]; exact i2, by rw [y_up_ne (by decide), h2 12 (by decide) (by decide)]; exact i3⟩
    · exact ⟨by rw [y_up_ne (by decide), h2 0 (by decide) (by decide)]; exact i1, by rw [y_up_at]; exact h1, by rw [y_up_ne (by decide), h2 12 (by decide) (by decide)]; exact i3⟩
    · exact ⟨by rw [y_up_ne (by decide), h2 0 (by decide) (by decide)]; exact i1, by rw [y_up_ne (by decide), h2 6 (by decide) (by decide)]; exact i2, by rw [y_up_at]; exact h1⟩
  · obtain ⟨a, a1, a2, a3⟩ := k1 c hc
    have ht := z_C_tag c hc
    refine ⟨a, by rw [h2 c.1 (hp.2.1 c hc).2 (hp.2.1 c hc).1]; exact a1, a2, fun j hj => ?_⟩
    have := z_pl_int c hc j hj
    rw [y_up_ne (by omega), z_atk (ho a (hne a _ a2 (by omega)))]; exact a3 j hj
  · obtain ⟨s, s1, s2⟩ := b3 i hi
    refine ⟨s, by rw [z_atk (ho b (hne b _ b2 (by decide)))]; exact s1, (s2.kept (fun _ _ hh => hh) ?_).same (fun k' hk' => y_up_ne (by omega))⟩
    obtain ⟨z, z1, z2, -⟩ := s2
    have := z_Kd_tag z z1
    exact ho s (hne s _ z2 (by omega))
/-- two lands share no array -/
def z_dis (D : va_G) (H : Heap) (q r : Nat) : Prop := q ≠ r ∧ (∀ c ∈ z_C, x_sl D 2 c.1 q H ≠ x_sl D 2 c.1 r H) ∧ x_sl D 2 7 q H ≠ x_sl D 2 7 r H
theorem z_dis.symm {r : Nat} (h : z_dis D H q r) : z_dis D H r q := ⟨Ne.symm h.1, fun c hc => Ne.symm (h.2.1 c hc), Ne.symm h.2.2⟩
theorem z_dis.moved {r : Nat} (h : z_dis D H q r) (hq : ∀ k, k < 16 → k ≠ 0 → k ≠ 6 → k ≠ 12 → x_sl D 2 k q H' = x_sl D 2 k q H) (hr : ∀ k, k < 16 → k ≠ 0 → k ≠ 6 → k ≠ 12 → x_sl D 2 k r H' = x_sl D 2 k r H) : z_dis D H' q r := by
  have hk : ∀ c ∈ z_C, c.1 < 16 ∧ c.1 ≠ 0 ∧ c.1 ≠ 6 ∧ c.1 ≠ 12 := by decide
  refine ⟨h.1, fun c hc => ?_, ?_⟩
  · obtain ⟨k1, k2, k3, k4⟩ := hk c hc
    rw [hq _ k1 k2 k3 k4, hr _ k1 k2 k3 k4]; exact h.2.1 c hc
  · rw [hq 7 (by decide) (by decide) (by decide) (by decide), hr 7 (by decide) (by decide) (by decide) (by decide)]; exact h.2.2
/-- a write to a column of another land -/
theorem z_L.far {r a : Nat} {c : zC} (h : z_L D Y q H f) (hq : Y q = some 2) (hd : z_dis D H q r) (hcm : c ∈ z_C) (ha : x_sl D 2 c.1 r H = some (.ref a)) (hYa : Y a = some c.2.1) (ho : ∀ b, b ≠ a → H'[b]? = H[b]?) : z_L D Y q H' f := by
  have ht := z_C_tag c hcm
  have hne : ∀ (x u : Nat), Y x = some u → u ≠ c.2.1 → x ≠ a := fun x u hx hu e0 => by
    subst e0
    rw [hx] at hYa
    injection hYa with hYa
    exact hu hYa
  have h' := h
  obtain ⟨-, k1, ⟨b, b1, b2, b3⟩, -⟩ := h'
  refine h.kept (fun _ _ hh => hh) (ho q (hne q 2 hq (by omega))) (fun d hd' a' h1 => ?_) (fun a' h1 => ?_)
  · obtain ⟨a'', e1, e2, -⟩ := k1 d hd'
    cases e1.symm.trans h1
    refine ho a' (fun e0 => ?_)
    by_cases hcd : d = c
    · subst hcd
      subst e0
      exact hd.2.1 d hd' (h1.trans ha.symm)
    · exact hne a' _ e2 (fun e9 => hcd (z_C_tagi d hd' c hcm e9)) e0
  · cases b1.symm.trans h1
    refine ⟨ho b (hne b 24 b2 (by omega)), fun j s hj hs => ?_⟩
    obtain ⟨s', s1, z, z1, z2, -⟩ := b3 j hj
    cases s1.symm.trans hs
    have := z_Kd_tag z z1
    exact ho s (hne s _ z2 (by omega))
end ZLA
