/-! IN WHICH BOUNDS THE NUMBERS OF A ROW LIE -/
def m_lo (p : Nat) : Int := if p = 7 then 1 else if (10 ≤ p ∧ p < 60 ∧ (p - 10) % 5 = 3) ∨ (136 ≤ p ∧ (p - 136) % 2 = 0) then -1 else 0
def m_hi (p : Nat) : Int := if p < 10 then ([10, 8, 8, 0, 99, 99, 3, 10, 0, 0] : List Int).getD p 0 else if p < 60 then ([19, 19, 99, 9, 9] : List Int).getD ((p - 10) % 5) 0 else if p < 116 then ([5, 19, 19, 99, 9, 1, 99] : List Int).getD ((p - 60) % 7) 0 else if p < 128 then 99 else if p < 136 then 9 else ([9, 1] : List Int).getD ((p - 136) % 2) 0
def m_in (p : Nat) (v : Int32) : Prop := m_lo p ≤ v.toInt ∧ v.toInt ≤ m_hi p
def m_rg (f : Nat → Int32) : Prop := ∀ p, p < 160 → m_in p (f p)
theorem m_T1 : ∀ j, j < 10 → (m_lo (10 + 5 * j) = 0 ∧ m_hi (10 + 5 * j) = 19) ∧ (m_lo (11 + 5 * j) = 0 ∧ m_hi (11 + 5 * j) = 19) ∧ (m_lo (12 + 5 * j) = 0 ∧ m_hi (12 + 5 * j) = 99) ∧ (m_lo (13 + 5 * j) = -1 ∧ m_hi (13 + 5 * j) = 9) ∧ (m_lo (14 + 5 * j) = 0 ∧ m_hi (14 + 5 * j) = 9) := by decide
theorem m_T2 : ∀ j, j < 8 → (m_lo (60 + 7 * j) = 0 ∧ m_hi (60 + 7 * j) = 5) ∧ (m_lo (61 + 7 * j) = 0 ∧ m_hi (61 + 7 * j) = 19) ∧ (m_lo (62 + 7 * j) = 0 ∧ m_hi (62 + 7 * j) = 19) ∧ (m_lo (63 + 7 * j) = 0 ∧ m_hi (63 + 7 * j) = 99) ∧ (m_lo (64 + 7 * j) = 0 ∧ m_hi (64 + 7 * j) = 9) ∧ (m_lo (65 + 7 * j) = 0 ∧ m_hi (65 + 7 * j) = 1) ∧ (m_lo (66 + 7 * j) = 0 ∧ m_hi (66 + 7 * j) = 99) := by decide
theorem m_T3 : ∀ j, j < 12 → (m_lo (116 + j) = 0 ∧ m_hi (116 + j) = 99) ∧ (m_lo (136 + 2 * j) = -1 ∧ m_hi (136 + 2 * j) = 9) ∧ (m_lo (137 + 2 * j) = 0 ∧ m_hi (137 + 2 * j) = 1) := by decide
theorem m_T4 : ∀ j, j < 8 → m_lo (128 + j) = 0 ∧ m_hi (128 + j) = 9 := by decide
theorem m_T0 : (m_lo 0 = 0 ∧ m_hi 0 = 10) ∧ (m_lo 1 = 0 ∧ m_hi 1 = 8) ∧ (m_lo 2 = 0 ∧ m_hi 2 = 8) ∧ (m_lo 4 = 0 ∧ m_hi 4 = 99) ∧ (m_lo 5 = 0 ∧ m_hi 5 = 99) ∧ (m_lo 6 = 0 ∧ m_hi 6 = 3) ∧ (m_lo 7 = 1 ∧ m_hi 7 = 10) := by decide
theorem m_in.of {p : Nat} {v : Int32} {a b : Int} (h : m_lo p = a ∧ m_hi p = b) (h1 : a ≤ v.toInt ∧ v.toInt ≤ b) : m_in p v := by
  unfold m_in; rw [h.1, h.2]; exact h1
theorem m_in.to {p : Nat} {v : Int32} {a b : Int} (h0 : m_in p v) (h : m_lo p = a ∧ m_hi p = b) : a ≤ v.toInt ∧ v.toInt ≤ b := by
  unfold m_in at h0; rw [h.1, h.2] at h0; exact h0
section MR
variable {f g : Nat → Int32} {r : Int32}
theorem m_rg.up {p : Nat} {v : Int32} (h : m_rg f) (hv : m_in p v) : m_rg (y_up f p v) := fun q hq => by
  by_cases e : q = p
  · subst e; rw [y_up_at]; exact hv
  · rw [y_up_ne e]; exact h q hq
theorem m_c0 : (0 : Int32).toInt = 0 := by decide
theorem m_c1 : (1 : Int32).toInt = 1 := by decide
theorem m_cm1 : (-1 : Int32).toInt = -1 := by decide
theorem m_inc1 {v : Int32} (h : 0 ≤ v.toInt ∧ v.toInt ≤ 100) : (v + 1).toInt = v.toInt + 1 := by
  have := y_add (x := v) (y := (1 : Int32)) (by rw [m_c1]; omega) (by rw [m_c1]; omega)
  rw [m_c1] at this; exact this
theorem m_rg.n0 (h : m_rg f) : 0 ≤ (f 0).toInt ∧ (f 0).toInt ≤ 10 := (h 0 (by decide)).to m_T0.1
theorem m_rg.n1 (h : m_rg f) : 0 ≤ (f 1).toInt ∧ (f 1).toInt ≤ 8 := (h 1 (by decide)).to m_T0.2.1
theorem m_rg.n2 (h : m_rg f) : 0 ≤ (f 2).toInt ∧ (f 2).toInt ≤ 8 := (h 2 (by decide)).to m_T0.2.2.1
theorem m_hill.rg {x y h : Int32} (h0 : m_rg f) (hm : m_hill f x y h r g) : m_rg g := by
  have n0 := h0.n0
  by_cases ho : m_hOk f x y h
  · by_cases h1 : (f 0).toInt = 10
    · rw [(hm.2.1 ho h1).2]; exact h0
    · rw [(hm.2.2 ho (by omega)).2]
      obtain ⟨⟨o1, o2, o3⟩, -⟩ := ho
      obtain ⟨t1, t2, t3, t4, t5⟩ := m_T1 (f 0).toInt.toNat (by omega)
      unfold m_hUp
      exact (((((h0.up (.of t1 o1)).up (.of t2 o2)).up (.of t3 o3)).up (.of t4 (by rw [m_cm1]; omega))).up (.of t5 (by rw [m_c1]; omega))).up (.of m_T0.1 (by rw [m_inc1 (by omega)]; omega))
  · rw [(hm.1 ho).2]; exact h0
theorem m_thing.rg {k x y h w : Int32} (h0 : m_rg f) (hm : m_thing f k x y h w r g) : m_rg g := by
  have n1 := h0.n1
  by_cases ho : m_tOk k x y h w
  · by_cases h1 : (f 1).toInt = 8
    · rw [(hm.2.1 ho h1).2]; exact h0
    · rw [(hm.2.2 ho (by omega)).2]
      obtain ⟨o1, o2, o3, o4, o5, -⟩ := ho
      obtain ⟨t1, t2, t3, t4, t5, t6, t7⟩ := m_T2 (f 1).toInt.toNat (by omega)
      unfold m_tUp
      exact (((((((h0.up (.of t1 o1)).up (.of t2 o2)).up (.of t3 o3)).up (.of t4 o4)).up (.of t5 o5)).up (.of t6 (by rw [m_c0]; omega))).up (.of t7 (by rw [m_c1]; omega))).up (.of m_T0.2.1 (by rw [m_inc1 (by omega)]; omega))
  · rw [(hm.1 ho).2]; exact h0
theorem m_put.rg {w v : Int32} (h0 : m_rg f) (hm : m_put f w v r g) : m_rg g := by
  by_cases ho : m_pOk w v
  · rw [(hm.2 ho).2]
    refine h0.up ?_
    obtain ⟨-, -, -, t4, t5, t6, t7⟩ := m_T0
    rcases ho with ⟨e | e, o⟩ | ⟨e, o⟩ | ⟨e, o⟩ <;> rw [e]
    · exact .of t4 o
    · exact .of t5 o
    · exact .of t6 o
    · exact .of t7 o
  · rw [(hm.1 ho).2]; exact h0
theorem m_at.rg {ok : Prop} {bad : Int32} {p : Nat} {v : Int32} (hp : ok → m_in p v) (h0 : m_rg f) (hm : m_at ok bad f p v r g) : m_rg g := by
  by_cases ho : ok
  · rw [(hm.2 ho).2]; exact h0.up (hp ho)
  · rw [(hm.1 ho).2]; exact h0
theorem m_let.rg {n : Int32} (h0 : m_rg f) (hm : m_let f n r g) : m_rg g := by
  have n2 := h0.n2
  by_cases ho : 0 ≤ n.toInt ∧ n.toInt ≤ 9
  · by_cases h1 : (f 2).toInt = 8
    · rw [(hm.2.1 ho h1).2]; exact h0
    · rw [(hm.2.2 ho (by omega)).2]
      exact (h0.up (.of (m_T4 (f 2).toInt.toNat (by omega)) ho)).up (.of m_T0.2.2.1 (by rw [m_inc1 (by omega)]; omega))
  · rw [(hm.1 ho).2]; exact h0
theorem m_el.rg {t h w : Int32} (h0 : m_rg f) (hm : m_el f t h w r g) : m_rg g := by
  have n0 := h0.n0
  by_cases ho : m_elOk f t h w
  · rw [(hm.2 ho).2]
    obtain ⟨o1, o2⟩ := ho
    obtain ⟨-, t2, t3⟩ := m_T3 t.toInt.toNat (by omega)
    unfold m_isH at o2
    exact (h0.up (.of t2 (by omega))).up (.of t3 (by omega))
  · rw [(hm.1 ho).2]; exact h0
theorem m_work.rg {t d : Int32} (hd : d = 0 ∨ d = 1) (h0 : m_rg f) (hm : m_work f t d r g) : m_rg g := by
  have n1 := h0.n1
  by_cases ho : m_wOk f t
  · by_cases h1 : f (65 + 7 * t.toInt.toNat) = d
    · rw [(hm.2.1 ho h1).2]; exact h0
    · rw [(hm.2.2 ho h1).2]
      have o1 := ho.1
      unfold m_isT at o1
      obtain ⟨-, -, -, -, -, t6, -⟩ := m_T2 t.toInt.toNat (by omega)
      refine h0.up (.of t6 ?_)
      rcases hd with rfl | rfl
      · rw [m_c0]; omega
      · rw [m_c1]; omega
  · rw [(hm.1 ho).2]; exact h0
theorem m_tell.rg {t : Nat → Int32} {n p : Nat} (h0 : m_rg f) (h : m_tell t n p f r g) : m_rg g := by
  by_cases h1 : t_it t n p = 0
  · exact (h.1 h1).rg h0
  by_cases h2 : t_it t n p ≤ 6
  · exact (h.2.1 (by omega) h2).rg h0
  · exact (h.2.2 (by omega)).rg h0
theorem m_beg.rg (h0 : m_rg f) : m_rg (m_beg f) := by
  unfold m_beg
  obtain ⟨t0, t1, t2, t4, t5, t6, t7⟩ := m_T0
  exact ((((h0.up (.of t0 (by rw [m_c0]; omega))).up (.of t1 (by rw [m_c0]; omega))).up (.of t4 (by rw [m_c0]; omega))).up (.of t5 (by rw [m_c0]; omega))).up (.of t6 (by rw [m_c0]; omega))
theorem m_seq.rg {t : Nat → Int32} {n : Nat} (h0 : m_rg f) : ∀ (i : Nat) (g : Nat → Int32), m_seq t n f i g → m_rg g := by
  intro i
  induction i with
  | zero => intro g h; rw [show g = f from h]; exact h0
  | succ i ih =>
    rintro g ⟨h, r, h1, h2, h3, -⟩
    exact h3.rg (ih h h1)
theorem m_land.rg {t : Nat → Int32} {n : Nat} (h0 : m_rg f) (h : m_land t n f r g) : m_rg g := by
  obtain ⟨N, c, q, a1, a2, a3⟩ := h
  have hc : c = 0 ∨ c = 2 := by
    have h1 := a1.2.2
    have h2 := t_nx_c (t := t) (n := n) (p := t_ip t n N)
    rw [a1.2.1] at h2
    dsimp only at h2
    omega
  rcases hc with rfl | rfl
  · rcases a3 rfl with ⟨a4, -⟩ | ⟨k, -, -, -, e⟩
    · exact m_seq.rg (m_beg.rg h0) N g a4
    · rw [e]; exact h0
  · rw [(a2 rfl).2]; exact h0
def m_rgK (f : Nat → Int32) (K : Nat → Option (Nat → Int32)) : Prop := m_rg f ∧ ∀ i g, i < 2 → K i = some g → m_rg g
theorem m_from.rg {K : Nat → Option (Nat → Int32)} {i : Int32} (h0 : m_rgK f K) (hm : m_from f K i r g) : m_rg g := by
  by_cases ho : 0 ≤ i.toInt ∧ i.toInt ≤ 1
  · cases hK : K i.toInt.toNat with
    | none => rw [(hm.2.1 ho hK).2]; exact h0.1
    | some h => rw [(hm.2.2 ho h hK).2]; exact h0.2 _ h (by omega) hK
  · rw [(hm.1 ho).2]; exact h0.1
theorem m_imgK.rg {K : Nat → Option (Nat → Int32)} {i : Int32} (h0 : m_rgK f K) : m_rgK f (m_imgK f K i) := ⟨h0.1, fun j g hj h => by
  unfold m_imgK at h
  by_cases e : (0 ≤ i.toInt ∧ i.toInt ≤ 1) ∧ j = i.toInt.toNat
  · rw [if_pos e] at h; cases h; exact h0.1
  · rw [if_neg e] at h; exact h0.2 j g hj h⟩
theorem m_rgK0 : m_rgK m_row0 (fun _ => none) := ⟨by have h9 : ∀ p, p < 160 → m_lo p ≤ (m_row0 p).toInt ∧ (m_row0 p).toInt ≤ m_hi p := (by decide +kernel); exact h9, fun i g _ h => by cases h⟩
def m_inv2 (f : Nat → Int32) (K : Nat → Option (Nat → Int32)) : Prop := m_inv f K ∧ m_rgK f K
end MR
