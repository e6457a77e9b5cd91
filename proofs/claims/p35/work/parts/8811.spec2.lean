/-! MORE CALLS ON A ROW -/
def m_let (f : Nat → Int32) (n r : Int32) (g : Nat → Int32) : Prop := (¬ (0 ≤ n.toInt ∧ n.toInt ≤ 9) → r = -2 ∧ g = f) ∧ (0 ≤ n.toInt ∧ n.toInt ≤ 9 → (f 2).toInt = 8 → r = -4 ∧ g = f) ∧ (0 ≤ n.toInt ∧ n.toInt ≤ 9 → (f 2).toInt < 8 → r = f 2 + 1 ∧ g = y_up (y_up f (128 + (f 2).toInt.toNat) n) 2 (f 2 + 1))
theorem m_let.eq {f g g' : Nat → Int32} {n r r' : Int32} (hb : (f 2).toInt ≤ 8) (h1 : m_let f n r g) (h2 : m_let f n r' g') : r = r' ∧ g = g' := by
  by_cases ho : 0 ≤ n.toInt ∧ n.toInt ≤ 9
  · by_cases hf : (f 2).toInt = 8
    · have a := h1.2.1 ho hf
      have b := h2.2.1 ho hf
      exact ⟨a.1.trans b.1.symm, a.2.trans b.2.symm⟩
    · have a := h1.2.2 ho (by omega)
      have b := h2.2.2 ho (by omega)
      exact ⟨a.1.trans b.1.symm, a.2.trans b.2.symm⟩
  · have a := h1.1 ho
    have b := h2.1 ho
    exact ⟨a.1.trans b.1.symm, a.2.trans b.2.symm⟩
def m_elOk (f : Nat → Int32) (t h w : Int32) : Prop := (0 ≤ t.toInt ∧ t.toInt ≤ 11) ∧ ((h.toInt = -1 ∧ w.toInt = 0) ∨ (m_isH f h ∧ 0 ≤ w.toInt ∧ w.toInt ≤ 1))
def m_el (f : Nat → Int32) (t h w r : Int32) (g : Nat → Int32) : Prop := (¬ m_elOk f t h w → r = -2 ∧ g = f) ∧ (m_elOk f t h w → r = 1 ∧ g = y_up (y_up f (136 + 2 * t.toInt.toNat) h) (137 + 2 * t.toInt.toNat) w)
theorem m_el.eq {f g g' : Nat → Int32} {t h w r r' : Int32} (h1 : m_el f t h w r g) (h2 : m_el f t h w r' g') : r = r' ∧ g = g' := by
  by_cases ho : m_elOk f t h w
  · have a := h1.2 ho
    have b := h2.2 ho
    exact ⟨a.1.trans b.1.symm, a.2.trans b.2.symm⟩
  · have a := h1.1 ho
    have b := h2.1 ho
    exact ⟨a.1.trans b.1.symm, a.2.trans b.2.symm⟩
def m_wOk (f : Nat → Int32) (t : Int32) : Prop := m_isT f t ∧ ¬ (f (60 + 7 * t.toInt.toNat)).toInt = 0
/-- WORK: d is 0 or 1 -/
def m_work (f : Nat → Int32) (t d r : Int32) (g : Nat → Int32) : Prop := (¬ m_wOk f t → r = -2 ∧ g = f) ∧ (m_wOk f t → f (65 + 7 * t.toInt.toNat) = d → r = -3 ∧ g = f) ∧ (m_wOk f t → ¬ f (65 + 7 * t.toInt.toNat) = d → r = 1 ∧ g = y_up f (65 + 7 * t.toInt.toNat) d)
theorem m_work.eq {f g g' : Nat → Int32} {t d r r' : Int32} (h1 : m_work f t d r g) (h2 : m_work f t d r' g') : r = r' ∧ g = g' := by
  by_cases ho : m_wOk f t
  · by_cases hf : f (65 + 7 * t.toInt.toNat) = d
    · have a := h1.2.1 ho hf
      have b := h2.2.1 ho hf
      exact ⟨a.1.trans b.1.symm, a.2.trans b.2.symm⟩
    · have a := h1.2.2 ho hf
      have b := h2.2.2 ho hf
      exact ⟨a.1.trans b.1.symm, a.2.trans b.2.symm⟩
  · have a := h1.1 ho
    have b := h2.1 ho
    exact ⟨a.1.trans b.1.symm, a.2.trans b.2.symm⟩
/-- what is done is 0 or 1 -/
def m_01 (f : Nat → Int32) : Prop := ∀ j, j < 8 → f (65 + 7 * j) = 0 ∨ f (65 + 7 * j) = 1
theorem m_01.up {f : Nat → Int32} {p : Nat} {v : Int32} (h : m_01 f) (hp : ∀ j, j < 8 → p = 65 + 7 * j → v = 0 ∨ v = 1) : m_01 (y_up f p v) := fun j hj => by
  by_cases e : 65 + 7 * j = p
  · rw [e, y_up_at]; exact hp j hj e.symm
  · rw [y_up_ne e]; exact h j hj
theorem m_01.ne {f : Nat → Int32} {p : Nat} {v : Int32} (h : m_01 f) (hp : ∀ j, j < 8 → p ≠ 65 + 7 * j) : m_01 (y_up f p v) := h.up fun j hj e => absurd e (hp j hj)
