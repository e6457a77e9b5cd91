/-! WHAT THE CALLS DO TO A ROW OF NUMBERS: r the answer, g the row behind -/
def m_free (f : Nat → Int32) (x y : Int32) : Prop := ∀ j : Nat, (j : Int) < (f 0).toInt → ¬ (f (10 + 5 * j) = x ∧ f (11 + 5 * j) = y)
def m_hOk (f : Nat → Int32) (x y h : Int32) : Prop := ((0 ≤ x.toInt ∧ x.toInt ≤ 19) ∧ (0 ≤ y.toInt ∧ y.toInt ≤ 19) ∧ (0 ≤ h.toInt ∧ h.toInt ≤ 99)) ∧ m_free f x y
def m_hUp (f : Nat → Int32) (x y h : Int32) : Nat → Int32 := y_up (y_up (y_up (y_up (y_up (y_up f (10 + 5 * (f 0).toInt.toNat) x) (11 + 5 * (f 0).toInt.toNat) y) (12 + 5 * (f 0).toInt.toNat) h) (13 + 5 * (f 0).toInt.toNat) (-1)) (14 + 5 * (f 0).toInt.toNat) 1) 0 (f 0 + 1)
def m_hill (f : Nat → Int32) (x y h r : Int32) (g : Nat → Int32) : Prop := (¬ m_hOk f x y h → r = -2 ∧ g = f) ∧ (m_hOk f x y h → (f 0).toInt = 10 → r = -4 ∧ g = f) ∧ (m_hOk f x y h → (f 0).toInt < 10 → r = f 0 ∧ g = m_hUp f x y h)
theorem m_hill.eq {f g g' : Nat → Int32} {x y h r r' : Int32} (hb : (f 0).toInt ≤ 10) (h1 : m_hill f x y h r g) (h2 : m_hill f x y h r' g') : r = r' ∧ g = g' := by
  by_cases ho : m_hOk f x y h
  · by_cases hf : (f 0).toInt = 10
    · have a := h1.2.1 ho hf
      have b := h2.2.1 ho hf
      exact ⟨a.1.trans b.1.symm, a.2.trans b.2.symm⟩
    · have a := h1.2.2 ho (by omega)
      have b := h2.2.2 ho (by omega)
      exact ⟨a.1.trans b.1.symm, a.2.trans b.2.symm⟩
  · have a := h1.1 ho
    have b := h2.1 ho
    exact ⟨a.1.trans b.1.symm, a.2.trans b.2.symm⟩
def m_tOk (k x y h g : Int32) : Prop := (0 ≤ k.toInt ∧ k.toInt ≤ 5) ∧ (0 ≤ x.toInt ∧ x.toInt ≤ 19) ∧ (0 ≤ y.toInt ∧ y.toInt ≤ 19) ∧ (0 ≤ h.toInt ∧ h.toInt ≤ 99) ∧ (0 ≤ g.toInt ∧ g.toInt ≤ 9) ∧ (k.toInt = 0 ∨ k.toInt = 5 → g.toInt = 0)
def m_tUp (f : Nat → Int32) (k x y h g : Int32) : Nat → Int32 := y_up (y_up (y_up (y_up (y_up (y_up (y_up (y_up f (60 + 7 * (f 1).toInt.toNat) k) (61 + 7 * (f 1).toInt.toNat) x) (62 + 7 * (f 1).toInt.toNat) y) (63 + 7 * (f 1).toInt.toNat) h) (64 + 7 * (f 1).toInt.toNat) g) (65 + 7 * (f 1).toInt.toNat) 0) (66 + 7 * (f 1).toInt.toNat) 1) 1 (f 1 + 1)
def m_thing (f : Nat → Int32) (k x y h g r : Int32) (f' : Nat → Int32) : Prop := (¬ m_tOk k x y h g → r = -2 ∧ f' = f) ∧ (m_tOk k x y h g → (f 1).toInt = 8 → r = -4 ∧ f' = f) ∧ (m_tOk k x y h g → (f 1).toInt < 8 → r = f 1 ∧ f' = m_tUp f k x y h g)
theorem m_thing.eq {f g1 g2 : Nat → Int32} {k x y h g r r' : Int32} (hb : (f 1).toInt ≤ 8) (h1 : m_thing f k x y h g r g1) (h2 : m_thing f k x y h g r' g2) : r = r' ∧ g1 = g2 := by
  by_cases ho : m_tOk k x y h g
  · by_cases hf : (f 1).toInt = 8
    · have a := h1.2.1 ho hf
      have b := h2.2.1 ho hf
      exact ⟨a.1.trans b.1.symm, a.2.trans b.2.symm⟩
    · have a := h1.2.2 ho (by omega)
      have b := h2.2.2 ho (by omega)
      exact ⟨a.1.trans b.1.symm, a.2.trans b.2.symm⟩
  · have a := h1.1 ho
    have b := h2.1 ho
    exact ⟨a.1.trans b.1.symm, a.2.trans b.2.symm⟩
def m_pOk (w v : Int32) : Prop := ((w.toInt = 0 ∨ w.toInt = 1) ∧ 0 ≤ v.toInt ∧ v.toInt ≤ 99) ∨ (w.toInt = 2 ∧ 0 ≤ v.toInt ∧ v.toInt ≤ 3) ∨ (w.toInt = 3 ∧ 1 ≤ v.toInt ∧ v.toInt ≤ 10)
def m_put (f : Nat → Int32) (w v r : Int32) (g : Nat → Int32) : Prop := (¬ m_pOk w v → r = -2 ∧ g = f) ∧ (m_pOk w v → r = f (4 + w.toInt.toNat) ∧ g = y_up f (4 + w.toInt.toNat) v)
theorem m_put.eq {f g g' : Nat → Int32} {w v r r' : Int32} (h1 : m_put f w v r g) (h2 : m_put f w v r' g') : r = r' ∧ g = g' := by
  by_cases ho : m_pOk w v
  · have a := h1.2 ho
    have b := h2.2 ho
    exact ⟨a.1.trans b.1.symm, a.2.trans b.2.symm⟩
  · have a := h1.1 ho
    have b := h2.1 ho
    exact ⟨a.1.trans b.1.symm, a.2.trans b.2.symm⟩
/-- a place that holds a number or is refused -/
def m_at (ok : Prop) (bad : Int32) (f : Nat → Int32) (p : Nat) (v r : Int32) (g : Nat → Int32) : Prop := (¬ ok → r = bad ∧ g = f) ∧ (ok → r = f p ∧ g = y_up f p v)
theorem m_at.eq {ok : Prop} {bad : Int32} {f g g' : Nat → Int32} {p : Nat} {v r r' : Int32} (h1 : m_at ok bad f p v r g) (h2 : m_at ok bad f p v r' g') : r = r' ∧ g = g' := by
  by_cases ho : ok
  · have a := h1.2 ho
    have b := h2.2 ho
    exact ⟨a.1.trans b.1.symm, a.2.trans b.2.symm⟩
  · have a := h1.1 ho
    have b := h2.1 ho
    exact ⟨a.1.trans b.1.symm, a.2.trans b.2.symm⟩
def m_isH (f : Nat → Int32) (h : Int32) : Prop := 0 ≤ h.toInt ∧ h.toInt < (f 0).toInt
def m_isT (f : Nat → Int32) (t : Int32) : Prop := 0 ≤ t.toInt ∧ t.toInt < (f 1).toInt
def m_beg (f : Nat → Int32) : Nat → Int32 := y_up (y_up (y_up (y_up (y_up f 0 0) 1 0) 4 0) 5 0) 6 0

