/-! THE FRACTION of the class: chance, lies -/
def z_FR (D : va_G) (H : Heap) (this : Nat) (a b : Int64) : Prop := x_sl D 11 7 this H = some (.long a) ∧ x_sl D 11 8 this H = some (.long b)
def z_fx (D : va_G) (H H' : Heap) (this : Nat) (r : Int32) (up down : Int64) : Prop := (¬ r = 1 → ∀ a b, z_FR D H this a b → z_FR D H' this a b) ∧ (r = 1 → 1 ≤ down.toInt → 0 ≤ (m_labs up).toInt → z_FR D H' this (up / m_gcd (m_labs up) down) (down / m_gcd (m_labs up) down))
/-- what is answered: not as told, not lawful or nothing, 1 -/
def m_3 (ok : Prop) (law : Bool) (nz : Prop) (r : Int32) : Prop := (ok → law = true → nz → r = 1) ∧ (ok → law = true → ¬ nz → r = -3) ∧ (ok → law = false → r = -3) ∧ (¬ ok → r = -2)
theorem m_3.eqr {ok ok' nz nz' : Prop} {law law' : Bool} {r r' : Int32} (h : m_3 ok law nz r) (h' : m_3 ok' law' nz' r') (e1 : ok ↔ ok') (e2 : ok → law = law') (e3 : ok → law = true → (nz ↔ nz')) : r = r' := by
  by_cases k : ok
  · cases hl : law with
    | true =>
      have hl2 := (e2 k).symm.trans hl
      by_cases n : nz
      · rw [h.1 k hl n, h'.1 (e1.mp k) hl2 ((e3 k hl).mp n)]
      · rw [h.2.1 k hl n, h'.2.1 (e1.mp k) hl2 (fun q => n ((e3 k hl).mpr q))]
    | false => rw [h.2.2.1 k hl, h'.2.2.1 (e1.mp k) ((e2 k).symm.trans hl)]
  · rw [h.2.2.2 k, h'.2.2.2 (fun q => k (e1.mpr q))]
