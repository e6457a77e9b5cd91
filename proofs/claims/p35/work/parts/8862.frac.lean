/-! THE FRACTION of the class: chance, lies -/
def z_FR (D : va_G) (H : Heap) (this : Nat) (a b : Int64) : Prop := x_sl D 11 7 this H = some (.long a) ∧ x_sl D 11 8 this H = some (.long b)
def z_fx (D : va_G) (H H' : Heap) (this : Nat) (r : Int32) (up down : Int64) : Prop := (¬ r = 1 → ∀ a b, z_FR D H this a b → z_FR D H' this a b) ∧ (r = 1 → 1 ≤ down.toInt → 0 ≤ (m_labs up).toInt → z_FR D H' this (up / m_gcd (m_labs up) down) (down / m_gcd (m_labs up) down))
/-- what is answered: not as told, not lawful or nothing, 1 -/
def m_3 (ok : Prop) (law : Bool) (nz : Prop) (r : Int32) : Prop := (ok → law = true → nz → r = 1) ∧ (ok → law = true → ¬ nz → r = -3) ∧ (ok → law = false → r = -3) ∧ (¬ ok → r = -2)
