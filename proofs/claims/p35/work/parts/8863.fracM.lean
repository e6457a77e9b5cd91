/-! THE FRACTION of the reference: chance, lies -/
def z_FM (D : va_G) (H : Heap) (this : Nat) (a b : Int64) : Prop := x_sl D 12 6 this H = some (.long a) ∧ x_sl D 12 7 this H = some (.long b)
def z_fxM (D : va_G) (H H' : Heap) (this : Nat) (r : Int32) (up down : Int64) : Prop := (¬ r = 1 → ∀ a b, z_FM D H this a b → z_FM D H' this a b) ∧ (r = 1 → 1 ≤ down.toInt → 0 ≤ (m_labs up).toInt → z_FM D H' this (up / m_gcd (m_labs up) down) (down / m_gcd (m_labs up) down))
