def m_wrR (V : Nat → Int32) (w : Int32) (i : Nat) : Bool := m_has w (nI i) && !(decide (z_bits (V i &&& w) = 1))
