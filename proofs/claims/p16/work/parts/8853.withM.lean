/-! WITHOUT LEAVE, the reference -/
def m_soR (f S : Nat → Int32) (lit : Int32) (d : Int32) (q : Nat) : Bool := !(decide (f (13 + 5 * q) = -1)) && decide (m_b (decide (z_bits (S q &&& lit) = f (13 + 5 * q))) = d)
def m_woB (f S : Nat → Int32) (w : Int32) (h : Nat) : Bool := !(m_has w (nI h)) && decide (m_cn (m_soR f S (w ||| m_sh (nI h)) 0) (f 0).toInt.toNat = 0)
def m_woR (f : Nat → Int32) (w r : Int32) : Prop := (m_isS f w → (m_lw (m_VR f (f 4) (f 5)) w (f 0).toInt.toNat = true → r = m_gg (m_woB f (m_VR f (f 4) (f 5)) w) 0 (f 0).toInt.toNat) ∧ (m_lw (m_VR f (f 4) (f 5)) w (f 0).toInt.toNat = false → r = -3)) ∧ (¬ m_isS f w → r = -2)
