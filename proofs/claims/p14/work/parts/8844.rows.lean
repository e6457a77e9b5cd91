def m_ofSt (w : Int32) (s : Int32) (k : Nat) : Int32 := s + (if m_bc (nI k) = w then 1 else 0)
def m_fuSt (w : Int32) (s : Int32) (k : Nat) : Int32 := if (nI k &&& w = w) ∧ (s = -1 ∨ (m_bc s).toInt < (m_bc (nI k)).toInt) then nI k else s
