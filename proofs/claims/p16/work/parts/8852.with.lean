/-! WITHOUT LEAVE: what the keepers saw -/
def m_tru (f V : Nat → Int32) (lit : Int32) (k : Nat) : Bool := decide (f (13 + 5 * k) = m_bc (V k &&& lit))
def m_rep1 (f V : Nat → Int32) (lit : Int32) (k : Nat) : Bool := decide (f (13 + 5 * k) = -1) || m_tru f V lit k
def m_asr (f V : Nat → Int32) (lit : Int32) : Bool := !(m_any (fun k => !(m_rep1 f V lit k)) (f 0).toInt.toNat)
def m_sus (f V : Nat → Int32) (w : Int32) (h : Nat) : Bool := !(m_has w (nI h)) && m_asr f V (w ||| m_sh (nI h))
def m_woC (f : Nat → Int32) (w r : Int32) : Prop := (m_isS f w → (m_any (m_wr (m_VC f (f 4) (f 5) 0) w) 10 = false → r = m_gg (m_sus f (m_VC f (f 4) (f 5) 0) w) 0 (f 0).toInt.toNat) ∧ (m_any (m_wr (m_VC f (f 4) (f 5) 0) w) 10 = true → r = -3)) ∧ (¬ m_isS f w → r = -2)
