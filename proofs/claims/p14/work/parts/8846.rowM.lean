/-! lawful, most: the reference's loops over all sets -/
def m_laR (f : Nat → Int32) (n : Int32) (k : Nat) : Bool := (decide (n = -1) || decide (z_bits (nI k) = n)) && m_lw (m_VR f (f 4) (f 5)) (nI k) (f 0).toInt.toNat
def m_alR (f : Nat → Int32) (n r : Int32) : Prop := (-1 ≤ n.toInt ∧ n.toInt ≤ 10 → r.toInt = (m_cn (m_laR f n) (2 ^ (f 0).toInt.toNat) : Nat)) ∧ (¬ (-1 ≤ n.toInt ∧ n.toInt ≤ 10) → r = -2)
def m_mw (h : Int32) (k : Nat) : Bool := decide (h = -1) || decide ((nI k >>> ((if h.toInt < 0 then 0 else h) &&& 31)) &&& 1 = 1)
def m_mSt (s : Int32) (k : Nat) : Int32 := if s = -1 ∨ (z_bits s).toInt < (z_bits (nI k)).toInt then nI k else s
def m_mL (f : Nat → Int32) (h : Int32) (k : Nat) : Bool := m_mw h k && m_lw (m_VR f (f 4) (f 5)) (nI k) (f 0).toInt.toNat
def m_mB (f : Nat → Int32) (h : Int32) : Int32 := m_fd (m_mL f h) m_mSt (-1) (2 ^ (f 0).toInt.toNat)
def m_amR (f : Nat → Int32) (h t r : Int32) : Prop := (m_amOk f h t → (m_mB f h = -1 → r = -3) ∧ (¬ m_mB f h = -1 → (t = 0 → r = z_bits (m_mB f h)) ∧ (¬ t = 0 → r = m_mB f h))) ∧ (¬ m_amOk f h t → r = -2)
