/-! WHAT A CALL OF THE REFERENCE ANSWERS of sight -/
def m_asR (f : Nat → Int32) (a b r : Int32) : Prop := (m_isH f a ∧ m_isH f b ∧ ¬ a = b → r = m_b (m_ss f a.toInt.toNat b.toInt.toNat (f 4) (f 5))) ∧ (¬ (m_isH f a ∧ m_isH f b ∧ ¬ a = b) → r = -2)
def m_aeR (f : Nat → Int32) (h w r : Int32) : Prop := (m_isH f h ∧ m_isS f w → r = m_VR f (f 4) (f 5) h.toInt.toNat &&& w) ∧ (¬ (m_isH f h ∧ m_isS f w) → r = -2)
def m_wrR (V : Nat → Int32) (w : Int32) (i : Nat) : Bool := m_has w (nI i) && !(decide (z_bits (V i &&& w) = 1))
def m_fwR (V : Nat → Int32) (w : Int32) (n : Nat) (r : Int32) : Prop := (∃ k : Nat, k < n ∧ r.toInt = (k : Int) ∧ m_wrR V w k = true ∧ ∀ i, i < k → m_wrR V w i = false) ∨ (r = -1 ∧ ∀ i, i < n → m_wrR V w i = false)
def m_ajR (f : Nat → Int32) (w t r : Int32) : Prop := (m_isS f w ∧ 0 ≤ t.toInt ∧ t.toInt ≤ 1 → ∃ k : Int32, m_fwR (m_VR f (f 4) (f 5)) w (f 0).toInt.toNat k ∧ (k = -1 ∨ t = 0 → r = k) ∧ (¬ k = -1 → ¬ t = 0 → r = z_bits (m_VR f (f 4) (f 5) k.toInt.toNat &&& w))) ∧ (¬ (m_isS f w ∧ 0 ≤ t.toInt ∧ t.toInt ≤ 1) → r = -2)
