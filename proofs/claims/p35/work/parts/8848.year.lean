def m_bitsOf (ok : Prop) (c : Nat → Bool) (K : Nat) (r : Int32) : Prop := (ok → r = m_gg c 0 K) ∧ (¬ ok → r = -2)
