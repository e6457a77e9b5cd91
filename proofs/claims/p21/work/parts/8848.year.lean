def m_bitsOf (ok : Prop) (c : Nat → Bool) (K : Nat) (r : Int32) : Prop := (ok → r = m_gg c 0 K) ∧ (¬ ok → r = -2)
theorem m_or0 {x : Int32} : x ||| 0 = x := m_bi_ext fun j _ => by rw [m_bi_or, m_bi_0, Bool.or_false]
