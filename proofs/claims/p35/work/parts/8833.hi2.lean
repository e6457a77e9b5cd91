def m_ahi (f : Nat → Int32) (t r : Int32) : Prop := (m_isT f t → r = m_hgh f t.toInt.toNat (f 4)) ∧ (¬ m_isT f t → r = -2)
theorem m_ahi.eq {f : Nat → Int32} {t r r' : Int32} (h1 : m_ahi f t r) (h2 : m_ahi f t r') : r = r' := by
  by_cases h : m_isT f t
  · exact (h1.1 h).trans (h2.1 h).symm
  · exact (h1.2 h).trans (h2.2 h).symm
