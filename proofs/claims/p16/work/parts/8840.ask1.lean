/-! WHAT A CALL ANSWERS of sight: V what each hill sees, n what bits it counts by -/
def m_isS (f : Nat → Int32) (s : Int32) : Prop := 0 ≤ s.toInt ∧ s.toInt ≤ (z_all (f 0)).toInt
theorem m_shB : ∀ k : Fin 11, ((1 : Int32) <<< (nI k &&& 31)).toInt = (z_all (nI k)).toInt + 1 := by decide
theorem m_sh1 {n : Int32} (h : 0 ≤ n.toInt ∧ n.toInt ≤ 10) : ((1 : Int32) <<< (n &&& 31)).toInt = (z_all n).toInt + 1 := by
  have := m_shB ⟨n.toInt.toNat, by omega⟩
  rw [m_nj h.1] at this; exact this
def m_asC (f : Nat → Int32) (a b r : Int32) : Prop := (m_isH f a ∧ m_isH f b ∧ ¬ a = b → r = ((m_VC f (f 4) (f 5) 0) a.toInt.toNat >>> (b &&& 31)) &&& 1) ∧ (¬ (m_isH f a ∧ m_isH f b ∧ ¬ a = b) → r = -2)
def m_aeC (f : Nat → Int32) (h w r : Int32) : Prop := (m_isH f h ∧ m_isS f w → r = (m_VC f (f 4) (f 5) 0) h.toInt.toNat &&& w) ∧ (¬ (m_isH f h ∧ m_isS f w) → r = -2)
def m_ajC (f : Nat → Int32) (w t r : Int32) : Prop := (m_isS f w ∧ 0 ≤ t.toInt ∧ t.toInt ≤ 1 → ∃ k : Int32, m_fw (m_VC f (f 4) (f 5) 0) w k ∧ (k = -1 ∨ t = 0 → r = k) ∧ (¬ k = -1 → ¬ t = 0 → r = m_bc ((m_VC f (f 4) (f 5) 0) k.toInt.toNat &&& w))) ∧ (¬ (m_isS f w ∧ 0 ≤ t.toInt ∧ t.toInt ≤ 1) → r = -2)
