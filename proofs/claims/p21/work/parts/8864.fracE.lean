/-! chance, lies: both sides answer alike, and come to the same fraction -/
section FRE
variable {f V V' : Nat → Int32} {w h r r' : Int32}
theorem m_has_1 {x : Int32} {k : Nat} (hk : k < 31) : (x >>> (nI k &&& 31)) &&& 1 = m_b (m_has x (nI k)) := by
  rw [m_sr_bi hk, m_has_bi hk]
end FRE
