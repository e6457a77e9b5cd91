theorem m_any_congr {c c' : Nat → Bool} {n : Nat} (h : ∀ i, i < n → c i = c' i) : m_any c n = m_any c' n := by
  induction n with
  | zero => rfl
  | succ n ih =>
    show (m_any c n || c n) = (m_any c' n || c' n)
    rw [ih fun i hi => h i (by omega), h n (by omega)]
