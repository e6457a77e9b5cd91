theorem m_any_congr {c c' : Nat → Bool} {n : Nat} (h : ∀ i, i < n → c i = c' i) : m_any c n = m_any c' n := by
  induction n with
  | zero => rfl
  | succ n ih =>
    show (m_any c n || c n) = (m_any c' n || c' n)
    rw [ih fun i hi => h i (by omega), h n (by omega)]
def m_ofSt (w : Int32) (s : Int32) (k : Nat) : Int32 := s + (if m_bc (nI k) = w then 1 else 0)
def m_fuSt (w : Int32) (s : Int32) (k : Nat) : Int32 := if (nI k &&& w = w) ∧ (s = -1 ∨ (m_bc s).toInt < (m_bc (nI k)).toInt) then nI k else s
