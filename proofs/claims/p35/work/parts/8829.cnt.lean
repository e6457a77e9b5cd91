/-- how many of the first k hills have reported -/
def m_reps (f : Nat → Int32) : Nat → Nat
  | 0 => 0
  | k + 1 => m_reps f k + (if f (13 + 5 * k) = -1 then 0 else 1)
def m_cnt (f : Nat → Int32) (n w r : Int32) : Prop := (w.toInt = 0 → r = f 0) ∧ (w.toInt = 1 → r = f 1) ∧ (w.toInt = 2 → r = n) ∧ (w.toInt = 3 → r.toInt = m_reps f (f 0).toInt.toNat) ∧ (w.toInt = 4 → r = f 2) ∧ (¬ (0 ≤ w.toInt ∧ w.toInt ≤ 4) → r = -2)
theorem m_cnt.eq {f : Nat → Int32} {n w r r' : Int32} (h1 : m_cnt f n w r) (h2 : m_cnt f n w r') : r = r' := by
  by_cases h : 0 ≤ w.toInt ∧ w.toInt ≤ 4
  · rcases (by omega : w.toInt = 0 ∨ w.toInt = 1 ∨ w.toInt = 2 ∨ w.toInt = 3 ∨ w.toInt = 4) with q | q | q | q | q
    · exact (h1.1 q).trans (h2.1 q).symm
    · exact (h1.2.1 q).trans (h2.2.1 q).symm
    · exact (h1.2.2.1 q).trans (h2.2.2.1 q).symm
    · exact Int32.toInt_inj.mp ((h1.2.2.2.1 q).trans (h2.2.2.2.1 q).symm)
    · exact (h1.2.2.2.2.1 q).trans (h2.2.2.2.2.1 q).symm
  · exact (h1.2.2.2.2.2 h).trans (h2.2.2.2.2.2 h).symm
