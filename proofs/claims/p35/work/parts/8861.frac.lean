/-! THE FRACTION: the greatest common divisor by steps; class and reference come to the same -/
def m_en : Nat → Int64 × Int64 → Int64 × Int64
  | 0, q => q
  | k + 1, q => if (m_en k q).2 = 0 then m_en k q else ((m_en k q).2, (m_en k q).1 - (m_en k q).1 / (m_en k q).2 * (m_en k q).2)
def m_gcd (a b : Int64) : Int64 := (m_en 200 (a, b)).1
def m_labs (a : Int64) : Int64 := if 0 < a then a else -a
section FRA
end FRA
