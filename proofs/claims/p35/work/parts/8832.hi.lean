/-! HOW HIGH A THING STANDS: p the place of its kind -/
def m_99 (v : Int32) : Int32 := if v < 99 then v else 99
def m_gr (k : Int) (g y : Int32) : Int32 := if k = 1 then g * y else if k = 3 then g * (y - y / 5 * 5) else 2 * g * y
def m_wd (f : Nat → Int32) (p : Nat) (y d : Int32) : Int32 := if d = 0 then m_99 (f (p + 3) + m_gr (f p).toInt (f (p + 4)) y) else 0
def m_stn (f : Nat → Int32) (p : Nat) (y d : Int32) : Int32 := if (f p).toInt = 0 then f (p + 3) else if (f p).toInt = 5 then (if d = 0 then 0 else f (p + 3)) else if (f p).toInt = 4 then m_wd f p y d / 2 else m_wd f p y d
def m_hgh (f : Nat → Int32) (t : Nat) (y : Int32) : Int32 := m_stn f (60 + 7 * t) y (if f (65 + 7 * t) = 1 then 1 else 0)
theorem z_st.at {D : va_G} {Y : xY} {H : Heap} {f : Nat → Int32} {s p : Nat} {z : Nat × Nat} (h : z_st D Y s H f p) (hz : z ∈ z_Kd) (hY : Y s = some z.1) : (z.1 : Int) = 11 + (f p).toInt ∧ ∀ k, k < 5 → x_sl D z.2 k s H = some (.int (f (p + k))) := by
  obtain ⟨z', z1, z2, z3, z4⟩ := h
  have e0 : z'.1 = z.1 := by
    rw [z2] at hY
    injection hY
  have hzk : ∀ u ∈ z_Kd, ∀ v ∈ z_Kd, u.1 = v.1 → u = v := by decide
  cases hzk z' z1 z hz e0
  exact ⟨z3, z4⟩
theorem z_intI {o : Option Value} {u v : Int32} (h1 : o = some (.int u)) (h2 : o = some (.int v)) : u = v := by
  rw [h1] at h2
  injection h2 with h2
  injection h2
