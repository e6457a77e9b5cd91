/-! THE FRACTION: both sides come to the same; a digest's words -/
section CLE
variable {f : Nat → Int32} {a b t w h r r' : Int32}
/-- how the two numbers stand behind a call -/
def m_fa (r : Int32) (up down fa : Int64) : Int64 := if r = 1 then up / m_gcd (m_labs up) down else fa
def m_fb (r : Int32) (up down fb : Int64) : Int64 := if r = 1 then down / m_gcd (m_labs up) down else fb
theorem z_fx.at {D : va_G} {H H' : Heap} {x : Nat} {up down fa fb : Int64} (h : z_fx D H H' x r up down) (h0 : z_FR D H x fa fb) (hp : r = 1 → 1 ≤ down.toInt ∧ 0 ≤ (m_labs up).toInt) : z_FR D H' x (m_fa r up down fa) (m_fb r up down fb) := by
  unfold m_fa m_fb
  by_cases k : r = 1
  · rw [if_pos k, if_pos k]; exact h.2 k (hp k).1 (hp k).2
  · rw [if_neg k, if_neg k]; exact h.1 k _ _ h0
theorem z_fxM.at {D : va_G} {H H' : Heap} {x : Nat} {up down fa fb : Int64} (h : z_fxM D H H' x r up down) (h0 : z_FM D H x fa fb) (hp : r = 1 → 1 ≤ down.toInt ∧ 0 ≤ (m_labs up).toInt) : z_FM D H' x (m_fa r up down fa) (m_fb r up down fb) := by
  unfold m_fa m_fb
  by_cases k : r = 1
  · rw [if_pos k, if_pos k]; exact h.2 k (hp k).1 (hp k).2
  · rw [if_neg k, if_neg k]; exact h.1 k _ _ h0
theorem z_FR.E {D : va_G} {Y : xY} {x : Nat} {H H' : Heap} {fa fb : Int64} {ef : List (Nat × Nat)} (h : z_FR D H x fa fb) (hx : Y x = some 0) (hE : x_E D x_G ef Y H H') (hn : ((0, 7) ∉ ef) ∧ ((0, 8) ∉ ef)) : z_FR D H' x fa fb :=
  ⟨y_Efld hE hx rfl (by decide) hn.1 h.1, y_Efld hE hx rfl (by decide) hn.2 h.2⟩
theorem z_FM.E {D : va_G} {Y : xY} {x : Nat} {H H' : Heap} {fa fb : Int64} {ef : List (Nat × Nat)} (h : z_FM D H x fa fb) (hx : Y x = some 17) (hE : x_E D x_G ef Y H H') (hn : ((17, 6) ∉ ef) ∧ ((17, 7) ∉ ef)) : z_FM D H' x fa fb :=
  ⟨y_Efld hE hx rfl (by decide) hn.1 h.1, y_Efld hE hx rfl (by decide) hn.2 h.2⟩
theorem m_3.one {ok nz : Prop} {law : Bool} (h : m_3 ok law nz r) (k : r = 1) : ok ∧ law = true ∧ nz := by
  by_cases o : ok
  · cases l : law with
    | true =>
      by_cases n : nz
      · exact ⟨o, rfl, n⟩
      · have := h.2.1 o l n; rw [k] at this; exact absurd this (by decide)
    | false => have := h.2.2.1 o l; rw [k] at this; exact absurd this (by decide)
  · have := h.2.2.2 o; rw [k] at this; exact absurd this (by decide)
end CLE
