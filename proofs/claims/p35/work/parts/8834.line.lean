/-! A LINE: eight numbers; all as the class reckons them -/
def z_Ln (D : va_G) (q : Nat) (H : Heap) (l : Nat → Int32) : Prop := (∀ k, k < 8 → x_sl D 3 k q H = some (.int (l k))) ∧ ∀ k, 8 ≤ k → l k = 0
theorem z_Ln.uniq {D : va_G} {q : Nat} {H : Heap} {l l' : Nat → Int32} (h : z_Ln D q H l) (h' : z_Ln D q H l') : l = l' := by
  funext k
  by_cases hk : k < 8
  · exact z_intI (h.1 k hk) (h'.1 k hk)
  · rw [h.2 k (by omega), h'.2 k (by omega)]
theorem z_Ln.kept {D : va_G} {q : Nat} {H H' : Heap} {l : Nat → Int32} (h : z_Ln D q H l) (e : ∀ k, k < 8 → x_sl D 3 k q H' = x_sl D 3 k q H) : z_Ln D q H' l := ⟨fun k hk => by rw [e k hk]; exact h.1 k hk, h.2⟩
theorem z_Ln.E {D : va_G} {Y : xY} {q : Nat} {H H' : Heap} {l : Nat → Int32} {ef : List (Nat × Nat)} (h : z_Ln D q H l) (hq : Y q = some 10) (hE : x_E D x_G ef Y H H') (hn : ef.all (fun z => !(Nat.beq z.1 10)) = true) : z_Ln D q H' l :=
  h.kept fun k hk => (x_eq.E (g := x_G[10]) hE hq rfl hn) k hk
def m_abs (v : Int32) : Int32 := if 0 ≤ v then v else 0 - v
def m_max (a b : Int32) : Int32 := if a < b then b else a
/-- the line from hill a to hill b -/
def m_ln (f : Nat → Int32) (a b : Nat) : Nat → Int32
  | 0 => f (10 + 5 * a)
  | 1 => f (11 + 5 * a)
  | 2 => f (10 + 5 * b) - f (10 + 5 * a)
  | 3 => f (11 + 5 * b) - f (11 + 5 * a)
  | 4 => f 6 * m_max (m_abs (f (10 + 5 * b) - f (10 + 5 * a))) (m_abs (f (11 + 5 * b) - f (11 + 5 * a)))
  | 5 => f (12 + 5 * a)
  | 6 => f (12 + 5 * b)
  | 7 => (f (10 + 5 * b) - f (10 + 5 * a)) * (f (10 + 5 * b) - f (10 + 5 * a)) + (f (11 + 5 * b) - f (11 + 5 * a)) * (f (11 + 5 * b) - f (11 + 5 * a))
  | _ => 0
def m_al (l : Nat → Int32) (x y : Int32) : Int32 := (x - l 0) * l 2 + (y - l 1) * l 3
def m_bt (l : Nat → Int32) (x y : Int32) : Bool := decide (0 < (m_al l x y).toInt) && decide ((m_al l x y).toInt < (l 7).toInt)
def m_mt (l : Nat → Int32) (x y : Int32) : Bool := m_bt l x y && decide ((m_abs ((x - l 0) * l 3 - (y - l 1) * l 2)).toInt ≤ (l 4).toInt)
def m_ov (l : Nat → Int32) (x y h : Int32) : Int32 := (l 5 - h) * l 7 + (l 6 - l 5) * m_al l x y
def m_hd (l : Nat → Int32) (x y h : Int32) : Bool := decide ((m_ov l x y h).toInt < 0)
