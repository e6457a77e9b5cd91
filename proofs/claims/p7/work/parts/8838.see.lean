/-! what the reference reckons: a hides from b -/
def m_ab2 (v : Int32) : Int32 := if v < 0 then -v else v
def m_mx2 (a b : Int32) : Int32 := if b < a then a else b
def m_dx (f : Nat → Int32) (a b : Nat) : Int32 := f (10 + 5 * b) - f (10 + 5 * a)
def m_dy (f : Nat → Int32) (a b : Nat) : Int32 := f (11 + 5 * b) - f (11 + 5 * a)
def m_rd (f : Nat → Int32) (a b : Nat) : Int32 := m_dx f a b * m_dx f a b + m_dy f a b * m_dy f a b
def m_ra (f : Nat → Int32) (a b : Nat) (x y : Int32) : Int32 := (x - f (10 + 5 * a)) * m_dx f a b + (y - f (11 + 5 * a)) * m_dy f a b
def m_rs (f : Nat → Int32) (a b : Nat) (x y : Int32) : Int32 := m_ab2 ((x - f (10 + 5 * a)) * m_dy f a b - (y - f (11 + 5 * a)) * m_dx f a b)
def m_rw (f : Nat → Int32) (a b : Nat) : Int32 := f 6 * m_mx2 (m_ab2 (m_dx f a b)) (m_ab2 (m_dy f a b))
def m_hs (f : Nat → Int32) (a b : Nat) (x y h : Int32) : Bool := decide (0 < (m_ra f a b x y).toInt) && (decide ((m_ra f a b x y).toInt < (m_rd f a b).toInt) && (decide ((m_rs f a b x y).toInt ≤ (m_rw f a b).toInt) && decide ((f (12 + 5 * a) * m_rd f a b + (f (12 + 5 * b) - f (12 + 5 * a)) * m_ra f a b x y).toInt < (h * m_rd f a b).toInt)))
def m_all (c : Nat → Bool) : Nat → Bool
  | 0 => true
  | k + 1 => m_all c k && c k
theorem m_all_iff {c : Nat → Bool} : ∀ n, m_all c n = true ↔ ∀ i, i < n → c i = true := by
  intro n
  induction n with
  | zero => exact ⟨fun _ i hi => by omega, fun _ => rfl⟩
  | succ n ih =>
    show (m_all c n && c n) = true ↔ _
    rw [Bool.and_eq_true, ih]
    constructor
    · rintro ⟨h1, h2⟩ i hi
      by_cases e : i = n
      · rw [e]; exact h2
      · exact h1 i (by omega)
    · intro h
      exact ⟨fun i hi => h i (by omega), h n (by omega)⟩
theorem m_all_congr {c c' : Nat → Bool} {n : Nat} (h : ∀ i, i < n → c i = c' i) : m_all c n = m_all c' n := by
  induction n with
  | zero => rfl
  | succ n ih =>
    show (m_all c n && c n) = (m_all c' n && c' n)
    rw [ih fun i hi => h i (by omega), h n (by omega)]
def m_hrk (f : Nat → Int32) (t : Nat) (y : Int32) : Int32 := m_hr (f (60 + 7 * t)) (f (65 + 7 * t)) (f (63 + 7 * t)) (f (64 + 7 * t)) y
def m_s0 (f : Nat → Int32) (a b : Nat) (mi : Int32) : Bool := decide (mi.toInt ≤ (f (12 + 5 * a)).toInt) && decide (mi.toInt ≤ (f (12 + 5 * b)).toInt)
def m_k1 (f : Nat → Int32) (a b : Nat) (h : Nat) : Bool := decide (h = a) || (decide (h = b) || !(m_hs f a b (f (10 + 5 * h)) (f (11 + 5 * h)) (f (12 + 5 * h))))
def m_k2 (f : Nat → Int32) (a b : Nat) (y : Int32) (t : Nat) : Bool := !(m_hs f a b (f (61 + 7 * t)) (f (62 + 7 * t)) (m_hrk f t y))
def m_ss (f : Nat → Int32) (a b : Nat) (y mi : Int32) : Bool := (m_s0 f a b mi && m_all (m_k1 f a b) (f 0).toInt.toNat) && m_all (m_k2 f a b y) (f 1).toInt.toNat
def m_VR (f : Nat → Int32) (y mi : Int32) (i : Nat) : Int32 := m_vw (fun p q => m_ss f q p y mi) (f 0).toInt.toNat i
def m_lw (S : Nat → Int32) (w : Int32) (n : Nat) : Bool := m_all (fun h => !(m_has w (nI h)) || decide (z_bits (S h &&& w) = 1)) n
