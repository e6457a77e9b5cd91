/-! THE FRACTION: the greatest common divisor by steps; class and reference come to the same -/
def m_en : Nat → Int64 × Int64 → Int64 × Int64
  | 0, q => q
  | k + 1, q => if (m_en k q).2 = 0 then m_en k q else ((m_en k q).2, (m_en k q).1 - (m_en k q).1 / (m_en k q).2 * (m_en k q).2)
def m_gcd (a b : Int64) : Int64 := (m_en 200 (a, b)).1
def m_labs (a : Int64) : Int64 := if 0 < a then a else -a
def m_sN (q : Nat × Nat) : Nat × Nat := if q.2 = 0 then q else (q.2, q.1 % q.2)
def m_nn : Nat → Nat × Nat → Nat × Nat
  | 0, q => q
  | k + 1, q => m_sN (m_nn k q)
section FRA
theorem z_lremI (x y : Int64) (h : ¬ y = 0) : (x - x / y * y).toInt = x.toInt.tmod y.toInt := by
  have hy : y.toInt ≠ 0 := fun q => h (Int64.toInt_inj.mp q)
  have x1 := Int64.le_toInt x
  have x2 := Int64.toInt_lt x
  have y1 := Int64.le_toInt y
  have y2 := Int64.toInt_lt y
  have e1 : x - x / y * y = Int64.ofInt (x.toInt - x.toInt.tdiv y.toInt * y.toInt) := by
    rw [Int64.ofInt_sub, Int64.ofInt_mul, Int64.ofInt_tdiv, Int64.ofInt_toInt, Int64.ofInt_toInt]
    · exact Int64.minValue_le_toInt x
    · exact Int64.toInt_le x
    · exact Int64.minValue_le_toInt y
    · exact Int64.toInt_le y
  have e2 : x.toInt - x.toInt.tdiv y.toInt * y.toInt = x.toInt.tmod y.toInt := by
    have := Int.tmod_add_tdiv_mul x.toInt y.toInt
    omega
  have e3 : (x.toInt.tmod y.toInt).natAbs < y.toInt.natAbs := by
    rw [Int.natAbs_tmod]
    exact Nat.mod_lt _ (by omega)
  rw [e1, e2, Int64.toInt_ofInt_of_le (by omega) (by omega)]
theorem m_en_s {k : Nat} {q : Int64 × Int64} (h : ¬ (m_en k q).2 = 0) : m_en (k + 1) q = ((m_en k q).2, (m_en k q).1 - (m_en k q).1 / (m_en k q).2 * (m_en k q).2) := by
  show (if _ then _ else _) = _
  rw [if_neg h]
theorem m_en_0 {k : Nat} {q : Int64 × Int64} (h : (m_en k q).2 = 0) : ∀ i, m_en (k + i) q = m_en k q
  | 0 => rfl
  | i + 1 => by
    have e := m_en_0 h i
    show (if (m_en (k + i) q).2 = 0 then m_en (k + i) q else _) = _
    rw [e, if_pos h]
theorem m_en_n {a b : Int64} (ha : 0 ≤ a.toInt) (hb : 0 ≤ b.toInt) : ∀ k, (m_en k (a, b)).1.toInt = ((m_nn k (a.toInt.toNat, b.toInt.toNat)).1 : Int) ∧ (m_en k (a, b)).2.toInt = ((m_nn k (a.toInt.toNat, b.toInt.toNat)).2 : Int)
  | 0 => by
    show a.toInt = ((a.toInt.toNat : Nat) : Int) ∧ b.toInt = ((b.toInt.toNat : Nat) : Int)
    omega
  | k + 1 => by
    obtain ⟨h1, h2⟩ := m_en_n ha hb k
    have hz : (m_en k (a, b)).2 = 0 ↔ (m_nn k (a.toInt.toNat, b.toInt.toNat)).2 = 0 := by
      have z0 : (0 : Int64).toInt = 0 := by decide
      constructor
      · intro h; rw [h, z0] at h2; omega
      · intro h; rw [h] at h2; exact Int64.toInt_inj.mp (h2.trans z0.symm)
    by_cases e : (m_en k (a, b)).2 = 0
    · have e9 : m_nn (k + 1) (a.toInt.toNat, b.toInt.toNat) = m_nn k (a.toInt.toNat, b.toInt.toNat) := by
        show m_sN _ = _
        unfold m_sN
        rw [if_pos (hz.mp e)]
      rw [show m_en (k + 1) (a, b) = m_en k (a, b) from m_en_0 e 1, e9]
      exact ⟨h1, h2⟩
    · have e9 : m_nn (k + 1) (a.toInt.toNat, b.toInt.toNat) = ((m_nn k (a.toInt.toNat, b.toInt.toNat)).2, (m_nn k (a.toInt.toNat, b.toInt.toNat)).1 % (m_nn k (a.toInt.toNat, b.toInt.toNat)).2) := by
        show m_sN _ = _
        unfold m_sN
        rw [if_neg (fun h => e (hz.mpr h))]
      rw [m_en_s e, e9]
      refine ⟨h2, ?_⟩
      show ((m_en k (a, b)).1 - (m_en k (a, b)).1 / (m_en k (a, b)).2 * (m_en k (a, b)).2).toInt = (((m_nn k (a.toInt.toNat, b.toInt.toNat)).1 % (m_nn k (a.toInt.toNat, b.toInt.toNat)).2 : Nat) : Int)
      rw [z_lremI _ _ e, h1, h2]
      exact (Int.ofNat_tmod _ _).symm
theorem m_nn_c : ∀ k (q : Nat × Nat), m_nn (k + 1) q = m_nn k (m_sN q)
  | 0, _ => rfl
  | k + 1, q => by
    show m_sN (m_nn (k + 1) q) = m_sN (m_nn k (m_sN q))
    rw [m_nn_c k q]
theorem m_sN_0 {a : Nat} : m_sN (a, 0) = (a, 0) := by
  unfold m_sN
  rw [if_pos rfl]
theorem m_sN_s {a b : Nat} (h : ¬ b = 0) : m_sN (a, b) = (b, a % b) := by
  unfold m_sN
  rw [if_neg h]
theorem m_half {a b : Nat} (h1 : 0 < b) (h2 : b ≤ a) : 2 * (a % b) < a := by
  have h3 := Nat.mod_lt a h1
  have h4 := Nat.div_add_mod a b
  have h5 : 1 ≤ a / b := (Nat.le_div_iff_mul_le h1).mpr (by omega)
  have h6 : b * 1 ≤ b * (a / b) := Nat.mul_le_mul_left b h5
  omega
theorem m_nn_end : ∀ j a b, b < 2 ^ j → (m_nn (2 * j) (a, b)).2 = 0
  | 0, a, b, h => by
    show b = 0
    have : (2 : Nat) ^ 0 = 1 := rfl
    omega
  | j + 1, a, b, h => by
    have hp : (2 : Nat) ^ (j + 1) = 2 * 2 ^ j := by rw [Nat.pow_succ]; omega
    have hq : 0 < (2 : Nat) ^ j := Nat.pow_pos (by decide)
    rw [show 2 * (j + 1) = 2 * j + 1 + 1 by omega, m_nn_c, m_nn_c]
    by_cases e : b = 0
    · rw [e, m_sN_0, m_sN_0]
      exact m_nn_end j a 0 hq
    · rw [m_sN_s e]
      by_cases e2 : a % b = 0
      · rw [e2, m_sN_0]
        exact m_nn_end j b 0 hq
      · rw [m_sN_s e2]
        have h1 := Nat.mod_lt a (show 0 < b by omega)
        have h2 := m_half (show 0 < a % b by omega) (Nat.le_of_lt h1)
        exact m_nn_end j (a % b) (b % (a % b)) (by omega)
theorem m_nn_pos {q : Nat × Nat} (h : 0 < q.1 ∨ 0 < q.2) : ∀ k, 0 < (m_nn k q).1 ∨ 0 < (m_nn k q).2
  | 0 => h
  | k + 1 => by
    have ih := m_nn_pos h k
    show 0 < (m_sN (m_nn k q)).1 ∨ 0 < (m_sN (m_nn k q)).2
    unfold m_sN
    by_cases e : (m_nn k q).2 = 0
    · rw [if_pos e]; exact ih
    · rw [if_neg e]; exact Or.inl (by show 0 < (m_nn k q).2; omega)
theorem m_en_200 {a b : Int64} (ha : 0 ≤ a.toInt) (hb : 0 ≤ b.toInt) : (m_en 128 (a, b)).2 = 0 := by
  have h := m_nn_end 64 a.toInt.toNat b.toInt.toNat (by have := x_i64 b; omega)
  have h2 := (m_en_n ha hb 128).2
  rw [show (2 * 64 : Nat) = 128 from rfl] at h
  rw [h] at h2
  exact Int64.toInt_inj.mp (h2.trans (by decide))
theorem m_gcd_at {a b : Int64} (ha : 0 ≤ a.toInt) (hb : 1 ≤ b.toInt) {k : Nat} (h : (m_en k (a, b)).2 = 0 ∨ 128 ≤ k) : (m_en k (a, b)).1 = m_gcd a b ∧ (m_en k (a, b)).2 = 0 ∧ 1 ≤ (m_gcd a b).toInt := by
  have hb0 : 0 ≤ b.toInt := by omega
  have h128 := m_en_200 ha hb0
  have e200 : m_en 200 (a, b) = m_en 128 (a, b) := m_en_0 h128 72
  have ek : m_en k (a, b) = m_en 128 (a, b) := by
    rcases h with h | h
    · rcases Nat.le_total k 128 with q | q
      · have := m_en_0 h (128 - k)
        rw [show k + (128 - k) = 128 by omega] at this
        exact this.symm
      · have := m_en_0 h128 (k - 128)
        rw [show 128 + (k - 128) = k by omega] at this
        exact this
    · have := m_en_0 h128 (k - 128)
      rw [show 128 + (k - 128) = k by omega] at this
      exact this
  have hp := m_nn_pos (q := (a.toInt.toNat, b.toInt.toNat)) (Or.inr (by show 0 < b.toInt.toNat; omega)) 128
  have hn := m_en_n ha hb0 128
  have z0 : (0 : Int64).toInt = 0 := by decide
  rw [h128, z0] at hn
  unfold m_gcd
  rw [ek, e200]
  exact ⟨rfl, h128, by omega⟩
theorem m_labs_0 {a : Int64} (h : ¬ a.toInt = -9223372036854775808) : 0 ≤ (m_labs a).toInt := by
  have h1 := x_i64 a
  have z0 : (0 : Int64).toInt = 0 := by decide
  unfold m_labs
  by_cases e : 0 < a
  · rw [if_pos e]
    have := Int64.lt_iff_toInt_lt.mp e
    omega
  · rw [if_neg e]
    have h2 : ¬ (0 : Int64).toInt < a.toInt := fun q => e (Int64.lt_iff_toInt_lt.mpr q)
    rw [Int64.toInt_neg, Int.bmod_eq_of_le (by omega) (by omega)]
    omega
/-- the other way round: where it is below 0 -/
theorem m_labs_2 (a : Int64) : (if a < 0 then -a else a) = m_labs a := by
  have z0 : (0 : Int64).toInt = 0 := by decide
  have h1 : a < 0 ↔ a.toInt < 0 := by rw [Int64.lt_iff_toInt_lt, z0]
  have h2 : 0 < a ↔ 0 < a.toInt := by rw [Int64.lt_iff_toInt_lt, z0]
  unfold m_labs
  by_cases e1 : a < 0
  · rw [if_pos e1, if_neg (fun q => by rw [h2] at q; rw [h1] at e1; omega)]
  · rw [if_neg e1]
    by_cases e2 : 0 < a
    · rw [if_pos e2]
    · rw [if_neg e2]
      have : a = 0 := Int64.toInt_inj.mp (by rw [z0]; rw [h1] at e1; rw [h2] at e2; omega)
      rw [this]
      decide
theorem m_lmul {a b : Int64} {A B : Int} (h1 : 0 ≤ a.toInt ∧ a.toInt ≤ A) (h2 : 0 ≤ b.toInt ∧ b.toInt ≤ B) (h : A * B ≤ 9223372036854775807) : (a * b).toInt = a.toInt * b.toInt ∧ 0 ≤ (a * b).toInt ∧ (a * b).toInt ≤ A * B := by
  have h3 : 0 ≤ a.toInt * b.toInt := Int.mul_nonneg h1.1 h2.1
  have h4 : a.toInt * b.toInt ≤ A * B := Int.mul_le_mul h1.2 h2.2 h2.1 (by omega)
  have e : (a * b).toInt = a.toInt * b.toInt := by rw [Int64.toInt_mul, Int.bmod_eq_of_le (by omega) (by omega)]
  rw [e]
  exact ⟨rfl, h3, h4⟩
theorem m_ladd {a b : Int64} {A B : Int} (h1 : 0 ≤ a.toInt ∧ a.toInt ≤ A) (h2 : 0 ≤ b.toInt ∧ b.toInt ≤ B) (h : A + B ≤ 9223372036854775807) : (a + b).toInt = a.toInt + b.toInt ∧ 0 ≤ (a + b).toInt ∧ (a + b).toInt ≤ A + B := by
  have e : (a + b).toInt = a.toInt + b.toInt := by rw [Int64.toInt_add, Int.bmod_eq_of_le (by omega) (by omega)]
  rw [e]
  omega
/-- a number so often times another -/
def m_lp (v t : Int64) : Nat → Int64
  | 0 => v
  | k + 1 => m_lp v t k * t
theorem m_lp_mul {v t u : Int64} : ∀ k, m_lp (v * u) t k = m_lp v t k * u
  | 0 => rfl
  | k + 1 => by
    show m_lp (v * u) t k * t = m_lp v t k * t * u
    rw [m_lp_mul k, Int64.mul_assoc, Int64.mul_comm u t, ← Int64.mul_assoc]
theorem m_lp_0 {t : Int64} : ∀ k, m_lp 0 t k = 0
  | 0 => rfl
  | k + 1 => by
    show m_lp 0 t k * t = 0
    rw [m_lp_0 k, Int64.zero_mul]
end FRA
