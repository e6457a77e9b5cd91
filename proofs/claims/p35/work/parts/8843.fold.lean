/-! LAWFUL SETS one behind the other: L says which numbers are there -/
def m_cn (L : Nat → Bool) : Nat → Nat
  | 0 => 0
  | k + 1 => m_cn L k + (if L k then 1 else 0)
section MFD
variable {L L' : Nat → Bool} {σ : Type} {st : σ → Nat → σ} {s0 : σ}
theorem m_cn_T {k : Nat} (h : L k = true) : m_cn L (k + 1) = m_cn L k + 1 := by show m_cn L k + _ = _; rw [h]; rfl
theorem m_cn_F {k : Nat} (h : L k = false) : m_cn L (k + 1) = m_cn L k := by show m_cn L k + _ = _; rw [h]; rfl
theorem m_cn_le {k n : Nat} (h : k ≤ n) : m_cn L k ≤ m_cn L n := by
  induction n with
  | zero => rw [show k = 0 by omega]; exact Nat.le_refl _
  | succ n ih =>
    by_cases e : k = n + 1
    · rw [e]; exact Nat.le_refl _
    · exact Nat.le_trans (ih (by omega)) (by show m_cn L n ≤ m_cn L n + _; omega)
theorem m_cn_lt {k n : Nat} (h : k < n) (hk : L k = true) : m_cn L k < m_cn L n := by
  have h1 := m_cn_le (L := L) (show k + 1 ≤ n by omega)
  rw [m_cn_T hk] at h1; omega
theorem m_cn_skip {k n : Nat} (h : k ≤ n) (hf : ∀ q, k ≤ q → q < n → L q = false) : m_cn L n = m_cn L k := by
  induction n with
  | zero => rw [show k = 0 by omega]
  | succ n ih =>
    by_cases e : k = n + 1
    · rw [e]
    · rw [m_cn_F (hf n (by omega) (by omega)), ih (by omega) fun q h1 h2 => hf q h1 (by omega)]
/-- the next one that is there -/
theorem m_nx {k n : Nat} (hk : k ≤ n) (h : m_cn L k < m_cn L n) : ∃ q, k ≤ q ∧ q < n ∧ L q = true ∧ ∀ p, k ≤ p → p < q → L p = false := by
  induction n with
  | zero => rw [show k = 0 by omega] at h; omega
  | succ n ih =>
    by_cases e : k = n + 1
    · rw [e] at h; omega
    by_cases h1 : m_cn L k < m_cn L n
    · obtain ⟨q, q1, q2, q3, q4⟩ := ih (by omega) h1
      exact ⟨q, q1, by omega, q3, q4⟩
    · have h2 := m_cn_le (L := L) (show k ≤ n by omega)
      cases hL : L n with
      | false => rw [m_cn_F hL] at h; omega
      | true =>
        refine ⟨n, by omega, by omega, hL, fun p p1 p2 => ?_⟩
        cases hp : L p with
        | false => rfl
        | true =>
          have h3 := m_cn_lt p2 hp
          have h4 := m_cn_le (L := L) p1
          omega
end MFD
/-- where the sets stand that are there -/
def m_sets (L : Nat → Bool) (n : Nat) (fr : Nat → Int32) : Prop := ∀ k, k < n → L k = true → fr (m_cn L k) = nI k
