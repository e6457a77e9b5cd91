/-! LAWFUL SETS one behind the other: L says which numbers are there -/
def m_cn (L : Nat → Bool) : Nat → Nat
  | 0 => 0
  | k + 1 => m_cn L k + (if L k then 1 else 0)
def m_fd {σ : Type} (L : Nat → Bool) (st : σ → Nat → σ) (s0 : σ) : Nat → σ
  | 0 => s0
  | k + 1 => if L k then st (m_fd L st s0 k) k else m_fd L st s0 k
section MFD
variable {L L' : Nat → Bool} {σ : Type} {st : σ → Nat → σ} {s0 : σ}
theorem m_cn_T {k : Nat} (h : L k = true) : m_cn L (k + 1) = m_cn L k + 1 := by show m_cn L k + _ = _; rw [h]; rfl
theorem m_cn_F {k : Nat} (h : L k = false) : m_cn L (k + 1) = m_cn L k := by show m_cn L k + _ = _; rw [h]; rfl
theorem m_fd_T {k : Nat} (h : L k = true) : m_fd L st s0 (k + 1) = st (m_fd L st s0 k) k := by show (if L k then _ else _) = _; rw [h]; rfl
theorem m_fd_F {k : Nat} (h : L k = false) : m_fd L st s0 (k + 1) = m_fd L st s0 k := by show (if L k then _ else _) = _; rw [h]; rfl
theorem m_cn_le {k n : Nat} (h : k ≤ n) : m_cn L k ≤ m_cn L n := by
  induction n with
  | zero => rw [show k = 0 by omega]; exact Nat.le_refl _
  | succ n ih =>
    by_cases e : k = n + 1
    · rw [e]; exact Nat.le_refl _
    · exact Nat.le_trans (ih (by omega)) (by show m_cn L n ≤ m_cn L n + _; omega)
theorem m_cn_lt {k n : Nat} (h : k < n) (hk : L k = true) : m_cn L k < m_cn L n := by
  have h1 := m_cn_le (L := L) (show k + 1 ≤ n by omega)
  rw [m_cn_T hk] at h1; omega
theorem m_cn_b {k : Nat} : m_cn L k ≤ k := by
  induction k with
  | zero => exact Nat.le_refl _
  | succ k ih => show m_cn L k + _ ≤ _; split <;> omega
theorem m_cn_skip {k n : Nat} (h : k ≤ n) (hf : ∀ q, k ≤ q → q < n → L q = false) : m_cn L n = m_cn L k := by
  induction n with
  | zero => rw [show k = 0 by omega]
  | succ n ih =>
    by_cases e : k = n + 1
    · rw [e]
    · rw [m_cn_F (hf n (by omega) (by omega)), ih (by omega) fun q h1 h2 => hf q h1 (by omega)]
theorem m_fd_skip {k n : Nat} (h : k ≤ n) (hf : ∀ q, k ≤ q → q < n → L q = false) : m_fd L st s0 n = m_fd L st s0 k := by
  induction n with
  | zero => rw [show k = 0 by omega]
  | succ n ih =>
    by_cases e : k = n + 1
    · rw [e]
    · rw [m_fd_F (hf n (by omega) (by omega)), ih (by omega) fun q h1 h2 => hf q h1 (by omega)]
/-- the next one that is there -/
theorem m_nx {k n : Nat} (hk : k ≤ n) (h : m_cn L k < m_cn L n) : ∃ q, k ≤ q ∧ q < n ∧ L q = true ∧ ∀ p, k ≤ p → p < q → L p = false := by
  induction n with
  | zero => rw [show k = 0 by omega] at h; omega
  | succ n ih =>
    by_cases e : k = n + 1
    · rw [e] at h; omega
    by_cases h1 : m_cn L k < m_cn L n
    · obtain ⟨q, q1, q2, q3, q4⟩ := ih (by omega) h1
      exact ⟨q, q1, by omega, q3, q4⟩
    · have h2 := m_cn_le (L := L) (show k ≤ n by omega)
      cases hL : L n with
      | false => rw [m_cn_F hL] at h; omega
      | true =>
        refine ⟨n, by omega, by omega, hL, fun p p1 p2 => ?_⟩
        cases hp : L p with
        | false => rfl
        | true =>
          have h3 := m_cn_lt p2 hp
          have h4 := m_cn_le (L := L) p1
          omega
/-- one step of a loop over those that are there: i of them are behind us -/
theorem m_fd_step {i n : Nat} {s : σ} (h : ∃ k, k ≤ n ∧ m_cn L k = i ∧ s = m_fd L st s0 k) (hi : i < m_cn L n) : ∃ q, q < n ∧ L q = true ∧ m_cn L q = i ∧ s = m_fd L st s0 q ∧ (∃ k, k ≤ n ∧ m_cn L k = i + 1 ∧ st s q = m_fd L st s0 k) := by
  obtain ⟨k, k1, k2, k3⟩ := h
  obtain ⟨q, q1, q2, q3, q4⟩ := m_nx (L := L) k1 (by omega)
  have e1 : m_cn L q = i := by rw [m_cn_skip q1 q4, k2]
  have e2 : s = m_fd L st s0 q := by rw [m_fd_skip q1 q4, k3]
  exact ⟨q, q2, q3, e1, e2, q + 1, by omega, by rw [m_cn_T q3, e1], by rw [m_fd_T q3, ← e2]⟩
theorem m_fd_end {i n : Nat} {s : σ} (h : ∃ k, k ≤ n ∧ m_cn L k = i ∧ s = m_fd L st s0 k) (hi : i = m_cn L n) : s = m_fd L st s0 n := by
  obtain ⟨k, k1, k2, k3⟩ := h
  rw [k3]
  refine (m_fd_skip k1 fun q q1 q2 => ?_).symm
  cases hL : L q with
  | false => rfl
  | true =>
    have h3 := m_cn_lt q2 hL
    have h4 := m_cn_le (L := L) q1
    omega
theorem m_fd_0 {n : Nat} : ∃ k, k ≤ n ∧ m_cn L k = 0 ∧ s0 = m_fd L st s0 k := ⟨0, Nat.zero_le _, rfl, rfl⟩
theorem m_cn_congr : ∀ n, (∀ k, k < n → L k = L' k) → m_cn L n = m_cn L' n := by
  intro n
  induction n with
  | zero => intro _; rfl
  | succ n ih => intro h; show m_cn L n + _ = m_cn L' n + _; rw [ih fun k hk => h k (by omega), h n (by omega)]
end MFD
/-- where the sets stand that are there -/
def m_sets (L : Nat → Bool) (n : Nat) (fr : Nat → Int32) : Prop := ∀ k, k < n → L k = true → fr (m_cn L k) = nI k
theorem m_sets_up {L : Nat → Bool} {n : Nat} {fr fr' : Nat → Int32} (h : m_sets L n fr) (h1 : L n = true → fr' (m_cn L n) = nI n) (h2 : ∀ j, j < m_cn L n → fr' j = fr j) : m_sets L (n + 1) fr' := fun k hk hL => by
  by_cases e : k = n
  · subst e; exact h1 hL
  · rw [h2 _ (m_cn_lt (show k < n by omega) hL)]; exact h k (by omega) hL
def m_LC (V : Nat → Int32) (k : Nat) : Bool := !(m_any (m_wr V (nI k)) 10)
theorem m_fw_LC {V : Nat → Int32} {w r : Int32} (h : m_fw V w r) : (r = -1 ↔ m_any (m_wr V w) 10 = false) := by
  rcases h with ⟨k, h1, h2, h3, h4⟩ | ⟨h1, h2⟩
  · constructor
    · intro e
      have := congrArg Int32.toInt e
      rw [m_cm1] at this
      omega
    · intro e
      rw [m_any_T h3 10 h1] at e; cases e
  · exact ⟨fun _ => m_any_F 10 h2, fun _ => h1⟩

