/-! THE NIGHT: both sides answer alike -/
section NTE
variable {f : Nat → Int32} {w t r r' : Int32}
theorem m_least (P : Nat → Prop) (n : Nat) : (∀ k, k < n → ¬ P k) ∨ ∃ k, k < n ∧ P k ∧ ∀ j, j < k → ¬ P j := by
  induction n with
  | zero => exact Or.inl fun k h => absurd h (by omega)
  | succ n ih =>
    rcases ih with h | ⟨k, h1, h2, h3⟩
    · by_cases e : P n
      · exact Or.inr ⟨n, by omega, e, h⟩
      · exact Or.inl fun k hk => by
          by_cases q : k = n
          · rw [q]; exact e
          · exact h k (by omega)
    · exact Or.inr ⟨k, by omega, h2, h3⟩
end NTE
