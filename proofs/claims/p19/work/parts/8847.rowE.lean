/-! LAWFUL, MOST: both sides answer alike -/
section RWE
variable {f V V' : Nat → Int32} {h w n t r r' : Int32}
theorem m_lc_lw (hn : 0 ≤ (f 0).toInt ∧ (f 0).toInt ≤ 10) (hs : m_isS f w) (hV : ∀ i, i < (f 0).toInt.toNat → V i = V' i) : (!(m_any (m_wr V w) 10)) = m_lw V' w (f 0).toInt.toNat := by
  have e : ∀ i, i < (f 0).toInt.toNat → m_wr V w i = m_wrR V' w i := fun i hi => m_wr_eq hn hs (hV i hi)
  have e2 : ∀ i, (!(m_has w (nI i)) || decide (z_bits (V' i &&& w) = 1)) = !(m_wrR V' w i) := fun i => by
    unfold m_wrR
    cases m_has w (nI i) <;> cases decide (z_bits (V' i &&& w) = 1) <;> rfl
  unfold m_lw
  rw [m_all_congr fun i _ => e2 i, Bool.eq_iff_iff, m_all_iff, Bool.not_eq_true']
  constructor
  · intro h1 i hi
    cases hX : m_wrR V' w i with
    | false => rfl
    | true =>
      rw [m_any_T (e i hi ▸ hX : m_wr V w i = true) 10 (by omega)] at h1; cases h1
  · intro h1
    refine m_any_F 10 fun i hi => ?_
    rcases Nat.lt_or_ge i (f 0).toInt.toNat with q | q
    · rw [e i q]
      have := h1 i q
      rw [Bool.not_eq_true'] at this; exact this
    · exact m_wr_hi hn hs q hi
end RWE
