/-! YEARS, HOURS: both sides answer alike -/
section YRE
variable {f : Nat → Int32} {w r r' : Int32}
theorem m_bitsOf.eq {ok : Prop} {c c' : Nat → Bool} {K : Nat} (h1 : m_bitsOf ok c K r) (h2 : m_bitsOf ok c' K r') (hc : ok → ∀ k, k < K → c k = c' k) : r = r' := by
  by_cases h : ok
  · rw [h1.1 h, h2.1 h]; exact m_gg_congr K (hc h)
  · exact (h1.2 h).trans (h2.2 h).symm
end YRE
