/-! YEARS, HOURS: both sides answer alike -/
section YRE
variable {f : Nat → Int32} {w r r' : Int32}
theorem m_bitsOf.eq {ok : Prop} {c c' : Nat → Bool} {K : Nat} (h1 : m_bitsOf ok c K r) (h2 : m_bitsOf ok c' K r') (hc : ok → ∀ k, k < K → c k = c' k) : r = r' := by
  by_cases h : ok
  · rw [h1.1 h, h2.1 h]; exact m_gg_congr K (hc h)
  · exact (h1.2 h).trans (h2.2 h).symm
theorem m_hr_eq9 (hg : m_rg f) (hs : m_isS f w) : ∀ k, k < 12 → m_hrC f w k = m_hrR f w k := fun k _ => by
  unfold m_hrC m_hrR m_lc
  exact m_lc_lw hg.n0 hs fun i _ => m_V_eq hg hg.y4 i
theorem m_hrE (hg : m_rg f) (h1 : m_bitsOf (m_isS f w) (m_hrC f w) 12 r) (h2 : m_bitsOf (m_isS f w) (m_hrR f w) 12 r') : r = r' := h1.eq h2 (m_hr_eq9 hg)
end YRE
