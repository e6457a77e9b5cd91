/-! TOLD: both sides answer alike -/
theorem m_tolE {f : Nat → Int32} {a t r r' : Int32} (hg : m_rg f) (h : m_tdS (m_LC (m_VC f (f 4) (f 5) 0)) (2 ^ (f 0).toInt.toNat) (m_isS f a ∧ m_isH f t) f (m_tw (m_VC f (f 4) (f 5) 0) t) a r) (h' : m_tdS (m_LR (m_VR f (f 4) (f 5)) (f 0).toInt.toNat) (2 ^ (f 0).toInt.toNat) (m_isS f a ∧ m_isH f t) f (m_tw (m_VR f (f 4) (f 5)) t) a r') : r = r' := by
  have es : m_tw (m_VC f (f 4) (f 5) 0) t = m_tw (m_VR f (f 4) (f 5)) t := by
    unfold m_tw
    rw [m_V_eq hg hg.y4]
  rw [es] at h
  have e := m_LRE hg
  by_cases k : m_isS f a ∧ m_isH f t
  · have ha := m_isS_lt hg k.1
    cases l : m_LC (m_VC f (f 4) (f 5) 0) a.toInt.toNat with
    | true =>
      refine ((h.1 k l).congr (m_tE_congr (fun w => ?_) fun _ _ _ => rfl)).eq (h'.1 k ((e _ ha).symm.trans l))
      unfold m_tN
      by_cases q : w < 2 ^ (f 0).toInt.toNat
      · rw [e w q]
      · rw [decide_eq_false q, Bool.false_and, Bool.false_and]
    | false => rw [h.2.1 k l, h'.2.1 k ((e _ ha).symm.trans l)]
  · rw [h.2.2 k, h'.2.2 k]

