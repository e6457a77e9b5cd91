/-! ROW, REACH, VIEWS: both sides answer alike -/
section WKE
variable {f : Nat → Int32} {L L' : Nat → Bool} {N : Nat} {ok : Prop} {a b i n sn sn' r r' : Int32}
theorem m_D.two {F F' : Nat → Int32} {fr : Nat} (h : m_D L N fr F) (h' : m_D L' N fr F') (e : ∀ s, s < N → L s = L' s) : ∀ s, s < N → F s = F' s :=
  fun _ hs => (h.congrL e).eq h' hs
theorem m_isS_lt (hg : m_rg f) (h : m_isS f a) : a.toInt.toNat < 2 ^ (f 0).toInt.toNat := by
  have := z_all_p hg.n0
  unfold m_isS at h
  omega
theorem m_LRE (hg : m_rg f) : ∀ s, s < 2 ^ (f 0).toInt.toNat → m_LC (m_VC f (f 4) (f 5) 0) s = m_LR (m_VR f (f 4) (f 5)) (f 0).toInt.toNat s := fun _ hs => m_LC_lw hg hs
end WKE
