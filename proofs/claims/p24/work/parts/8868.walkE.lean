/-! ROW, REACH, VIEWS: both sides answer alike -/
section WKE
variable {f : Nat → Int32} {L L' : Nat → Bool} {N : Nat} {ok : Prop} {a b i n sn sn' r r' : Int32}
theorem m_D.two {F F' : Nat → Int32} {fr : Nat} (h : m_D L N fr F) (h' : m_D L' N fr F') (e : ∀ s, s < N → L s = L' s) : ∀ s, s < N → F s = F' s :=
  fun _ hs => (h.congrL e).eq h' hs
theorem m_rea2 (e : ∀ s, s < N → L s = L' s) (ha : ok → a.toInt.toNat < N) (h : m_reaS L N ok a n r) (h' : m_reaS L' N ok a n r') : r = r' := by
  by_cases k : ok
  · cases l : L a.toInt.toNat with
    | true =>
      obtain ⟨F, h1, h2⟩ := h.1 k l
      obtain ⟨F', h1', h2'⟩ := h'.1 k ((e _ (ha k)).symm.trans l)
      have eF := h1.two h1' e
      refine Int32.toInt_inj.mp (h2.trans (Eq.trans (congrArg (fun z : Nat => (z : Int)) (m_cn_congr N fun s hs => ?_)) h2'.symm))
      unfold m_wi
      rw [e s hs, eF s hs]
    | false => rw [h.2.1 k l, h'.2.1 k ((e _ (ha k)).symm.trans l)]
  · rw [h.2.2 k, h'.2.2 k]
theorem m_isS_lt (hg : m_rg f) (h : m_isS f a) : a.toInt.toNat < 2 ^ (f 0).toInt.toNat := by
  have := z_all_p hg.n0
  unfold m_isS at h
  omega
theorem m_LRE (hg : m_rg f) : ∀ s, s < 2 ^ (f 0).toInt.toNat → m_LC (m_VC f (f 4) (f 5) 0) s = m_LR (m_VR f (f 4) (f 5)) (f 0).toInt.toNat s := fun _ hs => m_LC_lw hg hs
theorem m_reaE (hg : m_rg f) (h : m_reaS (m_LC (m_VC f (f 4) (f 5) 0)) (2 ^ (f 0).toInt.toNat) (m_isS f a ∧ 0 ≤ n.toInt ∧ n.toInt ≤ 99) a n r) (h' : m_reaS (m_LR (m_VR f (f 4) (f 5)) (f 0).toInt.toNat) (2 ^ (f 0).toInt.toNat) (m_isS f a ∧ 0 ≤ n.toInt ∧ n.toInt ≤ 99) a n r') : r = r' :=
  m_rea2 (m_LRE hg) (fun q => m_isS_lt hg q.1) h h'
end WKE
