/-! ROW, REACH, VIEWS: both sides answer alike -/
section WKE
variable {f : Nat → Int32} {L L' : Nat → Bool} {N : Nat} {ok : Prop} {a b i n sn sn' r r' : Int32}
theorem m_D.two {F F' : Nat → Int32} {fr : Nat} (h : m_D L N fr F) (h' : m_D L' N fr F') (e : ∀ s, s < N → L s = L' s) : ∀ s, s < N → F s = F' s :=
  fun _ hs => (h.congrL e).eq h' hs
theorem m_row2 (e : ∀ s, s < N → L s = L' s) (ha : ok → a.toInt.toNat < N) (hb : ok → b.toInt.toNat < N) (h : m_rowS L N ok a b i r) (h' : m_rowS L' N ok a b i r') : r = r' := by
  by_cases k : ok
  · by_cases l : L a.toInt.toNat = true ∧ L b.toInt.toNat = true
    · have l' : L' a.toInt.toNat = true ∧ L' b.toInt.toNat = true := by rw [← e _ (ha k), ← e _ (hb k)]; exact l
      obtain ⟨F, h1, h2, h3⟩ := h.1 k l.1 l.2
      obtain ⟨F', h1', h2', h3'⟩ := h'.1 k l'.1 l'.2
      have eF := h1.two h1' e
      have ea := eF _ (ha k)
      by_cases q : (F a.toInt.toNat).toInt = -1
      · rw [h2 q, h2' (by rw [← ea]; exact q)]
      · have q' : ¬ (F' a.toInt.toNat).toInt = -1 := by rw [← ea]; exact q
        by_cases z : i = -1
        · rw [(h3 q).1 z, (h3' q').1 z, ea]
        · rcases Int.lt_or_le (F a.toInt.toNat).toInt i.toInt with w | w
          · rw [((h3 q).2 z).1 w, ((h3' q').2 z).1 (by rw [← ea]; exact w)]
          · have p := ((h3 q).2 z).2 w
            have p' := ((h3' q').2 z).2 (by rw [← ea]; exact w)
            have := (p.2.congr (ha k) e eF).uniq p'.2
            rw [p.1, p'.1, this]
    · have l' : ¬ (L' a.toInt.toNat = true ∧ L' b.toInt.toNat = true) := by rw [← e _ (ha k), ← e _ (hb k)]; exact l
      rw [h.2.1 k l, h'.2.1 k l']
  · rw [h.2.2 k, h'.2.2 k]
theorem m_isS_lt (hg : m_rg f) (h : m_isS f a) : a.toInt.toNat < 2 ^ (f 0).toInt.toNat := by
  have := z_all_p hg.n0
  unfold m_isS at h
  omega
theorem m_LRE (hg : m_rg f) : ∀ s, s < 2 ^ (f 0).toInt.toNat → m_LC (m_VC f (f 4) (f 5) 0) s = m_LR (m_VR f (f 4) (f 5)) (f 0).toInt.toNat s := fun _ hs => m_LC_lw hg hs
theorem m_rowE (hg : m_rg f) (h : m_rowS (m_LC (m_VC f (f 4) (f 5) 0)) (2 ^ (f 0).toInt.toNat) (m_isS f a ∧ m_isS f b ∧ -1 ≤ i.toInt) a b i r) (h' : m_rowS (m_LR (m_VR f (f 4) (f 5)) (f 0).toInt.toNat) (2 ^ (f 0).toInt.toNat) (m_isS f a ∧ m_isS f b ∧ -1 ≤ i.toInt) a b i r') : r = r' :=
  m_row2 (m_LRE hg) (fun q => m_isS_lt hg q.1) (fun q => m_isS_lt hg q.2.1) h h'
end WKE
