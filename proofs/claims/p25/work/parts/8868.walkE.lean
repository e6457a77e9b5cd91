/-! ROW, REACH, VIEWS: both sides answer alike -/
section WKE
variable {f : Nat → Int32} {L L' : Nat → Bool} {N : Nat} {ok : Prop} {a b i n sn sn' r r' : Int32}
theorem m_D.two {F F' : Nat → Int32} {fr : Nat} (h : m_D L N fr F) (h' : m_D L' N fr F') (e : ∀ s, s < N → L s = L' s) : ∀ s, s < N → F s = F' s :=
  fun _ hs => (h.congrL e).eq h' hs
theorem m_wor2 (e : ∀ s, s < N → L s = L' s) (ha : ok → a.toInt.toNat < N) (es : ok → sn = sn') (h : m_worS L N ok a n sn r) (h' : m_worS L' N ok a n sn' r') : r = r' := by
  by_cases k : ok
  · cases l : L a.toInt.toNat with
    | true =>
      obtain ⟨F, h1, h2⟩ := h.1 k l
      obtain ⟨F', h1', h2'⟩ := h'.1 k ((e _ (ha k)).symm.trans l)
      have eF := h1.two h1' e
      refine Int32.toInt_inj.mp (h2.trans (Eq.trans ?_ h2'.symm))
      rw [← es k, m_fd_congr (L := L) (L' := L') (st := m_snSt F n sn) (st' := m_snSt F' n sn) (s0 := fun _ => (0 : Int32)) N e fun s q hq _ => by unfold m_snSt; rw [eF q hq]]
    | false => rw [h.2.1 k l, h'.2.1 k ((e _ (ha k)).symm.trans l)]
  · rw [h.2.2 k, h'.2.2 k]
theorem m_isS_lt (hg : m_rg f) (h : m_isS f a) : a.toInt.toNat < 2 ^ (f 0).toInt.toNat := by
  have := z_all_p hg.n0
  unfold m_isS at h
  omega
theorem m_LRE (hg : m_rg f) : ∀ s, s < 2 ^ (f 0).toInt.toNat → m_LC (m_VC f (f 4) (f 5) 0) s = m_LR (m_VR f (f 4) (f 5)) (f 0).toInt.toNat s := fun _ hs => m_LC_lw hg hs
theorem m_worE {t : Int32} (hg : m_rg f) (h : m_worS (m_LC (m_VC f (f 4) (f 5) 0)) (2 ^ (f 0).toInt.toNat) (m_isS f a ∧ m_isH f t ∧ 0 ≤ n.toInt ∧ n.toInt ≤ 6) a n (m_tw (m_VC f (f 4) (f 5) 0) t) r) (h' : m_worS (m_LR (m_VR f (f 4) (f 5)) (f 0).toInt.toNat) (2 ^ (f 0).toInt.toNat) (m_isS f a ∧ m_isH f t ∧ 0 ≤ n.toInt ∧ n.toInt ≤ 6) a n (m_tw (m_VR f (f 4) (f 5)) t) r') : r = r' :=
  m_wor2 (m_LRE hg) (fun q => m_isS_lt hg q.1) (fun _ => by unfold m_tw; rw [m_V_eq hg hg.y4]) h h'
end WKE
