/-! ROW, REACH, VIEWS: both sides answer alike -/
section WKE
variable {f : Nat → Int32} {L L' : Nat → Bool} {N : Nat} {ok : Prop} {a b i n sn sn' r r' : Int32}
theorem m_D.two {F F' : Nat → Int32} {fr : Nat} (h : m_D L N fr F) (h' : m_D L' N fr F') (e : ∀ s, s < N → L s = L' s) : ∀ s, s < N → F s = F' s :=
  fun _ hs => (h.congrL e).eq h' hs
theorem m_row2 (e : ∀ s, s < N → L s = L' s) (ha : ok → a.toInt.toNat < N) (hb : ok → b.toInt.toNat < N) (h : m_rowS L N ok a b i r) (h' : m_rowS L' N ok a b i r') : r = r' := by
  by_cases k : ok
  · by_cases l : L a.toInt.toNat = true ∧ L b.toInt.toNat = true
    · have l' : L' a.toInt.toNat = true ∧ L' b.toInt.toNat = true := by rw [← e _ (ha k), ← e _ (hb k)]; exact l
      obtain ⟨F, h1, h2, h3⟩ := h.1 k l.1 l.2
      obtain ⟨F', h1', h2', h3'⟩ := h'.1 k l'.1 l'.2
      have eF := h1.two h1' e
      have ea := eF _ (ha k)
      by_cases q : (F a.toInt.toNat).toInt = -1
      · rw [h2 q, h2' (by rw [← ea]; exact q)]
      · have q' : ¬ (F' a.toInt.toNat).toInt = -1 := by rw [← ea]; exact q
        by_cases z : i = -1
        · rw [(h3 q).1 z, (h3' q').1 z, ea]
        · rcases Int.lt_or_le (F a.toInt.toNat).toInt i.toInt with w | w
          · rw [((h3 q).2 z).1 w, ((h3' q').2 z).1 (by rw [← ea]; exact w)]
          · have p := ((h3 q).2 z).2 w
            have p' := ((h3' q').2 z).2 (by rw [← ea]; exact w)
            have := (p.2.congr (ha k) e eF).uniq p'.2
            rw [p.1, p'.1, this]
    · have l' : ¬ (L' a.toInt.toNat = true ∧ L' b.toInt.toNat = true) := by rw [← e _ (ha k), ← e _ (hb k)]; exact l
      rw [h.2.1 k l, h'.2.1 k l']
  · rw [h.2.2 k, h'.2.2 k]
theorem m_rea2 (e : ∀ s, s < N → L s = L' s) (ha : ok → a.toInt.toNat < N) (h : m_reaS L N ok a n r) (h' : m_reaS L' N ok a n r') : r = r' := by
  by_cases k : ok
  · cases l : L a.toInt.toNat with
    | true =>
      obtain ⟨F, h1, h2⟩ := h.1 k l
      obtain ⟨F', h1', h2'⟩ := h'.1 k ((e _ (ha k)).symm.trans l)
      have eF := h1.two h1' e
      refine Int32.toInt_inj.mp (h2.trans (Eq.trans (congrArg (fun z : Nat => (z : Int)) (m_cn_congr N fun s hs => ?_)) h2'.symm))
      unfold m_wi
      rw [e s hs, eF s hs]
    | false => rw [h.2.1 k l, h'.2.1 k ((e _ (ha k)).symm.trans l)]
  · rw [h.2.2 k, h'.2.2 k]
theorem m_wor2 (e : ∀ s, s < N → L s = L' s) (ha : ok → a.toInt.toNat < N) (es : ok → sn = sn') (h : m_worS L N ok a n sn r) (h' : m_worS L' N ok a n sn' r') : r = r' := by
  by_cases k : ok
  · cases l : L a.toInt.toNat with
    | true =>
      obtain ⟨F, h1, h2⟩ := h.1 k l
      obtain ⟨F', h1', h2'⟩ := h'.1 k ((e _ (ha k)).symm.trans l)
      have eF := h1.two h1' e
      refine Int32.toInt_inj.mp (h2.trans (Eq.trans ?_ h2'.symm))
      rw [← es k, m_fd_congr (L := L) (L' := L') (st := m_snSt F n sn) (st' := m_snSt F' n sn) (s0 := fun _ => (0 : Int32)) N e fun s q hq _ => by unfold m_snSt; rw [eF q hq]]
    | false => rw [h.2.1 k l, h'.2.1 k ((e _ (ha k)).symm.trans l)]
  · rw [h.2.2 k, h'.2.2 k]
theorem m_isS_lt (hg : m_rg f) (h : m_isS f a) : a.toInt.toNat < 2 ^ (f 0).toInt.toNat := by
  have := z_all_p hg.n0
  unfold m_isS at h
  omega
theorem m_LRE (hg : m_rg f) : ∀ s, s < 2 ^ (f 0).toInt.toNat → m_LC (m_VC f (f 4) (f 5) 0) s = m_LR (m_VR f (f 4) (f 5)) (f 0).toInt.toNat s := fun _ hs => m_LC_lw hg hs
theorem m_rowE (hg : m_rg f) (h : m_rowS (m_LC (m_VC f (f 4) (f 5) 0)) (2 ^ (f 0).toInt.toNat) (m_isS f a ∧ m_isS f b ∧ -1 ≤ i.toInt) a b i r) (h' : m_rowS (m_LR (m_VR f (f 4) (f 5)) (f 0).toInt.toNat) (2 ^ (f 0).toInt.toNat) (m_isS f a ∧ m_isS f b ∧ -1 ≤ i.toInt) a b i r') : r = r' :=
  m_row2 (m_LRE hg) (fun q => m_isS_lt hg q.1) (fun q => m_isS_lt hg q.2.1) h h'
theorem m_reaE (hg : m_rg f) (h : m_reaS (m_LC (m_VC f (f 4) (f 5) 0)) (2 ^ (f 0).toInt.toNat) (m_isS f a ∧ 0 ≤ n.toInt ∧ n.toInt ≤ 99) a n r) (h' : m_reaS (m_LR (m_VR f (f 4) (f 5)) (f 0).toInt.toNat) (2 ^ (f 0).toInt.toNat) (m_isS f a ∧ 0 ≤ n.toInt ∧ n.toInt ≤ 99) a n r') : r = r' :=
  m_rea2 (m_LRE hg) (fun q => m_isS_lt hg q.1) h h'
theorem m_worE {t : Int32} (hg : m_rg f) (h : m_worS (m_LC (m_VC f (f 4) (f 5) 0)) (2 ^ (f 0).toInt.toNat) (m_isS f a ∧ m_isH f t ∧ 0 ≤ n.toInt ∧ n.toInt ≤ 6) a n (m_tw (m_VC f (f 4) (f 5) 0) t) r) (h' : m_worS (m_LR (m_VR f (f 4) (f 5)) (f 0).toInt.toNat) (2 ^ (f 0).toInt.toNat) (m_isS f a ∧ m_isH f t ∧ 0 ≤ n.toInt ∧ n.toInt ≤ 6) a n (m_tw (m_VR f (f 4) (f 5)) t) r') : r = r' :=
  m_wor2 (m_LRE hg) (fun q => m_isS_lt hg q.1) (fun _ => by unfold m_tw; rw [m_V_eq hg hg.y4]) h h'
end WKE
