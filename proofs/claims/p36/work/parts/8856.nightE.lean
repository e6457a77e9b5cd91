/-! THE NIGHT: both sides answer alike -/
section NTE
variable {f : Nat → Int32} {w t r r' : Int32}
theorem m_isS_of (hn : 0 ≤ (f 0).toInt ∧ (f 0).toInt ≤ 10) {x : Int32} (h : ∀ j, (f 0).toInt.toNat ≤ j → m_bi x j = false) : m_isS f x := by
  have h1 : x.toBitVec.toNat < 2 ^ (f 0).toInt.toNat := Nat.lt_pow_two_of_testBit _ fun j hj => h j hj
  have h3 : (2 : Nat) ^ (f 0).toInt.toNat ≤ 2 ^ 10 := Nat.pow_le_pow_right (by decide) (by omega)
  have h2 := x_tn2 (x := x) (by omega)
  unfold m_isS
  rw [z_all_p hn]
  omega
theorem m_chg_in {k : Nat} (h : m_isH f (f (136 + 2 * k))) : m_chg f k = m_sh (nI (f (136 + 2 * k)).toInt.toNat) := by
  unfold m_chg
  rw [if_pos (show 0 ≤ (f (136 + 2 * k)).toInt ∧ (f (136 + 2 * k)).toInt < (f 0).toInt from h), m_nj h.1]
  rfl
theorem m_chg_out {k : Nat} (h : ¬ m_isH f (f (136 + 2 * k))) : m_chg f k = 0 := by
  unfold m_chg
  exact if_neg h
theorem m_lit_S (hg : m_rg f) (hs : m_isS f w) : ∀ k, m_isS f (m_lit f w k)
  | 0 => hs
  | k + 1 => by
    have n0 := hg.n0
    refine m_isS_of n0 fun j hj => ?_
    show m_bi (m_lit f w k ^^^ m_chg f k) j = false
    rw [m_bi_xor, m_isS_hi n0 (m_lit_S hg hs k) hj]
    by_cases e : m_isH f (f (136 + 2 * k))
    · rw [m_chg_in e]
      unfold m_isH at e
      rw [m_bi_sh (by omega), decide_eq_false (by omega)]
      rfl
    · rw [m_chg_out e, m_bi_0]
      rfl
theorem m_sh_and {x : Int32} {b : Nat} (hb : b < 31) : (x &&& m_sh (nI b) = 0) ↔ m_bi x b = false := by
  constructor
  · intro h
    have := congrArg (fun v => m_bi v b) h
    simp only [m_bi_and, m_bi_0, m_bi_sh hb, decide_true, Bool.and_true] at this
    exact this
  · intro h
    refine m_bi_ext fun j _ => ?_
    rw [m_bi_and, m_bi_sh hb, m_bi_0]
    by_cases e : j = b
    · rw [e, h, Bool.false_and]
    · rw [decide_eq_false e, Bool.and_false]
theorem m_nbad_eq (hg : m_rg f) {k : Nat} (hk : k < 12) : m_nbad f w k ↔ m_nbadR f w k := by
  have n0 := hg.n0
  have hw := (hg (137 + 2 * k) (by omega)).to (m_T3 k hk).2.2
  unfold m_nbad m_nbadR
  by_cases e : m_isH f (f (136 + 2 * k))
  · have e9 := e
    unfold m_isH at e9
    have hne : ¬ m_chg f k = 0 := fun h => by
      have := congrArg (fun v => m_bi v (f (136 + 2 * k)).toInt.toNat) (m_chg_in e ▸ h)
      simp only [m_bi_0, m_bi_sh (show (f (136 + 2 * k)).toInt.toNat < 31 by omega), decide_true] at this
      cases this
    rw [m_chg_in e, m_sh_and (by omega), show m_lit f w k >>> (f (136 + 2 * k) &&& 31) &&& 1 = m_b (m_bi (m_lit f w k) (f (136 + 2 * k)).toInt.toNat) by rw [← m_sr_bi (by omega), m_nj e9.1]]
    rw [m_chg_in e] at hne
    have h1 : f (137 + 2 * k) = 1 ↔ (f (137 + 2 * k)).toInt = 1 := ⟨fun h => by rw [h]; decide, fun h => Int32.toInt_inj.mp (h.trans m_c1.symm)⟩
    cases m_bi (m_lit f w k) (f (136 + 2 * k)).toInt.toNat with
    | false =>
      constructor
      · intro h
        refine ⟨e, Int32.toInt_inj.mp ?_⟩
        have h2 : ¬ f (137 + 2 * k) = 1 := fun q => h.2.mpr q rfl
        rw [h1] at h2
        show (0 : Int32).toInt = _
        rw [m_c0]; omega
      · intro h
        refine ⟨hne, fun q => absurd rfl q, fun q => ?_⟩
        have h2 : (0 : Int32) = f (137 + 2 * k) := h.2
        rw [q] at h2
        exact absurd h2 (by decide)
    | true =>
      constructor
      · intro h
        exact ⟨e, (h.2.mp (fun q => by cases q)).symm⟩
      · intro h
        exact ⟨hne, fun _ => h.2.symm, fun _ q => by cases q⟩
  · constructor
    · intro h
      exact absurd (m_chg_out e) h.1
    · intro h
      exact absurd h.1 e
theorem m_nfst_congr {c c' : Nat → Bool} : ∀ n, (∀ k, k < n → c k = c' k) → m_nfst c n = m_nfst c' n
  | 0, _ => rfl
  | n + 1, h => by
    show (if _ then _ else _) = (if _ then _ else _)
    rw [m_nfst_congr n fun k hk => h k (by omega), h n (by omega)]
theorem m_ngd_congr {c c' : Nat → Bool} : ∀ n, (∀ k, k < n → c k = c' k) → m_ngd c n = m_ngd c' n
  | 0, _ => rfl
  | n + 1, h => by
    show (if _ then _ else _) = (if _ then _ else _)
    rw [m_ngd_congr n fun k hk => h k (by omega), h n (by omega)]
theorem m_nok_eq (hg : m_rg f) (hs : m_isS f w) : ∀ k, k < 12 → m_nok (m_ntC f) f w k = m_nok (m_ntRc f) f w k := fun k _ => by
  unfold m_nok m_ntC m_ntRc m_lc
  exact m_lc_lw hg.n0 (m_lit_S hg hs (k + 1)) fun i _ => m_V_eq hg hg.y4 i
theorem m_least (P : Nat → Prop) (n : Nat) : (∀ k, k < n → ¬ P k) ∨ ∃ k, k < n ∧ P k ∧ ∀ j, j < k → ¬ P j := by
  induction n with
  | zero => exact Or.inl fun k h => absurd h (by omega)
  | succ n ih =>
    rcases ih with h | ⟨k, h1, h2, h3⟩
    · by_cases e : P n
      · exact Or.inr ⟨n, by omega, e, h⟩
      · exact Or.inl fun k hk => by
          by_cases q : k = n
          · rw [q]; exact e
          · exact h k (by omega)
    · exact Or.inr ⟨k, by omega, h2, h3⟩
theorem m_ntE (hg : m_rg f) (h1 : m_nt (m_ntC f) f w t r) (h2 : m_ntR f w t r') : r = r' := by
  by_cases h0 : m_isS f w ∧ 0 ≤ t.toInt ∧ t.toInt ≤ 2
  · have a1 := h1.1 h0
    have a2 := h2.1 h0
    rcases m_least (m_nbad f w) 12 with q | ⟨k, k1, k2, k3⟩
    · have b1 := a1.2 q
      have b2 := a2.2 fun k hk h => q k hk ((m_nbad_eq hg hk).mpr h)
      have hc := m_nok_eq hg h0.1
      by_cases e0 : t = 0
      · rw [b1.1 e0, b2.1 e0]; exact m_nfst_congr 12 hc
      · by_cases e1 : t = 1
        · rw [b1.2.1 e1, b2.2.1 e1]; exact m_ngd_congr 12 hc
        · rw [b1.2.2 e0 e1, b2.2.2 e0 e1]
    · rw [a1.1 k k1 k3 k2, a2.1 k k1 (fun j hj h => k3 j hj ((m_nbad_eq hg (by omega)).mpr h)) ((m_nbad_eq hg k1).mp k2)]
  · exact (h1.2 h0).trans (h2.2 h0).symm
end NTE
