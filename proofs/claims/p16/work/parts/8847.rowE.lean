/-! LAWFUL, MOST: both sides answer alike -/
section RWE
variable {f V V' : Nat → Int32} {h w n t r r' : Int32}
theorem m_lc_lw (hn : 0 ≤ (f 0).toInt ∧ (f 0).toInt ≤ 10) (hs : m_isS f w) (hV : ∀ i, i < (f 0).toInt.toNat → V i = V' i) : (!(m_any (m_wr V w) 10)) = m_lw V' w (f 0).toInt.toNat := by
  have e : ∀ i, i < (f 0).toInt.toNat → m_wr V w i = m_wrR V' w i := fun i hi => m_wr_eq hn hs (hV i hi)
  have e2 : ∀ i, (!(m_has w (nI i)) || decide (z_bits (V' i &&& w) = 1)) = !(m_wrR V' w i) := fun i => by
    unfold m_wrR
    cases m_has w (nI i) <;> cases decide (z_bits (V' i &&& w) = 1) <;> rfl
  unfold m_lw
  rw [m_all_congr fun i _ => e2 i, Bool.eq_iff_iff, m_all_iff, Bool.not_eq_true']
  constructor
  · intro h1 i hi
    cases hX : m_wrR V' w i with
    | false => rfl
    | true =>
      rw [m_any_T (e i hi ▸ hX : m_wr V w i = true) 10 (by omega)] at h1; cases h1
  · intro h1
    refine m_any_F 10 fun i hi => ?_
    rcases Nat.lt_or_ge i (f 0).toInt.toNat with q | q
    · rw [e i q]
      have := h1 i q
      rw [Bool.not_eq_true'] at this; exact this
    · exact m_wr_hi hn hs q hi
theorem m_isS_nI (hn : 0 ≤ (f 0).toInt ∧ (f 0).toInt ≤ 10) {k : Nat} (hk : k < 2 ^ (f 0).toInt.toNat) : m_isS f (nI k) := by
  have hpw : 2 ^ (f 0).toInt.toNat ≤ 1024 := Nat.pow_le_pow_right (n := 2) (by decide) (show (f 0).toInt.toNat ≤ 10 by omega)
  unfold m_isS
  rw [z_all_p hn, nI_toInt (by omega)]
  omega
theorem m_LC_lw (hg : m_rg f) {k : Nat} (hk : k < 2 ^ (f 0).toInt.toNat) : m_LC (m_VC f (f 4) (f 5) 0) k = m_lw (m_VR f (f 4) (f 5)) (nI k) (f 0).toInt.toNat :=
  m_lc_lw hg.n0 (m_isS_nI hg.n0 hk) fun i _ => m_V_eq hg hg.y4 i
theorem m_bc_nI {k : Nat} (hk : k < 1024) : m_bc (nI k) = z_bits (nI k) := m_bc_bitsB k hk
theorem m_of_cn {L : Nat → Bool} : ∀ k, k ≤ 1024 → (m_fd L (m_ofSt n) 0 k).toInt = (m_cn (fun q => L q && decide (m_bc (nI q) = n)) k : Nat) := by
  intro k
  induction k with
  | zero => intro _; exact m_c0
  | succ k ih =>
    intro hk
    have ih := ih (by omega)
    have hb := m_cn_b (L := fun q => L q && decide (m_bc (nI q) = n)) (k := k)
    cases hL : L k with
    | false => rw [m_fd_F hL, m_cn_F (by show (L k && _) = false; rw [hL]; rfl)]; exact ih
    | true =>
      rw [m_fd_T hL]
      unfold m_ofSt
      by_cases e : m_bc (nI k) = n
      · rw [if_pos e, m_cn_T (by show (L k && _) = true; rw [hL, decide_eq_true e]; rfl)]
        have := y_add (x := m_fd L (m_ofSt n) 0 k) (y := (1 : Int32)) (by rw [m_c1]; omega) (by rw [m_c1]; omega)
        rw [m_c1] at this
        unfold m_ofSt at this ih
        rw [this, ih]; omega
      · rw [if_neg e, m_cn_F (by show (L k && _) = false; rw [hL, decide_eq_false e]; rfl)]
        have := y_add (x := m_fd L (m_ofSt n) 0 k) (y := (0 : Int32)) (by rw [m_c0]; omega) (by rw [m_c0]; omega)
        rw [m_c0] at this
        unfold m_ofSt at this ih
        rw [this, ih]; omega
theorem m_pw10 (hg : m_rg f) : 2 ^ (f 0).toInt.toNat ≤ 1024 := by
  have n0 := hg.n0
  exact Nat.pow_le_pow_right (n := 2) (by decide) (show (f 0).toInt.toNat ≤ 10 by omega)
theorem m_alC.eqr (hg : m_rg f) (h1 : m_alC f n r) (h2 : m_alR f n r') : r = r' := by
  have hpw := m_pw10 hg
  by_cases h0 : -1 ≤ n.toInt ∧ n.toInt ≤ 10
  · refine Int32.toInt_inj.mp ?_
    rw [h2.1 h0]
    by_cases e : n = -1
    · rw [(h1.1 h0).1 e]
      refine congrArg (fun z : Nat => (z : Int)) (m_cn_congr _ fun k hk => ?_)
      unfold m_laR
      rw [m_LC_lw hg hk, decide_eq_true e, Bool.true_or, Bool.true_and]
    · rw [(h1.1 h0).2 e, m_of_cn _ hpw]
      refine congrArg (fun z : Nat => (z : Int)) (m_cn_congr _ fun k hk => ?_)
      unfold m_laR
      rw [m_LC_lw hg hk, m_bc_nI (by omega), decide_eq_false e, Bool.false_or, Bool.and_comm]
  · exact (h1.2 h0).trans (h2.2 h0).symm
theorem m_mw_bi {k : Nat} (hh : h = -1 ∨ (0 ≤ h.toInt ∧ h.toInt < 10)) : m_mw h k = decide (nI k &&& m_amW h = m_amW h) := by
  unfold m_mw m_amW
  rcases hh with e | hh
  · rw [if_pos e, decide_eq_true e, Bool.true_or]
    refine (decide_eq_true ?_).symm
    exact m_bi_ext fun j _ => by rw [m_bi_and, m_bi_0, Bool.and_false]
  · have e : ¬ h = -1 := fun q => by have := congrArg Int32.toInt q; rw [m_cm1] at this; omega
    rw [if_neg e, decide_eq_false e, Bool.false_or, if_neg (show ¬ h.toInt < 0 by omega)]
    rw [show h &&& 31 = nI h.toInt.toNat &&& 31 by rw [m_nj hh.1], m_sr_bi (by omega)]
    have hb := fun j => m_bi_sh (b := h.toInt.toNat) (j := j) (by omega)
    unfold m_sh at hb
    cases hX : m_bi (nI k) h.toInt.toNat with
    | false =>
      rw [show decide (m_b false = (1 : Int32)) = false by decide]
      refine (decide_eq_false fun q => ?_).symm
      have := congrArg (fun z => m_bi z h.toInt.toNat) q
      try dsimp only at this
      rw [m_bi_and, hX, hb, decide_eq_true rfl] at this
      cases this
    | true =>
      rw [show decide (m_b true = (1 : Int32)) = true by decide]
      refine (decide_eq_true ?_).symm
      refine m_bi_ext fun j _ => ?_
      rw [m_bi_and, hb]
      by_cases e9 : j = h.toInt.toNat
      · rw [e9, hX, decide_eq_true rfl]; rfl
      · rw [decide_eq_false e9, Bool.and_false]
theorem m_most_eq (hg : m_rg f) (hh : h = -1 ∨ m_isH f h) : ∀ k, k ≤ 2 ^ (f 0).toInt.toNat → m_fd (m_LC (m_VC f (f 4) (f 5) 0)) (m_fuSt (m_amW h)) (-1) k = m_fd (m_mL f h) m_mSt (-1) k ∧ (m_fd (m_mL f h) m_mSt (-1) k = -1 ∨ (0 ≤ (m_fd (m_mL f h) m_mSt (-1) k).toInt ∧ (m_fd (m_mL f h) m_mSt (-1) k).toInt ≤ 1023)) := by
  have hpw := m_pw10 hg
  have n0 := hg.n0
  have hh2 : h = -1 ∨ (0 ≤ h.toInt ∧ h.toInt < 10) := by
    rcases hh with e | e
    · exact Or.inl e
    · unfold m_isH at e; exact Or.inr (by omega)
  intro k
  induction k with
  | zero => intro _; exact ⟨rfl, Or.inl rfl⟩
  | succ k ih =>
    intro hk
    obtain ⟨e1, e2⟩ := ih (by omega)
    have hLk := m_LC_lw hg (k := k) (by omega)
    have hw := m_mw_bi (k := k) hh2
    have hkr : 0 ≤ (nI k).toInt ∧ (nI k).toInt ≤ 1023 := by rw [nI_toInt (by omega)]; omega
    cases hL : m_lw (m_VR f (f 4) (f 5)) (nI k) (f 0).toInt.toNat with
    | false =>
      rw [m_fd_F (hLk.trans hL), m_fd_F (show m_mL f h k = false by unfold m_mL; rw [hL, Bool.and_false])]
      exact ⟨e1, e2⟩
    | true =>
      rw [m_fd_T (hLk.trans hL), e1]
      have hst : m_fuSt (m_amW h) (m_fd (m_mL f h) m_mSt (-1) k) k = if m_mw h k = true then m_mSt (m_fd (m_mL f h) m_mSt (-1) k) k else m_fd (m_mL f h) m_mSt (-1) k := by
        generalize m_fd (m_mL f h) m_mSt (-1) k = s at e2
        unfold m_fuSt m_mSt
        rw [hw]
        by_cases q : nI k &&& m_amW h = m_amW h
        · rw [if_pos (decide_eq_true q)]
          by_cases q2 : s = -1
          · rw [if_pos ⟨q, Or.inl q2⟩, if_pos (Or.inl q2)]
          · have e3 : m_bc s = z_bits s := m_bc_bits (by rcases e2 with e2 | e2; exact absurd e2 q2; exact e2)
            rw [e3, m_bc_nI (by omega)]
            by_cases q3 : (z_bits s).toInt < (z_bits (nI k)).toInt
            · rw [if_pos ⟨q, Or.inr q3⟩, if_pos (Or.inr q3)]
            · rw [if_neg (fun h9 => by rcases h9.2 with h9 | h9; exact q2 h9; exact q3 h9), if_neg (fun h9 => by rcases h9 with h9 | h9; exact q2 h9; exact q3 h9)]
        · rw [if_neg (fun h9 => q h9.1), if_neg (fun h9 => q (of_decide_eq_true h9))]
      have hsr : m_mSt (m_fd (m_mL f h) m_mSt (-1) k) k = -1 ∨ (0 ≤ (m_mSt (m_fd (m_mL f h) m_mSt (-1) k) k).toInt ∧ (m_mSt (m_fd (m_mL f h) m_mSt (-1) k) k).toInt ≤ 1023) := by
        generalize m_fd (m_mL f h) m_mSt (-1) k = s at e2
        unfold m_mSt
        split
        · exact Or.inr hkr
        · exact e2
      cases hw9 : m_mw h k with
      | false =>
        rw [m_fd_F (show m_mL f h k = false by unfold m_mL; rw [hw9, Bool.false_and])]
        rw [hw9] at hst
        exact ⟨hst, e2⟩
      | true =>
        rw [m_fd_T (show m_mL f h k = true by unfold m_mL; rw [hw9, hL]; rfl)]
        rw [hw9] at hst
        exact ⟨hst, hsr⟩
theorem m_amC.eqr (hg : m_rg f) (h1 : m_amC f h t r) (h2 : m_amR f h t r') : r = r' := by
  by_cases h0 : m_amOk f h t
  · obtain ⟨e1, e2⟩ := m_most_eq hg h0.1 _ (Nat.le_refl _)
    have a := h1.1 h0
    have b := h2.1 h0
    rw [e1] at a
    by_cases q : m_mB f h = -1
    · rw [a.1 q, b.1 q]
    · by_cases q2 : t = 0
      · rw [(a.2 q).1 q2, (b.2 q).1 q2]
        exact m_bc_bits (by rcases e2 with e2 | e2; exact absurd e2 q; exact e2)
      · rw [(a.2 q).2 q2, (b.2 q).2 q2]; rfl
  · exact (h1.2 h0).trans (h2.2 h0).symm
end RWE
