/-! SIGHT, SEES, JUDGE: both sides answer alike -/
theorem m_bi_shr {x : Int32} {b : Nat} (hb : b < 31) : m_bi (x >>> (nI b &&& 31)) 0 = m_bi x b := by
  unfold m_bi
  rw [Int32.toBitVec_shiftRight, BitVec.sshiftRight', BitVec.getLsbD_sshiftRight, x_sl31 b (by omega)]
  simp
  omega
theorem m_bi_1 {j : Nat} (hj : j < 32) : m_bi 1 j = decide (j = 0) := (by decide : ∀ j, j < 32 → m_bi 1 j = decide (j = 0)) j hj
theorem m_sr_bi {x : Int32} {b : Nat} (hb : b < 31) : (x >>> (nI b &&& 31)) &&& 1 = m_b (m_bi x b) := m_bi_ext fun j hj => by
  rw [m_bi_and, m_bi_1 hj]
  by_cases e : j = 0
  · subst e
    rw [m_bi_shr hb, decide_eq_true rfl, Bool.and_true]
    cases m_bi x b <;> decide
  · rw [decide_eq_false e, Bool.and_false]
    cases m_bi x b with
    | false => exact (m_bi_0).symm
    | true => show _ = m_bi 1 j; rw [m_bi_1 hj, decide_eq_false e]
theorem m_has_bi {s : Int32} {b : Nat} (hb : b < 31) : m_has s (nI b) = m_bi s b := by
  unfold m_has
  rw [m_sr_bi hb]
  cases m_bi s b <;> decide
theorem z_all_pB : ∀ k : Fin 11, (z_all (nI k)).toInt = ((2 ^ k.val : Nat) : Int) - 1 := by decide
theorem z_all_p {n : Int32} (h : 0 ≤ n.toInt ∧ n.toInt ≤ 10) : (z_all n).toInt = ((2 ^ n.toInt.toNat : Nat) : Int) - 1 := by
  have := z_all_pB ⟨n.toInt.toNat, by omega⟩
  rw [show nI (⟨n.toInt.toNat, by omega⟩ : Fin 11).val = n from m_nj h.1] at this
  exact this
section ASE
variable {f V V' : Nat → Int32} {a b h w t r r' : Int32}
theorem m_isS_hi (hn : 0 ≤ (f 0).toInt ∧ (f 0).toInt ≤ 10) (hs : m_isS f w) {j : Nat} (hj : (f 0).toInt.toNat ≤ j) : m_bi w j = false := by
  unfold m_isS at hs
  rw [z_all_p hn] at hs
  have e := x_tn hs.1
  have h1 : w.toBitVec.toNat < 2 ^ (f 0).toInt.toNat := by omega
  exact Nat.testBit_lt_two_pow (Nat.lt_of_lt_of_le h1 (Nat.pow_le_pow_right (by decide) hj))
theorem m_isS_an (hn : 0 ≤ (f 0).toInt ∧ (f 0).toInt ≤ 10) (hs : m_isS f w) (x : Int32) : 0 ≤ (x &&& w).toInt ∧ (x &&& w).toInt ≤ 1023 :=
  m_bi_lt fun j hj => by rw [m_bi_and, m_isS_hi hn hs (by omega), Bool.and_false]
theorem m_vw_bi {ok : Nat → Nat → Bool} {n i j : Nat} (hj : j < 10) : m_bi (m_vw ok n i) j = m_sp ok n i j := by
  unfold m_vw
  rw [m_gg_bi 10 (by decide), m_bi_0, Bool.false_or, decide_eq_true hj, Bool.true_and]
theorem m_rg.y4 (hg : m_rg f) : 0 ≤ (f 4).toInt ∧ (f 4).toInt ≤ 99 := (hg 4 (by decide)).to m_T0.2.2.2.1
theorem m_asC.eqr (hg : m_rg f) (h1 : m_asC f a b r) (h2 : m_asR f a b r') : r = r' := by
  by_cases h0 : m_isH f a ∧ m_isH f b ∧ ¬ a = b
  · rw [h1.1 h0, h2.1 h0]
    obtain ⟨ha, hb, hne⟩ := h0
    have n0 := hg.n0
    have hy := hg.y4
    unfold m_isH at ha hb
    have hne2 : a.toInt.toNat ≠ b.toInt.toNat := fun e => hne (Int32.toInt_inj.mp (by omega))
    rw [show b &&& 31 = nI b.toInt.toNat &&& 31 by rw [m_nj hb.1], m_sr_bi (by omega)]
    refine congrArg m_b ?_
    unfold m_VC
    rw [m_vw_bi (by omega)]
    unfold m_sp
    by_cases hlt : a.toInt.toNat < b.toInt.toNat
    · rw [decide_eq_true (show a.toInt.toNat < b.toInt.toNat ∧ b.toInt.toNat < (f 0).toInt.toNat by omega), decide_eq_false (show ¬ (b.toInt.toNat < a.toInt.toNat ∧ a.toInt.toNat < (f 0).toInt.toNat) by omega), Bool.true_and, Bool.false_and, Bool.or_false, m_okC_ss hg (by omega) (by omega) hy, m_ss_symm hg (by omega) (by omega) hy]
    · rw [decide_eq_false (show ¬ (a.toInt.toNat < b.toInt.toNat ∧ b.toInt.toNat < (f 0).toInt.toNat) by omega), decide_eq_true (show b.toInt.toNat < a.toInt.toNat ∧ a.toInt.toNat < (f 0).toInt.toNat by omega), Bool.true_and, Bool.false_and, Bool.false_or, m_okC_ss hg (by omega) (by omega) hy]
  · exact (h1.2 h0).trans (h2.2 h0).symm
theorem m_aeC.eqr (hg : m_rg f) (h1 : m_aeC f h w r) (h2 : m_aeR f h w r') : r = r' := by
  by_cases h0 : m_isH f h ∧ m_isS f w
  · rw [h1.1 h0, h2.1 h0, m_V_eq hg hg.y4]
  · exact (h1.2 h0).trans (h2.2 h0).symm
theorem m_wr_eq (hn : 0 ≤ (f 0).toInt ∧ (f 0).toInt ≤ 10) (hs : m_isS f w) {i : Nat} (hV : V i = V' i) : m_wr V w i = m_wrR V' w i := by
  unfold m_wr m_wrR
  rw [hV, m_bc_bits (m_isS_an hn hs _)]
theorem m_wr_hi (hn : 0 ≤ (f 0).toInt ∧ (f 0).toInt ≤ 10) (hs : m_isS f w) {i : Nat} (hi : (f 0).toInt.toNat ≤ i) (hi2 : i < 10) : m_wr V w i = false := by
  unfold m_wr
  rw [m_has_bi (by omega), m_isS_hi hn hs hi, Bool.false_and]
theorem m_fw_eq (hn : 0 ≤ (f 0).toInt ∧ (f 0).toInt ≤ 10) (hs : m_isS f w) (hV : ∀ i, i < (f 0).toInt.toNat → V i = V' i) (h1 : m_fw V w r) (h2 : m_fwR V' w (f 0).toInt.toNat r') : r = r' := by
  have e : ∀ i, i < (f 0).toInt.toNat → m_wr V w i = m_wrR V' w i := fun i hi => m_wr_eq hn hs (hV i hi)
  rcases h1 with ⟨k, k1, k2, k3, k4⟩ | ⟨k1, k2⟩
  · have hk : k < (f 0).toInt.toNat := by
      rcases Nat.lt_or_ge k (f 0).toInt.toNat with q | q
      · exact q
      · rw [m_wr_hi hn hs q k1] at k3; cases k3
    rcases h2 with ⟨q, q1, q2, q3, q4⟩ | ⟨q1, q2⟩
    · have : k = q := by
        rcases Nat.lt_trichotomy k q with h9 | h9 | h9
        · rw [e k hk, q4 k h9] at k3; cases k3
        · exact h9
        · rw [← e q q1, k4 q h9] at q3; cases q3
      exact Int32.toInt_inj.mp (by omega)
    · rw [e k hk, q2 k hk] at k3; cases k3
  · rcases h2 with ⟨q, q1, q2, q3, q4⟩ | ⟨q1, q2⟩
    · rw [← e q q1, k2 q (by omega)] at q3; cases q3
    · rw [k1, q1]
theorem m_ajC.eqr (hg : m_rg f) (h1 : m_ajC f w t r) (h2 : m_ajR f w t r') : r = r' := by
  by_cases h0 : m_isS f w ∧ 0 ≤ t.toInt ∧ t.toInt ≤ 1
  · obtain ⟨k, k1, k2, k3⟩ := h1.1 h0
    obtain ⟨q, q1, q2, q3⟩ := h2.1 h0
    have e : k = q := m_fw_eq hg.n0 h0.1 (fun i _ => m_V_eq hg hg.y4 i) k1 q1
    subst e
    by_cases h9 : k = -1 ∨ t = 0
    · rw [k2 h9, q2 h9]
    · rw [k3 (fun h => h9 (Or.inl h)) (fun h => h9 (Or.inr h)), q3 (fun h => h9 (Or.inl h)) (fun h => h9 (Or.inr h)), m_bc_bits (m_isS_an hg.n0 h0.1 _), m_V_eq hg hg.y4]
  · exact (h1.2 h0).trans (h2.2 h0).symm
end ASE
