/-! SIGHT, SEES, JUDGE: both sides answer alike -/
theorem m_bi_shr {x : Int32} {b : Nat} (hb : b < 31) : m_bi (x >>> (nI b &&& 31)) 0 = m_bi x b := by
  unfold m_bi
  rw [Int32.toBitVec_shiftRight, BitVec.sshiftRight', BitVec.getLsbD_sshiftRight, x_sl31 b (by omega)]
  simp
  omega
theorem m_bi_1 {j : Nat} (hj : j < 32) : m_bi 1 j = decide (j = 0) := (by decide : ∀ j, j < 32 → m_bi 1 j = decide (j = 0)) j hj
theorem m_sr_bi {x : Int32} {b : Nat} (hb : b < 31) : (x >>> (nI b &&& 31)) &&& 1 = m_b (m_bi x b) := m_bi_ext fun j hj => by
  rw [m_bi_and, m_bi_1 hj]
  by_cases e : j = 0
  · subst e
    rw [m_bi_shr hb, decide_eq_true rfl, Bool.and_true]
    cases m_bi x b <;> decide
  · rw [decide_eq_false e, Bool.and_false]
    cases m_bi x b with
    | false => exact (m_bi_0).symm
    | true => show _ = m_bi 1 j; rw [m_bi_1 hj, decide_eq_false e]
theorem m_has_bi {s : Int32} {b : Nat} (hb : b < 31) : m_has s (nI b) = m_bi s b := by
  unfold m_has
  rw [m_sr_bi hb]
  cases m_bi s b <;> decide
theorem z_all_pB : ∀ k : Fin 11, (z_all (nI k)).toInt = ((2 ^ k.val : Nat) : Int) - 1 := by decide
theorem z_all_p {n : Int32} (h : 0 ≤ n.toInt ∧ n.toInt ≤ 10) : (z_all n).toInt = ((2 ^ n.toInt.toNat : Nat) : Int) - 1 := by
  have := z_all_pB ⟨n.toInt.toNat, by omega⟩
  rw [show nI (⟨n.toInt.toNat, by omega⟩ : Fin 11).val = n from m_nj h.1] at this
  exact this
section ASE
variable {f V V' : Nat → Int32} {a b h w t r r' : Int32}
theorem m_isS_hi (hn : 0 ≤ (f 0).toInt ∧ (f 0).toInt ≤ 10) (hs : m_isS f w) {j : Nat} (hj : (f 0).toInt.toNat ≤ j) : m_bi w j = false := by
  unfold m_isS at hs
  rw [z_all_p hn] at hs
  have e := x_tn hs.1
  have h1 : w.toBitVec.toNat < 2 ^ (f 0).toInt.toNat := by omega
  exact Nat.testBit_lt_two_pow (Nat.lt_of_lt_of_le h1 (Nat.pow_le_pow_right (by decide) hj))
theorem m_isS_an (hn : 0 ≤ (f 0).toInt ∧ (f 0).toInt ≤ 10) (hs : m_isS f w) (x : Int32) : 0 ≤ (x &&& w).toInt ∧ (x &&& w).toInt ≤ 1023 :=
  m_bi_lt fun j hj => by rw [m_bi_and, m_isS_hi hn hs (by omega), Bool.and_false]
theorem m_rg.y4 (hg : m_rg f) : 0 ≤ (f 4).toInt ∧ (f 4).toInt ≤ 99 := (hg 4 (by decide)).to m_T0.2.2.2.1
theorem m_wr_eq (hn : 0 ≤ (f 0).toInt ∧ (f 0).toInt ≤ 10) (hs : m_isS f w) {i : Nat} (hV : V i = V' i) : m_wr V w i = m_wrR V' w i := by
  unfold m_wr m_wrR
  rw [hV, m_bc_bits (m_isS_an hn hs _)]
theorem m_wr_hi (hn : 0 ≤ (f 0).toInt ∧ (f 0).toInt ≤ 10) (hs : m_isS f w) {i : Nat} (hi : (f 0).toInt.toNat ≤ i) (hi2 : i < 10) : m_wr V w i = false := by
  unfold m_wr
  rw [m_has_bi (by omega), m_isS_hi hn hs hi, Bool.false_and]
end ASE
