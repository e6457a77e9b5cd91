/-! WITHOUT LEAVE: both sides answer alike -/
section WTE
variable {f V V' : Nat → Int32} {w r r' : Int32}
theorem m_cn_0 {L : Nat → Bool} {n : Nat} : m_cn L n = 0 ↔ ∀ i, i < n → L i = false := by
  constructor
  · intro h i hi
    cases hL : L i with
    | false => rfl
    | true => have := m_cn_lt hi hL; omega
  · intro h
    exact m_cn_skip (Nat.zero_le _) fun q _ hq => h q hq
theorem m_or_S (hn : 0 ≤ (f 0).toInt ∧ (f 0).toInt ≤ 10) (hs : m_isS f w) {h : Nat} (hh : h < 10) (x : Int32) : 0 ≤ (x &&& (w ||| m_sh (nI h))).toInt ∧ (x &&& (w ||| m_sh (nI h))).toInt ≤ 1023 :=
  m_bi_lt fun j hj => by rw [m_bi_and, m_bi_or, m_isS_hi hn hs (by omega), m_bi_sh (by omega), decide_eq_false (show ¬ j = h by omega)]; simp
theorem m_sus_eq (hn : 0 ≤ (f 0).toInt ∧ (f 0).toInt ≤ 10) (hs : m_isS f w) (hV : ∀ i, i < (f 0).toInt.toNat → V i = V' i) {h : Nat} (hh : h < (f 0).toInt.toNat) : m_sus f V w h = m_woB f V' w h := by
  unfold m_sus m_woB
  refine congrArg (fun b => !(m_has w (nI h)) && b) ?_
  unfold m_asr
  rw [Bool.eq_iff_iff, Bool.not_eq_true', decide_eq_true_eq, m_cn_0]
  have e : ∀ q, q < (f 0).toInt.toNat → (!(m_rep1 f V (w ||| m_sh (nI h)) q)) = m_soR f V' (w ||| m_sh (nI h)) 0 q := fun q hq => by
    unfold m_rep1 m_tru m_soR
    rw [hV q hq, m_bc_bits (m_or_S hn hs (by omega) _)]
    by_cases e1 : f (13 + 5 * q) = -1
    · rw [decide_eq_true e1]; rfl
    · rw [decide_eq_false e1]
      by_cases e2 : f (13 + 5 * q) = z_bits (V' q &&& (w ||| m_sh (nI h)))
      · rw [decide_eq_true e2, decide_eq_true e2.symm]; decide
      · rw [decide_eq_false e2, decide_eq_false (show ¬ z_bits (V' q &&& (w ||| m_sh (nI h))) = f (13 + 5 * q) from fun h9 => e2 h9.symm)]; decide
  constructor
  · intro h1 i hi
    rw [← e i hi]
    cases hX : !(m_rep1 f V (w ||| m_sh (nI h)) i) with
    | false => rfl
    | true => rw [m_any_T (c := fun k => !(m_rep1 f V (w ||| m_sh (nI h)) k)) hX _ hi] at h1; cases h1
  · intro h1
    exact m_any_F _ fun i hi => by rw [e i hi]; exact h1 i hi
theorem m_woC.eqr (hg : m_rg f) (h1 : m_woC f w r) (h2 : m_woR f w r') : r = r' := by
  by_cases h0 : m_isS f w
  · have n0 := hg.n0
    have hl := m_lc_lw n0 h0 (fun i (_ : i < (f 0).toInt.toNat) => m_V_eq (mi := f 5) hg hg.y4 i)
    cases hX : m_lw (m_VR f (f 4) (f 5)) w (f 0).toInt.toNat with
    | false =>
      rw [hX, Bool.not_eq_false'] at hl
      rw [(h1.1 h0).2 hl, (h2.1 h0).2 hX]
    | true =>
      rw [hX, Bool.not_eq_true'] at hl
      rw [(h1.1 h0).1 hl, (h2.1 h0).1 hX]
      exact m_gg_congr _ fun q hq => m_sus_eq n0 h0 (fun i _ => m_V_eq hg hg.y4 i) hq
  · exact (h1.2 h0).trans (h2.2 h0).symm
end WTE
