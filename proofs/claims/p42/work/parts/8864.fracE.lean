/-! chance, lies: both sides answer alike, and come to the same fraction -/
section FRE
variable {f V V' : Nat → Int32} {w h r r' : Int32}
theorem m_has_1 {x : Int32} {k : Nat} (hk : k < 31) : (x >>> (nI k &&& 31)) &&& 1 = m_b (m_has x (nI k)) := by
  rw [m_sr_bi hk, m_has_bi hk]
theorem m_lwE (hg : m_rg f) (hs : m_isS f w) : m_lwC f w = m_lwR f w :=
  m_lc_lw hg.n0 hs (fun i (_ : i < (f 0).toInt.toNat) => m_V_eq (mi := f 5) hg hg.y4 i)
theorem m_thE (hg : m_rg f) (hs : m_isS f w) (hl : m_lwC f w = true) : m_thC f w = m_thR f w := by
  have hl2 : m_lwR f w = true := (m_lwE hg hs).symm.trans hl
  unfold m_thC m_thR
  rw [if_pos hl2]
  exact m_gg_congr _ fun q hq => m_sus_eq hg.n0 hs (fun i _ => m_V_eq hg hg.y4 i) hq
theorem m_chs_eq {th : Int32} : ∀ n, n ≤ 10 → m_chs f th n = m_chsR f th n
  | 0, _ => rfl
  | n + 1, hn => by
    show (if _ then _ else _) = m_chsR f th n + _ * _
    rw [m_chs_eq n (by omega), m_has_1 (by omega)]
    cases m_has th (nI n) with
    | true => rw [if_pos rfl]; show _ = _ + 1 * _; rw [Int32.one_mul]
    | false => rw [if_neg (fun q => by cases q)]; show _ = _ + 0 * _; rw [Int32.zero_mul, Int32.add_zero]
theorem m_chE (hg : m_rg f) (h1 : m_3 (m_isS f w ∧ m_isH f h) (m_lwC f w) (¬ m_chs f (m_thC f w) (f 0).toInt.toNat = 0) r) (h2 : m_3 (m_isS f w ∧ m_isH f h) (m_lwR f w) (¬ m_chsR f (m_thR f w) (f 0).toInt.toNat = 0) r') : r = r' := by
  have n0 := hg.n0
  exact h1.eqr h2 Iff.rfl (fun q => m_lwE hg q.1) fun q hl => by rw [m_thE hg q.1 hl, m_chs_eq _ (by omega)]
theorem m_chF (hg : m_rg f) (hs : m_isS f w) (hl : m_lwC f w = true) (hh : h.toInt.toNat < 31) : m_chU f w h.toInt.toNat = m_chUR f w h.toInt.toNat ∧ m_chD f w = m_chDR f w := by
  have n0 := hg.n0
  unfold m_chU m_chUR m_chD m_chDR
  rw [m_thE hg hs hl, m_chs_eq _ (by omega), m_has_1 hh]
  refine ⟨?_, rfl⟩
  cases m_has (m_thR f w) (nI h.toInt.toNat) with
  | true => rw [if_pos rfl]; show _ = (1 * _ : Int32).toInt64; rw [Int32.one_mul]
  | false => rw [if_neg (fun q => by cases q)]; show _ = (0 * _ : Int32).toInt64; rw [Int32.zero_mul]; decide
/-- a product keeper by keeper is a product of like ones -/
theorem m_wt_lp {S : Nat → Int32} {lit : Int32} {v0 : Int64} (hV : ∀ i, i < 10 → V i = S i) (hb : ∀ i, i < 10 → z_bits (S i &&& lit) = m_bc (S i &&& lit)) : ∀ n, n ≤ 10 → m_wtl f V lit v0 n = m_lp (m_lp v0 (f 7).toInt64 (m_cn (m_soR f S lit 1) n)) ((10 : Int32) - f 7).toInt64 (m_cn (m_soR f S lit 0) n)
  | 0, _ => rfl
  | n + 1, hn => by
    have ih := m_wt_lp (v0 := v0) hV hb n (by omega)
    show (if _ then _ else _ * (if _ then _ else _)) = _
    by_cases e : f (13 + 5 * n) = -1
    · have h1 : ∀ d, m_soR f S lit d n = false := fun d => by unfold m_soR; rw [decide_eq_true e]; rfl
      rw [if_pos e, m_cn_F (h1 1), m_cn_F (h1 0)]
      exact ih
    · rw [if_neg e, ih]
      have ht : m_tru f V lit n = decide (z_bits (S n &&& lit) = f (13 + 5 * n)) := by
        unfold m_tru
        rw [hV n (by omega), ← hb n (by omega)]
        by_cases q : f (13 + 5 * n) = z_bits (S n &&& lit)
        · rw [decide_eq_true q, decide_eq_true q.symm]
        · rw [decide_eq_false q, decide_eq_false (fun q9 => q q9.symm)]
      have hs : ∀ d, m_soR f S lit d n = decide (m_b (m_tru f V lit n) = d) := fun d => by
        unfold m_soR
        rw [decide_eq_false e, ht]; rfl
      cases hq : m_tru f V lit n with
      | true =>
        have h1 : m_soR f S lit 1 n = true := by rw [hs, hq]; decide
        have h0 : m_soR f S lit 0 n = false := by rw [hs, hq]; decide
        rw [if_pos rfl, m_cn_T h1, m_cn_F h0]
        show _ = m_lp (m_lp _ _ _ * _) _ _
        rw [m_lp_mul]
      | false =>
        have h1 : m_soR f S lit 1 n = false := by rw [hs, hq]; decide
        have h0 : m_soR f S lit 0 n = true := by rw [hs, hq]; decide
        rw [if_neg (fun q => by cases q), m_cn_F h1, m_cn_T h0]
        rfl
theorem m_lo_eq (hg : m_rg f) (hs : m_isS f w) {k : Nat} (hk : k < 10) (hn : m_has w (nI k) = false) : m_wtC f (m_VC f (f 4) (f 5) 0) w k = m_loR f (m_VR f (f 4) (f 5)) w k := by
  have n0 := hg.n0
  unfold m_wtC m_loR
  rw [if_neg (show ¬ (w >>> (nI k &&& 31)) &&& 1 = 1 by rw [m_has_1 (by omega), hn]; decide)]
  exact m_wt_lp (fun i _ => m_V_eq hg hg.y4 i) (fun i _ => (m_bc_bits (m_or_S n0 hs hk _)).symm) _ (by omega)
theorem m_lo_0 {S : Nat → Int32} {k : Nat} (hk : k < 31) (hn : m_has w (nI k) = true) : m_loR f S w k = 0 := by
  unfold m_loR
  rw [if_pos (show (w >>> (nI k &&& 31)) &&& 1 = 1 by rw [m_has_1 hk, hn]; rfl), m_lp_0, m_lp_0]
theorem m_ls_eq (hg : m_rg f) (hs : m_isS f w) : ∀ n, n ≤ 10 → m_lsC f (m_VC f (f 4) (f 5) 0) w n = m_lsR f (m_VR f (f 4) (f 5)) w n
  | 0, _ => rfl
  | n + 1, hn => by
    show _ + (if _ then _ else _) = _ + _
    rw [m_ls_eq hg hs n (by omega)]
    cases q : m_has w (nI n) with
    | true => rw [if_pos rfl, m_lo_0 (by omega) q]
    | false => rw [if_neg (fun q => by cases q), m_lo_eq hg hs (by omega) q]
theorem m_liE (hg : m_rg f) (h1 : m_3 (m_isS f w ∧ m_isH f h ∧ m_has w h = false) (m_lwC f w) (¬ m_lsC f (m_VC f (f 4) (f 5) 0) w (f 0).toInt.toNat = 0) r) (h2 : m_3 (m_isS f w ∧ m_isH f h ∧ m_has w h = false) (m_lwR f w) (¬ m_lsR f (m_VR f (f 4) (f 5)) w (f 0).toInt.toNat = 0) r') : r = r' := by
  have n0 := hg.n0
  exact h1.eqr h2 Iff.rfl (fun q => m_lwE hg q.1) fun q hl => by rw [m_ls_eq hg q.1 _ (by omega)]
end FRE
