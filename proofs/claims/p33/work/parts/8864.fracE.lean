/-! chance, lies: both sides answer alike, and come to the same fraction -/
section FRE
variable {f V V' : Nat → Int32} {w h r r' : Int32}
theorem m_has_1 {x : Int32} {k : Nat} (hk : k < 31) : (x >>> (nI k &&& 31)) &&& 1 = m_b (m_has x (nI k)) := by
  rw [m_sr_bi hk, m_has_bi hk]
theorem m_lwE (hg : m_rg f) (hs : m_isS f w) : m_lwC f w = m_lwR f w :=
  m_lc_lw hg.n0 hs (fun i (_ : i < (f 0).toInt.toNat) => m_V_eq (mi := f 5) hg hg.y4 i)
theorem m_thE (hg : m_rg f) (hs : m_isS f w) (hl : m_lwC f w = true) : m_thC f w = m_thR f w := by
  have hl2 : m_lwR f w = true := (m_lwE hg hs).symm.trans hl
  unfold m_thC m_thR
  rw [if_pos hl2]
  exact m_gg_congr _ fun q hq => m_sus_eq hg.n0 hs (fun i _ => m_V_eq hg hg.y4 i) hq
theorem m_chs_eq {th : Int32} : ∀ n, n ≤ 10 → m_chs f th n = m_chsR f th n
  | 0, _ => rfl
  | n + 1, hn => by
    show (if _ then _ else _) = m_chsR f th n + _ * _
    rw [m_chs_eq n (by omega), m_has_1 (by omega)]
    cases m_has th (nI n) with
    | true => rw [if_pos rfl]; show _ = _ + 1 * _; rw [Int32.one_mul]
    | false => rw [if_neg (fun q => by cases q)]; show _ = _ + 0 * _; rw [Int32.zero_mul, Int32.add_zero]
theorem m_chE (hg : m_rg f) (h1 : m_3 (m_isS f w ∧ m_isH f h) (m_lwC f w) (¬ m_chs f (m_thC f w) (f 0).toInt.toNat = 0) r) (h2 : m_3 (m_isS f w ∧ m_isH f h) (m_lwR f w) (¬ m_chsR f (m_thR f w) (f 0).toInt.toNat = 0) r') : r = r' := by
  have n0 := hg.n0
  exact h1.eqr h2 Iff.rfl (fun q => m_lwE hg q.1) fun q hl => by rw [m_thE hg q.1 hl, m_chs_eq _ (by omega)]
end FRE
