/-! WORK, CHEAPEST: of all sets of works the first that is least, by which a set is lawful -/
def m_cnB (f : Nat → Int32) (t : Nat) : Bool := !(decide ((f (60 + 7 * t)).toInt = 0)) && decide (f (65 + 7 * t) = 0)
def m_can (f : Nat → Int32) : Int32 := m_gg (m_cnB f) 0 (f 1).toInt.toNat
def m_prs (f : Nat → Int32) (cs w : Int32) : Nat → Int32
  | 0 => 0
  | k + 1 => m_prs f cs w k + ((w >>> (nI k &&& 31)) &&& 1) * (if cs = 0 then 1 else f (66 + 7 * k))
def m_prc (f : Nat → Int32) (cs w : Int32) : Int32 := m_prs f cs w (f 1).toInt.toNat
def m_wkSt (f : Nat → Int32) (cs : Int32) (LW : Nat → Bool) (s : Int32) (k : Nat) : Int32 := if nI k &&& (m_can f ^^^ -1) = 0 ∧ (s = -1 ∨ (m_prc f cs (nI k)).toInt < (m_prc f cs s).toInt) ∧ LW k = true then nI k else s
def m_wkF (f : Nat → Int32) (cs : Int32) (LW : Nat → Bool) (k : Nat) : Int32 := m_fd (fun _ => true) (m_wkSt f cs LW) (-1) k
def m_wkB (f : Nat → Int32) (cs : Int32) (LW : Nat → Bool) : Int32 := m_wkF f cs LW ((m_can f).toInt.toNat + 1)
def m_wk (f : Nat → Int32) (cs : Int32) (LW : Nat → Bool) (w t r : Int32) : Prop := (m_isS f w ∧ 0 ≤ t.toInt ∧ t.toInt ≤ 1 → (m_wkB f cs LW = -1 ∨ t = 1 → r = m_wkB f cs LW) ∧ (¬ m_wkB f cs LW = -1 → ¬ t = 1 → r = m_prc f cs (m_wkB f cs LW))) ∧ (¬ (m_isS f w ∧ 0 ≤ t.toInt ∧ t.toInt ≤ 1) → r = -2)
def m_LWC (f : Nat → Int32) (w : Int32) (k : Nat) : Bool := !(m_any (m_wr (m_VC f (f 4) (f 5) (nI k)) w) 10)
def m_LWR (f : Nat → Int32) (w : Int32) (k : Nat) : Bool := m_lw (m_VR (m_ab f (nI k) 0 (f 1).toInt.toNat) (f 4) (f 5)) w (f 0).toInt.toNat
section WKM
variable {f : Nat → Int32} {cs w t r r' : Int32} {LW LW' : Nat → Bool}
theorem m_wkF_s {k : Nat} : m_wkF f cs LW (k + 1) = m_wkSt f cs LW (m_wkF f cs LW k) k := m_fd_T rfl
theorem m_can_b (hn : 0 ≤ (f 1).toInt ∧ (f 1).toInt ≤ 8) : 0 ≤ (m_can f).toInt ∧ (m_can f).toInt ≤ 255 := by
  have h2 : (m_can f).toBitVec.toNat < 2 ^ 8 := Nat.lt_pow_two_of_testBit _ fun j hj => by
    have h1 : m_bi (m_can f) j = false := by
      unfold m_can
      by_cases h32 : j < 32
      · rw [m_gg_bi _ (by omega), m_bi_0, decide_eq_false (by omega)]; rfl
      · exact m_bi_ge (by omega)
    exact h1
  have h3 := x_tn2 (x := m_can f) (by omega)
  omega
theorem m_can_bi (hn : 0 ≤ (f 1).toInt ∧ (f 1).toInt ≤ 8) {j : Nat} : m_bi (m_can f) j = (decide (j < (f 1).toInt.toNat) && m_cnB f j) := by
  unfold m_can
  rw [m_gg_bi _ (by omega), m_bi_0, Bool.false_or]
theorem m_bi_m1 {j : Nat} (h : j < 32) : m_bi (-1) j = true := (by decide : ∀ j, j < 32 → m_bi (-1) j = true) j h
theorem m_sb_bi {k : Nat} (h : nI k &&& (m_can f ^^^ -1) = 0) {j : Nat} (hj : j < 32) (hb : m_bi (nI k) j = true) : m_bi (m_can f) j = true := by
  have h1 := congrArg (fun v => m_bi v j) h
  simp only [m_bi_and, m_bi_xor, m_bi_m1 hj, hb, m_bi_0, Bool.true_and, Bool.xor_true] at h1
  rw [Bool.not_eq_false'] at h1
  exact h1
theorem m_ab_ne {d : Int32} {n p : Nat} (h : ¬ ((65 + 7 * 0 ≤ p ∧ p < 65 + 7 * n) ∧ (p - 65) % 7 = 0)) : m_ab f d 0 n p = f p := by
  unfold m_ab
  rw [if_neg h]
theorem m_ab_at {d : Int32} {n j : Nat} (h : j < n) (h2 : j < 31) : m_ab f d 0 n (65 + 7 * j) = f (65 + 7 * j) + m_b (m_bi d j) := by
  unfold m_ab
  rw [if_pos (by omega), show (65 + 7 * j - 65) / 7 = j by omega, show Int32.ofInt ((j : Nat) : Int) = nI j from rfl, m_sr_bi h2]
theorem m_ln_ab {d : Int32} {n a b : Nat} (ha : a < 10) (hb : b < 10) : m_ln (m_ab f d 0 n) a b = m_ln f a b := by
  have e : ∀ p, p < 65 → m_ab f d 0 n p = f p := fun p hp => m_ab_lo hp
  funext k
  match k with
  | 0 => show m_ab f d 0 n (10 + 5 * a) = f (10 + 5 * a); exact e _ (by omega)
  | 1 => show m_ab f d 0 n (11 + 5 * a) = f (11 + 5 * a); exact e _ (by omega)
  | 2 => show m_ab f d 0 n (10 + 5 * b) - m_ab f d 0 n (10 + 5 * a) = f (10 + 5 * b) - f (10 + 5 * a); rw [e (10 + 5 * b) (by omega), e (10 + 5 * a) (by omega)]
  | 3 => show m_ab f d 0 n (11 + 5 * b) - m_ab f d 0 n (11 + 5 * a) = f (11 + 5 * b) - f (11 + 5 * a); rw [e (11 + 5 * b) (by omega), e (11 + 5 * a) (by omega)]
  | 4 =>
    show m_ab f d 0 n 6 * m_max (m_abs (m_ab f d 0 n (10 + 5 * b) - m_ab f d 0 n (10 + 5 * a))) (m_abs (m_ab f d 0 n (11 + 5 * b) - m_ab f d 0 n (11 + 5 * a))) = f 6 * m_max (m_abs (f (10 + 5 * b) - f (10 + 5 * a))) (m_abs (f (11 + 5 * b) - f (11 + 5 * a)))
    rw [e 6 (by omega), e (10 + 5 * b) (by omega), e (10 + 5 * a) (by omega), e (11 + 5 * b) (by omega), e (11 + 5 * a) (by omega)]
  | 5 => show m_ab f d 0 n (12 + 5 * a) = f (12 + 5 * a); exact e _ (by omega)
  | 6 => show m_ab f d 0 n (12 + 5 * b) = f (12 + 5 * b); exact e _ (by omega)
  | 7 =>
    show (m_ab f d 0 n (10 + 5 * b) - m_ab f d 0 n (10 + 5 * a)) * (m_ab f d 0 n (10 + 5 * b) - m_ab f d 0 n (10 + 5 * a)) + (m_ab f d 0 n (11 + 5 * b) - m_ab f d 0 n (11 + 5 * a)) * (m_ab f d 0 n (11 + 5 * b) - m_ab f d 0 n (11 + 5 * a)) = (f (10 + 5 * b) - f (10 + 5 * a)) * (f (10 + 5 * b) - f (10 + 5 * a)) + (f (11 + 5 * b) - f (11 + 5 * a)) * (f (11 + 5 * b) - f (11 + 5 * a))
    rw [e (10 + 5 * b) (by omega), e (10 + 5 * a) (by omega), e (11 + 5 * b) (by omega), e (11 + 5 * a) (by omega)]
  | k + 8 => show (0 : Int32) = 0; rfl
theorem m_stn_ab {d y e : Int32} {n j : Nat} : m_stn (m_ab f d 0 n) (60 + 7 * j) y e = m_stn f (60 + 7 * j) y e := by
  unfold m_stn m_wd
  rw [m_ab_ne (p := 60 + 7 * j) (by omega), m_ab_ne (p := 60 + 7 * j + 3) (by omega), m_ab_ne (p := 60 + 7 * j + 4) (by omega)]
theorem m_hb_ab {d : Int32} {l : Nat → Int32} {n a b : Nat} (hn : 0 ≤ (f 0).toInt ∧ (f 0).toInt ≤ 10) : m_hb l (m_ab f d 0 n) a b = m_hb l f a b := by
  unfold m_hb
  rw [m_ab_lo (p := 0) (by omega)]
  refine m_any_congr fun i hi => ?_
  unfold m_hc
  rw [m_ab_lo (p := 10 + 5 * i) (by omega), m_ab_lo (p := 11 + 5 * i) (by omega), m_ab_lo (p := 12 + 5 * i) (by omega)]
theorem m_okC_ab (hn : 0 ≤ (f 0).toInt ∧ (f 0).toInt ≤ 10) (h1 : 0 ≤ (f 1).toInt ∧ (f 1).toInt ≤ 8) {k a b : Nat} {y mi : Int32} (ha : a < 10) (hb : b < 10) (hk : nI k &&& (m_can f ^^^ -1) = 0) : m_okC f y mi (nI k) a b = m_okC (m_ab f (nI k) 0 (f 1).toInt.toNat) y mi 0 a b := by
  unfold m_okC
  rw [m_ab_lo (p := 12 + 5 * a) (by omega), m_ab_lo (p := 12 + 5 * b) (by omega)]
  refine congrArg (fun z : Int32 => decide (z = 0) && _) (m_bi_ext fun j hj => ?_)
  unfold m_gN m_gD
  rw [m_ln_ab ha hb, m_hb_ab hn, m_ab_lo (p := 1) (by omega)]
  rw [m_bi_or, m_bi_or, m_bi_and, m_bi_and, m_bi_and, m_bi_and, m_bi_xor, m_bi_xor, m_bi_m1 hj, m_bi_0, m_gg_bi _ (by omega), m_gg_bi _ (by omega), m_gg_bi _ (by omega), m_gg_bi _ (by omega), m_bi_0]
  by_cases hjn : j < (f 1).toInt.toNat
  · have hd := m_ab_at (f := f) (d := nI k) hjn (by omega)
    have hgd : m_gd (m_ln f a b) (m_ab f (nI k) 0 (f 1).toInt.toNat) y j = m_gd (m_ln f a b) f y j := by
      unfold m_gd
      rw [m_ab_ne (p := 61 + 7 * j) (by omega), m_ab_ne (p := 62 + 7 * j) (by omega), m_stn_ab]
    cases hbj : m_bi (nI k) j with
    | true =>
      have hc := m_sb_bi hk hj hbj
      rw [m_can_bi h1, decide_eq_true hjn, Bool.true_and] at hc
      unfold m_cnB at hc
      rw [Bool.and_eq_true, decide_eq_true_eq] at hc
      rw [hbj, hc.2] at hd
      have hgc : m_gc (m_ln f a b) (m_ab f (nI k) 0 (f 1).toInt.toNat) y j = m_gd (m_ln f a b) f y j := by
        unfold m_gc m_gd
        rw [m_ab_ne (p := 61 + 7 * j) (by omega), m_ab_ne (p := 62 + 7 * j) (by omega), hd, if_pos (by decide), m_stn_ab]
      have h256 : m_bi (if m_hb (m_ln f a b) f a b = true then 256 else 0) j = false := by
        split
        · exact (by decide : ∀ j, j < 8 → m_bi 256 j = false) j (by omega)
        · exact m_bi_0
      rw [hgc, hgd, h256]
      cases m_gd (m_ln f a b) f y j <;> simp
    | false =>
      rw [hbj] at hd
      have hd2 : m_ab f (nI k) 0 (f 1).toInt.toNat (65 + 7 * j) = f (65 + 7 * j) := hd.trans (Int32.add_zero _)
      have hgc : m_gc (m_ln f a b) (m_ab f (nI k) 0 (f 1).toInt.toNat) y j = m_gc (m_ln f a b) f y j := by
        unfold m_gc
        rw [m_ab_ne (p := 61 + 7 * j) (by omega), m_ab_ne (p := 62 + 7 * j) (by omega), hd2, m_stn_ab]
      rw [hgc, hgd]
  · have hbj : m_bi (nI k) j = false := by
      cases hX : m_bi (nI k) j with
      | false => rfl
      | true =>
        have hc := m_sb_bi hk hj hX
        rw [m_can_bi h1, decide_eq_false hjn] at hc; cases hc
    rw [hbj, decide_eq_false hjn]
    simp
theorem m_ab_rg (hg : m_rg f) {k : Nat} (hk : nI k &&& (m_can f ^^^ -1) = 0) : m_rg (m_ab f (nI k) 0 (f 1).toInt.toNat) := fun p hp => by
  have h1 := hg.n1
  by_cases e : (65 + 7 * 0 ≤ p ∧ p < 65 + 7 * (f 1).toInt.toNat) ∧ (p - 65) % 7 = 0
  · obtain ⟨j, rfl⟩ : ∃ j, p = 65 + 7 * j := ⟨(p - 65) / 7, by omega⟩
    have hj : j < (f 1).toInt.toNat := by omega
    have t2 := (m_T2 j (by omega)).2.2.2.2.2.1
    rw [m_ab_at hj (by omega)]
    refine .of t2 ?_
    cases hb : m_bi (nI k) j with
    | true =>
      have hc := m_sb_bi hk (by omega) hb
      rw [m_can_bi h1, decide_eq_true hj, Bool.true_and] at hc
      unfold m_cnB at hc
      rw [Bool.and_eq_true, decide_eq_true_eq] at hc
      rw [hc.2]; decide
    | false =>
      rw [show f (65 + 7 * j) + m_b false = f (65 + 7 * j) from Int32.add_zero _]
      exact (hg _ hp).to t2
  · rw [m_ab_ne e]; exact hg p hp
theorem m_LWE (hg : m_rg f) (hs : m_isS f w) {k : Nat} (hk : nI k &&& (m_can f ^^^ -1) = 0) : m_LWC f w k = m_LWR f w k := by
  have n0 := hg.n0
  have hgw := m_ab_rg hg hk
  refine m_lc_lw n0 hs fun i _ => ?_
  rw [← m_V_eq hgw hg.y4]
  unfold m_VC
  rw [m_ab_lo (p := 0) (by omega)]
  exact m_vw_congr fun a b h1 h2 => m_okC_ab n0 hg.n1 (by omega) (by omega) hk
theorem m_wkF_eq (hg : m_rg f) (hs : m_isS f w) (k : Nat) : m_wkF f cs (m_LWC f w) k = m_wkF f cs (m_LWR f w) k :=
  m_fd_congr k (fun _ _ => rfl) fun s q _ _ => by
    unfold m_wkSt
    by_cases e : nI q &&& (m_can f ^^^ -1) = 0
    · rw [m_LWE hg hs e]
    · rw [if_neg (fun h => e h.1), if_neg (fun h => e h.1)]
theorem m_wkE (hg : m_rg f) (h : m_wk f cs (m_LWC f w) w t r) (h' : m_wk f cs (m_LWR f w) w t r') : r = r' := by
  by_cases k : m_isS f w ∧ 0 ≤ t.toInt ∧ t.toInt ≤ 1
  · have e : m_wkB f cs (m_LWC f w) = m_wkB f cs (m_LWR f w) := m_wkF_eq hg k.1 _
    by_cases q : m_wkB f cs (m_LWC f w) = -1 ∨ t = 1
    · rw [(h.1 k).1 q, (h'.1 k).1 (by rw [← e]; exact q), e]
    · rw [(h.1 k).2 (fun z => q (Or.inl z)) (fun z => q (Or.inr z)), (h'.1 k).2 (fun z => q (Or.inl (e.trans z))) (fun z => q (Or.inr z)), e]
  · rw [h.2 k, h'.2 k]
end WKM
