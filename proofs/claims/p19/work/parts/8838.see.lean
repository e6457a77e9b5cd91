/-! what the reference reckons: a hides from b -/
def m_ab2 (v : Int32) : Int32 := if v < 0 then -v else v
def m_mx2 (a b : Int32) : Int32 := if b < a then a else b
def m_dx (f : Nat → Int32) (a b : Nat) : Int32 := f (10 + 5 * b) - f (10 + 5 * a)
def m_dy (f : Nat → Int32) (a b : Nat) : Int32 := f (11 + 5 * b) - f (11 + 5 * a)
def m_rd (f : Nat → Int32) (a b : Nat) : Int32 := m_dx f a b * m_dx f a b + m_dy f a b * m_dy f a b
def m_ra (f : Nat → Int32) (a b : Nat) (x y : Int32) : Int32 := (x - f (10 + 5 * a)) * m_dx f a b + (y - f (11 + 5 * a)) * m_dy f a b
def m_rs (f : Nat → Int32) (a b : Nat) (x y : Int32) : Int32 := m_ab2 ((x - f (10 + 5 * a)) * m_dy f a b - (y - f (11 + 5 * a)) * m_dx f a b)
def m_rw (f : Nat → Int32) (a b : Nat) : Int32 := f 6 * m_mx2 (m_ab2 (m_dx f a b)) (m_ab2 (m_dy f a b))
def m_hs (f : Nat → Int32) (a b : Nat) (x y h : Int32) : Bool := decide (0 < (m_ra f a b x y).toInt) && (decide ((m_ra f a b x y).toInt < (m_rd f a b).toInt) && (decide ((m_rs f a b x y).toInt ≤ (m_rw f a b).toInt) && decide ((f (12 + 5 * a) * m_rd f a b + (f (12 + 5 * b) - f (12 + 5 * a)) * m_ra f a b x y).toInt < (h * m_rd f a b).toInt)))
def m_all (c : Nat → Bool) : Nat → Bool
  | 0 => true
  | k + 1 => m_all c k && c k
theorem m_all_F {c : Nat → Bool} {k : Nat} (h : m_all c k = false) : ∀ n, k ≤ n → m_all c n = false := by
  intro n
  induction n with
  | zero => intro hk; rw [show k = 0 by omega] at h; exact h
  | succ n ih =>
    intro hk
    by_cases e : k = n + 1
    · rw [← e]; exact h
    · show (m_all c n && c n) = false
      rw [ih (by omega)]; rfl
theorem m_all_iff {c : Nat → Bool} : ∀ n, m_all c n = true ↔ ∀ i, i < n → c i = true := by
  intro n
  induction n with
  | zero => exact ⟨fun _ i hi => by omega, fun _ => rfl⟩
  | succ n ih =>
    show (m_all c n && c n) = true ↔ _
    rw [Bool.and_eq_true, ih]
    constructor
    · rintro ⟨h1, h2⟩ i hi
      by_cases e : i = n
      · rw [e]; exact h2
      · exact h1 i (by omega)
    · intro h
      exact ⟨fun i hi => h i (by omega), h n (by omega)⟩
theorem m_all_congr {c c' : Nat → Bool} {n : Nat} (h : ∀ i, i < n → c i = c' i) : m_all c n = m_all c' n := by
  induction n with
  | zero => rfl
  | succ n ih =>
    show (m_all c n && c n) = (m_all c' n && c' n)
    rw [ih fun i hi => h i (by omega), h n (by omega)]
theorem m_b01 {b : Bool} : 0 ≤ (m_b b).toInt ∧ (m_b b).toInt ≤ 1 := by cases b <;> decide
def m_hrk (f : Nat → Int32) (t : Nat) (y : Int32) : Int32 := m_hr (f (60 + 7 * t)) (f (65 + 7 * t)) (f (63 + 7 * t)) (f (64 + 7 * t)) y
def m_s0 (f : Nat → Int32) (a b : Nat) (mi : Int32) : Bool := decide (mi.toInt ≤ (f (12 + 5 * a)).toInt) && decide (mi.toInt ≤ (f (12 + 5 * b)).toInt)
def m_k1 (f : Nat → Int32) (a b : Nat) (h : Nat) : Bool := decide (h = a) || (decide (h = b) || !(m_hs f a b (f (10 + 5 * h)) (f (11 + 5 * h)) (f (12 + 5 * h))))
def m_k2 (f : Nat → Int32) (a b : Nat) (y : Int32) (t : Nat) : Bool := !(m_hs f a b (f (61 + 7 * t)) (f (62 + 7 * t)) (m_hrk f t y))
def m_ss (f : Nat → Int32) (a b : Nat) (y mi : Int32) : Bool := (m_s0 f a b mi && m_all (m_k1 f a b) (f 0).toInt.toNat) && m_all (m_k2 f a b y) (f 1).toInt.toNat
def m_pq2 (n a b i j : Nat) : Bool := decide (j < i ∧ i < n ∧ (i < a ∨ i = a ∧ j < b))
def m_pr2 (ok : Nat → Nat → Bool) (n a b i j : Nat) : Bool := (m_pq2 n a b i j && ok i j) || (m_pq2 n a b j i && ok j i)
theorem m_pq2_up {n a b i j : Nat} (hab : b < a) (hbn : a < n) : m_pq2 n a (b + 1) i j = (m_pq2 n a b i j || decide (i = a ∧ j = b)) := by
  unfold m_pq2
  rw [← Bool.decide_or]
  exact decide_eq_decide.mpr (by omega)
theorem m_pr2_up {ok : Nat → Nat → Bool} {n a b i j : Nat} (hab : b < a) (hbn : a < n) (hok : ok a b = true) : m_pr2 ok n a (b + 1) i j = (m_pr2 ok n a b i j || (decide (i = a ∧ j = b) || decide (j = a ∧ i = b))) := by
  unfold m_pr2
  rw [m_pq2_up hab hbn, m_pq2_up hab hbn]
  by_cases h1 : i = a ∧ j = b
  · obtain ⟨rfl, rfl⟩ := h1
    rw [hok]; simp
  · by_cases h2 : j = a ∧ i = b
    · obtain ⟨rfl, rfl⟩ := h2
      rw [hok]; simp
    · rw [decide_eq_false h1, decide_eq_false h2]; simp
theorem m_pr2_no {ok : Nat → Nat → Bool} {n a b i j : Nat} (hab : b < a) (hbn : a < n) (hok : ok a b = false) : m_pr2 ok n a (b + 1) i j = m_pr2 ok n a b i j := by
  unfold m_pr2
  rw [m_pq2_up hab hbn, m_pq2_up hab hbn]
  by_cases h1 : i = a ∧ j = b
  · obtain ⟨rfl, rfl⟩ := h1
    rw [hok, decide_eq_false (show ¬ (j = i ∧ i = j) by omega)]; simp
  · by_cases h2 : j = a ∧ i = b
    · obtain ⟨rfl, rfl⟩ := h2
      rw [hok, decide_eq_false (show ¬ (i = j ∧ j = i) by omega)]; simp
    · rw [decide_eq_false h1, decide_eq_false h2]; simp
theorem m_pr2_n {ok : Nat → Nat → Bool} {n a b i j : Nat} (hb : a ≤ b) : m_pr2 ok n a b i j = m_pr2 ok n (a + 1) 0 i j := by
  unfold m_pr2 m_pq2
  rw [show decide (j < i ∧ i < n ∧ (i < a ∨ i = a ∧ j < b)) = decide (j < i ∧ i < n ∧ (i < a + 1 ∨ i = a + 1 ∧ j < 0)) from decide_eq_decide.mpr (by omega), show decide (i < j ∧ j < n ∧ (j < a ∨ j = a ∧ i < b)) = decide (i < j ∧ j < n ∧ (j < a + 1 ∨ j = a + 1 ∧ i < 0)) from decide_eq_decide.mpr (by omega)]
theorem m_pr2_0 {ok : Nat → Nat → Bool} {n i j : Nat} : m_pr2 ok n 0 0 i j = false := by
  unfold m_pr2 m_pq2
  rw [decide_eq_false (by omega), decide_eq_false (by omega)]; rfl
theorem m_pr2_e {ok : Nat → Nat → Bool} {n i j : Nat} : m_pr2 ok n n 0 i j = m_sp (fun p q => ok q p) n i j := by
  unfold m_pr2 m_pq2 m_sp
  rw [show decide (j < i ∧ i < n ∧ (i < n ∨ i = n ∧ j < 0)) = decide (j < i ∧ i < n) from decide_eq_decide.mpr (by omega), show decide (i < j ∧ j < n ∧ (j < n ∨ j = n ∧ i < 0)) = decide (i < j ∧ j < n) from decide_eq_decide.mpr (by omega), Bool.or_comm]
theorem m_see3 {ok : Nat → Nat → Bool} {n a b : Nat} {V : Nat → Int32} (hab : b < a) (hbn : a < n) (hn : n ≤ 10) (hok : ok a b = true) (hV : ∀ i, i < n → ∀ j, m_bi (V i) j = m_pr2 ok n a b i j) : ∀ i, i < n → ∀ j, m_bi (y_up (y_up V a (V a ||| m_sh (nI b))) b (V b ||| m_sh (nI a)) i) j = m_pr2 ok n a (b + 1) i j := by
  intro i hi j
  rw [m_pr2_up hab hbn hok]
  by_cases e1 : i = b
  · subst e1
    rw [y_up_at, m_bi_or, m_bi_sh (by omega), hV i hi]
    rw [show decide (i = a ∧ j = i) = false from decide_eq_false (by omega), Bool.false_or]
    rw [show decide (j = a) = decide (j = a ∧ i = i) from decide_eq_decide.mpr (by omega)]
  · rw [y_up_ne e1]
    by_cases e2 : i = a
    · subst e2
      rw [y_up_at, m_bi_or, m_bi_sh (by omega), hV i hi]
      rw [show decide (j = i ∧ i = b) = false from decide_eq_false (by omega), Bool.or_false]
      rw [show decide (j = b) = decide (i = i ∧ j = b) from decide_eq_decide.mpr (by omega)]
    · rw [y_up_ne e2, hV i hi, decide_eq_false (show ¬ (i = a ∧ j = b) by omega), decide_eq_false (show ¬ (j = a ∧ i = b) by omega), Bool.or_false, Bool.or_false]
def m_VR (f : Nat → Int32) (y mi : Int32) (i : Nat) : Int32 := m_vw (fun p q => m_ss f q p y mi) (f 0).toInt.toNat i
def m_lw (S : Nat → Int32) (w : Int32) (n : Nat) : Bool := m_all (fun h => !(m_has w (nI h)) || decide (z_bits (S h &&& w) = 1)) n
def z_Phs : yP := fun D av _ H v _ H' => ∀ (this bk : Nat) (a b x y h : Int32) (f : Nat → Int32), av = [.ref this, .int a, .int b, .int x, .int y, .int h] → x_sl D 12 0 this H = some (.ref bk) → z_c f → y_A bk 160 H f → v = some (.int (m_b (m_hs f a.toInt.toNat b.toInt.toNat x y h)))
theorem hsq_d0 : decode xM172.2.1 0 = .ok (.aload_n 0, 1) := dz_ok (by decide +kernel)
theorem hsq_d1 : decode xM172.2.1 1 = .ok (.iload_n 2, 1) := dz_ok (by decide +kernel)
theorem hsq_d2 : decode xM172.2.1 2 = .ok (.iconst 0, 1) := dz_ok (by decide +kernel)
theorem hsq_d3 : decode xM172.2.1 3 = .ok (.invokevirtual 99, 3) := dz_ok (by decide +kernel)
theorem hsq_d6 : decode xM172.2.1 6 = .ok (.aload_n 0, 1) := dz_ok (by decide +kernel)
theorem hsq_d7 : decode xM172.2.1 7 = .ok (.iload_n 1, 1) := dz_ok (by decide +kernel)
theorem hsq_d8 : decode xM172.2.1 8 = .ok (.iconst 0, 1) := dz_ok (by decide +kernel)
theorem hsq_d9 : decode xM172.2.1 9 = .ok (.invokevirtual 99, 3) := dz_ok (by decide +kernel)
theorem hsq_d12 : decode xM172.2.1 12 = .ok (.isub, 1) := dz_ok (by decide +kernel)
theorem hsq_d13 : decode xM172.2.1 13 = .ok (.istore 6, 2) := dz_ok (by decide +kernel)
theorem hsq_d15 : decode xM172.2.1 15 = .ok (.aload_n 0, 1) := dz_ok (by decide +kernel)
theorem hsq_d16 : decode xM172.2.1 16 = .ok (.iload_n 2, 1) := dz_ok (by decide +kernel)
theorem hsq_d17 : decode xM172.2.1 17 = .ok (.iconst 1, 1) := dz_ok (by decide +kernel)
theorem hsq_d18 : decode xM172.2.1 18 = .ok (.invokevirtual 99, 3) := dz_ok (by decide +kernel)
theorem hsq_d21 : decode xM172.2.1 21 = .ok (.aload_n 0, 1) := dz_ok (by decide +kernel)
theorem hsq_d22 : decode xM172.2.1 22 = .ok (.iload_n 1, 1) := dz_ok (by decide +kernel)
theorem hsq_d23 : decode xM172.2.1 23 = .ok (.iconst 1, 1) := dz_ok (by decide +kernel)
theorem hsq_d24 : decode xM172.2.1 24 = .ok (.invokevirtual 99, 3) := dz_ok (by decide +kernel)
theorem hsq_d27 : decode xM172.2.1 27 = .ok (.isub, 1) := dz_ok (by decide +kernel)
theorem hsq_d28 : decode xM172.2.1 28 = .ok (.istore 7, 2) := dz_ok (by decide +kernel)
theorem hsq_d30 : decode xM172.2.1 30 = .ok (.iload_n 3, 1) := dz_ok (by decide +kernel)
theorem hsq_d31 : decode xM172.2.1 31 = .ok (.aload_n 0, 1) := dz_ok (by decide +kernel)
theorem hsq_d32 : decode xM172.2.1 32 = .ok (.iload_n 1, 1) := dz_ok (by decide +kernel)
theorem hsq_d33 : decode xM172.2.1 33 = .ok (.iconst 0, 1) := dz_ok (by decide +kernel)
theorem hsq_d34 : decode xM172.2.1 34 = .ok (.invokevirtual 99, 3) := dz_ok (by decide +kernel)
theorem hsq_d37 : decode xM172.2.1 37 = .ok (.isub, 1) := dz_ok (by decide +kernel)
theorem hsq_d38 : decode xM172.2.1 38 = .ok (.istore 8, 2) := dz_ok (by decide +kernel)
theorem hsq_d40 : decode xM172.2.1 40 = .ok (.iload 4, 2) := dz_ok (by decide +kernel)
theorem hsq_d42 : decode xM172.2.1 42 = .ok (.aload_n 0, 1) := dz_ok (by decide +kernel)
theorem hsq_d43 : decode xM172.2.1 43 = .ok (.iload_n 1, 1) := dz_ok (by decide +kernel)
theorem hsq_d44 : decode xM172.2.1 44 = .ok (.iconst 1, 1) := dz_ok (by decide +kernel)
theorem hsq_d45 : decode xM172.2.1 45 = .ok (.invokevirtual 99, 3) := dz_ok (by decide +kernel)
theorem hsq_d48 : decode xM172.2.1 48 = .ok (.isub, 1) := dz_ok (by decide +kernel)
theorem hsq_d49 : decode xM172.2.1 49 = .ok (.istore 9, 2) := dz_ok (by decide +kernel)
theorem hsq_d51 : decode xM172.2.1 51 = .ok (.iload 6, 2) := dz_ok (by decide +kernel)
theorem hsq_d53 : decode xM172.2.1 53 = .ok (.iload 6, 2) := dz_ok (by decide +kernel)
theorem hsq_d55 : decode xM172.2.1 55 = .ok (.imul, 1) := dz_ok (by decide +kernel)
theorem hsq_d56 : decode xM172.2.1 56 = .ok (.iload 7, 2) := dz_ok (by decide +kernel)
theorem hsq_d58 : decode xM172.2.1 58 = .ok (.iload 7, 2) := dz_ok (by decide +kernel)
theorem hsq_d60 : decode xM172.2.1 60 = .ok (.imul, 1) := dz_ok (by decide +kernel)
theorem hsq_d61 : decode xM172.2.1 61 = .ok (.iadd, 1) := dz_ok (by decide +kernel)
theorem hsq_d62 : decode xM172.2.1 62 = .ok (.istore 10, 2) := dz_ok (by decide +kernel)
theorem hsq_d64 : decode xM172.2.1 64 = .ok (.iload 8, 2) := dz_ok (by decide +kernel)
theorem hsq_d66 : decode xM172.2.1 66 = .ok (.iload 6, 2) := dz_ok (by decide +kernel)
theorem hsq_d68 : decode xM172.2.1 68 = .ok (.imul, 1) := dz_ok (by decide +kernel)
theorem hsq_d69 : decode xM172.2.1 69 = .ok (.iload 9, 2) := dz_ok (by decide +kernel)
theorem hsq_d71 : decode xM172.2.1 71 = .ok (.iload 7, 2) := dz_ok (by decide +kernel)
theorem hsq_d73 : decode xM172.2.1 73 = .ok (.imul, 1) := dz_ok (by decide +kernel)
theorem hsq_d74 : decode xM172.2.1 74 = .ok (.iadd, 1) := dz_ok (by decide +kernel)
theorem hsq_d75 : decode xM172.2.1 75 = .ok (.istore 11, 2) := dz_ok (by decide +kernel)
theorem hsq_d77 : decode xM172.2.1 77 = .ok (.iload 8, 2) := dz_ok (by decide +kernel)
theorem hsq_d79 : decode xM172.2.1 79 = .ok (.iload 7, 2) := dz_ok (by decide +kernel)
theorem hsq_d81 : decode xM172.2.1 81 = .ok (.imul, 1) := dz_ok (by decide +kernel)
theorem hsq_d82 : decode xM172.2.1 82 = .ok (.iload 9, 2) := dz_ok (by decide +kernel)
theorem hsq_d84 : decode xM172.2.1 84 = .ok (.iload 6, 2) := dz_ok (by decide +kernel)
theorem hsq_d86 : decode xM172.2.1 86 = .ok (.imul, 1) := dz_ok (by decide +kernel)
theorem hsq_d87 : decode xM172.2.1 87 = .ok (.isub, 1) := dz_ok (by decide +kernel)
theorem hsq_d88 : decode xM172.2.1 88 = .ok (.istore 12, 2) := dz_ok (by decide +kernel)
theorem hsq_d90 : decode xM172.2.1 90 = .ok (.iload 12, 2) := dz_ok (by decide +kernel)
theorem hsq_d92 : decode xM172.2.1 92 = .ok (.ifCond .ge 9, 3) := dz_ok (by decide +kernel)
theorem hsq_d95 : decode xM172.2.1 95 = .ok (.iload 12, 2) := dz_ok (by decide +kernel)
theorem hsq_d97 : decode xM172.2.1 97 = .ok (.ineg, 1) := dz_ok (by decide +kernel)
theorem hsq_d98 : decode xM172.2.1 98 = .ok (.goto 5, 3) := dz_ok (by decide +kernel)
theorem hsq_d101 : decode xM172.2.1 101 = .ok (.iload 12, 2) := dz_ok (by decide +kernel)
theorem hsq_d103 : decode xM172.2.1 103 = .ok (.istore 12, 2) := dz_ok (by decide +kernel)
theorem hsq_d105 : decode xM172.2.1 105 = .ok (.iload 6, 2) := dz_ok (by decide +kernel)
theorem hsq_d107 : decode xM172.2.1 107 = .ok (.ifCond .ge 9, 3) := dz_ok (by decide +kernel)
theorem hsq_d110 : decode xM172.2.1 110 = .ok (.iload 6, 2) := dz_ok (by decide +kernel)
theorem hsq_d112 : decode xM172.2.1 112 = .ok (.ineg, 1) := dz_ok (by decide +kernel)
theorem hsq_d113 : decode xM172.2.1 113 = .ok (.goto 5, 3) := dz_ok (by decide +kernel)
theorem hsq_d116 : decode xM172.2.1 116 = .ok (.iload 6, 2) := dz_ok (by decide +kernel)
theorem hsq_d118 : decode xM172.2.1 118 = .ok (.istore 13, 2) := dz_ok (by decide +kernel)
theorem hsq_d120 : decode xM172.2.1 120 = .ok (.iload 7, 2) := dz_ok (by decide +kernel)
theorem hsq_d122 : decode xM172.2.1 122 = .ok (.ifCond .ge 9, 3) := dz_ok (by decide +kernel)
theorem hsq_d125 : decode xM172.2.1 125 = .ok (.iload 7, 2) := dz_ok (by decide +kernel)
theorem hsq_d127 : decode xM172.2.1 127 = .ok (.ineg, 1) := dz_ok (by decide +kernel)
theorem hsq_d128 : decode xM172.2.1 128 = .ok (.goto 5, 3) := dz_ok (by decide +kernel)
theorem hsq_d131 : decode xM172.2.1 131 = .ok (.iload 7, 2) := dz_ok (by decide +kernel)
theorem hsq_d133 : decode xM172.2.1 133 = .ok (.istore 14, 2) := dz_ok (by decide +kernel)
theorem hsq_d135 : decode xM172.2.1 135 = .ok (.aload_n 0, 1) := dz_ok (by decide +kernel)
theorem hsq_d136 : decode xM172.2.1 136 = .ok (.getfield 7, 3) := dz_ok (by decide +kernel)
theorem hsq_d139 : decode xM172.2.1 139 = .ok (.bipush 6, 2) := dz_ok (by decide +kernel)
theorem hsq_d141 : decode xM172.2.1 141 = .ok (.iaload, 1) := dz_ok (by decide +kernel)
theorem hsq_d142 : decode xM172.2.1 142 = .ok (.iload 13, 2) := dz_ok (by decide +kernel)
theorem hsq_d144 : decode xM172.2.1 144 = .ok (.iload 14, 2) := dz_ok (by decide +kernel)
theorem hsq_d146 : decode xM172.2.1 146 = .ok (.if_icmp .le 8, 3) := dz_ok (by decide +kernel)
theorem hsq_d149 : decode xM172.2.1 149 = .ok (.iload 13, 2) := dz_ok (by decide +kernel)
theorem hsq_d151 : decode xM172.2.1 151 = .ok (.goto 5, 3) := dz_ok (by decide +kernel)
theorem hsq_d154 : decode xM172.2.1 154 = .ok (.iload 14, 2) := dz_ok (by decide +kernel)
theorem hsq_d156 : decode xM172.2.1 156 = .ok (.imul, 1) := dz_ok (by decide +kernel)
theorem hsq_d157 : decode xM172.2.1 157 = .ok (.istore 15, 2) := dz_ok (by decide +kernel)
theorem hsq_d159 : decode xM172.2.1 159 = .ok (.iload 11, 2) := dz_ok (by decide +kernel)
theorem hsq_d161 : decode xM172.2.1 161 = .ok (.ifCond .le 55, 3) := dz_ok (by decide +kernel)
theorem hsq_d164 : decode xM172.2.1 164 = .ok (.iload 11, 2) := dz_ok (by decide +kernel)
theorem hsq_d166 : decode xM172.2.1 166 = .ok (.iload 10, 2) := dz_ok (by decide +kernel)
theorem hsq_d168 : decode xM172.2.1 168 = .ok (.if_icmp .ge 48, 3) := dz_ok (by decide +kernel)
theorem hsq_d171 : decode xM172.2.1 171 = .ok (.iload 12, 2) := dz_ok (by decide +kernel)
theorem hsq_d173 : decode xM172.2.1 173 = .ok (.iload 15, 2) := dz_ok (by decide +kernel)
theorem hsq_d175 : decode xM172.2.1 175 = .ok (.if_icmp .gt 41, 3) := dz_ok (by decide +kernel)
theorem hsq_d178 : decode xM172.2.1 178 = .ok (.iload 5, 2) := dz_ok (by decide +kernel)
theorem hsq_d180 : decode xM172.2.1 180 = .ok (.iload 10, 2) := dz_ok (by decide +kernel)
theorem hsq_d182 : decode xM172.2.1 182 = .ok (.imul, 1) := dz_ok (by decide +kernel)
theorem hsq_d183 : decode xM172.2.1 183 = .ok (.aload_n 0, 1) := dz_ok (by decide +kernel)
theorem hsq_d184 : decode xM172.2.1 184 = .ok (.iload_n 1, 1) := dz_ok (by decide +kernel)
theorem hsq_d185 : decode xM172.2.1 185 = .ok (.iconst 2, 1) := dz_ok (by decide +kernel)
theorem hsq_d186 : decode xM172.2.1 186 = .ok (.invokevirtual 99, 3) := dz_ok (by decide +kernel)
theorem hsq_d189 : decode xM172.2.1 189 = .ok (.iload 10, 2) := dz_ok (by decide +kernel)
theorem hsq_d191 : decode xM172.2.1 191 = .ok (.imul, 1) := dz_ok (by decide +kernel)
theorem hsq_d192 : decode xM172.2.1 192 = .ok (.aload_n 0, 1) := dz_ok (by decide +kernel)
theorem hsq_d193 : decode xM172.2.1 193 = .ok (.iload_n 2, 1) := dz_ok (by decide +kernel)
theorem hsq_d194 : decode xM172.2.1 194 = .ok (.iconst 2, 1) := dz_ok (by decide +kernel)
theorem hsq_d195 : decode xM172.2.1 195 = .ok (.invokevirtual 99, 3) := dz_ok (by decide +kernel)
theorem hsq_d198 : decode xM172.2.1 198 = .ok (.aload_n 0, 1) := dz_ok (by decide +kernel)
theorem hsq_d199 : decode xM172.2.1 199 = .ok (.iload_n 1, 1) := dz_ok (by decide +kernel)
theorem hsq_d200 : decode xM172.2.1 200 = .ok (.iconst 2, 1) := dz_ok (by decide +kernel)
theorem hsq_d201 : decode xM172.2.1 201 = .ok (.invokevirtual 99, 3) := dz_ok (by decide +kernel)
theorem hsq_d204 : decode xM172.2.1 204 = .ok (.isub, 1) := dz_ok (by decide +kernel)
theorem hsq_d205 : decode xM172.2.1 205 = .ok (.iload 11, 2) := dz_ok (by decide +kernel)
theorem hsq_d207 : decode xM172.2.1 207 = .ok (.imul, 1) := dz_ok (by decide +kernel)
theorem hsq_d208 : decode xM172.2.1 208 = .ok (.iadd, 1) := dz_ok (by decide +kernel)
theorem hsq_d209 : decode xM172.2.1 209 = .ok (.if_icmp .le 7, 3) := dz_ok (by decide +kernel)
theorem hsq_d212 : decode xM172.2.1 212 = .ok (.iconst 1, 1) := dz_ok (by decide +kernel)
theorem hsq_d213 : decode xM172.2.1 213 = .ok (.goto 4, 3) := dz_ok (by decide +kernel)
theorem hsq_d216 : decode xM172.2.1 216 = .ok (.iconst 0, 1) := dz_ok (by decide +kernel)
theorem hsq_d217 : decode xM172.2.1 217 = .ok (.ireturn, 1) := dz_ok (by decide +kernel)
theorem hsq_L159 {p : Program} {l : Launch} {e : Env} {s : State} {m : MethodId} {below : List Frame} {meth : Method} {c : Code} {D : va_G} {U : State} {Y0 : xY} {av : List Value} (B : y_B vwCl x_Tb x_Nb xM172 p s m meth c D U Y0 av) {this bk : Nat} {a b x y h : Int32} {fb : Nat → Int32} (hav : av = [.ref this, .int a, .int b, .int x, .int y, .int h]) (hs0 : x_sl D 12 0 this s.heap = some (.ref bk)) (hA0 : y_A bk 160 s.heap fb) (hcn : z_c fb) (ha9 : 0 ≤ a.toInt ∧ a.toInt ≤ 9) (hb9 : 0 ≤ b.toInt ∧ b.toInt ≤ 9)  :
    ∀ (H : Heap) (Y : xY) (locs : List Loc) (ls : Array Slot) (wd : Int32) (s9 : Int32) (al : Int32) (d : Int32), x_I D x_G x_Zs U (x_efs xM172) Y0 s.heap Y H locs → Y this = some 17 → Y bk = some 46 → x_sl D 12 0 this H = some (.ref bk) → y_A bk 160 H fb → lv_has ls xM172.2.2.1 [(15, .int wd), (12, .int s9), (11, .int al), (10, .int d), (0, .ref this), (1, .int a), (2, .int b), (3, .int x), (4, .int y), (5, .int h)] → (wd = m_rw fb a.toInt.toNat b.toInt.toNat) → (s9 = m_rs fb a.toInt.toNat b.toInt.toNat x y) → (al = m_ra fb a.toInt.toNat b.toInt.toNat x y) → (d = m_rd fb a.toInt.toNat b.toInt.toNat) → W p l e (x_rm xM172) s m av.toArray below meth c H locs 0 0 (y_QQ below D x_G x_Zs U xM172 z_Phs av Y0 s) (F0 m 159 ls []) := by
  have X := B.1
  have hx := X.1
  have hb := X.2.1
  have hY0 := B.2.2.2.2.1
  intro H Y locs ls wd s9 al d  hI hY_this hY_bk hs_bk hA_bk hl hwd hs9 hal hd9
  refine lv_iload hx hb hsq_d159 (lv_at hl 2 rfl) ?_
  have ec0 : (0 : Int32).toInt = 0 := by decide
  refine lv_if_le hx hb hsq_d161 (tgt := 216) (by decide) (fun q161 => ?_) (fun q161 => ?_)
  · have q161_ : al.toInt ≤ (0 : Int32).toInt := x_le32.mp q161
    refine lv_iconst hx hb hsq_d216 (v := 0) (by decide) ?_
    have hfin : m_hs fb a.toInt.toNat b.toInt.toNat x y h = false := by unfold m_hs; rw [← hal, ← hd9, ← hs9, ← hwd]; first | (rw [decide_eq_false (show ¬ 0 < al.toInt by omega)]; rfl) | (rw [decide_eq_true (show 0 < al.toInt by omega), decide_eq_false (show ¬ al.toInt < d.toInt by omega)]; rfl) | (rw [decide_eq_true (show 0 < al.toInt by omega), decide_eq_true (show al.toInt < d.toInt by omega), decide_eq_false (show ¬ s9.toInt ≤ wd.toInt by omega)]; rfl) | (rw [decide_eq_true (show 0 < al.toInt by omega), decide_eq_true (show al.toInt < d.toInt by omega), decide_eq_true (show s9.toInt ≤ wd.toInt by omega)]; show decide _ = false; exact decide_eq_false (by rw [hg_r186, hg_r195, hg_z191, show r186 = r201 from hg_r186.symm.trans hg_r201, hg_z204, hg_z207, hg_z208, hg_z182]; omega))
    subst hav
    exact y_ireturn B hI rfl rfl rfl (List.mem_cons_of_mem _ List.mem_cons_self) ⟨_, rfl, ⟨_, rfl, by decide, by decide⟩⟩ (x_cs.mono B.2.2.2.2.2 (y_mon B hI)) (fun t' b' w0' w1' w2' w3' w4' f' h1 h2 h3 h4 => by cases h1; cases h2.symm.trans hs0; cases z_uniq h4 hA0 h3 hcn; rw [hfin]; rfl) (Nat.le_refl _) (Nat.le_refl _) hsq_d217
  · have q161_ : (0 : Int32).toInt < al.toInt := Int.not_le.mp fun q => q161 (x_le32.mpr q)
    refine lv_iload hx hb hsq_d164 (lv_at hl 2 rfl) ?_
    refine lv_iload hx hb hsq_d166 (lv_at hl 3 rfl) ?_
    refine lv_icmp_ge hx hb hsq_d168 (tgt := 216) (by decide) (fun q168 => ?_) (fun q168 => ?_)
    · have q168_ : d.toInt ≤ al.toInt := x_le32.mp q168
      refine lv_iconst hx hb hsq_d216 (v := 0) (by decide) ?_
      have hfin : m_hs fb a.toInt.toNat b.toInt.toNat x y h = false := by unfold m_hs; rw [← hal, ← hd9, ← hs9, ← hwd]; first | (rw [decide_eq_false (show ¬ 0 < al.toInt by omega)]; rfl) | (rw [decide_eq_true (show 0 < al.toInt by omega), decide_eq_false (show ¬ al.toInt < d.toInt by omega)]; rfl) | (rw [decide_eq_true (show 0 < al.toInt by omega), decide_eq_true (show al.toInt < d.toInt by omega), decide_eq_false (show ¬ s9.toInt ≤ wd.toInt by omega)]; rfl) | (rw [decide_eq_true (show 0 < al.toInt by omega), decide_eq_true (show al.toInt < d.toInt by omega), decide_eq_true (show s9.toInt ≤ wd.toInt by omega)]; show decide _ = false; exact decide_eq_false (by rw [hg_r186, hg_r195, hg_z191, show r186 = r201 from hg_r186.symm.trans hg_r201, hg_z204, hg_z207, hg_z208, hg_z182]; omega))
      subst hav
      exact y_ireturn B hI rfl rfl rfl (List.mem_cons_of_mem _ List.mem_cons_self) ⟨_, rfl, ⟨_, rfl, by decide, by decide⟩⟩ (x_cs.mono B.2.2.2.2.2 (y_mon B hI)) (fun t' b' w0' w1' w2' w3' w4' f' h1 h2 h3 h4 => by cases h1; cases h2.symm.trans hs0; cases z_uniq h4 hA0 h3 hcn; rw [hfin]; rfl) (Nat.le_refl _) (Nat.le_refl _) hsq_d217
    · have q168_ : al.toInt < d.toInt := Int.not_le.mp fun q => q168 (x_le32.mpr q)
      refine lv_iload hx hb hsq_d171 (lv_at hl 1 rfl) ?_
      refine lv_iload hx hb hsq_d173 (lv_at hl 0 rfl) ?_
      refine lv_icmp_gt hx hb hsq_d175 (tgt := 216) (by decide) (fun q175 => ?_) (fun q175 => ?_)
      · have q175_ : wd.toInt < s9.toInt := x_lt32.mp q175
        refine lv_iconst hx hb hsq_d216 (v := 0) (by decide) ?_
        have hfin : m_hs fb a.toInt.toNat b.toInt.toNat x y h = false := by unfold m_hs; rw [← hal, ← hd9, ← hs9, ← hwd]; first | (rw [decide_eq_false (show ¬ 0 < al.toInt by omega)]; rfl) | (rw [decide_eq_true (show 0 < al.toInt by omega), decide_eq_false (show ¬ al.toInt < d.toInt by omega)]; rfl) | (rw [decide_eq_true (show 0 < al.toInt by omega), decide_eq_true (show al.toInt < d.toInt by omega), decide_eq_false (show ¬ s9.toInt ≤ wd.toInt by omega)]; rfl) | (rw [decide_eq_true (show 0 < al.toInt by omega), decide_eq_true (show al.toInt < d.toInt by omega), decide_eq_true (show s9.toInt ≤ wd.toInt by omega)]; show decide _ = false; exact decide_eq_false (by rw [hg_r186, hg_r195, hg_z191, show r186 = r201 from hg_r186.symm.trans hg_r201, hg_z204, hg_z207, hg_z208, hg_z182]; omega))
        subst hav
        exact y_ireturn B hI rfl rfl rfl (List.mem_cons_of_mem _ List.mem_cons_self) ⟨_, rfl, ⟨_, rfl, by decide, by decide⟩⟩ (x_cs.mono B.2.2.2.2.2 (y_mon B hI)) (fun t' b' w0' w1' w2' w3' w4' f' h1 h2 h3 h4 => by cases h1; cases h2.symm.trans hs0; cases z_uniq h4 hA0 h3 hcn; rw [hfin]; rfl) (Nat.le_refl _) (Nat.le_refl _) hsq_d217
      · have q175_ : s9.toInt ≤ wd.toInt := Int.not_lt.mp fun q => q175 (x_lt32.mpr q)
        refine lv_iload hx hb hsq_d178 (lv_at hl 9 rfl) ?_
        refine lv_iload hx hb hsq_d180 (lv_at hl 3 rfl) ?_
        refine lv_imul hx hb hsq_d182 ?_
        generalize hg_z182 : h * d = z182
        refine lv_aload_n hx hb hsq_d183 rfl (lv_at hl 4 rfl) ?_
        refine lv_iload_n hx hb hsq_d184 rfl (lv_at hl 5 rfl) ?_
        refine lv_iconst hx hb hsq_d185 (v := 2) (by decide) ?_
        have ec2 : (2 : Int32).toInt = 2 := by decide
        refine y_call (z := (0, 99, 3, some 17, xM145)) (av := [.ref this, .int a, .int (2 : Int32)]) (rest := [.int z182]) (y_cokV (n := 2) (ci := 12) X ym_ofHill rfl rfl rfl (x_cons (x_bw67 15 rfl rfl) (x_cons (x_bw68 1 rfl rfl) (x_cons (x_at 31 (by decide +kernel) rfl) (x_cons (x_bw0 9 rfl rfl) x_nilm)))) (x_bw68 2 rfl rfl) (by decide +kernel) ⟨Nat.le_of_ble_eq_true rfl, Nat.le_of_ble_eq_true rfl⟩) hY0 hI rfl hsq_d186 hl.1 (Nat.le_of_ble_eq_true rfl) (Nat.le_of_ble_eq_true rfl) (Nat.le_of_ble_eq_true rfl) (y_cons (y_cref hY_this rfl) (y_cons ⟨_, rfl, by show (0 : Int) ≤ _; omega, by show _ ≤ (9 : Int); omega⟩ (y_cons ⟨_, rfl, by show (0 : Int) ≤ _; omega, by show _ ≤ (4 : Int); omega⟩ y_nil))) rfl (y_recv rfl hY_this) trivial (y_sub_ef rfl) fun v Yn o Hn L ho hr ha hIn hx_ hE hP => ?_
        have hPo := hP _ _ _ _ _ rfl hs_bk hA_bk
        replace hs_bk := y_Efld hE hY_this rfl (by decide) (by decide) hs_bk
        replace hA_bk := hA_bk.kept (y_Earr hE hY_bk rfl (by decide))
        replace hY_this := y_ext hx_ hI.1 hY_this
        replace hY_bk := y_ext hx_ hI.1 hY_bk
        obtain ⟨r186, hg_r186⟩ : ∃ r186 : Int32, fb (10 + 5 * (a).toInt.toNat + ((2 : Int32)).toInt.toNat) = r186 := ⟨_, rfl⟩
        rw [hg_r186] at hPo
        obtain rfl := hPo
        clear ho hr ha hE hP hI hx_
        rename x_I _ _ _ _ _ _ _ _ _ _ => hI
        replace hg_r186 : fb (12 + 5 * a.toInt.toNat) = r186 := by rw [← hg_r186]; exact congrArg _ (by rw [show (2 : Int32).toInt.toNat = 2 by decide]; omega)
        refine lv_iload hx hb hsq_d189 (lv_at hl 3 rfl) ?_
        refine lv_imul hx hb hsq_d191 ?_
        generalize hg_z191 : r186 * d = z191
        refine lv_aload_n hx hb hsq_d192 rfl (lv_at hl 4 rfl) ?_
        refine lv_iload_n hx hb hsq_d193 rfl (lv_at hl 6 rfl) ?_
        refine lv_iconst hx hb hsq_d194 (v := 2) (by decide) ?_
        refine y_call (z := (0, 99, 3, some 17, xM145)) (av := [.ref this, .int b, .int (2 : Int32)]) (rest := [.int z191, .int z182]) (y_cokV (n := 2) (ci := 12) X ym_ofHill rfl rfl rfl (x_cons (x_bw67 15 rfl rfl) (x_cons (x_bw68 1 rfl rfl) (x_cons (x_at 31 (by decide +kernel) rfl) (x_cons (x_bw0 9 rfl rfl) x_nilm)))) (x_bw68 2 rfl rfl) (by decide +kernel) ⟨Nat.le_of_ble_eq_true rfl, Nat.le_of_ble_eq_true rfl⟩) hY0 hI rfl hsq_d195 hl.1 (Nat.le_of_ble_eq_true rfl) (Nat.le_of_ble_eq_true rfl) (Nat.le_of_ble_eq_true rfl) (y_cons (y_cref hY_this rfl) (y_cons ⟨_, rfl, by show (0 : Int) ≤ _; omega, by show _ ≤ (9 : Int); omega⟩ (y_cons ⟨_, rfl, by show (0 : Int) ≤ _; omega, by show _ ≤ (4 : Int); omega⟩ y_nil))) rfl (y_recv rfl hY_this) trivial (y_sub_ef rfl) fun v Yn o Hn L ho hr ha hIn hx_ hE hP => ?_
        have hPo := hP _ _ _ _ _ rfl hs_bk hA_bk
        replace hs_bk := y_Efld hE hY_this rfl (by decide) (by decide) hs_bk
        replace hA_bk := hA_bk.kept (y_Earr hE hY_bk rfl (by decide))
        replace hY_this := y_ext hx_ hI.1 hY_this
        replace hY_bk := y_ext hx_ hI.1 hY_bk
        obtain ⟨r195, hg_r195⟩ : ∃ r195 : Int32, fb (10 + 5 * (b).toInt.toNat + ((2 : Int32)).toInt.toNat) = r195 := ⟨_, rfl⟩
        rw [hg_r195] at hPo
        obtain rfl := hPo
        clear ho hr ha hE hP hI hx_
        rename x_I _ _ _ _ _ _ _ _ _ _ => hI
        replace hg_r195 : fb (12 + 5 * b.toInt.toNat) = r195 := by rw [← hg_r195]; exact congrArg _ (by rw [show (2 : Int32).toInt.toNat = 2 by decide]; omega)
        refine lv_aload_n hx hb hsq_d198 rfl (lv_at hl 4 rfl) ?_
        refine lv_iload_n hx hb hsq_d199 rfl (lv_at hl 5 rfl) ?_
        refine lv_iconst hx hb hsq_d200 (v := 2) (by decide) ?_
        refine y_call (z := (0, 99, 3, some 17, xM145)) (av := [.ref this, .int a, .int (2 : Int32)]) (rest := [.int r195, .int z191, .int z182]) (y_cokV (n := 2) (ci := 12) X ym_ofHill rfl rfl rfl (x_cons (x_bw67 15 rfl rfl) (x_cons (x_bw68 1 rfl rfl) (x_cons (x_at 31 (by decide +kernel) rfl) (x_cons (x_bw0 9 rfl rfl) x_nilm)))) (x_bw68 2 rfl rfl) (by decide +kernel) ⟨Nat.le_of_ble_eq_true rfl, Nat.le_of_ble_eq_true rfl⟩) hY0 hI rfl hsq_d201 hl.1 (Nat.le_of_ble_eq_true rfl) (Nat.le_of_ble_eq_true rfl) (Nat.le_of_ble_eq_true rfl) (y_cons (y_cref hY_this rfl) (y_cons ⟨_, rfl, by show (0 : Int) ≤ _; omega, by show _ ≤ (9 : Int); omega⟩ (y_cons ⟨_, rfl, by show (0 : Int) ≤ _; omega, by show _ ≤ (4 : Int); omega⟩ y_nil))) rfl (y_recv rfl hY_this) trivial (y_sub_ef rfl) fun v Yn o Hn L ho hr ha hIn hx_ hE hP => ?_
        have hPo := hP _ _ _ _ _ rfl hs_bk hA_bk
        replace hs_bk := y_Efld hE hY_this rfl (by decide) (by decide) hs_bk
        replace hA_bk := hA_bk.kept (y_Earr hE hY_bk rfl (by decide))
        replace hY_this := y_ext hx_ hI.1 hY_this
        replace hY_bk := y_ext hx_ hI.1 hY_bk
        obtain ⟨r201, hg_r201⟩ : ∃ r201 : Int32, fb (10 + 5 * (a).toInt.toNat + ((2 : Int32)).toInt.toNat) = r201 := ⟨_, rfl⟩
        rw [hg_r201] at hPo
        obtain rfl := hPo
        clear ho hr ha hE hP hI hx_
        rename x_I _ _ _ _ _ _ _ _ _ _ => hI
        replace hg_r201 : fb (12 + 5 * a.toInt.toNat) = r201 := by rw [← hg_r201]; exact congrArg _ (by rw [show (2 : Int32).toInt.toNat = 2 by decide]; omega)
        refine lv_isub hx hb hsq_d204 ?_
        generalize hg_z204 : r195 - r201 = z204
        refine lv_iload hx hb hsq_d205 (lv_at hl 2 rfl) ?_
        refine lv_imul hx hb hsq_d207 ?_
        generalize hg_z207 : z204 * al = z207
        refine lv_iadd hx hb hsq_d208 ?_
        generalize hg_z208 : z191 + z207 = z208
        refine lv_icmp_le hx hb hsq_d209 (tgt := 216) (by decide) (fun q209 => ?_) (fun q209 => ?_)
        · have q209_ : z182.toInt ≤ z208.toInt := x_le32.mp q209
          refine lv_iconst hx hb hsq_d216 (v := 0) (by decide) ?_
          have hfin : m_hs fb a.toInt.toNat b.toInt.toNat x y h = false := by unfold m_hs; rw [← hal, ← hd9, ← hs9, ← hwd]; first | (rw [decide_eq_false (show ¬ 0 < al.toInt by omega)]; rfl) | (rw [decide_eq_true (show 0 < al.toInt by omega), decide_eq_false (show ¬ al.toInt < d.toInt by omega)]; rfl) | (rw [decide_eq_true (show 0 < al.toInt by omega), decide_eq_true (show al.toInt < d.toInt by omega), decide_eq_false (show ¬ s9.toInt ≤ wd.toInt by omega)]; rfl) | (rw [decide_eq_true (show 0 < al.toInt by omega), decide_eq_true (show al.toInt < d.toInt by omega), decide_eq_true (show s9.toInt ≤ wd.toInt by omega)]; show decide _ = false; exact decide_eq_false (by rw [hg_r186, hg_r195, hg_z191, show r186 = r201 from hg_r186.symm.trans hg_r201, hg_z204, hg_z207, hg_z208, hg_z182]; omega))
          subst hav
          exact y_ireturn B hI rfl rfl rfl (List.mem_cons_of_mem _ List.mem_cons_self) ⟨_, rfl, ⟨_, rfl, by decide, by decide⟩⟩ (x_cs.mono B.2.2.2.2.2 (y_mon B hI)) (fun t' b' w0' w1' w2' w3' w4' f' h1 h2 h3 h4 => by cases h1; cases h2.symm.trans hs0; cases z_uniq h4 hA0 h3 hcn; rw [hfin]; rfl) (Nat.le_refl _) (Nat.le_refl _) hsq_d217
        · have q209_ : z208.toInt < z182.toInt := Int.not_le.mp fun q => q209 (x_le32.mpr q)
          refine lv_iconst hx hb hsq_d212 (v := 1) (by decide) ?_
          have ec1 : (1 : Int32).toInt = 1 := by decide
          refine lv_goto hx hb hsq_d213 (tgt := 217) (by decide) ?_
          have hfin : m_hs fb a.toInt.toNat b.toInt.toNat x y h = true := by unfold m_hs; rw [← hal, ← hd9, ← hs9, ← hwd]; rw [decide_eq_true (show 0 < al.toInt by omega), decide_eq_true (show al.toInt < d.toInt by omega), decide_eq_true (show s9.toInt ≤ wd.toInt by omega)]; show decide _ = true; exact decide_eq_true (by rw [hg_r186, hg_r195, hg_z191, show r186 = r201 from hg_r186.symm.trans hg_r201, hg_z204, hg_z207, hg_z208, hg_z182]; omega)
          subst hav
          exact y_ireturn B hI rfl rfl rfl List.mem_cons_self ⟨_, rfl, ⟨_, rfl, by decide, by decide⟩⟩ (x_cs.mono B.2.2.2.2.2 (y_mon B hI)) (fun t' b' w0' w1' w2' w3' w4' f' h1 h2 h3 h4 => by cases h1; cases h2.symm.trans hs0; cases z_uniq h4 hA0 h3 hcn; rw [hfin]; rfl) (Nat.le_refl _) (Nat.le_refl _) hsq_d217
theorem hsq_L135 {p : Program} {l : Launch} {e : Env} {s : State} {m : MethodId} {below : List Frame} {meth : Method} {c : Code} {D : va_G} {U : State} {Y0 : xY} {av : List Value} (B : y_B vwCl x_Tb x_Nb xM172 p s m meth c D U Y0 av) {this bk : Nat} {a b x y h : Int32} {fb : Nat → Int32} (hav : av = [.ref this, .int a, .int b, .int x, .int y, .int h]) (hs0 : x_sl D 12 0 this s.heap = some (.ref bk)) (hA0 : y_A bk 160 s.heap fb) (hcn : z_c fb) (ha9 : 0 ≤ a.toInt ∧ a.toInt ≤ 9) (hb9 : 0 ≤ b.toInt ∧ b.toInt ≤ 9)  :
    ∀ (H : Heap) (Y : xY) (locs : List Loc) (ls : Array Slot) (wy : Int32) (wx : Int32) (s9 : Int32) (al : Int32) (d : Int32), x_I D x_G x_Zs U (x_efs xM172) Y0 s.heap Y H locs → Y this = some 17 → Y bk = some 46 → x_sl D 12 0 this H = some (.ref bk) → y_A bk 160 H fb → lv_has ls xM172.2.2.1 [(14, .int wy), (13, .int wx), (12, .int s9), (11, .int al), (10, .int d), (0, .ref this), (1, .int a), (2, .int b), (3, .int x), (4, .int y), (5, .int h)] → (wy = m_ab2 (m_dy fb a.toInt.toNat b.toInt.toNat)) → (wx = m_ab2 (m_dx fb a.toInt.toNat b.toInt.toNat)) → (s9 = m_rs fb a.toInt.toNat b.toInt.toNat x y) → (al = m_ra fb a.toInt.toNat b.toInt.toNat x y) → (d = m_rd fb a.toInt.toNat b.toInt.toNat) → W p l e (x_rm xM172) s m av.toArray below meth c H locs 0 0 (y_QQ below D x_G x_Zs U xM172 z_Phs av Y0 s) (F0 m 135 ls []) := by
  have X := B.1
  have hx := X.1
  have hb := X.2.1
  have hY0 := B.2.2.2.2.1
  intro H Y locs ls wy wx s9 al d  hI hY_this hY_bk hs_bk hA_bk hl hwy hwx hs9 hal hd9
  refine lv_aload_n hx hb hsq_d135 rfl (lv_at hl 5 rfl) ?_
  refine y_getf X (fl190 X.2.2.2.2.1) hI.1 hY_this rfl hs_bk hsq_d136 ?_
  refine lv_bipush hx hb hsq_d139 (v := 6) (by decide) ?_
  have ec6 : (6 : Int32).toInt = 6 := by decide
  refine y_iald X hI.1 hY_bk rfl hA_bk (by omega) (by show _ < (160 : Int); omega) hsq_d141 ?_
  obtain ⟨e141, hg_e141⟩ : ∃ e141 : Int32, fb (6 : Int32).toInt.toNat = e141 := ⟨_, rfl⟩
  rw [hg_e141]
  refine lv_iload hx hb hsq_d142 (lv_at hl 1 rfl) ?_
  refine lv_iload hx hb hsq_d144 (lv_at hl 0 rfl) ?_
  refine lv_icmp_le hx hb hsq_d146 (tgt := 154) (by decide) (fun q146 => ?_) (fun q146 => ?_)
  · have q146_ : wx.toInt ≤ wy.toInt := x_le32.mp q146
    refine lv_iload hx hb hsq_d154 (lv_at hl 0 rfl) ?_
    refine lv_imul hx hb hsq_d156 ?_
    generalize hg_z156 : e141 * wy = z156
    refine lv_istore hx hb hsq_d157 hl (by decide) (lv' := [(15, .int z156), (14, .int wy), (13, .int wx), (12, .int s9), (11, .int al), (10, .int d), (0, .ref this), (1, .int a), (2, .int b), (3, .int x), (4, .int y), (5, .int h)]) rfl fun ls hl => ?_
    have hwd : z156 = m_rw fb a.toInt.toNat b.toInt.toNat := by unfold m_rw m_mx2; rw [← hwx, ← hwy, show fb 6 = e141 from hg_e141, ← hg_z156]; first | rw [if_pos (x_lt32.mpr (by omega))] | rw [if_neg (fun q => by have := x_lt32.mp q; omega)]
    exact hsq_L159 B hav hs0 hA0 hcn ha9 hb9 _ _ _ _ _ _ _ _ hI hY_this hY_bk hs_bk hA_bk (lv_sub hl [0, 3, 4, 5, 6, 7, 8, 9, 10, 11] rfl) (by first | assumption | omega) (by first | assumption | omega) (by first | assumption | omega) (by first | assumption | omega)
  · have q146_ : wy.toInt < wx.toInt := Int.not_le.mp fun q => q146 (x_le32.mpr q)
    refine lv_iload hx hb hsq_d149 (lv_at hl 1 rfl) ?_
    refine lv_goto hx hb hsq_d151 (tgt := 156) (by decide) ?_
    refine lv_imul hx hb hsq_d156 ?_
    generalize hg_z156 : e141 * wx = z156
    refine lv_istore hx hb hsq_d157 hl (by decide) (lv' := [(15, .int z156), (14, .int wy), (13, .int wx), (12, .int s9), (11, .int al), (10, .int d), (0, .ref this), (1, .int a), (2, .int b), (3, .int x), (4, .int y), (5, .int h)]) rfl fun ls hl => ?_
    have hwd : z156 = m_rw fb a.toInt.toNat b.toInt.toNat := by unfold m_rw m_mx2; rw [← hwx, ← hwy, show fb 6 = e141 from hg_e141, ← hg_z156]; first | rw [if_pos (x_lt32.mpr (by omega))] | rw [if_neg (fun q => by have := x_lt32.mp q; omega)]
    exact hsq_L159 B hav hs0 hA0 hcn ha9 hb9 _ _ _ _ _ _ _ _ hI hY_this hY_bk hs_bk hA_bk (lv_sub hl [0, 3, 4, 5, 6, 7, 8, 9, 10, 11] rfl) (by first | assumption | omega) (by first | assumption | omega) (by first | assumption | omega) (by first | assumption | omega)
theorem hsq_L120 {p : Program} {l : Launch} {e : Env} {s : State} {m : MethodId} {below : List Frame} {meth : Method} {c : Code} {D : va_G} {U : State} {Y0 : xY} {av : List Value} (B : y_B vwCl x_Tb x_Nb xM172 p s m meth c D U Y0 av) {this bk : Nat} {a b x y h : Int32} {fb : Nat → Int32} (hav : av = [.ref this, .int a, .int b, .int x, .int y, .int h]) (hs0 : x_sl D 12 0 this s.heap = some (.ref bk)) (hA0 : y_A bk 160 s.heap fb) (hcn : z_c fb) (ha9 : 0 ≤ a.toInt ∧ a.toInt ≤ 9) (hb9 : 0 ≤ b.toInt ∧ b.toInt ≤ 9)  :
    ∀ (H : Heap) (Y : xY) (locs : List Loc) (ls : Array Slot) (wx : Int32) (s9 : Int32) (al : Int32) (d : Int32) (dy : Int32), x_I D x_G x_Zs U (x_efs xM172) Y0 s.heap Y H locs → Y this = some 17 → Y bk = some 46 → x_sl D 12 0 this H = some (.ref bk) → y_A bk 160 H fb → lv_has ls xM172.2.2.1 [(13, .int wx), (12, .int s9), (11, .int al), (10, .int d), (7, .int dy), (0, .ref this), (1, .int a), (2, .int b), (3, .int x), (4, .int y), (5, .int h)] → (wx = m_ab2 (m_dx fb a.toInt.toNat b.toInt.toNat)) → (s9 = m_rs fb a.toInt.toNat b.toInt.toNat x y) → (al = m_ra fb a.toInt.toNat b.toInt.toNat x y) → (d = m_rd fb a.toInt.toNat b.toInt.toNat) → (dy = m_dy fb a.toInt.toNat b.toInt.toNat) → W p l e (x_rm xM172) s m av.toArray below meth c H locs 0 0 (y_QQ below D x_G x_Zs U xM172 z_Phs av Y0 s) (F0 m 120 ls []) := by
  have X := B.1
  have hx := X.1
  have hb := X.2.1
  have hY0 := B.2.2.2.2.1
  intro H Y locs ls wx s9 al d dy  hI hY_this hY_bk hs_bk hA_bk hl hwx hs9 hal hd9 hdy
  refine lv_iload hx hb hsq_d120 (lv_at hl 4 rfl) ?_
  have ec0 : (0 : Int32).toInt = 0 := by decide
  refine lv_if_ge hx hb hsq_d122 (tgt := 131) (by decide) (fun q122 => ?_) (fun q122 => ?_)
  · have q122_ : (0 : Int32).toInt ≤ dy.toInt := x_le32.mp q122
    refine lv_iload hx hb hsq_d131 (lv_at hl 4 rfl) ?_
    refine lv_istore hx hb hsq_d133 hl (by decide) (lv' := [(14, .int dy), (13, .int wx), (12, .int s9), (11, .int al), (10, .int d), (7, .int dy), (0, .ref this), (1, .int a), (2, .int b), (3, .int x), (4, .int y), (5, .int h)]) rfl fun ls hl => ?_
    have hwy : dy = m_ab2 (m_dy fb a.toInt.toNat b.toInt.toNat) := by unfold m_ab2; rw [← hdy]; first | (rw [if_pos (x_lt32.mpr (by omega))]; exact hg_z127.symm) | (rw [if_neg (fun q => by have := x_lt32.mp q; omega)])
    exact hsq_L135 B hav hs0 hA0 hcn ha9 hb9 _ _ _ _ _ _ _ _ _ hI hY_this hY_bk hs_bk hA_bk (lv_sub hl [0, 1, 2, 3, 4, 6, 7, 8, 9, 10, 11] rfl) (by first | assumption | omega) (by first | assumption | omega) (by first | assumption | omega) (by first | assumption | omega) (by first | assumption | omega)
  · have q122_ : dy.toInt < (0 : Int32).toInt := Int.not_le.mp fun q => q122 (x_le32.mpr q)
    refine lv_iload hx hb hsq_d125 (lv_at hl 4 rfl) ?_
    refine lv_ineg hx hb hsq_d127 ?_
    generalize hg_z127 : -dy = z127
    refine lv_goto hx hb hsq_d128 (tgt := 133) (by decide) ?_
    refine lv_istore hx hb hsq_d133 hl (by decide) (lv' := [(14, .int z127), (13, .int wx), (12, .int s9), (11, .int al), (10, .int d), (7, .int dy), (0, .ref this), (1, .int a), (2, .int b), (3, .int x), (4, .int y), (5, .int h)]) rfl fun ls hl => ?_
    have hwy : z127 = m_ab2 (m_dy fb a.toInt.toNat b.toInt.toNat) := by unfold m_ab2; rw [← hdy]; first | (rw [if_pos (x_lt32.mpr (by omega))]; exact hg_z127.symm) | (rw [if_neg (fun q => by have := x_lt32.mp q; omega)])
    exact hsq_L135 B hav hs0 hA0 hcn ha9 hb9 _ _ _ _ _ _ _ _ _ hI hY_this hY_bk hs_bk hA_bk (lv_sub hl [0, 1, 2, 3, 4, 6, 7, 8, 9, 10, 11] rfl) (by first | assumption | omega) (by first | assumption | omega) (by first | assumption | omega) (by first | assumption | omega) (by first | assumption | omega)
theorem hsq_L105 {p : Program} {l : Launch} {e : Env} {s : State} {m : MethodId} {below : List Frame} {meth : Method} {c : Code} {D : va_G} {U : State} {Y0 : xY} {av : List Value} (B : y_B vwCl x_Tb x_Nb xM172 p s m meth c D U Y0 av) {this bk : Nat} {a b x y h : Int32} {fb : Nat → Int32} (hav : av = [.ref this, .int a, .int b, .int x, .int y, .int h]) (hs0 : x_sl D 12 0 this s.heap = some (.ref bk)) (hA0 : y_A bk 160 s.heap fb) (hcn : z_c fb) (ha9 : 0 ≤ a.toInt ∧ a.toInt ≤ 9) (hb9 : 0 ≤ b.toInt ∧ b.toInt ≤ 9)  :
    ∀ (H : Heap) (Y : xY) (locs : List Loc) (ls : Array Slot) (s9 : Int32) (al : Int32) (d : Int32) (dy : Int32) (dx : Int32), x_I D x_G x_Zs U (x_efs xM172) Y0 s.heap Y H locs → Y this = some 17 → Y bk = some 46 → x_sl D 12 0 this H = some (.ref bk) → y_A bk 160 H fb → lv_has ls xM172.2.2.1 [(12, .int s9), (11, .int al), (10, .int d), (7, .int dy), (6, .int dx), (0, .ref this), (1, .int a), (2, .int b), (3, .int x), (4, .int y), (5, .int h)] → (s9 = m_rs fb a.toInt.toNat b.toInt.toNat x y) → (al = m_ra fb a.toInt.toNat b.toInt.toNat x y) → (d = m_rd fb a.toInt.toNat b.toInt.toNat) → (dy = m_dy fb a.toInt.toNat b.toInt.toNat) → (dx = m_dx fb a.toInt.toNat b.toInt.toNat) → W p l e (x_rm xM172) s m av.toArray below meth c H locs 0 0 (y_QQ below D x_G x_Zs U xM172 z_Phs av Y0 s) (F0 m 105 ls []) := by
  have X := B.1
  have hx := X.1
  have hb := X.2.1
  have hY0 := B.2.2.2.2.1
  intro H Y locs ls s9 al d dy dx  hI hY_this hY_bk hs_bk hA_bk hl hs9 hal hd9 hdy hdx
  refine lv_iload hx hb hsq_d105 (lv_at hl 4 rfl) ?_
  have ec0 : (0 : Int32).toInt = 0 := by decide
  refine lv_if_ge hx hb hsq_d107 (tgt := 116) (by decide) (fun q107 => ?_) (fun q107 => ?_)
  · have q107_ : (0 : Int32).toInt ≤ dx.toInt := x_le32.mp q107
    refine lv_iload hx hb hsq_d116 (lv_at hl 4 rfl) ?_
    refine lv_istore hx hb hsq_d118 hl (by decide) (lv' := [(13, .int dx), (12, .int s9), (11, .int al), (10, .int d), (7, .int dy), (6, .int dx), (0, .ref this), (1, .int a), (2, .int b), (3, .int x), (4, .int y), (5, .int h)]) rfl fun ls hl => ?_
    have hwx : dx = m_ab2 (m_dx fb a.toInt.toNat b.toInt.toNat) := by unfold m_ab2; rw [← hdx]; first | (rw [if_pos (x_lt32.mpr (by omega))]; exact hg_z112.symm) | (rw [if_neg (fun q => by have := x_lt32.mp q; omega)])
    exact hsq_L120 B hav hs0 hA0 hcn ha9 hb9 _ _ _ _ _ _ _ _ _ hI hY_this hY_bk hs_bk hA_bk (lv_sub hl [0, 1, 2, 3, 4, 6, 7, 8, 9, 10, 11] rfl) (by first | assumption | omega) (by first | assumption | omega) (by first | assumption | omega) (by first | assumption | omega) (by first | assumption | omega)
  · have q107_ : dx.toInt < (0 : Int32).toInt := Int.not_le.mp fun q => q107 (x_le32.mpr q)
    refine lv_iload hx hb hsq_d110 (lv_at hl 4 rfl) ?_
    refine lv_ineg hx hb hsq_d112 ?_
    generalize hg_z112 : -dx = z112
    refine lv_goto hx hb hsq_d113 (tgt := 118) (by decide) ?_
    refine lv_istore hx hb hsq_d118 hl (by decide) (lv' := [(13, .int z112), (12, .int s9), (11, .int al), (10, .int d), (7, .int dy), (6, .int dx), (0, .ref this), (1, .int a), (2, .int b), (3, .int x), (4, .int y), (5, .int h)]) rfl fun ls hl => ?_
    have hwx : z112 = m_ab2 (m_dx fb a.toInt.toNat b.toInt.toNat) := by unfold m_ab2; rw [← hdx]; first | (rw [if_pos (x_lt32.mpr (by omega))]; exact hg_z112.symm) | (rw [if_neg (fun q => by have := x_lt32.mp q; omega)])
    exact hsq_L120 B hav hs0 hA0 hcn ha9 hb9 _ _ _ _ _ _ _ _ _ hI hY_this hY_bk hs_bk hA_bk (lv_sub hl [0, 1, 2, 3, 4, 6, 7, 8, 9, 10, 11] rfl) (by first | assumption | omega) (by first | assumption | omega) (by first | assumption | omega) (by first | assumption | omega) (by first | assumption | omega)
theorem ym_hides : y_Met vwCl x_G x_Zs x_Tb x_Nb xM172 y_T z_Phs := by
  refine y_main (by decide +kernel) (by decide +kernel) x_Tb_good x_Nb_ok ?_
  intro p l e s m below meth c D U Y0 av ls B hI _ hl
  have X := B.1
  have hx := X.1
  have hb := X.2.1
  have hY0 := B.2.2.2.2.1
  obtain ⟨v0, v1, v2, v3, v4, v5, rfl, hv0, ⟨a, rfl, ha9⟩, ⟨b, rfl, hb9⟩, ⟨x, rfl, -⟩, ⟨y, rfl, -⟩, ⟨h, rfl, -⟩⟩ := y_six B.2.2.2.2.2
  replace ha9 : (0 : Int) ≤ a.toInt ∧ a.toInt ≤ 9 := ha9
  replace hb9 : (0 : Int) ≤ b.toInt ∧ b.toInt ≤ 9 := hb9
  obtain ⟨this, t0, rfl, ht0, hY_this⟩ := x_ref_at hv0 rfl
  obtain rfl := List.mem_singleton.mp ht0
  replace hl : lv_has ls xM172.2.2.1 [(0, .ref this), (1, .int a), (2, .int b), (3, .int x), (4, .int y), (5, .int h)] := hl
  obtain ⟨bk, hs_bk, hY_bk⟩ := y_fldR (k := 0) hI.1 hY_this rfl rfl
  obtain ⟨fb9, hA9, hB9⟩ := y_arr hI.1 hY_bk rfl rfl
  obtain ⟨fb, hcn, hA_bk, hB_bk⟩ := z_canon (Y := Y0) (P := fun j v => x_c Y0 ([xI 0 10, xI 0 8, xI 0 8].getD j xF) (.int v)) hA9 hB9
  clear hA9 hB9 fb9
  have hs0 := hs_bk
  have hA0 := hA_bk
  have hd := z_hdr hB_bk
  have hd0 := hd.1
  have hd1 := hd.2.1
  refine lv_aload_n hx hb hsq_d0 rfl (lv_at hl 0 rfl) ?_
  refine lv_iload_n hx hb hsq_d1 rfl (lv_at hl 2 rfl) ?_
  refine lv_iconst hx hb hsq_d2 (v := 0) (by decide) ?_
  have ec0 : (0 : Int32).toInt = 0 := by decide
  refine y_call (z := (0, 99, 3, some 17, xM145)) (av := [.ref this, .int b, .int (0 : Int32)]) (rest := []) (y_cokV (n := 2) (ci := 12) X ym_ofHill rfl rfl rfl (x_cons (x_bw67 15 rfl rfl) (x_cons (x_bw68 1 rfl rfl) (x_cons (x_at 31 (by decide +kernel) rfl) (x_cons (x_bw0 9 rfl rfl) x_nilm)))) (x_bw68 2 rfl rfl) (by decide +kernel) ⟨Nat.le_of_ble_eq_true rfl, Nat.le_of_ble_eq_true rfl⟩) hY0 hI rfl hsq_d3 hl.1 (Nat.le_of_ble_eq_true rfl) (Nat.le_of_ble_eq_true rfl) (Nat.le_of_ble_eq_true rfl) (y_cons (y_cref hY_this rfl) (y_cons ⟨_, rfl, by show (0 : Int) ≤ _; omega, by show _ ≤ (9 : Int); omega⟩ (y_cons ⟨_, rfl, by show (0 : Int) ≤ _; omega, by show _ ≤ (4 : Int); omega⟩ y_nil))) rfl (y_recv rfl hY_this) trivial (y_sub_ef rfl) fun v Yn o Hn L ho hr ha hIn hx_ hE hP => ?_
  have hPo := hP _ _ _ _ _ rfl hs_bk hA_bk
  replace hs_bk := y_Efld hE hY_this rfl (by decide) (by decide) hs_bk
  replace hA_bk := hA_bk.kept (y_Earr hE hY_bk rfl (by decide))
  replace hY_this := y_ext hx_ hI.1 hY_this
  replace hY_bk := y_ext hx_ hI.1 hY_bk
  obtain ⟨r3, hg_r3⟩ : ∃ r3 : Int32, fb (10 + 5 * (b).toInt.toNat + ((0 : Int32)).toInt.toNat) = r3 := ⟨_, rfl⟩
  rw [hg_r3] at hPo
  obtain rfl := hPo
  clear ho hr ha hE hP hI hx_
  rename x_I _ _ _ _ _ _ _ _ _ _ => hI
  replace hg_r3 : fb (10 + 5 * b.toInt.toNat) = r3 := by rw [← hg_r3]; exact congrArg _ (by rw [show (0 : Int32).toInt.toNat = 0 by decide]; omega)
  refine lv_aload_n hx hb hsq_d6 rfl (lv_at hl 0 rfl) ?_
  refine lv_iload_n hx hb hsq_d7 rfl (lv_at hl 1 rfl) ?_
  refine lv_iconst hx hb hsq_d8 (v := 0) (by decide) ?_
  refine y_call (z := (0, 99, 3, some 17, xM145)) (av := [.ref this, .int a, .int (0 : Int32)]) (rest := [.int r3]) (y_cokV (n := 2) (ci := 12) X ym_ofHill rfl rfl rfl (x_cons (x_bw67 15 rfl rfl) (x_cons (x_bw68 1 rfl rfl) (x_cons (x_at 31 (by decide +kernel) rfl) (x_cons (x_bw0 9 rfl rfl) x_nilm)))) (x_bw68 2 rfl rfl) (by decide +kernel) ⟨Nat.le_of_ble_eq_true rfl, Nat.le_of_ble_eq_true rfl⟩) hY0 hI rfl hsq_d9 hl.1 (Nat.le_of_ble_eq_true rfl) (Nat.le_of_ble_eq_true rfl) (Nat.le_of_ble_eq_true rfl) (y_cons (y_cref hY_this rfl) (y_cons ⟨_, rfl, by show (0 : Int) ≤ _; omega, by show _ ≤ (9 : Int); omega⟩ (y_cons ⟨_, rfl, by show (0 : Int) ≤ _; omega, by show _ ≤ (4 : Int); omega⟩ y_nil))) rfl (y_recv rfl hY_this) trivial (y_sub_ef rfl) fun v Yn o Hn L ho hr ha hIn hx_ hE hP => ?_
  have hPo := hP _ _ _ _ _ rfl hs_bk hA_bk
  replace hs_bk := y_Efld hE hY_this rfl (by decide) (by decide) hs_bk
  replace hA_bk := hA_bk.kept (y_Earr hE hY_bk rfl (by decide))
  replace hY_this := y_ext hx_ hI.1 hY_this
  replace hY_bk := y_ext hx_ hI.1 hY_bk
  obtain ⟨r9, hg_r9⟩ : ∃ r9 : Int32, fb (10 + 5 * (a).toInt.toNat + ((0 : Int32)).toInt.toNat) = r9 := ⟨_, rfl⟩
  rw [hg_r9] at hPo
  obtain rfl := hPo
  clear ho hr ha hE hP hI hx_
  rename x_I _ _ _ _ _ _ _ _ _ _ => hI
  replace hg_r9 : fb (10 + 5 * a.toInt.toNat) = r9 := by rw [← hg_r9]; exact congrArg _ (by rw [show (0 : Int32).toInt.toNat = 0 by decide]; omega)
  refine lv_isub hx hb hsq_d12 ?_
  generalize hg_z12 : r3 - r9 = z12
  refine lv_istore hx hb hsq_d13 hl (by decide) (lv' := [(6, .int z12), (0, .ref this), (1, .int a), (2, .int b), (3, .int x), (4, .int y), (5, .int h)]) rfl fun ls hl => ?_
  refine lv_aload_n hx hb hsq_d15 rfl (lv_at hl 1 rfl) ?_
  refine lv_iload_n hx hb hsq_d16 rfl (lv_at hl 3 rfl) ?_
  refine lv_iconst hx hb hsq_d17 (v := 1) (by decide) ?_
  have ec1 : (1 : Int32).toInt = 1 := by decide
  refine y_call (z := (0, 99, 3, some 17, xM145)) (av := [.ref this, .int b, .int (1 : Int32)]) (rest := []) (y_cokV (n := 2) (ci := 12) X ym_ofHill rfl rfl rfl (x_cons (x_bw67 15 rfl rfl) (x_cons (x_bw68 1 rfl rfl) (x_cons (x_at 31 (by decide +kernel) rfl) (x_cons (x_bw0 9 rfl rfl) x_nilm)))) (x_bw68 2 rfl rfl) (by decide +kernel) ⟨Nat.le_of_ble_eq_true rfl, Nat.le_of_ble_eq_true rfl⟩) hY0 hI rfl hsq_d18 hl.1 (Nat.le_of_ble_eq_true rfl) (Nat.le_of_ble_eq_true rfl) (Nat.le_of_ble_eq_true rfl) (y_cons (y_cref hY_this rfl) (y_cons ⟨_, rfl, by show (0 : Int) ≤ _; omega, by show _ ≤ (9 : Int); omega⟩ (y_cons ⟨_, rfl, by show (0 : Int) ≤ _; omega, by show _ ≤ (4 : Int); omega⟩ y_nil))) rfl (y_recv rfl hY_this) trivial (y_sub_ef rfl) fun v Yn o Hn L ho hr ha hIn hx_ hE hP => ?_
  have hPo := hP _ _ _ _ _ rfl hs_bk hA_bk
  replace hs_bk := y_Efld hE hY_this rfl (by decide) (by decide) hs_bk
  replace hA_bk := hA_bk.kept (y_Earr hE hY_bk rfl (by decide))
  replace hY_this := y_ext hx_ hI.1 hY_this
  replace hY_bk := y_ext hx_ hI.1 hY_bk
  obtain ⟨r18, hg_r18⟩ : ∃ r18 : Int32, fb (10 + 5 * (b).toInt.toNat + ((1 : Int32)).toInt.toNat) = r18 := ⟨_, rfl⟩
  rw [hg_r18] at hPo
  obtain rfl := hPo
  clear ho hr ha hE hP hI hx_
  rename x_I _ _ _ _ _ _ _ _ _ _ => hI
  replace hg_r18 : fb (11 + 5 * b.toInt.toNat) = r18 := by rw [← hg_r18]; exact congrArg _ (by rw [show (1 : Int32).toInt.toNat = 1 by decide]; omega)
  refine lv_aload_n hx hb hsq_d21 rfl (lv_at hl 1 rfl) ?_
  refine lv_iload_n hx hb hsq_d22 rfl (lv_at hl 2 rfl) ?_
  refine lv_iconst hx hb hsq_d23 (v := 1) (by decide) ?_
  refine y_call (z := (0, 99, 3, some 17, xM145)) (av := [.ref this, .int a, .int (1 : Int32)]) (rest := [.int r18]) (y_cokV (n := 2) (ci := 12) X ym_ofHill rfl rfl rfl (x_cons (x_bw67 15 rfl rfl) (x_cons (x_bw68 1 rfl rfl) (x_cons (x_at 31 (by decide +kernel) rfl) (x_cons (x_bw0 9 rfl rfl) x_nilm)))) (x_bw68 2 rfl rfl) (by decide +kernel) ⟨Nat.le_of_ble_eq_true rfl, Nat.le_of_ble_eq_true rfl⟩) hY0 hI rfl hsq_d24 hl.1 (Nat.le_of_ble_eq_true rfl) (Nat.le_of_ble_eq_true rfl) (Nat.le_of_ble_eq_true rfl) (y_cons (y_cref hY_this rfl) (y_cons ⟨_, rfl, by show (0 : Int) ≤ _; omega, by show _ ≤ (9 : Int); omega⟩ (y_cons ⟨_, rfl, by show (0 : Int) ≤ _; omega, by show _ ≤ (4 : Int); omega⟩ y_nil))) rfl (y_recv rfl hY_this) trivial (y_sub_ef rfl) fun v Yn o Hn L ho hr ha hIn hx_ hE hP => ?_
  have hPo := hP _ _ _ _ _ rfl hs_bk hA_bk
  replace hs_bk := y_Efld hE hY_this rfl (by decide) (by decide) hs_bk
  replace hA_bk := hA_bk.kept (y_Earr hE hY_bk rfl (by decide))
  replace hY_this := y_ext hx_ hI.1 hY_this
  replace hY_bk := y_ext hx_ hI.1 hY_bk
  obtain ⟨r24, hg_r24⟩ : ∃ r24 : Int32, fb (10 + 5 * (a).toInt.toNat + ((1 : Int32)).toInt.toNat) = r24 := ⟨_, rfl⟩
  rw [hg_r24] at hPo
  obtain rfl := hPo
  clear ho hr ha hE hP hI hx_
  rename x_I _ _ _ _ _ _ _ _ _ _ => hI
  replace hg_r24 : fb (11 + 5 * a.toInt.toNat) = r24 := by rw [← hg_r24]; exact congrArg _ (by rw [show (1 : Int32).toInt.toNat = 1 by decide]; omega)
  refine lv_isub hx hb hsq_d27 ?_
  generalize hg_z27 : r18 - r24 = z27
  refine lv_istore hx hb hsq_d28 hl (by decide) (lv' := [(7, .int z27), (6, .int z12), (0, .ref this), (1, .int a), (2, .int b), (3, .int x), (4, .int y), (5, .int h)]) rfl fun ls hl => ?_
  refine lv_iload_n hx hb hsq_d30 rfl (lv_at hl 5 rfl) ?_
  refine lv_aload_n hx hb hsq_d31 rfl (lv_at hl 2 rfl) ?_
  refine lv_iload_n hx hb hsq_d32 rfl (lv_at hl 3 rfl) ?_
  refine lv_iconst hx hb hsq_d33 (v := 0) (by decide) ?_
  refine y_call (z := (0, 99, 3, some 17, xM145)) (av := [.ref this, .int a, .int (0 : Int32)]) (rest := [.int x]) (y_cokV (n := 2) (ci := 12) X ym_ofHill rfl rfl rfl (x_cons (x_bw67 15 rfl rfl) (x_cons (x_bw68 1 rfl rfl) (x_cons (x_at 31 (by decide +kernel) rfl) (x_cons (x_bw0 9 rfl rfl) x_nilm)))) (x_bw68 2 rfl rfl) (by decide +kernel) ⟨Nat.le_of_ble_eq_true rfl, Nat.le_of_ble_eq_true rfl⟩) hY0 hI rfl hsq_d34 hl.1 (Nat.le_of_ble_eq_true rfl) (Nat.le_of_ble_eq_true rfl) (Nat.le_of_ble_eq_true rfl) (y_cons (y_cref hY_this rfl) (y_cons ⟨_, rfl, by show (0 : Int) ≤ _; omega, by show _ ≤ (9 : Int); omega⟩ (y_cons ⟨_, rfl, by show (0 : Int) ≤ _; omega, by show _ ≤ (4 : Int); omega⟩ y_nil))) rfl (y_recv rfl hY_this) trivial (y_sub_ef rfl) fun v Yn o Hn L ho hr ha hIn hx_ hE hP => ?_
  have hPo := hP _ _ _ _ _ rfl hs_bk hA_bk
  replace hs_bk := y_Efld hE hY_this rfl (by decide) (by decide) hs_bk
  replace hA_bk := hA_bk.kept (y_Earr hE hY_bk rfl (by decide))
  replace hY_this := y_ext hx_ hI.1 hY_this
  replace hY_bk := y_ext hx_ hI.1 hY_bk
  obtain ⟨r34, hg_r34⟩ : ∃ r34 : Int32, fb (10 + 5 * (a).toInt.toNat + ((0 : Int32)).toInt.toNat) = r34 := ⟨_, rfl⟩
  rw [hg_r34] at hPo
  obtain rfl := hPo
  clear ho hr ha hE hP hI hx_
  rename x_I _ _ _ _ _ _ _ _ _ _ => hI
  replace hg_r34 : fb (10 + 5 * a.toInt.toNat) = r34 := by rw [← hg_r34]; exact congrArg _ (by rw [show (0 : Int32).toInt.toNat = 0 by decide]; omega)
  refine lv_isub hx hb hsq_d37 ?_
  generalize hg_z37 : x - r34 = z37
  refine lv_istore hx hb hsq_d38 hl (by decide) (lv' := [(8, .int z37), (7, .int z27), (6, .int z12), (0, .ref this), (1, .int a), (2, .int b), (3, .int x), (4, .int y), (5, .int h)]) rfl fun ls hl => ?_
  refine lv_iload hx hb hsq_d40 (lv_at hl 7 rfl) ?_
  refine lv_aload_n hx hb hsq_d42 rfl (lv_at hl 3 rfl) ?_
  refine lv_iload_n hx hb hsq_d43 rfl (lv_at hl 4 rfl) ?_
  refine lv_iconst hx hb hsq_d44 (v := 1) (by decide) ?_
  refine y_call (z := (0, 99, 3, some 17, xM145)) (av := [.ref this, .int a, .int (1 : Int32)]) (rest := [.int y]) (y_cokV (n := 2) (ci := 12) X ym_ofHill rfl rfl rfl (x_cons (x_bw67 15 rfl rfl) (x_cons (x_bw68 1 rfl rfl) (x_cons (x_at 31 (by decide +kernel) rfl) (x_cons (x_bw0 9 rfl rfl) x_nilm)))) (x_bw68 2 rfl rfl) (by decide +kernel) ⟨Nat.le_of_ble_eq_true rfl, Nat.le_of_ble_eq_true rfl⟩) hY0 hI rfl hsq_d45 hl.1 (Nat.le_of_ble_eq_true rfl) (Nat.le_of_ble_eq_true rfl) (Nat.le_of_ble_eq_true rfl) (y_cons (y_cref hY_this rfl) (y_cons ⟨_, rfl, by show (0 : Int) ≤ _; omega, by show _ ≤ (9 : Int); omega⟩ (y_cons ⟨_, rfl, by show (0 : Int) ≤ _; omega, by show _ ≤ (4 : Int); omega⟩ y_nil))) rfl (y_recv rfl hY_this) trivial (y_sub_ef rfl) fun v Yn o Hn L ho hr ha hIn hx_ hE hP => ?_
  have hPo := hP _ _ _ _ _ rfl hs_bk hA_bk
  replace hs_bk := y_Efld hE hY_this rfl (by decide) (by decide) hs_bk
  replace hA_bk := hA_bk.kept (y_Earr hE hY_bk rfl (by decide))
  replace hY_this := y_ext hx_ hI.1 hY_this
  replace hY_bk := y_ext hx_ hI.1 hY_bk
  obtain ⟨r45, hg_r45⟩ : ∃ r45 : Int32, fb (10 + 5 * (a).toInt.toNat + ((1 : Int32)).toInt.toNat) = r45 := ⟨_, rfl⟩
  rw [hg_r45] at hPo
  obtain rfl := hPo
  clear ho hr ha hE hP hI hx_
  rename x_I _ _ _ _ _ _ _ _ _ _ => hI
  replace hg_r45 : fb (11 + 5 * a.toInt.toNat) = r45 := by rw [← hg_r45]; exact congrArg _ (by rw [show (1 : Int32).toInt.toNat = 1 by decide]; omega)
  refine lv_isub hx hb hsq_d48 ?_
  generalize hg_z48 : y - r45 = z48
  refine lv_istore hx hb hsq_d49 hl (by decide) (lv' := [(9, .int z48), (8, .int z37), (7, .int z27), (6, .int z12), (0, .ref this), (1, .int a), (2, .int b), (3, .int x), (4, .int y), (5, .int h)]) rfl fun ls hl => ?_
  refine lv_iload hx hb hsq_d51 (lv_at hl 3 rfl) ?_
  refine lv_iload hx hb hsq_d53 (lv_at hl 3 rfl) ?_
  refine lv_imul hx hb hsq_d55 ?_
  generalize hg_z55 : z12 * z12 = z55
  refine lv_iload hx hb hsq_d56 (lv_at hl 2 rfl) ?_
  refine lv_iload hx hb hsq_d58 (lv_at hl 2 rfl) ?_
  refine lv_imul hx hb hsq_d60 ?_
  generalize hg_z60 : z27 * z27 = z60
  refine lv_iadd hx hb hsq_d61 ?_
  generalize hg_z61 : z55 + z60 = z61
  refine lv_istore hx hb hsq_d62 hl (by decide) (lv' := [(10, .int z61), (9, .int z48), (8, .int z37), (7, .int z27), (6, .int z12), (0, .ref this), (1, .int a), (2, .int b), (3, .int x), (4, .int y), (5, .int h)]) rfl fun ls hl => ?_
  refine lv_iload hx hb hsq_d64 (lv_at hl 2 rfl) ?_
  refine lv_iload hx hb hsq_d66 (lv_at hl 4 rfl) ?_
  refine lv_imul hx hb hsq_d68 ?_
  generalize hg_z68 : z37 * z12 = z68
  refine lv_iload hx hb hsq_d69 (lv_at hl 1 rfl) ?_
  refine lv_iload hx hb hsq_d71 (lv_at hl 3 rfl) ?_
  refine lv_imul hx hb hsq_d73 ?_
  generalize hg_z73 : z48 * z27 = z73
  refine lv_iadd hx hb hsq_d74 ?_
  generalize hg_z74 : z68 + z73 = z74
  refine lv_istore hx hb hsq_d75 hl (by decide) (lv' := [(11, .int z74), (10, .int z61), (9, .int z48), (8, .int z37), (7, .int z27), (6, .int z12), (0, .ref this), (1, .int a), (2, .int b), (3, .int x), (4, .int y), (5, .int h)]) rfl fun ls hl => ?_
  refine lv_iload hx hb hsq_d77 (lv_at hl 3 rfl) ?_
  refine lv_iload hx hb hsq_d79 (lv_at hl 4 rfl) ?_
  refine lv_imul hx hb hsq_d81 ?_
  generalize hg_z81 : z37 * z27 = z81
  refine lv_iload hx hb hsq_d82 (lv_at hl 2 rfl) ?_
  refine lv_iload hx hb hsq_d84 (lv_at hl 5 rfl) ?_
  refine lv_imul hx hb hsq_d86 ?_
  generalize hg_z86 : z48 * z12 = z86
  refine lv_isub hx hb hsq_d87 ?_
  generalize hg_z87 : z81 - z86 = z87
  refine lv_istore hx hb hsq_d88 hl (by decide) (lv' := [(12, .int z87), (11, .int z74), (10, .int z61), (9, .int z48), (8, .int z37), (7, .int z27), (6, .int z12), (0, .ref this), (1, .int a), (2, .int b), (3, .int x), (4, .int y), (5, .int h)]) rfl fun ls hl => ?_
  refine lv_iload hx hb hsq_d90 (lv_at hl 0 rfl) ?_
  refine lv_if_ge hx hb hsq_d92 (tgt := 101) (by decide) (fun q92 => ?_) (fun q92 => ?_)
  · have q92_ : (0 : Int32).toInt ≤ z87.toInt := x_le32.mp q92
    refine lv_iload hx hb hsq_d101 (lv_at hl 0 rfl) ?_
    refine lv_istore hx hb hsq_d103 hl (by decide) (lv' := [(12, .int z87), (11, .int z74), (10, .int z61), (9, .int z48), (8, .int z37), (7, .int z27), (6, .int z12), (0, .ref this), (1, .int a), (2, .int b), (3, .int x), (4, .int y), (5, .int h)]) rfl fun ls hl => ?_
    have hdx : z12 = m_dx fb a.toInt.toNat b.toInt.toNat := by unfold m_dx; rw [hg_r3, hg_r9, hg_z12]
    have hdy : z27 = m_dy fb a.toInt.toNat b.toInt.toNat := by unfold m_dy; rw [hg_r18, hg_r24, hg_z27]
    have hd9 : z61 = m_rd fb a.toInt.toNat b.toInt.toNat := by unfold m_rd; rw [← hdx, ← hdy, hg_z55, hg_z60, hg_z61]
    have hal : z74 = m_ra fb a.toInt.toNat b.toInt.toNat x y := by unfold m_ra; rw [← hdx, ← hdy, hg_r34, hg_r45, hg_z37, hg_z48, hg_z68, hg_z73, hg_z74]
    have hs9 : z87 = m_rs fb a.toInt.toNat b.toInt.toNat x y := by unfold m_rs m_ab2; rw [← hdx, ← hdy, hg_r34, hg_r45, hg_z37, hg_z48, hg_z81, hg_z86, hg_z87]; first | (rw [if_pos (x_lt32.mpr (by omega))]; exact hg_z97.symm) | (rw [if_neg (fun q => by have := x_lt32.mp q; omega)])
    exact hsq_L105 B rfl hs0 hA0 hcn ha9 hb9 _ _ _ _ _ _ _ _ _ hI hY_this hY_bk hs_bk hA_bk (lv_sub hl [0, 1, 2, 5, 6, 7, 8, 9, 10, 11, 12] rfl) (by first | assumption | omega) (by first | assumption | omega) (by first | assumption | omega) (by first | assumption | omega) (by first | assumption | omega)
  · have q92_ : z87.toInt < (0 : Int32).toInt := Int.not_le.mp fun q => q92 (x_le32.mpr q)
    refine lv_iload hx hb hsq_d95 (lv_at hl 0 rfl) ?_
    refine lv_ineg hx hb hsq_d97 ?_
    generalize hg_z97 : -z87 = z97
    refine lv_goto hx hb hsq_d98 (tgt := 103) (by decide) ?_
    refine lv_istore hx hb hsq_d103 hl (by decide) (lv' := [(12, .int z97), (11, .int z74), (10, .int z61), (9, .int z48), (8, .int z37), (7, .int z27), (6, .int z12), (0, .ref this), (1, .int a), (2, .int b), (3, .int x), (4, .int y), (5, .int h)]) rfl fun ls hl => ?_
    have hdx : z12 = m_dx fb a.toInt.toNat b.toInt.toNat := by unfold m_dx; rw [hg_r3, hg_r9, hg_z12]
    have hdy : z27 = m_dy fb a.toInt.toNat b.toInt.toNat := by unfold m_dy; rw [hg_r18, hg_r24, hg_z27]
    have hd9 : z61 = m_rd fb a.toInt.toNat b.toInt.toNat := by unfold m_rd; rw [← hdx, ← hdy, hg_z55, hg_z60, hg_z61]
    have hal : z74 = m_ra fb a.toInt.toNat b.toInt.toNat x y := by unfold m_ra; rw [← hdx, ← hdy, hg_r34, hg_r45, hg_z37, hg_z48, hg_z68, hg_z73, hg_z74]
    have hs9 : z97 = m_rs fb a.toInt.toNat b.toInt.toNat x y := by unfold m_rs m_ab2; rw [← hdx, ← hdy, hg_r34, hg_r45, hg_z37, hg_z48, hg_z81, hg_z86, hg_z87]; first | (rw [if_pos (x_lt32.mpr (by omega))]; exact hg_z97.symm) | (rw [if_neg (fun q => by have := x_lt32.mp q; omega)])
    exact hsq_L105 B rfl hs0 hA0 hcn ha9 hb9 _ _ _ _ _ _ _ _ _ hI hY_this hY_bk hs_bk hA_bk (lv_sub hl [0, 1, 2, 5, 6, 7, 8, 9, 10, 11, 12] rfl) (by first | assumption | omega) (by first | assumption | omega) (by first | assumption | omega) (by first | assumption | omega) (by first | assumption | omega)
def z_Pss : yP := fun D av _ H v _ H' => ∀ (this bk : Nat) (a b y mi : Int32) (f : Nat → Int32), av = [.ref this, .int a, .int b, .int y, .int mi] → x_sl D 12 0 this H = some (.ref bk) → z_c f → y_A bk 160 H f → v = some (.int (m_b (m_ss f a.toInt.toNat b.toInt.toNat y mi)))
theorem ssq_d0 : decode xM173.2.1 0 = .ok (.aload_n 0, 1) := dz_ok (by decide +kernel)
theorem ssq_d1 : decode xM173.2.1 1 = .ok (.iload_n 1, 1) := dz_ok (by decide +kernel)
theorem ssq_d2 : decode xM173.2.1 2 = .ok (.iconst 2, 1) := dz_ok (by decide +kernel)
theorem ssq_d3 : decode xM173.2.1 3 = .ok (.invokevirtual 99, 3) := dz_ok (by decide +kernel)
theorem ssq_d6 : decode xM173.2.1 6 = .ok (.iload 4, 2) := dz_ok (by decide +kernel)
theorem ssq_d8 : decode xM173.2.1 8 = .ok (.if_icmp .lt 18, 3) := dz_ok (by decide +kernel)
theorem ssq_d11 : decode xM173.2.1 11 = .ok (.aload_n 0, 1) := dz_ok (by decide +kernel)
theorem ssq_d12 : decode xM173.2.1 12 = .ok (.iload_n 2, 1) := dz_ok (by decide +kernel)
theorem ssq_d13 : decode xM173.2.1 13 = .ok (.iconst 2, 1) := dz_ok (by decide +kernel)
theorem ssq_d14 : decode xM173.2.1 14 = .ok (.invokevirtual 99, 3) := dz_ok (by decide +kernel)
theorem ssq_d17 : decode xM173.2.1 17 = .ok (.iload 4, 2) := dz_ok (by decide +kernel)
theorem ssq_d19 : decode xM173.2.1 19 = .ok (.if_icmp .lt 7, 3) := dz_ok (by decide +kernel)
theorem ssq_d22 : decode xM173.2.1 22 = .ok (.iconst 1, 1) := dz_ok (by decide +kernel)
theorem ssq_d23 : decode xM173.2.1 23 = .ok (.goto 4, 3) := dz_ok (by decide +kernel)
theorem ssq_d26 : decode xM173.2.1 26 = .ok (.iconst 0, 1) := dz_ok (by decide +kernel)
theorem ssq_d27 : decode xM173.2.1 27 = .ok (.istore 5, 2) := dz_ok (by decide +kernel)
theorem ssq_d29 : decode xM173.2.1 29 = .ok (.iconst 0, 1) := dz_ok (by decide +kernel)
theorem ssq_d30 : decode xM173.2.1 30 = .ok (.istore 6, 2) := dz_ok (by decide +kernel)
theorem ssq_d32 : decode xM173.2.1 32 = .ok (.iload 6, 2) := dz_ok (by decide +kernel)
theorem ssq_d34 : decode xM173.2.1 34 = .ok (.aload_n 0, 1) := dz_ok (by decide +kernel)
theorem ssq_d35 : decode xM173.2.1 35 = .ok (.getfield 7, 3) := dz_ok (by decide +kernel)
theorem ssq_d38 : decode xM173.2.1 38 = .ok (.iconst 0, 1) := dz_ok (by decide +kernel)
theorem ssq_d39 : decode xM173.2.1 39 = .ok (.iaload, 1) := dz_ok (by decide +kernel)
theorem ssq_d40 : decode xM173.2.1 40 = .ok (.if_icmp .ge 63, 3) := dz_ok (by decide +kernel)
theorem ssq_d43 : decode xM173.2.1 43 = .ok (.iload 5, 2) := dz_ok (by decide +kernel)
theorem ssq_d45 : decode xM173.2.1 45 = .ok (.ifCond .eq 58, 3) := dz_ok (by decide +kernel)
theorem ssq_d48 : decode xM173.2.1 48 = .ok (.iload 6, 2) := dz_ok (by decide +kernel)
theorem ssq_d50 : decode xM173.2.1 50 = .ok (.iload_n 1, 1) := dz_ok (by decide +kernel)
theorem ssq_d51 : decode xM173.2.1 51 = .ok (.if_icmp .eq 39, 3) := dz_ok (by decide +kernel)
theorem ssq_d54 : decode xM173.2.1 54 = .ok (.iload 6, 2) := dz_ok (by decide +kernel)
theorem ssq_d56 : decode xM173.2.1 56 = .ok (.iload_n 2, 1) := dz_ok (by decide +kernel)
theorem ssq_d57 : decode xM173.2.1 57 = .ok (.if_icmp .eq 33, 3) := dz_ok (by decide +kernel)
theorem ssq_d60 : decode xM173.2.1 60 = .ok (.aload_n 0, 1) := dz_ok (by decide +kernel)
theorem ssq_d61 : decode xM173.2.1 61 = .ok (.iload_n 1, 1) := dz_ok (by decide +kernel)
theorem ssq_d62 : decode xM173.2.1 62 = .ok (.iload_n 2, 1) := dz_ok (by decide +kernel)
theorem ssq_d63 : decode xM173.2.1 63 = .ok (.aload_n 0, 1) := dz_ok (by decide +kernel)
theorem ssq_d64 : decode xM173.2.1 64 = .ok (.iload 6, 2) := dz_ok (by decide +kernel)
theorem ssq_d66 : decode xM173.2.1 66 = .ok (.iconst 0, 1) := dz_ok (by decide +kernel)
theorem ssq_d67 : decode xM173.2.1 67 = .ok (.invokevirtual 99, 3) := dz_ok (by decide +kernel)
theorem ssq_d70 : decode xM173.2.1 70 = .ok (.aload_n 0, 1) := dz_ok (by decide +kernel)
theorem ssq_d71 : decode xM173.2.1 71 = .ok (.iload 6, 2) := dz_ok (by decide +kernel)
theorem ssq_d73 : decode xM173.2.1 73 = .ok (.iconst 1, 1) := dz_ok (by decide +kernel)
theorem ssq_d74 : decode xM173.2.1 74 = .ok (.invokevirtual 99, 3) := dz_ok (by decide +kernel)
theorem ssq_d77 : decode xM173.2.1 77 = .ok (.aload_n 0, 1) := dz_ok (by decide +kernel)
theorem ssq_d78 : decode xM173.2.1 78 = .ok (.iload 6, 2) := dz_ok (by decide +kernel)
theorem ssq_d80 : decode xM173.2.1 80 = .ok (.iconst 2, 1) := dz_ok (by decide +kernel)
theorem ssq_d81 : decode xM173.2.1 81 = .ok (.invokevirtual 99, 3) := dz_ok (by decide +kernel)
theorem ssq_d84 : decode xM173.2.1 84 = .ok (.invokevirtual 136, 3) := dz_ok (by decide +kernel)
theorem ssq_d87 : decode xM173.2.1 87 = .ok (.ifCond .ne 7, 3) := dz_ok (by decide +kernel)
theorem ssq_d90 : decode xM173.2.1 90 = .ok (.iconst 1, 1) := dz_ok (by decide +kernel)
theorem ssq_d91 : decode xM173.2.1 91 = .ok (.goto 4, 3) := dz_ok (by decide +kernel)
theorem ssq_d94 : decode xM173.2.1 94 = .ok (.iconst 0, 1) := dz_ok (by decide +kernel)
theorem ssq_d95 : decode xM173.2.1 95 = .ok (.istore 5, 2) := dz_ok (by decide +kernel)
theorem ssq_d97 : decode xM173.2.1 97 = .ok (.iinc 6 1, 3) := dz_ok (by decide +kernel)
theorem ssq_d100 : decode xM173.2.1 100 = .ok (.goto (-68), 3) := dz_ok (by decide +kernel)
theorem ssq_d103 : decode xM173.2.1 103 = .ok (.iconst 0, 1) := dz_ok (by decide +kernel)
theorem ssq_d104 : decode xM173.2.1 104 = .ok (.istore 6, 2) := dz_ok (by decide +kernel)
theorem ssq_d106 : decode xM173.2.1 106 = .ok (.iload 6, 2) := dz_ok (by decide +kernel)
theorem ssq_d108 : decode xM173.2.1 108 = .ok (.aload_n 0, 1) := dz_ok (by decide +kernel)
theorem ssq_d109 : decode xM173.2.1 109 = .ok (.getfield 7, 3) := dz_ok (by decide +kernel)
theorem ssq_d112 : decode xM173.2.1 112 = .ok (.iconst 1, 1) := dz_ok (by decide +kernel)
theorem ssq_d113 : decode xM173.2.1 113 = .ok (.iaload, 1) := dz_ok (by decide +kernel)
theorem ssq_d114 : decode xM173.2.1 114 = .ok (.if_icmp .ge 51, 3) := dz_ok (by decide +kernel)
theorem ssq_d117 : decode xM173.2.1 117 = .ok (.iload 5, 2) := dz_ok (by decide +kernel)
theorem ssq_d119 : decode xM173.2.1 119 = .ok (.ifCond .eq 46, 3) := dz_ok (by decide +kernel)
theorem ssq_d122 : decode xM173.2.1 122 = .ok (.aload_n 0, 1) := dz_ok (by decide +kernel)
theorem ssq_d123 : decode xM173.2.1 123 = .ok (.iload_n 1, 1) := dz_ok (by decide +kernel)
theorem ssq_d124 : decode xM173.2.1 124 = .ok (.iload_n 2, 1) := dz_ok (by decide +kernel)
theorem ssq_d125 : decode xM173.2.1 125 = .ok (.aload_n 0, 1) := dz_ok (by decide +kernel)
theorem ssq_d126 : decode xM173.2.1 126 = .ok (.iload 6, 2) := dz_ok (by decide +kernel)
theorem ssq_d128 : decode xM173.2.1 128 = .ok (.iconst 1, 1) := dz_ok (by decide +kernel)
theorem ssq_d129 : decode xM173.2.1 129 = .ok (.invokevirtual 123, 3) := dz_ok (by decide +kernel)
theorem ssq_d132 : decode xM173.2.1 132 = .ok (.aload_n 0, 1) := dz_ok (by decide +kernel)
theorem ssq_d133 : decode xM173.2.1 133 = .ok (.iload 6, 2) := dz_ok (by decide +kernel)
theorem ssq_d135 : decode xM173.2.1 135 = .ok (.iconst 2, 1) := dz_ok (by decide +kernel)
theorem ssq_d136 : decode xM173.2.1 136 = .ok (.invokevirtual 123, 3) := dz_ok (by decide +kernel)
theorem ssq_d139 : decode xM173.2.1 139 = .ok (.aload_n 0, 1) := dz_ok (by decide +kernel)
theorem ssq_d140 : decode xM173.2.1 140 = .ok (.iload 6, 2) := dz_ok (by decide +kernel)
theorem ssq_d142 : decode xM173.2.1 142 = .ok (.iload_n 3, 1) := dz_ok (by decide +kernel)
theorem ssq_d143 : decode xM173.2.1 143 = .ok (.invokevirtual 133, 3) := dz_ok (by decide +kernel)
theorem ssq_d146 : decode xM173.2.1 146 = .ok (.invokevirtual 136, 3) := dz_ok (by decide +kernel)
theorem ssq_d149 : decode xM173.2.1 149 = .ok (.ifCond .ne 7, 3) := dz_ok (by decide +kernel)
theorem ssq_d152 : decode xM173.2.1 152 = .ok (.iconst 1, 1) := dz_ok (by decide +kernel)
theorem ssq_d153 : decode xM173.2.1 153 = .ok (.goto 4, 3) := dz_ok (by decide +kernel)
theorem ssq_d156 : decode xM173.2.1 156 = .ok (.iconst 0, 1) := dz_ok (by decide +kernel)
theorem ssq_d157 : decode xM173.2.1 157 = .ok (.istore 5, 2) := dz_ok (by decide +kernel)
theorem ssq_d159 : decode xM173.2.1 159 = .ok (.iinc 6 1, 3) := dz_ok (by decide +kernel)
theorem ssq_d162 : decode xM173.2.1 162 = .ok (.goto (-56), 3) := dz_ok (by decide +kernel)
theorem ssq_d165 : decode xM173.2.1 165 = .ok (.iload 5, 2) := dz_ok (by decide +kernel)
theorem ssq_d167 : decode xM173.2.1 167 = .ok (.ireturn, 1) := dz_ok (by decide +kernel)
theorem ssq_L106 {p : Program} {l : Launch} {e : Env} {s : State} {m : MethodId} {below : List Frame} {meth : Method} {c : Code} {D : va_G} {U : State} {Y0 : xY} {av : List Value} (B : y_B vwCl x_Tb x_Nb xM173 p s m meth c D U Y0 av) {this bk : Nat} {a b y mi : Int32} {fb : Nat → Int32} (hav : av = [.ref this, .int a, .int b, .int y, .int mi]) (hs0 : x_sl D 12 0 this s.heap = some (.ref bk)) (hA0 : y_A bk 160 s.heap fb) (hcn : z_c fb) (hd0 : 0 ≤ (fb 0).toInt ∧ (fb 0).toInt ≤ 10) (hd1 : 0 ≤ (fb 1).toInt ∧ (fb 1).toInt ≤ 8) (ha9 : 0 ≤ a.toInt ∧ a.toInt ≤ 9) (hb9 : 0 ≤ b.toInt ∧ b.toInt ≤ 9)  :
    ∀ (n : Nat), ∀ (H : Heap) (Y : xY) (locs : List Loc) (ls : Array Slot) (j : Int32) (is : Int32), x_I D x_G x_Zs U (x_efs xM173) Y0 s.heap Y H locs → Y this = some 17 → Y bk = some 46 → x_sl D 12 0 this H = some (.ref bk) → y_A bk 160 H fb → lv_has ls xM173.2.2.1 [(6, .int j), (5, .int is), (0, .ref this), (1, .int a), (2, .int b), (3, .int y), (4, .int mi)] → (0 ≤ j.toInt ∧ j.toInt ≤ (fb 1).toInt) → (is = m_b ((m_s0 fb a.toInt.toNat b.toInt.toNat mi && m_all (m_k1 fb a.toInt.toNat b.toInt.toNat) (fb 0).toInt.toNat) && m_all (m_k2 fb a.toInt.toNat b.toInt.toNat y) j.toInt.toNat)) → (9 - j.toInt).toNat < n → W p l e (x_rm xM173) s m av.toArray below meth c H locs 0 0 (y_QQ below D x_G x_Zs U xM173 z_Pss av Y0 s) (F0 m 106 ls []) := by
  have X := B.1
  have hx := X.1
  have hb := X.2.1
  have hY0 := B.2.2.2.2.1
  intro n
  induction n with
  | zero => intro _ _ _ _ _ _ _ _ _ _ _ _ _ _ h; exact absurd h (Nat.not_lt_zero _)
  | succ n ih =>
    intro H Y locs ls j is  hI hY_this hY_bk hs_bk hA_bk hl hj his hn
    refine lv_iload hx hb ssq_d106 (lv_at hl 0 rfl) ?_
    refine lv_aload_n hx hb ssq_d108 rfl (lv_at hl 2 rfl) ?_
    refine y_getf X (fl190 X.2.2.2.2.1) hI.1 hY_this rfl hs_bk ssq_d109 ?_
    refine lv_iconst hx hb ssq_d112 (v := 1) (by decide) ?_
    have ec1 : (1 : Int32).toInt = 1 := by decide
    refine y_iald X hI.1 hY_bk rfl hA_bk (by omega) (by show _ < (160 : Int); omega) ssq_d113 ?_
    obtain ⟨e113, hg_e113⟩ : ∃ e113 : Int32, fb (1 : Int32).toInt.toNat = e113 := ⟨_, rfl⟩
    rw [hg_e113]
    rw [z_i1] at hg_e113
    have h_e113 : e113.toInt = (fb 1).toInt := by rw [hg_e113]
    refine lv_icmp_ge hx hb ssq_d114 (tgt := 165) (by decide) (fun q114 => ?_) (fun q114 => ?_)
    · have q114_ : e113.toInt ≤ j.toInt := x_le32.mp q114
      refine lv_iload hx hb ssq_d165 (lv_at hl 1 rfl) ?_
      have hfin : m_b (m_ss fb a.toInt.toNat b.toInt.toNat y mi) = is := by rw [his]; refine congrArg m_b ?_; unfold m_ss; first | (rw [show j.toInt.toNat = (fb 1).toInt.toNat by omega]) | (have h9 := m_b0 (his.symm.trans q119); rw [h9]; cases hX : (m_s0 fb a.toInt.toNat b.toInt.toNat mi && m_all (m_k1 fb a.toInt.toNat b.toInt.toNat) (fb 0).toInt.toNat) with | false => rfl | true => (rw [hX, Bool.true_and] at h9; rw [m_all_F h9 (fb 1).toInt.toNat (by omega)]; rfl))
      have hb01 : 0 ≤ is.toInt ∧ is.toInt ≤ 1 := by rw [his]; exact m_b01
      subst hav
      exact y_ireturn B hI rfl rfl (x_nar_ok (u := (0, 1)) (by decide) ⟨hb01.1, hb01.2⟩) (List.mem_cons_of_mem _ List.mem_cons_self) ⟨_, rfl, ⟨_, rfl, hb01.1, hb01.2⟩⟩ (x_cs.mono B.2.2.2.2.2 (y_mon B hI)) (fun t' b' w0' w1' w2' w3' f' h1 h2 h3 h4 => by cases h1; cases h2.symm.trans hs0; cases z_uniq h4 hA0 h3 hcn; exact by rw [hfin]) (Nat.le_refl _) (Nat.le_refl _) ssq_d167
    · have q114_ : j.toInt < e113.toInt := Int.not_le.mp fun q => q114 (x_le32.mpr q)
      refine lv_iload hx hb ssq_d117 (lv_at hl 1 rfl) ?_
      have ec0 : (0 : Int32).toInt = 0 := by decide
      refine lv_if_eq hx hb ssq_d119 (tgt := 165) (by decide) (fun q119 => ?_) (fun q119 => ?_)
      · have q119_ : is.toInt = (0 : Int32).toInt := by rw [q119]
        refine lv_iload hx hb ssq_d165 (lv_at hl 1 rfl) ?_
        have hfin : m_b (m_ss fb a.toInt.toNat b.toInt.toNat y mi) = is := by rw [his]; refine congrArg m_b ?_; unfold m_ss; first | (rw [show j.toInt.toNat = (fb 1).toInt.toNat by omega]) | (have h9 := m_b0 (his.symm.trans q119); rw [h9]; cases hX : (m_s0 fb a.toInt.toNat b.toInt.toNat mi && m_all (m_k1 fb a.toInt.toNat b.toInt.toNat) (fb 0).toInt.toNat) with | false => rfl | true => (rw [hX, Bool.true_and] at h9; rw [m_all_F h9 (fb 1).toInt.toNat (by omega)]; rfl))
        have hb01 : 0 ≤ is.toInt ∧ is.toInt ≤ 1 := by rw [his]; exact m_b01
        subst hav
        exact y_ireturn B hI rfl rfl (x_nar_ok (u := (0, 1)) (by decide) ⟨hb01.1, hb01.2⟩) (List.mem_cons_of_mem _ List.mem_cons_self) ⟨_, rfl, ⟨_, rfl, hb01.1, hb01.2⟩⟩ (x_cs.mono B.2.2.2.2.2 (y_mon B hI)) (fun t' b' w0' w1' w2' w3' f' h1 h2 h3 h4 => by cases h1; cases h2.symm.trans hs0; cases z_uniq h4 hA0 h3 hcn; exact by rw [hfin]) (Nat.le_refl _) (Nat.le_refl _) ssq_d167
      · have q119_ : ¬ is.toInt = (0 : Int32).toInt := fun q => q119 (Int32.toInt_inj.mp q)
        refine lv_aload_n hx hb ssq_d122 rfl (lv_at hl 2 rfl) ?_
        refine lv_iload_n hx hb ssq_d123 rfl (lv_at hl 3 rfl) ?_
        refine lv_iload_n hx hb ssq_d124 rfl (lv_at hl 4 rfl) ?_
        refine lv_aload_n hx hb ssq_d125 rfl (lv_at hl 2 rfl) ?_
        refine lv_iload hx hb ssq_d126 (lv_at hl 0 rfl) ?_
        refine lv_iconst hx hb ssq_d128 (v := 1) (by decide) ?_
        refine y_call (z := (0, 123, 3, some 17, xM163)) (av := [.ref this, .int j, .int (1 : Int32)]) (rest := [.int b, .int a, .ref this]) (y_cokV (n := 2) (ci := 12) X ym_ofThing rfl rfl rfl (x_cons (x_bw70 7 rfl rfl) (x_cons (x_bw70 9 rfl rfl) (x_cons (x_at 37 (by decide +kernel) rfl) (x_cons (x_bw0 9 rfl rfl) x_nilm)))) (x_bw70 10 rfl rfl) (by decide +kernel) ⟨Nat.le_of_ble_eq_true rfl, Nat.le_of_ble_eq_true rfl⟩) hY0 hI rfl ssq_d129 hl.1 (Nat.le_of_ble_eq_true rfl) (Nat.le_of_ble_eq_true rfl) (Nat.le_of_ble_eq_true rfl) (y_cons (y_cref hY_this rfl) (y_cons ⟨_, rfl, by show (0 : Int) ≤ _; omega, by show _ ≤ (7 : Int); omega⟩ (y_cons ⟨_, rfl, by show (0 : Int) ≤ _; omega, by show _ ≤ (6 : Int); omega⟩ y_nil))) rfl (y_recv rfl hY_this) trivial (y_sub_ef rfl) fun v Yn o Hn L ho hr ha hIn hx_ hE hP => ?_
        have hPo := hP _ _ _ _ _ rfl hs_bk hA_bk
        replace hs_bk := y_Efld hE hY_this rfl (by decide) (by decide) hs_bk
        replace hA_bk := hA_bk.kept (y_Earr hE hY_bk rfl (by decide))
        replace hY_this := y_ext hx_ hI.1 hY_this
        replace hY_bk := y_ext hx_ hI.1 hY_bk
        obtain ⟨r129, hg_r129⟩ : ∃ r129 : Int32, fb (60 + 7 * (j).toInt.toNat + ((1 : Int32)).toInt.toNat) = r129 := ⟨_, rfl⟩
        rw [hg_r129] at hPo
        obtain rfl := hPo
        clear ho hr ha hE hP hI hx_
        rename x_I _ _ _ _ _ _ _ _ _ _ => hI
        replace hg_r129 : fb (61 + 7 * j.toInt.toNat) = r129 := by rw [← hg_r129]; exact congrArg _ (by rw [show (1 : Int32).toInt.toNat = 1 by decide]; omega)
        refine lv_aload_n hx hb ssq_d132 rfl (lv_at hl 2 rfl) ?_
        refine lv_iload hx hb ssq_d133 (lv_at hl 0 rfl) ?_
        refine lv_iconst hx hb ssq_d135 (v := 2) (by decide) ?_
        have ec2 : (2 : Int32).toInt = 2 := by decide
        refine y_call (z := (0, 123, 3, some 17, xM163)) (av := [.ref this, .int j, .int (2 : Int32)]) (rest := [.int r129, .int b, .int a, .ref this]) (y_cokV (n := 2) (ci := 12) X ym_ofThing rfl rfl rfl (x_cons (x_bw70 7 rfl rfl) (x_cons (x_bw70 9 rfl rfl) (x_cons (x_at 37 (by decide +kernel) rfl) (x_cons (x_bw0 9 rfl rfl) x_nilm)))) (x_bw70 10 rfl rfl) (by decide +kernel) ⟨Nat.le_of_ble_eq_true rfl, Nat.le_of_ble_eq_true rfl⟩) hY0 hI rfl ssq_d136 hl.1 (Nat.le_of_ble_eq_true rfl) (Nat.le_of_ble_eq_true rfl) (Nat.le_of_ble_eq_true rfl) (y_cons (y_cref hY_this rfl) (y_cons ⟨_, rfl, by show (0 : Int) ≤ _; omega, by show _ ≤ (7 : Int); omega⟩ (y_cons ⟨_, rfl, by show (0 : Int) ≤ _; omega, by show _ ≤ (6 : Int); omega⟩ y_nil))) rfl (y_recv rfl hY_this) trivial (y_sub_ef rfl) fun v Yn o Hn L ho hr ha hIn hx_ hE hP => ?_
        have hPo := hP _ _ _ _ _ rfl hs_bk hA_bk
        replace hs_bk := y_Efld hE hY_this rfl (by decide) (by decide) hs_bk
        replace hA_bk := hA_bk.kept (y_Earr hE hY_bk rfl (by decide))
        replace hY_this := y_ext hx_ hI.1 hY_this
        replace hY_bk := y_ext hx_ hI.1 hY_bk
        obtain ⟨r136, hg_r136⟩ : ∃ r136 : Int32, fb (60 + 7 * (j).toInt.toNat + ((2 : Int32)).toInt.toNat) = r136 := ⟨_, rfl⟩
        rw [hg_r136] at hPo
        obtain rfl := hPo
        clear ho hr ha hE hP hI hx_
        rename x_I _ _ _ _ _ _ _ _ _ _ => hI
        replace hg_r136 : fb (62 + 7 * j.toInt.toNat) = r136 := by rw [← hg_r136]; exact congrArg _ (by rw [show (2 : Int32).toInt.toNat = 2 by decide]; omega)
        refine lv_aload_n hx hb ssq_d139 rfl (lv_at hl 2 rfl) ?_
        refine lv_iload hx hb ssq_d140 (lv_at hl 0 rfl) ?_
        refine lv_iload_n hx hb ssq_d142 rfl (lv_at hl 5 rfl) ?_
        refine y_call (z := (0, 133, 3, some 17, xM168)) (av := [.ref this, .int j, .int y]) (rest := [.int r136, .int r129, .int b, .int a, .ref this]) (y_cokV (n := 2) (ci := 12) X ym_highIn rfl rfl rfl (x_cons (x_bw71 7 rfl rfl) (x_cons (x_bw71 9 rfl rfl) (x_cons (x_at 39 (by decide +kernel) rfl) (x_cons (x_bw0 9 rfl rfl) x_nilm)))) (x_bw71 10 rfl rfl) (by decide +kernel) ⟨Nat.le_of_ble_eq_true rfl, Nat.le_of_ble_eq_true rfl⟩) hY0 hI rfl ssq_d143 hl.1 (Nat.le_of_ble_eq_true rfl) (Nat.le_of_ble_eq_true rfl) (Nat.le_of_ble_eq_true rfl) (y_cons (y_cref hY_this rfl) (y_cons ⟨_, rfl, by show (0 : Int) ≤ _; omega, by show _ ≤ (7 : Int); omega⟩ (y_cons ⟨_, rfl, x_i32 _⟩ y_nil))) rfl (y_recv rfl hY_this) trivial (y_sub_ef rfl) fun v Yn o Hn L ho hr ha hIn hx_ hE hP => ?_
        have hPs := hP _ _ _ _ _ rfl hs_bk hcn hA_bk
        obtain rfl := hPs
        replace hs_bk := y_Efld hE hY_this rfl (by decide) (by decide) hs_bk
        replace hA_bk := hA_bk.kept (y_Earr hE hY_bk rfl (by decide))
        replace hY_this := y_ext hx_ hI.1 hY_this
        replace hY_bk := y_ext hx_ hI.1 hY_bk
        obtain ⟨r143, hg_r143⟩ : ∃ r143 : Int32, m_hrk fb j.toInt.toNat y = r143 := ⟨_, rfl⟩
        rw [show m_hr (fb (60 + 7 * j.toInt.toNat)) (fb (65 + 7 * j.toInt.toNat)) (fb (63 + 7 * j.toInt.toNat)) (fb (64 + 7 * j.toInt.toNat)) y = r143 from hg_r143]
        clear ho hr ha hE hP hI hx_
        rename x_I _ _ _ _ _ _ _ _ _ _ => hI
        refine y_call (z := (0, 136, 6, some 17, xM172)) (av := [.ref this, .int a, .int b, .int r129, .int r136, .int r143]) (rest := []) (y_cokV (n := 5) (ci := 12) X ym_hides rfl rfl rfl (x_cons (x_bw72 10 rfl rfl) (x_cons (x_bw72 12 rfl rfl) (x_cons (x_at 42 (by decide +kernel) rfl) (x_cons (x_bw0 9 rfl rfl) x_nilm)))) (x_bw72 13 rfl rfl) (by decide +kernel) ⟨Nat.le_of_ble_eq_true rfl, Nat.le_of_ble_eq_true rfl⟩) hY0 hI rfl ssq_d146 hl.1 (Nat.le_of_ble_eq_true rfl) (Nat.le_of_ble_eq_true rfl) (Nat.le_of_ble_eq_true rfl) (y_cons (y_cref hY_this rfl) (y_cons ⟨_, rfl, by show (0 : Int) ≤ _; omega, by show _ ≤ (9 : Int); omega⟩ (y_cons ⟨_, rfl, by show (0 : Int) ≤ _; omega, by show _ ≤ (9 : Int); omega⟩ (y_cons ⟨_, rfl, x_i32 _⟩ (y_cons ⟨_, rfl, x_i32 _⟩ (y_cons ⟨_, rfl, x_i32 _⟩ y_nil)))))) rfl (y_recv rfl hY_this) trivial (y_sub_ef rfl) fun v Yn o Hn L ho hr ha hIn hx_ hE hP => ?_
        have hPs := hP _ _ _ _ _ _ _ _ rfl hs_bk hcn hA_bk
        obtain rfl := hPs
        replace hs_bk := y_Efld hE hY_this rfl (by decide) (by decide) hs_bk
        replace hA_bk := hA_bk.kept (y_Earr hE hY_bk rfl (by decide))
        replace hY_this := y_ext hx_ hI.1 hY_this
        replace hY_bk := y_ext hx_ hI.1 hY_bk
        generalize hg_r146 : m_b (m_hs fb a.toInt.toNat b.toInt.toNat r129 r136 r143) = r146
        clear ho hr ha hE hP hI hx_
        rename x_I _ _ _ _ _ _ _ _ _ _ => hI
        refine lv_if_ne hx hb ssq_d149 (tgt := 156) (by decide) (fun q149 => ?_) (fun q149 => ?_)
        · have q149_ : ¬ r146.toInt = (0 : Int32).toInt := fun q => q149 (Int32.toInt_inj.mp q)
          refine lv_iconst hx hb ssq_d156 (v := 0) (by decide) ?_
          refine lv_istore hx hb ssq_d157 hl (by decide) (lv' := [(5, .int (0 : Int32)), (6, .int j), (0, .ref this), (1, .int a), (2, .int b), (3, .int y), (4, .int mi)]) rfl fun ls hl => ?_
          obtain ⟨z159, hg_z159⟩ : ∃ z159 : Int32, j + Int32.ofInt 1 = z159 := ⟨_, rfl⟩
          have h_z159 : z159.toInt = j.toInt + 1 := by rw [← hg_z159]; exact y_inc (by decide) (by omega) (by omega)
          refine lv_iinc hx hb ssq_d159 hl (k := 1) rfl hg_z159 (by decide) (lv' := [(6, .int z159), (5, .int (0 : Int32)), (0, .ref this), (1, .int a), (2, .int b), (3, .int y), (4, .int mi)]) rfl fun ls hl => ?_
          refine lv_goto hx hb ssq_d162 (tgt := 106) (by decide) ?_
          have hnx : z159.toInt.toNat = j.toInt.toNat + 1 := by omega
          have h1b := m_bn (fun q => q119 (his.trans q))
          exact ih _ _ _ _ _ _ hI hY_this hY_bk hs_bk hA_bk (lv_sub hl [0, 1, 2, 3, 4, 5, 6] rfl) (by first | assumption | omega) (by rw [hnx]; show _ = m_b (_ && (m_all (m_k2 fb a.toInt.toNat b.toInt.toNat y) j.toInt.toNat && m_k2 fb a.toInt.toNat b.toInt.toNat y j.toInt.toNat)); rw [← Bool.and_assoc, h1b, Bool.true_and]; unfold m_k2; rw [hg_r129, hg_r136, hg_r143]; first | (rw [m_b0 (hg_r146.trans q149)]; rfl) | (rw [m_bn (fun q => q149 (hg_r146.symm.trans q))]; rfl)) (by omega)
        · have q149_ : r146.toInt = (0 : Int32).toInt := by rw [q149]
          refine lv_iconst hx hb ssq_d152 (v := 1) (by decide) ?_
          refine lv_goto hx hb ssq_d153 (tgt := 157) (by decide) ?_
          refine lv_istore hx hb ssq_d157 hl (by decide) (lv' := [(5, .int (1 : Int32)), (6, .int j), (0, .ref this), (1, .int a), (2, .int b), (3, .int y), (4, .int mi)]) rfl fun ls hl => ?_
          obtain ⟨z159, hg_z159⟩ : ∃ z159 : Int32, j + Int32.ofInt 1 = z159 := ⟨_, rfl⟩
          have h_z159 : z159.toInt = j.toInt + 1 := by rw [← hg_z159]; exact y_inc (by decide) (by omega) (by omega)
          refine lv_iinc hx hb ssq_d159 hl (k := 1) rfl hg_z159 (by decide) (lv' := [(6, .int z159), (5, .int (1 : Int32)), (0, .ref this), (1, .int a), (2, .int b), (3, .int y), (4, .int mi)]) rfl fun ls hl => ?_
          refine lv_goto hx hb ssq_d162 (tgt := 106) (by decide) ?_
          have hnx : z159.toInt.toNat = j.toInt.toNat + 1 := by omega
          have h1b := m_bn (fun q => q119 (his.trans q))
          exact ih _ _ _ _ _ _ hI hY_this hY_bk hs_bk hA_bk (lv_sub hl [0, 1, 2, 3, 4, 5, 6] rfl) (by first | assumption | omega) (by rw [hnx]; show _ = m_b (_ && (m_all (m_k2 fb a.toInt.toNat b.toInt.toNat y) j.toInt.toNat && m_k2 fb a.toInt.toNat b.toInt.toNat y j.toInt.toNat)); rw [← Bool.and_assoc, h1b, Bool.true_and]; unfold m_k2; rw [hg_r129, hg_r136, hg_r143]; first | (rw [m_b0 (hg_r146.trans q149)]; rfl) | (rw [m_bn (fun q => q149 (hg_r146.symm.trans q))]; rfl)) (by omega)
theorem ssq_L32 {p : Program} {l : Launch} {e : Env} {s : State} {m : MethodId} {below : List Frame} {meth : Method} {c : Code} {D : va_G} {U : State} {Y0 : xY} {av : List Value} (B : y_B vwCl x_Tb x_Nb xM173 p s m meth c D U Y0 av) {this bk : Nat} {a b y mi : Int32} {fb : Nat → Int32} (hav : av = [.ref this, .int a, .int b, .int y, .int mi]) (hs0 : x_sl D 12 0 this s.heap = some (.ref bk)) (hA0 : y_A bk 160 s.heap fb) (hcn : z_c fb) (hd0 : 0 ≤ (fb 0).toInt ∧ (fb 0).toInt ≤ 10) (hd1 : 0 ≤ (fb 1).toInt ∧ (fb 1).toInt ≤ 8) (ha9 : 0 ≤ a.toInt ∧ a.toInt ≤ 9) (hb9 : 0 ≤ b.toInt ∧ b.toInt ≤ 9)  :
    ∀ (n : Nat), ∀ (H : Heap) (Y : xY) (locs : List Loc) (ls : Array Slot) (j : Int32) (is : Int32), x_I D x_G x_Zs U (x_efs xM173) Y0 s.heap Y H locs → Y this = some 17 → Y bk = some 46 → x_sl D 12 0 this H = some (.ref bk) → y_A bk 160 H fb → lv_has ls xM173.2.2.1 [(6, .int j), (5, .int is), (0, .ref this), (1, .int a), (2, .int b), (3, .int y), (4, .int mi)] → (0 ≤ j.toInt ∧ j.toInt ≤ (fb 0).toInt) → (is = m_b (m_s0 fb a.toInt.toNat b.toInt.toNat mi && m_all (m_k1 fb a.toInt.toNat b.toInt.toNat) j.toInt.toNat)) → (11 - j.toInt).toNat < n → W p l e (x_rm xM173) s m av.toArray below meth c H locs 0 0 (y_QQ below D x_G x_Zs U xM173 z_Pss av Y0 s) (F0 m 32 ls []) := by
  have X := B.1
  have hx := X.1
  have hb := X.2.1
  have hY0 := B.2.2.2.2.1
  intro n
  induction n with
  | zero => intro _ _ _ _ _ _ _ _ _ _ _ _ _ _ h; exact absurd h (Nat.not_lt_zero _)
  | succ n ih =>
    intro H Y locs ls j is  hI hY_this hY_bk hs_bk hA_bk hl hj his hn
    refine lv_iload hx hb ssq_d32 (lv_at hl 0 rfl) ?_
    refine lv_aload_n hx hb ssq_d34 rfl (lv_at hl 2 rfl) ?_
    refine y_getf X (fl190 X.2.2.2.2.1) hI.1 hY_this rfl hs_bk ssq_d35 ?_
    refine lv_iconst hx hb ssq_d38 (v := 0) (by decide) ?_
    have ec0 : (0 : Int32).toInt = 0 := by decide
    refine y_iald X hI.1 hY_bk rfl hA_bk (by omega) (by show _ < (160 : Int); omega) ssq_d39 ?_
    obtain ⟨e39, hg_e39⟩ : ∃ e39 : Int32, fb (0 : Int32).toInt.toNat = e39 := ⟨_, rfl⟩
    rw [hg_e39]
    rw [z_i0] at hg_e39
    have h_e39 : e39.toInt = (fb 0).toInt := by rw [hg_e39]
    refine lv_icmp_ge hx hb ssq_d40 (tgt := 103) (by decide) (fun q40 => ?_) (fun q40 => ?_)
    · have q40_ : e39.toInt ≤ j.toInt := x_le32.mp q40
      refine lv_iconst hx hb ssq_d103 (v := 0) (by decide) ?_
      refine lv_istore hx hb ssq_d104 hl (by decide) (lv' := [(6, .int (0 : Int32)), (5, .int is), (0, .ref this), (1, .int a), (2, .int b), (3, .int y), (4, .int mi)]) rfl fun ls hl => ?_
      exact ssq_L106 B hav hs0 hA0 hcn hd0 hd1 ha9 hb9 10 _ _ _ _ _ _ hI hY_this hY_bk hs_bk hA_bk (lv_sub hl [0, 1, 2, 3, 4, 5, 6] rfl) (by first | assumption | omega) (by rw [his]; refine congrArg m_b ?_; show _ = (_ && true); rw [Bool.and_true]; first | (rw [show j.toInt.toNat = (fb 0).toInt.toNat by omega]) | (have h9 := m_b0 (his.symm.trans q45); rw [h9]; cases hX : (m_s0 fb a.toInt.toNat b.toInt.toNat mi) with | false => rfl | true => (rw [hX, Bool.true_and] at h9; rw [m_all_F h9 (fb 0).toInt.toNat (by omega)]; rfl))) (by omega)
    · have q40_ : j.toInt < e39.toInt := Int.not_le.mp fun q => q40 (x_le32.mpr q)
      refine lv_iload hx hb ssq_d43 (lv_at hl 1 rfl) ?_
      refine lv_if_eq hx hb ssq_d45 (tgt := 103) (by decide) (fun q45 => ?_) (fun q45 => ?_)
      · have q45_ : is.toInt = (0 : Int32).toInt := by rw [q45]
        refine lv_iconst hx hb ssq_d103 (v := 0) (by decide) ?_
        refine lv_istore hx hb ssq_d104 hl (by decide) (lv' := [(6, .int (0 : Int32)), (5, .int is), (0, .ref this), (1, .int a), (2, .int b), (3, .int y), (4, .int mi)]) rfl fun ls hl => ?_
        exact ssq_L106 B hav hs0 hA0 hcn hd0 hd1 ha9 hb9 10 _ _ _ _ _ _ hI hY_this hY_bk hs_bk hA_bk (lv_sub hl [0, 1, 2, 3, 4, 5, 6] rfl) (by first | assumption | omega) (by rw [his]; refine congrArg m_b ?_; show _ = (_ && true); rw [Bool.and_true]; first | (rw [show j.toInt.toNat = (fb 0).toInt.toNat by omega]) | (have h9 := m_b0 (his.symm.trans q45); rw [h9]; cases hX : (m_s0 fb a.toInt.toNat b.toInt.toNat mi) with | false => rfl | true => (rw [hX, Bool.true_and] at h9; rw [m_all_F h9 (fb 0).toInt.toNat (by omega)]; rfl))) (by omega)
      · have q45_ : ¬ is.toInt = (0 : Int32).toInt := fun q => q45 (Int32.toInt_inj.mp q)
        refine lv_iload hx hb ssq_d48 (lv_at hl 0 rfl) ?_
        refine lv_iload_n hx hb ssq_d50 rfl (lv_at hl 3 rfl) ?_
        refine lv_icmp_eq hx hb ssq_d51 (tgt := 90) (by decide) (fun q51 => ?_) (fun q51 => ?_)
        · have q51_ : j.toInt = a.toInt := by rw [q51]
          refine lv_iconst hx hb ssq_d90 (v := 1) (by decide) ?_
          have ec1 : (1 : Int32).toInt = 1 := by decide
          refine lv_goto hx hb ssq_d91 (tgt := 95) (by decide) ?_
          refine lv_istore hx hb ssq_d95 hl (by decide) (lv' := [(5, .int (1 : Int32)), (6, .int j), (0, .ref this), (1, .int a), (2, .int b), (3, .int y), (4, .int mi)]) rfl fun ls hl => ?_
          obtain ⟨z97, hg_z97⟩ : ∃ z97 : Int32, j + Int32.ofInt 1 = z97 := ⟨_, rfl⟩
          have h_z97 : z97.toInt = j.toInt + 1 := by rw [← hg_z97]; exact y_inc (by decide) (by omega) (by omega)
          refine lv_iinc hx hb ssq_d97 hl (k := 1) rfl hg_z97 (by decide) (lv' := [(6, .int z97), (5, .int (1 : Int32)), (0, .ref this), (1, .int a), (2, .int b), (3, .int y), (4, .int mi)]) rfl fun ls hl => ?_
          refine lv_goto hx hb ssq_d100 (tgt := 32) (by decide) ?_
          have hnx : z97.toInt.toNat = j.toInt.toNat + 1 := by omega
          have h1b := m_bn (fun q => q45 (his.trans q))
          exact ih _ _ _ _ _ _ hI hY_this hY_bk hs_bk hA_bk (lv_sub hl [0, 1, 2, 3, 4, 5, 6] rfl) (by first | assumption | omega) (by rw [hnx]; show _ = m_b (_ && (m_all (m_k1 fb a.toInt.toNat b.toInt.toNat) j.toInt.toNat && m_k1 fb a.toInt.toNat b.toInt.toNat j.toInt.toNat)); rw [← Bool.and_assoc, h1b, Bool.true_and]; unfold m_k1; first | (rw [decide_eq_true (show j.toInt.toNat = a.toInt.toNat by omega)]; rfl) | (rw [decide_eq_true (show j.toInt.toNat = b.toInt.toNat by omega), Bool.true_or, Bool.or_true]; rfl) | (rw [decide_eq_false (show ¬ j.toInt.toNat = a.toInt.toNat by omega), decide_eq_false (show ¬ j.toInt.toNat = b.toInt.toNat by omega), hg_r67, hg_r74, hg_r81]; first | (rw [m_b0 (hg_r84.trans q87)]; rfl) | (rw [m_bn (fun q => q87 (hg_r84.symm.trans q))]; rfl))) (by omega)
        · have q51_ : ¬ j.toInt = a.toInt := fun q => q51 (Int32.toInt_inj.mp q)
          refine lv_iload hx hb ssq_d54 (lv_at hl 0 rfl) ?_
          refine lv_iload_n hx hb ssq_d56 rfl (lv_at hl 4 rfl) ?_
          refine lv_icmp_eq hx hb ssq_d57 (tgt := 90) (by decide) (fun q57 => ?_) (fun q57 => ?_)
          · have q57_ : j.toInt = b.toInt := by rw [q57]
            refine lv_iconst hx hb ssq_d90 (v := 1) (by decide) ?_
            have ec1 : (1 : Int32).toInt = 1 := by decide
            refine lv_goto hx hb ssq_d91 (tgt := 95) (by decide) ?_
            refine lv_istore hx hb ssq_d95 hl (by decide) (lv' := [(5, .int (1 : Int32)), (6, .int j), (0, .ref this), (1, .int a), (2, .int b), (3, .int y), (4, .int mi)]) rfl fun ls hl => ?_
            obtain ⟨z97, hg_z97⟩ : ∃ z97 : Int32, j + Int32.ofInt 1 = z97 := ⟨_, rfl⟩
            have h_z97 : z97.toInt = j.toInt + 1 := by rw [← hg_z97]; exact y_inc (by decide) (by omega) (by omega)
            refine lv_iinc hx hb ssq_d97 hl (k := 1) rfl hg_z97 (by decide) (lv' := [(6, .int z97), (5, .int (1 : Int32)), (0, .ref this), (1, .int a), (2, .int b), (3, .int y), (4, .int mi)]) rfl fun ls hl => ?_
            refine lv_goto hx hb ssq_d100 (tgt := 32) (by decide) ?_
            have hnx : z97.toInt.toNat = j.toInt.toNat + 1 := by omega
            have h1b := m_bn (fun q => q45 (his.trans q))
            exact ih _ _ _ _ _ _ hI hY_this hY_bk hs_bk hA_bk (lv_sub hl [0, 1, 2, 3, 4, 5, 6] rfl) (by first | assumption | omega) (by rw [hnx]; show _ = m_b (_ && (m_all (m_k1 fb a.toInt.toNat b.toInt.toNat) j.toInt.toNat && m_k1 fb a.toInt.toNat b.toInt.toNat j.toInt.toNat)); rw [← Bool.and_assoc, h1b, Bool.true_and]; unfold m_k1; first | (rw [decide_eq_true (show j.toInt.toNat = a.toInt.toNat by omega)]; rfl) | (rw [decide_eq_true (show j.toInt.toNat = b.toInt.toNat by omega), Bool.true_or, Bool.or_true]; rfl) | (rw [decide_eq_false (show ¬ j.toInt.toNat = a.toInt.toNat by omega), decide_eq_false (show ¬ j.toInt.toNat = b.toInt.toNat by omega), hg_r67, hg_r74, hg_r81]; first | (rw [m_b0 (hg_r84.trans q87)]; rfl) | (rw [m_bn (fun q => q87 (hg_r84.symm.trans q))]; rfl))) (by omega)
          · have q57_ : ¬ j.toInt = b.toInt := fun q => q57 (Int32.toInt_inj.mp q)
            refine lv_aload_n hx hb ssq_d60 rfl (lv_at hl 2 rfl) ?_
            refine lv_iload_n hx hb ssq_d61 rfl (lv_at hl 3 rfl) ?_
            refine lv_iload_n hx hb ssq_d62 rfl (lv_at hl 4 rfl) ?_
            refine lv_aload_n hx hb ssq_d63 rfl (lv_at hl 2 rfl) ?_
            refine lv_iload hx hb ssq_d64 (lv_at hl 0 rfl) ?_
            refine lv_iconst hx hb ssq_d66 (v := 0) (by decide) ?_
            refine y_call (z := (0, 99, 3, some 17, xM145)) (av := [.ref this, .int j, .int (0 : Int32)]) (rest := [.int b, .int a, .ref this]) (y_cokV (n := 2) (ci := 12) X ym_ofHill rfl rfl rfl (x_cons (x_bw67 15 rfl rfl) (x_cons (x_bw68 1 rfl rfl) (x_cons (x_at 31 (by decide +kernel) rfl) (x_cons (x_bw0 9 rfl rfl) x_nilm)))) (x_bw68 2 rfl rfl) (by decide +kernel) ⟨Nat.le_of_ble_eq_true rfl, Nat.le_of_ble_eq_true rfl⟩) hY0 hI rfl ssq_d67 hl.1 (Nat.le_of_ble_eq_true rfl) (Nat.le_of_ble_eq_true rfl) (Nat.le_of_ble_eq_true rfl) (y_cons (y_cref hY_this rfl) (y_cons ⟨_, rfl, by show (0 : Int) ≤ _; omega, by show _ ≤ (9 : Int); omega⟩ (y_cons ⟨_, rfl, by show (0 : Int) ≤ _; omega, by show _ ≤ (4 : Int); omega⟩ y_nil))) rfl (y_recv rfl hY_this) trivial (y_sub_ef rfl) fun v Yn o Hn L ho hr ha hIn hx_ hE hP => ?_
            have hPo := hP _ _ _ _ _ rfl hs_bk hA_bk
            replace hs_bk := y_Efld hE hY_this rfl (by decide) (by decide) hs_bk
            replace hA_bk := hA_bk.kept (y_Earr hE hY_bk rfl (by decide))
            replace hY_this := y_ext hx_ hI.1 hY_this
            replace hY_bk := y_ext hx_ hI.1 hY_bk
            obtain ⟨r67, hg_r67⟩ : ∃ r67 : Int32, fb (10 + 5 * (j).toInt.toNat + ((0 : Int32)).toInt.toNat) = r67 := ⟨_, rfl⟩
            rw [hg_r67] at hPo
            obtain rfl := hPo
            clear ho hr ha hE hP hI hx_
            rename x_I _ _ _ _ _ _ _ _ _ _ => hI
            replace hg_r67 : fb (10 + 5 * j.toInt.toNat) = r67 := by rw [← hg_r67]; exact congrArg _ (by rw [show (0 : Int32).toInt.toNat = 0 by decide]; omega)
            refine lv_aload_n hx hb ssq_d70 rfl (lv_at hl 2 rfl) ?_
            refine lv_iload hx hb ssq_d71 (lv_at hl 0 rfl) ?_
            refine lv_iconst hx hb ssq_d73 (v := 1) (by decide) ?_
            have ec1 : (1 : Int32).toInt = 1 := by decide
            refine y_call (z := (0, 99, 3, some 17, xM145)) (av := [.ref this, .int j, .int (1 : Int32)]) (rest := [.int r67, .int b, .int a, .ref this]) (y_cokV (n := 2) (ci := 12) X ym_ofHill rfl rfl rfl (x_cons (x_bw67 15 rfl rfl) (x_cons (x_bw68 1 rfl rfl) (x_cons (x_at 31 (by decide +kernel) rfl) (x_cons (x_bw0 9 rfl rfl) x_nilm)))) (x_bw68 2 rfl rfl) (by decide +kernel) ⟨Nat.le_of_ble_eq_true rfl, Nat.le_of_ble_eq_true rfl⟩) hY0 hI rfl ssq_d74 hl.1 (Nat.le_of_ble_eq_true rfl) (Nat.le_of_ble_eq_true rfl) (Nat.le_of_ble_eq_true rfl) (y_cons (y_cref hY_this rfl) (y_cons ⟨_, rfl, by show (0 : Int) ≤ _; omega, by show _ ≤ (9 : Int); omega⟩ (y_cons ⟨_, rfl, by show (0 : Int) ≤ _; omega, by show _ ≤ (4 : Int); omega⟩ y_nil))) rfl (y_recv rfl hY_this) trivial (y_sub_ef rfl) fun v Yn o Hn L ho hr ha hIn hx_ hE hP => ?_
            have hPo := hP _ _ _ _ _ rfl hs_bk hA_bk
            replace hs_bk := y_Efld hE hY_this rfl (by decide) (by decide) hs_bk
            replace hA_bk := hA_bk.kept (y_Earr hE hY_bk rfl (by decide))
            replace hY_this := y_ext hx_ hI.1 hY_this
            replace hY_bk := y_ext hx_ hI.1 hY_bk
            obtain ⟨r74, hg_r74⟩ : ∃ r74 : Int32, fb (10 + 5 * (j).toInt.toNat + ((1 : Int32)).toInt.toNat) = r74 := ⟨_, rfl⟩
            rw [hg_r74] at hPo
            obtain rfl := hPo
            clear ho hr ha hE hP hI hx_
            rename x_I _ _ _ _ _ _ _ _ _ _ => hI
            replace hg_r74 : fb (11 + 5 * j.toInt.toNat) = r74 := by rw [← hg_r74]; exact congrArg _ (by rw [show (1 : Int32).toInt.toNat = 1 by decide]; omega)
            refine lv_aload_n hx hb ssq_d77 rfl (lv_at hl 2 rfl) ?_
            refine lv_iload hx hb ssq_d78 (lv_at hl 0 rfl) ?_
            refine lv_iconst hx hb ssq_d80 (v := 2) (by decide) ?_
            have ec2 : (2 : Int32).toInt = 2 := by decide
            refine y_call (z := (0, 99, 3, some 17, xM145)) (av := [.ref this, .int j, .int (2 : Int32)]) (rest := [.int r74, .int r67, .int b, .int a, .ref this]) (y_cokV (n := 2) (ci := 12) X ym_ofHill rfl rfl rfl (x_cons (x_bw67 15 rfl rfl) (x_cons (x_bw68 1 rfl rfl) (x_cons (x_at 31 (by decide +kernel) rfl) (x_cons (x_bw0 9 rfl rfl) x_nilm)))) (x_bw68 2 rfl rfl) (by decide +kernel) ⟨Nat.le_of_ble_eq_true rfl, Nat.le_of_ble_eq_true rfl⟩) hY0 hI rfl ssq_d81 hl.1 (Nat.le_of_ble_eq_true rfl) (Nat.le_of_ble_eq_true rfl) (Nat.le_of_ble_eq_true rfl) (y_cons (y_cref hY_this rfl) (y_cons ⟨_, rfl, by show (0 : Int) ≤ _; omega, by show _ ≤ (9 : Int); omega⟩ (y_cons ⟨_, rfl, by show (0 : Int) ≤ _; omega, by show _ ≤ (4 : Int); omega⟩ y_nil))) rfl (y_recv rfl hY_this) trivial (y_sub_ef rfl) fun v Yn o Hn L ho hr ha hIn hx_ hE hP => ?_
            have hPo := hP _ _ _ _ _ rfl hs_bk hA_bk
            replace hs_bk := y_Efld hE hY_this rfl (by decide) (by decide) hs_bk
            replace hA_bk := hA_bk.kept (y_Earr hE hY_bk rfl (by decide))
            replace hY_this := y_ext hx_ hI.1 hY_this
            replace hY_bk := y_ext hx_ hI.1 hY_bk
            obtain ⟨r81, hg_r81⟩ : ∃ r81 : Int32, fb (10 + 5 * (j).toInt.toNat + ((2 : Int32)).toInt.toNat) = r81 := ⟨_, rfl⟩
            rw [hg_r81] at hPo
            obtain rfl := hPo
            clear ho hr ha hE hP hI hx_
            rename x_I _ _ _ _ _ _ _ _ _ _ => hI
            replace hg_r81 : fb (12 + 5 * j.toInt.toNat) = r81 := by rw [← hg_r81]; exact congrArg _ (by rw [show (2 : Int32).toInt.toNat = 2 by decide]; omega)
            refine y_call (z := (0, 136, 6, some 17, xM172)) (av := [.ref this, .int a, .int b, .int r67, .int r74, .int r81]) (rest := []) (y_cokV (n := 5) (ci := 12) X ym_hides rfl rfl rfl (x_cons (x_bw72 10 rfl rfl) (x_cons (x_bw72 12 rfl rfl) (x_cons (x_at 42 (by decide +kernel) rfl) (x_cons (x_bw0 9 rfl rfl) x_nilm)))) (x_bw72 13 rfl rfl) (by decide +kernel) ⟨Nat.le_of_ble_eq_true rfl, Nat.le_of_ble_eq_true rfl⟩) hY0 hI rfl ssq_d84 hl.1 (Nat.le_of_ble_eq_true rfl) (Nat.le_of_ble_eq_true rfl) (Nat.le_of_ble_eq_true rfl) (y_cons (y_cref hY_this rfl) (y_cons ⟨_, rfl, by show (0 : Int) ≤ _; omega, by show _ ≤ (9 : Int); omega⟩ (y_cons ⟨_, rfl, by show (0 : Int) ≤ _; omega, by show _ ≤ (9 : Int); omega⟩ (y_cons ⟨_, rfl, x_i32 _⟩ (y_cons ⟨_, rfl, x_i32 _⟩ (y_cons ⟨_, rfl, x_i32 _⟩ y_nil)))))) rfl (y_recv rfl hY_this) trivial (y_sub_ef rfl) fun v Yn o Hn L ho hr ha hIn hx_ hE hP => ?_
            have hPs := hP _ _ _ _ _ _ _ _ rfl hs_bk hcn hA_bk
            obtain rfl := hPs
            replace hs_bk := y_Efld hE hY_this rfl (by decide) (by decide) hs_bk
            replace hA_bk := hA_bk.kept (y_Earr hE hY_bk rfl (by decide))
            replace hY_this := y_ext hx_ hI.1 hY_this
            replace hY_bk := y_ext hx_ hI.1 hY_bk
            generalize hg_r84 : m_b (m_hs fb a.toInt.toNat b.toInt.toNat r67 r74 r81) = r84
            clear ho hr ha hE hP hI hx_
            rename x_I _ _ _ _ _ _ _ _ _ _ => hI
            refine lv_if_ne hx hb ssq_d87 (tgt := 94) (by decide) (fun q87 => ?_) (fun q87 => ?_)
            · have q87_ : ¬ r84.toInt = (0 : Int32).toInt := fun q => q87 (Int32.toInt_inj.mp q)
              refine lv_iconst hx hb ssq_d94 (v := 0) (by decide) ?_
              refine lv_istore hx hb ssq_d95 hl (by decide) (lv' := [(5, .int (0 : Int32)), (6, .int j), (0, .ref this), (1, .int a), (2, .int b), (3, .int y), (4, .int mi)]) rfl fun ls hl => ?_
              obtain ⟨z97, hg_z97⟩ : ∃ z97 : Int32, j + Int32.ofInt 1 = z97 := ⟨_, rfl⟩
              have h_z97 : z97.toInt = j.toInt + 1 := by rw [← hg_z97]; exact y_inc (by decide) (by omega) (by omega)
              refine lv_iinc hx hb ssq_d97 hl (k := 1) rfl hg_z97 (by decide) (lv' := [(6, .int z97), (5, .int (0 : Int32)), (0, .ref this), (1, .int a), (2, .int b), (3, .int y), (4, .int mi)]) rfl fun ls hl => ?_
              refine lv_goto hx hb ssq_d100 (tgt := 32) (by decide) ?_
              have hnx : z97.toInt.toNat = j.toInt.toNat + 1 := by omega
              have h1b := m_bn (fun q => q45 (his.trans q))
              exact ih _ _ _ _ _ _ hI hY_this hY_bk hs_bk hA_bk (lv_sub hl [0, 1, 2, 3, 4, 5, 6] rfl) (by first | assumption | omega) (by rw [hnx]; show _ = m_b (_ && (m_all (m_k1 fb a.toInt.toNat b.toInt.toNat) j.toInt.toNat && m_k1 fb a.toInt.toNat b.toInt.toNat j.toInt.toNat)); rw [← Bool.and_assoc, h1b, Bool.true_and]; unfold m_k1; first | (rw [decide_eq_true (show j.toInt.toNat = a.toInt.toNat by omega)]; rfl) | (rw [decide_eq_true (show j.toInt.toNat = b.toInt.toNat by omega), Bool.true_or, Bool.or_true]; rfl) | (rw [decide_eq_false (show ¬ j.toInt.toNat = a.toInt.toNat by omega), decide_eq_false (show ¬ j.toInt.toNat = b.toInt.toNat by omega), hg_r67, hg_r74, hg_r81]; first | (rw [m_b0 (hg_r84.trans q87)]; rfl) | (rw [m_bn (fun q => q87 (hg_r84.symm.trans q))]; rfl))) (by omega)
            · have q87_ : r84.toInt = (0 : Int32).toInt := by rw [q87]
              refine lv_iconst hx hb ssq_d90 (v := 1) (by decide) ?_
              refine lv_goto hx hb ssq_d91 (tgt := 95) (by decide) ?_
              refine lv_istore hx hb ssq_d95 hl (by decide) (lv' := [(5, .int (1 : Int32)), (6, .int j), (0, .ref this), (1, .int a), (2, .int b), (3, .int y), (4, .int mi)]) rfl fun ls hl => ?_
              obtain ⟨z97, hg_z97⟩ : ∃ z97 : Int32, j + Int32.ofInt 1 = z97 := ⟨_, rfl⟩
              have h_z97 : z97.toInt = j.toInt + 1 := by rw [← hg_z97]; exact y_inc (by decide) (by omega) (by omega)
              refine lv_iinc hx hb ssq_d97 hl (k := 1) rfl hg_z97 (by decide) (lv' := [(6, .int z97), (5, .int (1 : Int32)), (0, .ref this), (1, .int a), (2, .int b), (3, .int y), (4, .int mi)]) rfl fun ls hl => ?_
              refine lv_goto hx hb ssq_d100 (tgt := 32) (by decide) ?_
              have hnx : z97.toInt.toNat = j.toInt.toNat + 1 := by omega
              have h1b := m_bn (fun q => q45 (his.trans q))
              exact ih _ _ _ _ _ _ hI hY_this hY_bk hs_bk hA_bk (lv_sub hl [0, 1, 2, 3, 4, 5, 6] rfl) (by first | assumption | omega) (by rw [hnx]; show _ = m_b (_ && (m_all (m_k1 fb a.toInt.toNat b.toInt.toNat) j.toInt.toNat && m_k1 fb a.toInt.toNat b.toInt.toNat j.toInt.toNat)); rw [← Bool.and_assoc, h1b, Bool.true_and]; unfold m_k1; first | (rw [decide_eq_true (show j.toInt.toNat = a.toInt.toNat by omega)]; rfl) | (rw [decide_eq_true (show j.toInt.toNat = b.toInt.toNat by omega), Bool.true_or, Bool.or_true]; rfl) | (rw [decide_eq_false (show ¬ j.toInt.toNat = a.toInt.toNat by omega), decide_eq_false (show ¬ j.toInt.toNat = b.toInt.toNat by omega), hg_r67, hg_r74, hg_r81]; first | (rw [m_b0 (hg_r84.trans q87)]; rfl) | (rw [m_bn (fun q => q87 (hg_r84.symm.trans q))]; rfl))) (by omega)
theorem ssq_L29 {p : Program} {l : Launch} {e : Env} {s : State} {m : MethodId} {below : List Frame} {meth : Method} {c : Code} {D : va_G} {U : State} {Y0 : xY} {av : List Value} (B : y_B vwCl x_Tb x_Nb xM173 p s m meth c D U Y0 av) {this bk : Nat} {a b y mi : Int32} {fb : Nat → Int32} (hav : av = [.ref this, .int a, .int b, .int y, .int mi]) (hs0 : x_sl D 12 0 this s.heap = some (.ref bk)) (hA0 : y_A bk 160 s.heap fb) (hcn : z_c fb) (hd0 : 0 ≤ (fb 0).toInt ∧ (fb 0).toInt ≤ 10) (hd1 : 0 ≤ (fb 1).toInt ∧ (fb 1).toInt ≤ 8) (ha9 : 0 ≤ a.toInt ∧ a.toInt ≤ 9) (hb9 : 0 ≤ b.toInt ∧ b.toInt ≤ 9)  :
    ∀ (H : Heap) (Y : xY) (locs : List Loc) (ls : Array Slot) (is : Int32), x_I D x_G x_Zs U (x_efs xM173) Y0 s.heap Y H locs → Y this = some 17 → Y bk = some 46 → x_sl D 12 0 this H = some (.ref bk) → y_A bk 160 H fb → lv_has ls xM173.2.2.1 [(5, .int is), (0, .ref this), (1, .int a), (2, .int b), (3, .int y), (4, .int mi)] → (is = m_b (m_s0 fb a.toInt.toNat b.toInt.toNat mi)) → W p l e (x_rm xM173) s m av.toArray below meth c H locs 0 0 (y_QQ below D x_G x_Zs U xM173 z_Pss av Y0 s) (F0 m 29 ls []) := by
  have X := B.1
  have hx := X.1
  have hb := X.2.1
  have hY0 := B.2.2.2.2.1
  intro H Y locs ls is  hI hY_this hY_bk hs_bk hA_bk hl his
  refine lv_iconst hx hb ssq_d29 (v := 0) (by decide) ?_
  have ec0 : (0 : Int32).toInt = 0 := by decide
  refine lv_istore hx hb ssq_d30 hl (by decide) (lv' := [(6, .int (0 : Int32)), (5, .int is), (0, .ref this), (1, .int a), (2, .int b), (3, .int y), (4, .int mi)]) rfl fun ls hl => ?_
  exact ssq_L32 B hav hs0 hA0 hcn hd0 hd1 ha9 hb9 12 _ _ _ _ _ _ hI hY_this hY_bk hs_bk hA_bk (lv_sub hl [0, 1, 2, 3, 4, 5, 6] rfl) (by first | assumption | omega) (by rw [his]; refine congrArg m_b ?_; show _ = (_ && true); rw [Bool.and_true]) (by omega)
theorem ym_isSight : y_Met vwCl x_G x_Zs x_Tb x_Nb xM173 y_T z_Pss := by
  refine y_main (by decide +kernel) (by decide +kernel) x_Tb_good x_Nb_ok ?_
  intro p l e s m below meth c D U Y0 av ls B hI _ hl
  have X := B.1
  have hx := X.1
  have hb := X.2.1
  have hY0 := B.2.2.2.2.1
  obtain ⟨v0, v1, v2, v3, v4, rfl, hv0, ⟨a, rfl, ha9⟩, ⟨b, rfl, hb9⟩, ⟨y, rfl, -⟩, ⟨mi, rfl, -⟩⟩ := y_five B.2.2.2.2.2
  replace ha9 : (0 : Int) ≤ a.toInt ∧ a.toInt ≤ 9 := ha9
  replace hb9 : (0 : Int) ≤ b.toInt ∧ b.toInt ≤ 9 := hb9
  obtain ⟨this, t0, rfl, ht0, hY_this⟩ := x_ref_at hv0 rfl
  obtain rfl := List.mem_singleton.mp ht0
  replace hl : lv_has ls xM173.2.2.1 [(0, .ref this), (1, .int a), (2, .int b), (3, .int y), (4, .int mi)] := hl
  obtain ⟨bk, hs_bk, hY_bk⟩ := y_fldR (k := 0) hI.1 hY_this rfl rfl
  obtain ⟨fb9, hA9, hB9⟩ := y_arr hI.1 hY_bk rfl rfl
  obtain ⟨fb, hcn, hA_bk, hB_bk⟩ := z_canon (Y := Y0) (P := fun j v => x_c Y0 ([xI 0 10, xI 0 8, xI 0 8].getD j xF) (.int v)) hA9 hB9
  clear hA9 hB9 fb9
  have hs0 := hs_bk
  have hA0 := hA_bk
  have hd := z_hdr hB_bk
  have hd0 := hd.1
  have hd1 := hd.2.1
  refine lv_aload_n hx hb ssq_d0 rfl (lv_at hl 0 rfl) ?_
  refine lv_iload_n hx hb ssq_d1 rfl (lv_at hl 1 rfl) ?_
  refine lv_iconst hx hb ssq_d2 (v := 2) (by decide) ?_
  have ec2 : (2 : Int32).toInt = 2 := by decide
  refine y_call (z := (0, 99, 3, some 17, xM145)) (av := [.ref this, .int a, .int (2 : Int32)]) (rest := []) (y_cokV (n := 2) (ci := 12) X ym_ofHill rfl rfl rfl (x_cons (x_bw67 15 rfl rfl) (x_cons (x_bw68 1 rfl rfl) (x_cons (x_at 31 (by decide +kernel) rfl) (x_cons (x_bw0 9 rfl rfl) x_nilm)))) (x_bw68 2 rfl rfl) (by decide +kernel) ⟨Nat.le_of_ble_eq_true rfl, Nat.le_of_ble_eq_true rfl⟩) hY0 hI rfl ssq_d3 hl.1 (Nat.le_of_ble_eq_true rfl) (Nat.le_of_ble_eq_true rfl) (Nat.le_of_ble_eq_true rfl) (y_cons (y_cref hY_this rfl) (y_cons ⟨_, rfl, by show (0 : Int) ≤ _; omega, by show _ ≤ (9 : Int); omega⟩ (y_cons ⟨_, rfl, by show (0 : Int) ≤ _; omega, by show _ ≤ (4 : Int); omega⟩ y_nil))) rfl (y_recv rfl hY_this) trivial (y_sub_ef rfl) fun v Yn o Hn L ho hr ha hIn hx_ hE hP => ?_
  have hPo := hP _ _ _ _ _ rfl hs_bk hA_bk
  replace hs_bk := y_Efld hE hY_this rfl (by decide) (by decide) hs_bk
  replace hA_bk := hA_bk.kept (y_Earr hE hY_bk rfl (by decide))
  replace hY_this := y_ext hx_ hI.1 hY_this
  replace hY_bk := y_ext hx_ hI.1 hY_bk
  obtain ⟨r3, hg_r3⟩ : ∃ r3 : Int32, fb (10 + 5 * (a).toInt.toNat + ((2 : Int32)).toInt.toNat) = r3 := ⟨_, rfl⟩
  rw [hg_r3] at hPo
  obtain rfl := hPo
  clear ho hr ha hE hP hI hx_
  rename x_I _ _ _ _ _ _ _ _ _ _ => hI
  replace hg_r3 : fb (12 + 5 * a.toInt.toNat) = r3 := by rw [← hg_r3]; exact congrArg _ (by rw [show (2 : Int32).toInt.toNat = 2 by decide]; omega)
  refine lv_iload hx hb ssq_d6 (lv_at hl 4 rfl) ?_
  refine lv_icmp_lt hx hb ssq_d8 (tgt := 26) (by decide) (fun q8 => ?_) (fun q8 => ?_)
  · have q8_ : r3.toInt < mi.toInt := x_lt32.mp q8
    refine lv_iconst hx hb ssq_d26 (v := 0) (by decide) ?_
    have ec0 : (0 : Int32).toInt = 0 := by decide
    refine lv_istore hx hb ssq_d27 hl (by decide) (lv' := [(5, .int (0 : Int32)), (0, .ref this), (1, .int a), (2, .int b), (3, .int y), (4, .int mi)]) rfl fun ls hl => ?_
    exact ssq_L29 B rfl hs0 hA0 hcn hd0 hd1 ha9 hb9 _ _ _ _ _ hI hY_this hY_bk hs_bk hA_bk (lv_sub hl [0, 1, 2, 3, 4, 5] rfl) (by unfold m_s0; first | (rw [hg_r3, hg_r14, decide_eq_true (show mi.toInt ≤ r3.toInt by omega), decide_eq_true (show mi.toInt ≤ r14.toInt by omega)]; rfl) | (rw [hg_r3, decide_eq_false (show ¬ mi.toInt ≤ r3.toInt by omega)]; rfl) | (rw [hg_r14, decide_eq_false (show ¬ mi.toInt ≤ r14.toInt by omega), Bool.and_false]; rfl))
  · have q8_ : mi.toInt ≤ r3.toInt := Int.not_lt.mp fun q => q8 (x_lt32.mpr q)
    refine lv_aload_n hx hb ssq_d11 rfl (lv_at hl 0 rfl) ?_
    refine lv_iload_n hx hb ssq_d12 rfl (lv_at hl 2 rfl) ?_
    refine lv_iconst hx hb ssq_d13 (v := 2) (by decide) ?_
    refine y_call (z := (0, 99, 3, some 17, xM145)) (av := [.ref this, .int b, .int (2 : Int32)]) (rest := []) (y_cokV (n := 2) (ci := 12) X ym_ofHill rfl rfl rfl (x_cons (x_bw67 15 rfl rfl) (x_cons (x_bw68 1 rfl rfl) (x_cons (x_at 31 (by decide +kernel) rfl) (x_cons (x_bw0 9 rfl rfl) x_nilm)))) (x_bw68 2 rfl rfl) (by decide +kernel) ⟨Nat.le_of_ble_eq_true rfl, Nat.le_of_ble_eq_true rfl⟩) hY0 hI rfl ssq_d14 hl.1 (Nat.le_of_ble_eq_true rfl) (Nat.le_of_ble_eq_true rfl) (Nat.le_of_ble_eq_true rfl) (y_cons (y_cref hY_this rfl) (y_cons ⟨_, rfl, by show (0 : Int) ≤ _; omega, by show _ ≤ (9 : Int); omega⟩ (y_cons ⟨_, rfl, by show (0 : Int) ≤ _; omega, by show _ ≤ (4 : Int); omega⟩ y_nil))) rfl (y_recv rfl hY_this) trivial (y_sub_ef rfl) fun v Yn o Hn L ho hr ha hIn hx_ hE hP => ?_
    have hPo := hP _ _ _ _ _ rfl hs_bk hA_bk
    replace hs_bk := y_Efld hE hY_this rfl (by decide) (by decide) hs_bk
    replace hA_bk := hA_bk.kept (y_Earr hE hY_bk rfl (by decide))
    replace hY_this := y_ext hx_ hI.1 hY_this
    replace hY_bk := y_ext hx_ hI.1 hY_bk
    obtain ⟨r14, hg_r14⟩ : ∃ r14 : Int32, fb (10 + 5 * (b).toInt.toNat + ((2 : Int32)).toInt.toNat) = r14 := ⟨_, rfl⟩
    rw [hg_r14] at hPo
    obtain rfl := hPo
    clear ho hr ha hE hP hI hx_
    rename x_I _ _ _ _ _ _ _ _ _ _ => hI
    replace hg_r14 : fb (12 + 5 * b.toInt.toNat) = r14 := by rw [← hg_r14]; exact congrArg _ (by rw [show (2 : Int32).toInt.toNat = 2 by decide]; omega)
    refine lv_iload hx hb ssq_d17 (lv_at hl 4 rfl) ?_
    refine lv_icmp_lt hx hb ssq_d19 (tgt := 26) (by decide) (fun q19 => ?_) (fun q19 => ?_)
    · have q19_ : r14.toInt < mi.toInt := x_lt32.mp q19
      refine lv_iconst hx hb ssq_d26 (v := 0) (by decide) ?_
      have ec0 : (0 : Int32).toInt = 0 := by decide
      refine lv_istore hx hb ssq_d27 hl (by decide) (lv' := [(5, .int (0 : Int32)), (0, .ref this), (1, .int a), (2, .int b), (3, .int y), (4, .int mi)]) rfl fun ls hl => ?_
      exact ssq_L29 B rfl hs0 hA0 hcn hd0 hd1 ha9 hb9 _ _ _ _ _ hI hY_this hY_bk hs_bk hA_bk (lv_sub hl [0, 1, 2, 3, 4, 5] rfl) (by unfold m_s0; first | (rw [hg_r3, hg_r14, decide_eq_true (show mi.toInt ≤ r3.toInt by omega), decide_eq_true (show mi.toInt ≤ r14.toInt by omega)]; rfl) | (rw [hg_r3, decide_eq_false (show ¬ mi.toInt ≤ r3.toInt by omega)]; rfl) | (rw [hg_r14, decide_eq_false (show ¬ mi.toInt ≤ r14.toInt by omega), Bool.and_false]; rfl))
    · have q19_ : mi.toInt ≤ r14.toInt := Int.not_lt.mp fun q => q19 (x_lt32.mpr q)
      refine lv_iconst hx hb ssq_d22 (v := 1) (by decide) ?_
      have ec1 : (1 : Int32).toInt = 1 := by decide
      refine lv_goto hx hb ssq_d23 (tgt := 27) (by decide) ?_
      refine lv_istore hx hb ssq_d27 hl (by decide) (lv' := [(5, .int (1 : Int32)), (0, .ref this), (1, .int a), (2, .int b), (3, .int y), (4, .int mi)]) rfl fun ls hl => ?_
      exact ssq_L29 B rfl hs0 hA0 hcn hd0 hd1 ha9 hb9 _ _ _ _ _ hI hY_this hY_bk hs_bk hA_bk (lv_sub hl [0, 1, 2, 3, 4, 5] rfl) (by unfold m_s0; first | (rw [hg_r3, hg_r14, decide_eq_true (show mi.toInt ≤ r3.toInt by omega), decide_eq_true (show mi.toInt ≤ r14.toInt by omega)]; rfl) | (rw [hg_r3, decide_eq_false (show ¬ mi.toInt ≤ r3.toInt by omega)]; rfl) | (rw [hg_r14, decide_eq_false (show ¬ mi.toInt ≤ r14.toInt by omega), Bool.and_false]; rfl))
def z_Plo : yP := fun D av _ H v _ H' => ∀ (this bk : Nat) (y mi : Int32) (f : Nat → Int32), av = [.ref this, .int y, .int mi] → x_sl D 12 0 this H = some (.ref bk) → z_c f → y_A bk 160 H f → ∀ (se : Nat), x_sl D 12 8 this H = some (.ref se) → ∀ i, i < (f 0).toInt.toNat → y_at se i H' = some (.int (m_VR f y mi i))
theorem loq_d0 : decode xM185.2.1 0 = .ok (.iconst 0, 1) := dz_ok (by decide +kernel)
theorem loq_d1 : decode xM185.2.1 1 = .ok (.istore_n 3, 1) := dz_ok (by decide +kernel)
theorem loq_d2 : decode xM185.2.1 2 = .ok (.iload_n 3, 1) := dz_ok (by decide +kernel)
theorem loq_d3 : decode xM185.2.1 3 = .ok (.aload_n 0, 1) := dz_ok (by decide +kernel)
theorem loq_d4 : decode xM185.2.1 4 = .ok (.getfield 7, 3) := dz_ok (by decide +kernel)
theorem loq_d7 : decode xM185.2.1 7 = .ok (.iconst 0, 1) := dz_ok (by decide +kernel)
theorem loq_d8 : decode xM185.2.1 8 = .ok (.iaload, 1) := dz_ok (by decide +kernel)
theorem loq_d9 : decode xM185.2.1 9 = .ok (.if_icmp .ge 16, 3) := dz_ok (by decide +kernel)
theorem loq_d12 : decode xM185.2.1 12 = .ok (.aload_n 0, 1) := dz_ok (by decide +kernel)
theorem loq_d13 : decode xM185.2.1 13 = .ok (.getfield 26, 3) := dz_ok (by decide +kernel)
theorem loq_d16 : decode xM185.2.1 16 = .ok (.iload_n 3, 1) := dz_ok (by decide +kernel)
theorem loq_d17 : decode xM185.2.1 17 = .ok (.iconst 0, 1) := dz_ok (by decide +kernel)
theorem loq_d18 : decode xM185.2.1 18 = .ok (.iastore, 1) := dz_ok (by decide +kernel)
theorem loq_d19 : decode xM185.2.1 19 = .ok (.iinc 3 1, 3) := dz_ok (by decide +kernel)
theorem loq_d22 : decode xM185.2.1 22 = .ok (.goto (-20), 3) := dz_ok (by decide +kernel)
theorem loq_d25 : decode xM185.2.1 25 = .ok (.iconst 0, 1) := dz_ok (by decide +kernel)
theorem loq_d26 : decode xM185.2.1 26 = .ok (.istore_n 3, 1) := dz_ok (by decide +kernel)
theorem loq_d27 : decode xM185.2.1 27 = .ok (.iload_n 3, 1) := dz_ok (by decide +kernel)
theorem loq_d28 : decode xM185.2.1 28 = .ok (.aload_n 0, 1) := dz_ok (by decide +kernel)
theorem loq_d29 : decode xM185.2.1 29 = .ok (.getfield 7, 3) := dz_ok (by decide +kernel)
theorem loq_d32 : decode xM185.2.1 32 = .ok (.iconst 0, 1) := dz_ok (by decide +kernel)
theorem loq_d33 : decode xM185.2.1 33 = .ok (.iaload, 1) := dz_ok (by decide +kernel)
theorem loq_d34 : decode xM185.2.1 34 = .ok (.if_icmp .ge 62, 3) := dz_ok (by decide +kernel)
theorem loq_d37 : decode xM185.2.1 37 = .ok (.iconst 0, 1) := dz_ok (by decide +kernel)
theorem loq_d38 : decode xM185.2.1 38 = .ok (.istore 4, 2) := dz_ok (by decide +kernel)
theorem loq_d40 : decode xM185.2.1 40 = .ok (.iload 4, 2) := dz_ok (by decide +kernel)
theorem loq_d42 : decode xM185.2.1 42 = .ok (.iload_n 3, 1) := dz_ok (by decide +kernel)
theorem loq_d43 : decode xM185.2.1 43 = .ok (.if_icmp .ge 47, 3) := dz_ok (by decide +kernel)
theorem loq_d46 : decode xM185.2.1 46 = .ok (.aload_n 0, 1) := dz_ok (by decide +kernel)
theorem loq_d47 : decode xM185.2.1 47 = .ok (.iload_n 3, 1) := dz_ok (by decide +kernel)
theorem loq_d48 : decode xM185.2.1 48 = .ok (.iload 4, 2) := dz_ok (by decide +kernel)
theorem loq_d50 : decode xM185.2.1 50 = .ok (.iload_n 1, 1) := dz_ok (by decide +kernel)
theorem loq_d51 : decode xM185.2.1 51 = .ok (.iload_n 2, 1) := dz_ok (by decide +kernel)
theorem loq_d52 : decode xM185.2.1 52 = .ok (.invokevirtual 140, 3) := dz_ok (by decide +kernel)
theorem loq_d55 : decode xM185.2.1 55 = .ok (.ifCond .eq 29, 3) := dz_ok (by decide +kernel)
theorem loq_d58 : decode xM185.2.1 58 = .ok (.aload_n 0, 1) := dz_ok (by decide +kernel)
theorem loq_d59 : decode xM185.2.1 59 = .ok (.getfield 26, 3) := dz_ok (by decide +kernel)
theorem loq_d62 : decode xM185.2.1 62 = .ok (.iload_n 3, 1) := dz_ok (by decide +kernel)
theorem loq_d63 : decode xM185.2.1 63 = .ok (.dup2, 1) := dz_ok (by decide +kernel)
theorem loq_d64 : decode xM185.2.1 64 = .ok (.iaload, 1) := dz_ok (by decide +kernel)
theorem loq_d65 : decode xM185.2.1 65 = .ok (.iconst 1, 1) := dz_ok (by decide +kernel)
theorem loq_d66 : decode xM185.2.1 66 = .ok (.iload 4, 2) := dz_ok (by decide +kernel)
theorem loq_d68 : decode xM185.2.1 68 = .ok (.ishl, 1) := dz_ok (by decide +kernel)
theorem loq_d69 : decode xM185.2.1 69 = .ok (.ior, 1) := dz_ok (by decide +kernel)
theorem loq_d70 : decode xM185.2.1 70 = .ok (.iastore, 1) := dz_ok (by decide +kernel)
theorem loq_d71 : decode xM185.2.1 71 = .ok (.aload_n 0, 1) := dz_ok (by decide +kernel)
theorem loq_d72 : decode xM185.2.1 72 = .ok (.getfield 26, 3) := dz_ok (by decide +kernel)
theorem loq_d75 : decode xM185.2.1 75 = .ok (.iload 4, 2) := dz_ok (by decide +kernel)
theorem loq_d77 : decode xM185.2.1 77 = .ok (.dup2, 1) := dz_ok (by decide +kernel)
theorem loq_d78 : decode xM185.2.1 78 = .ok (.iaload, 1) := dz_ok (by decide +kernel)
theorem loq_d79 : decode xM185.2.1 79 = .ok (.iconst 1, 1) := dz_ok (by decide +kernel)
theorem loq_d80 : decode xM185.2.1 80 = .ok (.iload_n 3, 1) := dz_ok (by decide +kernel)
theorem loq_d81 : decode xM185.2.1 81 = .ok (.ishl, 1) := dz_ok (by decide +kernel)
theorem loq_d82 : decode xM185.2.1 82 = .ok (.ior, 1) := dz_ok (by decide +kernel)
theorem loq_d83 : decode xM185.2.1 83 = .ok (.iastore, 1) := dz_ok (by decide +kernel)
theorem loq_d84 : decode xM185.2.1 84 = .ok (.iinc 4 1, 3) := dz_ok (by decide +kernel)
theorem loq_d87 : decode xM185.2.1 87 = .ok (.goto (-47), 3) := dz_ok (by decide +kernel)
theorem loq_d90 : decode xM185.2.1 90 = .ok (.iinc 3 1, 3) := dz_ok (by decide +kernel)
theorem loq_d93 : decode xM185.2.1 93 = .ok (.goto (-66), 3) := dz_ok (by decide +kernel)
theorem loq_d96 : decode xM185.2.1 96 = .ok (.return_, 1) := dz_ok (by decide +kernel)
theorem loq_L40 {p : Program} {l : Launch} {e : Env} {s : State} {m : MethodId} {below : List Frame} {meth : Method} {c : Code} {D : va_G} {U : State} {Y0 : xY} {av : List Value} (B : y_B vwCl x_Tb x_Nb xM185 p s m meth c D U Y0 av) {this bk se : Nat} {y mi : Int32} {fb : Nat → Int32} (hav : av = [.ref this, .int y, .int mi]) (hs0 : x_sl D 12 0 this s.heap = some (.ref bk)) (hs8 : x_sl D 12 8 this s.heap = some (.ref se)) (hA0 : y_A bk 160 s.heap fb) (hcn : z_c fb) (hd0 : 0 ≤ (fb 0).toInt ∧ (fb 0).toInt ≤ 10) {a : Int32} (ha : 0 ≤ a.toInt ∧ a.toInt < (fb 0).toInt)
    (out27 : ∀ (H : Heap) (Y : xY) (locs : List Loc) (ls : Array Slot) (a1 : Int32) (fs : Nat → Int32), x_I D x_G x_Zs U (x_efs xM185) Y0 s.heap Y H locs → Y this = some 17 → Y bk = some 46 → Y se = some 51 → x_sl D 12 0 this H = some (.ref bk) → x_sl D 12 8 this H = some (.ref se) → y_A bk 160 H fb → y_A se 10 H fs → lv_has ls xM185.2.2.1 [(3, .int a1), (0, .ref this), (1, .int y), (2, .int mi)] → (0 ≤ a1.toInt ∧ a1.toInt ≤ (fb 0).toInt) → (∀ i, i < (fb 0).toInt.toNat → ∀ j, m_bi (fs i) j = m_pr2 (fun p q => m_ss fb p q y mi) (fb 0).toInt.toNat a1.toInt.toNat 0 i j) → (a1.toInt = a.toInt + 1) → W p l e (x_rm xM185) s m av.toArray below meth c H locs 0 0 (y_QQ below D x_G x_Zs U xM185 z_Plo av Y0 s) (F0 m 27 ls [])) :
    ∀ (n : Nat), ∀ (H : Heap) (Y : xY) (locs : List Loc) (ls : Array Slot) (b : Int32) (fs : Nat → Int32), x_I D x_G x_Zs U (x_efs xM185) Y0 s.heap Y H locs → Y this = some 17 → Y bk = some 46 → Y se = some 51 → x_sl D 12 0 this H = some (.ref bk) → x_sl D 12 8 this H = some (.ref se) → y_A bk 160 H fb → y_A se 10 H fs → lv_has ls xM185.2.2.1 [(4, .int b), (3, .int a), (0, .ref this), (1, .int y), (2, .int mi)] → (0 ≤ b.toInt ∧ b.toInt ≤ a.toInt) → (∀ i, i < (fb 0).toInt.toNat → ∀ j, m_bi (fs i) j = m_pr2 (fun p q => m_ss fb p q y mi) (fb 0).toInt.toNat a.toInt.toNat b.toInt.toNat i j) → (11 - b.toInt).toNat < n → W p l e (x_rm xM185) s m av.toArray below meth c H locs 0 0 (y_QQ below D x_G x_Zs U xM185 z_Plo av Y0 s) (F0 m 40 ls []) := by
  have X := B.1
  have hx := X.1
  have hb := X.2.1
  have hY0 := B.2.2.2.2.1
  intro n
  induction n with
  | zero => intro _ _ _ _ _ _ _ _ _ _ _ _ _ _ _ _ _ h; exact absurd h (Nat.not_lt_zero _)
  | succ n ih =>
    intro H Y locs ls b fs hI hY_this hY_bk hY_se hs_bk hs_se hA_bk hA_se hl hb9 hV hn
    refine lv_iload hx hb loq_d40 (lv_at hl 0 rfl) ?_
    refine lv_iload_n hx hb loq_d42 rfl (lv_at hl 1 rfl) ?_
    refine lv_icmp_ge hx hb loq_d43 (tgt := 90) (by decide) (fun q43 => ?_) (fun q43 => ?_)
    · have q43_ : a.toInt ≤ b.toInt := x_le32.mp q43
      obtain ⟨z90, hg_z90⟩ : ∃ z90 : Int32, a + Int32.ofInt 1 = z90 := ⟨_, rfl⟩
      have h_z90 : z90.toInt = a.toInt + 1 := by rw [← hg_z90]; exact y_inc (by decide) (by omega) (by omega)
      refine lv_iinc hx hb loq_d90 hl (k := 1) rfl hg_z90 (by decide) (lv' := [(3, .int z90), (4, .int b), (0, .ref this), (1, .int y), (2, .int mi)]) rfl fun ls hl => ?_
      refine lv_goto hx hb loq_d93 (tgt := 27) (by decide) ?_
      have his : z90.toInt.toNat = a.toInt.toNat + 1 := by omega
      exact out27 _ _ _ _ _ _ hI hY_this hY_bk hY_se hs_bk hs_se hA_bk hA_se (lv_sub hl [0, 2, 3, 4] rfl) (by first | assumption | omega) (fun i hi j => by rw [his, ← m_pr2_n (b := b.toInt.toNat) (by omega)]; exact hV i hi j) (by first | assumption | omega)
    · have q43_ : b.toInt < a.toInt := Int.not_le.mp fun q => q43 (x_le32.mpr q)
      refine lv_aload_n hx hb loq_d46 rfl (lv_at hl 2 rfl) ?_
      refine lv_iload_n hx hb loq_d47 rfl (lv_at hl 1 rfl) ?_
      refine lv_iload hx hb loq_d48 (lv_at hl 0 rfl) ?_
      refine lv_iload_n hx hb loq_d50 rfl (lv_at hl 3 rfl) ?_
      refine lv_iload_n hx hb loq_d51 rfl (lv_at hl 4 rfl) ?_
      refine y_call (z := (0, 140, 5, some 17, xM173)) (av := [.ref this, .int a, .int b, .int y, .int mi]) (rest := []) (y_cokV (n := 4) (ci := 12) X ym_isSight rfl rfl rfl (x_cons (x_bw72 6 rfl rfl) (x_cons (x_bw72 8 rfl rfl) (x_cons (x_at 41 (by decide +kernel) rfl) (x_cons (x_bw0 9 rfl rfl) x_nilm)))) (x_bw72 9 rfl rfl) (by decide +kernel) ⟨Nat.le_of_ble_eq_true rfl, Nat.le_of_ble_eq_true rfl⟩) hY0 hI rfl loq_d52 hl.1 (Nat.le_of_ble_eq_true rfl) (Nat.le_of_ble_eq_true rfl) (Nat.le_of_ble_eq_true rfl) (y_cons (y_cref hY_this rfl) (y_cons ⟨_, rfl, by show (0 : Int) ≤ _; omega, by show _ ≤ (9 : Int); omega⟩ (y_cons ⟨_, rfl, by show (0 : Int) ≤ _; omega, by show _ ≤ (9 : Int); omega⟩ (y_cons ⟨_, rfl, x_i32 _⟩ (y_cons ⟨_, rfl, x_i32 _⟩ y_nil))))) rfl (y_recv rfl hY_this) trivial (y_sub_ef rfl) fun v Yn o Hn L ho hr ha hIn hx_ hE hP => ?_
      have hPs := hP _ _ _ _ _ _ _ rfl hs_bk hcn hA_bk
      obtain rfl := hPs
      replace hs_bk := y_Efld hE hY_this rfl (by decide) (by decide) hs_bk
      replace hs_se := y_Efld hE hY_this rfl (by decide) (by decide) hs_se
      replace hA_bk := hA_bk.kept (y_Earr hE hY_bk rfl (by decide))
      replace hA_se := hA_se.kept (y_Earr hE hY_se rfl (by decide))
      replace hY_this := y_ext hx_ hI.1 hY_this
      replace hY_bk := y_ext hx_ hI.1 hY_bk
      replace hY_se := y_ext hx_ hI.1 hY_se
      generalize hg_r52 : m_b (m_ss fb a.toInt.toNat b.toInt.toNat y mi) = r52
      clear ho hr ha hE hP hI hx_
      rename x_I _ _ _ _ _ _ _ _ _ _ => hI
      have ec0 : (0 : Int32).toInt = 0 := by decide
      refine lv_if_eq hx hb loq_d55 (tgt := 84) (by decide) (fun q55 => ?_) (fun q55 => ?_)
      · have q55_ : r52.toInt = (0 : Int32).toInt := by rw [q55]
        obtain ⟨z84, hg_z84⟩ : ∃ z84 : Int32, b + Int32.ofInt 1 = z84 := ⟨_, rfl⟩
        have h_z84 : z84.toInt = b.toInt + 1 := by rw [← hg_z84]; exact y_inc (by decide) (by omega) (by omega)
        refine lv_iinc hx hb loq_d84 hl (k := 0) rfl hg_z84 (by decide) (lv' := [(4, .int z84), (3, .int a), (0, .ref this), (1, .int y), (2, .int mi)]) rfl fun ls hl => ?_
        refine lv_goto hx hb loq_d87 (tgt := 40) (by decide) ?_
        have his : z84.toInt.toNat = b.toInt.toNat + 1 := by omega
        have hok := m_b0 (hg_r52.trans q55)
        exact ih _ _ _ _ _ _ hI hY_this hY_bk hY_se hs_bk hs_se hA_bk hA_se (lv_sub hl [0, 1, 2, 3, 4] rfl) (by first | assumption | omega) (fun i hi j => by rw [his, m_pr2_no (ok := (fun p q => m_ss fb p q y mi)) (by omega) (by omega) hok]; exact hV i hi j) (by omega)
      · have q55_ : ¬ r52.toInt = (0 : Int32).toInt := fun q => q55 (Int32.toInt_inj.mp q)
        refine lv_aload_n hx hb loq_d58 rfl (lv_at hl 2 rfl) ?_
        refine y_getf X (fl199 X.2.2.2.2.1) hI.1 hY_this rfl hs_se loq_d59 ?_
        refine lv_iload_n hx hb loq_d62 rfl (lv_at hl 1 rfl) ?_
        refine lv_dup2_11 hx hb loq_d63 rfl rfl ?_
        refine y_iald X hI.1 hY_se rfl hA_se (by omega) (by show _ < (10 : Int); omega) loq_d64 ?_
        obtain ⟨e64, hg_e64⟩ : ∃ e64 : Int32, fs a.toInt.toNat = e64 := ⟨_, rfl⟩
        rw [hg_e64]
        refine lv_iconst hx hb loq_d65 (v := 1) (by decide) ?_
        have ec1 : (1 : Int32).toInt = 1 := by decide
        refine lv_iload hx hb loq_d66 (lv_at hl 0 rfl) ?_
        refine lv_ishl hx hb loq_d68 ?_
        generalize hg_z68 : (1 : Int32) <<< (b &&& 31) = z68
        refine lv_ior hx hb loq_d69 ?_
        generalize hg_z69 : e64 ||| z68 = z69
        refine y_iast X hY0 hI hY_se rfl hA_se (by omega) (by show _ < (10 : Int); omega) ⟨_, rfl, x_i32 _⟩ (by decide +kernel) loq_d70 fun H locs hI h_new ho => ?_
        replace hA_se := h_new
        generalize hf_f70 : y_up fs a.toInt.toNat z69 = f70 at hA_se
        replace hs_bk := y_slk hs_bk (ho _ (y_ne hY_this hY_se rfl))
        replace hs_se := y_slk hs_se (ho _ (y_ne hY_this hY_se rfl))
        replace hA_bk := hA_bk.kept (ho _ (y_ne hY_bk hY_se rfl))
        refine lv_aload_n hx hb loq_d71 rfl (lv_at hl 2 rfl) ?_
        refine y_getf X (fl199 X.2.2.2.2.1) hI.1 hY_this rfl hs_se loq_d72 ?_
        refine lv_iload hx hb loq_d75 (lv_at hl 0 rfl) ?_
        refine lv_dup2_11 hx hb loq_d77 rfl rfl ?_
        refine y_iald X hI.1 hY_se rfl hA_se (by omega) (by show _ < (10 : Int); omega) loq_d78 ?_
        obtain ⟨e78, hg_e78⟩ : ∃ e78 : Int32, f70 b.toInt.toNat = e78 := ⟨_, rfl⟩
        rw [hg_e78]
        refine lv_iconst hx hb loq_d79 (v := 1) (by decide) ?_
        refine lv_iload_n hx hb loq_d80 rfl (lv_at hl 1 rfl) ?_
        refine lv_ishl hx hb loq_d81 ?_
        generalize hg_z81 : (1 : Int32) <<< (a &&& 31) = z81
        refine lv_ior hx hb loq_d82 ?_
        generalize hg_z82 : e78 ||| z81 = z82
        refine y_iast X hY0 hI hY_se rfl hA_se (by omega) (by show _ < (10 : Int); omega) ⟨_, rfl, x_i32 _⟩ (by decide +kernel) loq_d83 fun H locs hI h_new ho => ?_
        replace hA_se := h_new
        generalize hf_f83 : y_up f70 b.toInt.toNat z82 = f83 at hA_se
        replace hs_bk := y_slk hs_bk (ho _ (y_ne hY_this hY_se rfl))
        replace hs_se := y_slk hs_se (ho _ (y_ne hY_this hY_se rfl))
        replace hA_bk := hA_bk.kept (ho _ (y_ne hY_bk hY_se rfl))
        obtain ⟨z84, hg_z84⟩ : ∃ z84 : Int32, b + Int32.ofInt 1 = z84 := ⟨_, rfl⟩
        have h_z84 : z84.toInt = b.toInt + 1 := by rw [← hg_z84]; exact y_inc (by decide) (by omega) (by omega)
        refine lv_iinc hx hb loq_d84 hl (k := 0) rfl hg_z84 (by decide) (lv' := [(4, .int z84), (3, .int a), (0, .ref this), (1, .int y), (2, .int mi)]) rfl fun ls hl => ?_
        refine lv_goto hx hb loq_d87 (tgt := 40) (by decide) ?_
        have his : z84.toInt.toNat = b.toInt.toNat + 1 := by omega
        have hok := m_bn (fun q => q55 (hg_r52.symm.trans q))
        have hfv : f83 = y_up (y_up fs a.toInt.toNat (fs a.toInt.toNat ||| m_sh (nI b.toInt.toNat))) b.toInt.toNat (fs b.toInt.toNat ||| m_sh (nI a.toInt.toNat)) := by rw [← hf_f83, ← hf_f70, ← hg_z69, ← hg_z68, ← hg_e64, m_nj (by omega), m_nj (by omega)]; refine congrArg _ ?_; rw [← hg_z82, ← hg_z81, ← hg_e78, ← hf_f70, y_up_ne (by omega)]; rfl
        exact ih _ _ _ _ _ _ hI hY_this hY_bk hY_se hs_bk hs_se hA_bk hA_se (lv_sub hl [0, 1, 2, 3, 4] rfl) (by first | assumption | omega) (by rw [his, hfv]; exact m_see3 (ok := (fun p q => m_ss fb p q y mi)) (by omega) (by omega) (by omega) hok hV) (by omega)
theorem loq_L27 {p : Program} {l : Launch} {e : Env} {s : State} {m : MethodId} {below : List Frame} {meth : Method} {c : Code} {D : va_G} {U : State} {Y0 : xY} {av : List Value} (B : y_B vwCl x_Tb x_Nb xM185 p s m meth c D U Y0 av) {this bk se : Nat} {y mi : Int32} {fb : Nat → Int32} (hav : av = [.ref this, .int y, .int mi]) (hs0 : x_sl D 12 0 this s.heap = some (.ref bk)) (hs8 : x_sl D 12 8 this s.heap = some (.ref se)) (hA0 : y_A bk 160 s.heap fb) (hcn : z_c fb) (hd0 : 0 ≤ (fb 0).toInt ∧ (fb 0).toInt ≤ 10)  :
    ∀ (n : Nat), ∀ (H : Heap) (Y : xY) (locs : List Loc) (ls : Array Slot) (a : Int32) (fs : Nat → Int32), x_I D x_G x_Zs U (x_efs xM185) Y0 s.heap Y H locs → Y this = some 17 → Y bk = some 46 → Y se = some 51 → x_sl D 12 0 this H = some (.ref bk) → x_sl D 12 8 this H = some (.ref se) → y_A bk 160 H fb → y_A se 10 H fs → lv_has ls xM185.2.2.1 [(3, .int a), (0, .ref this), (1, .int y), (2, .int mi)] → (0 ≤ a.toInt ∧ a.toInt ≤ (fb 0).toInt) → (∀ i, i < (fb 0).toInt.toNat → ∀ j, m_bi (fs i) j = m_pr2 (fun p q => m_ss fb p q y mi) (fb 0).toInt.toNat a.toInt.toNat 0 i j) → (11 - a.toInt).toNat < n → W p l e (x_rm xM185) s m av.toArray below meth c H locs 0 0 (y_QQ below D x_G x_Zs U xM185 z_Plo av Y0 s) (F0 m 27 ls []) := by
  have X := B.1
  have hx := X.1
  have hb := X.2.1
  have hY0 := B.2.2.2.2.1
  intro n
  induction n with
  | zero => intro _ _ _ _ _ _ _ _ _ _ _ _ _ _ _ _ _ h; exact absurd h (Nat.not_lt_zero _)
  | succ n ih =>
    intro H Y locs ls a fs hI hY_this hY_bk hY_se hs_bk hs_se hA_bk hA_se hl ha hV hn
    refine lv_iload_n hx hb loq_d27 rfl (lv_at hl 0 rfl) ?_
    refine lv_aload_n hx hb loq_d28 rfl (lv_at hl 1 rfl) ?_
    refine y_getf X (fl190 X.2.2.2.2.1) hI.1 hY_this rfl hs_bk loq_d29 ?_
    refine lv_iconst hx hb loq_d32 (v := 0) (by decide) ?_
    have ec0 : (0 : Int32).toInt = 0 := by decide
    refine y_iald X hI.1 hY_bk rfl hA_bk (by omega) (by show _ < (160 : Int); omega) loq_d33 ?_
    obtain ⟨e33, hg_e33⟩ : ∃ e33 : Int32, fb (0 : Int32).toInt.toNat = e33 := ⟨_, rfl⟩
    rw [hg_e33]
    rw [z_i0] at hg_e33
    have h_e33 : e33.toInt = (fb 0).toInt := by rw [hg_e33]
    refine lv_icmp_ge hx hb loq_d34 (tgt := 96) (by decide) (fun q34 => ?_) (fun q34 => ?_)
    · have q34_ : e33.toInt ≤ a.toInt := x_le32.mp q34
      subst hav
      exact y_return B hI rfl rfl List.mem_cons_self rfl (x_cs.mono B.2.2.2.2.2 (y_mon B hI)) (fun t' b' w0' w1' f' h1 h2 h3 h4 => by cases h1; cases h2.symm.trans hs0; cases z_uniq h4 hA0 h3 hcn; exact fun se' h5 i hi => by cases h5.symm.trans hs8; rw [hA_se i (by omega), m_vw_of (ok := fun p q => m_ss fb q p y mi) (n := (fb 0).toInt.toNat) (i := i) (v := fs i) (by omega) (fun j => by rw [hV i hi j, show a.toInt.toNat = (fb 0).toInt.toNat by omega]; exact m_pr2_e)]; rfl) (Nat.le_refl _) (Nat.le_refl _) loq_d96
    · have q34_ : a.toInt < e33.toInt := Int.not_le.mp fun q => q34 (x_le32.mpr q)
      refine lv_iconst hx hb loq_d37 (v := 0) (by decide) ?_
      refine lv_istore hx hb loq_d38 hl (by decide) (lv' := [(4, .int (0 : Int32)), (3, .int a), (0, .ref this), (1, .int y), (2, .int mi)]) rfl fun ls hl => ?_
      exact loq_L40 B hav hs0 hs8 hA0 hcn hd0 (by first | assumption | omega) (fun H Y locs ls a1 fs hI hY_this hY_bk hY_se hs_bk hs_se hA_bk hA_se hl ha hV h_a1 => ih _ _ _ _ _ _ hI hY_this hY_bk hY_se hs_bk hs_se hA_bk hA_se hl ha hV (by omega)) 12 _ _ _ _ _ _ hI hY_this hY_bk hY_se hs_bk hs_se hA_bk hA_se (lv_sub hl [0, 1, 2, 3, 4] rfl) (by first | assumption | omega) hV (by omega)
theorem loq_L2 {p : Program} {l : Launch} {e : Env} {s : State} {m : MethodId} {below : List Frame} {meth : Method} {c : Code} {D : va_G} {U : State} {Y0 : xY} {av : List Value} (B : y_B vwCl x_Tb x_Nb xM185 p s m meth c D U Y0 av) {this bk se : Nat} {y mi : Int32} {fb : Nat → Int32} (hav : av = [.ref this, .int y, .int mi]) (hs0 : x_sl D 12 0 this s.heap = some (.ref bk)) (hs8 : x_sl D 12 8 this s.heap = some (.ref se)) (hA0 : y_A bk 160 s.heap fb) (hcn : z_c fb) (hd0 : 0 ≤ (fb 0).toInt ∧ (fb 0).toInt ≤ 10)  :
    ∀ (n : Nat), ∀ (H : Heap) (Y : xY) (locs : List Loc) (ls : Array Slot) (a : Int32) (fs : Nat → Int32), x_I D x_G x_Zs U (x_efs xM185) Y0 s.heap Y H locs → Y this = some 17 → Y bk = some 46 → Y se = some 51 → x_sl D 12 0 this H = some (.ref bk) → x_sl D 12 8 this H = some (.ref se) → y_A bk 160 H fb → y_A se 10 H fs → lv_has ls xM185.2.2.1 [(3, .int a), (0, .ref this), (1, .int y), (2, .int mi)] → (0 ≤ a.toInt ∧ a.toInt ≤ (fb 0).toInt) → (∀ i : Nat, (i : Int) < a.toInt → fs i = 0) → (11 - a.toInt).toNat < n → W p l e (x_rm xM185) s m av.toArray below meth c H locs 0 0 (y_QQ below D x_G x_Zs U xM185 z_Plo av Y0 s) (F0 m 2 ls []) := by
  have X := B.1
  have hx := X.1
  have hb := X.2.1
  have hY0 := B.2.2.2.2.1
  intro n
  induction n with
  | zero => intro _ _ _ _ _ _ _ _ _ _ _ _ _ _ _ _ _ h; exact absurd h (Nat.not_lt_zero _)
  | succ n ih =>
    intro H Y locs ls a fs hI hY_this hY_bk hY_se hs_bk hs_se hA_bk hA_se hl ha hz hn
    refine lv_iload_n hx hb loq_d2 rfl (lv_at hl 0 rfl) ?_
    refine lv_aload_n hx hb loq_d3 rfl (lv_at hl 1 rfl) ?_
    refine y_getf X (fl190 X.2.2.2.2.1) hI.1 hY_this rfl hs_bk loq_d4 ?_
    refine lv_iconst hx hb loq_d7 (v := 0) (by decide) ?_
    have ec0 : (0 : Int32).toInt = 0 := by decide
    refine y_iald X hI.1 hY_bk rfl hA_bk (by omega) (by show _ < (160 : Int); omega) loq_d8 ?_
    obtain ⟨e8, hg_e8⟩ : ∃ e8 : Int32, fb (0 : Int32).toInt.toNat = e8 := ⟨_, rfl⟩
    rw [hg_e8]
    rw [z_i0] at hg_e8
    have h_e8 : e8.toInt = (fb 0).toInt := by rw [hg_e8]
    refine lv_icmp_ge hx hb loq_d9 (tgt := 25) (by decide) (fun q9 => ?_) (fun q9 => ?_)
    · have q9_ : e8.toInt ≤ a.toInt := x_le32.mp q9
      refine lv_iconst hx hb loq_d25 (v := 0) (by decide) ?_
      refine lv_istore_n hx hb loq_d26 rfl hl (by decide) (lv' := [(3, .int (0 : Int32)), (0, .ref this), (1, .int y), (2, .int mi)]) rfl fun ls hl => ?_
      exact loq_L27 B hav hs0 hs8 hA0 hcn hd0 12 _ _ _ _ _ _ hI hY_this hY_bk hY_se hs_bk hs_se hA_bk hA_se (lv_sub hl [0, 1, 2, 3] rfl) (by first | assumption | omega) (fun i hi j => by rw [hz i (by omega), m_bi_0]; exact m_pr2_0.symm) (by omega)
    · have q9_ : a.toInt < e8.toInt := Int.not_le.mp fun q => q9 (x_le32.mpr q)
      refine lv_aload_n hx hb loq_d12 rfl (lv_at hl 1 rfl) ?_
      refine y_getf X (fl199 X.2.2.2.2.1) hI.1 hY_this rfl hs_se loq_d13 ?_
      refine lv_iload_n hx hb loq_d16 rfl (lv_at hl 0 rfl) ?_
      refine lv_iconst hx hb loq_d17 (v := 0) (by decide) ?_
      refine y_iast X hY0 hI hY_se rfl hA_se (by omega) (by show _ < (10 : Int); omega) ⟨_, rfl, x_i32 _⟩ (by decide +kernel) loq_d18 fun H locs hI h_new ho => ?_
      replace hA_se := h_new
      generalize hf_f18 : y_up fs a.toInt.toNat (0 : Int32) = f18 at hA_se
      replace hs_bk := y_slk hs_bk (ho _ (y_ne hY_this hY_se rfl))
      replace hs_se := y_slk hs_se (ho _ (y_ne hY_this hY_se rfl))
      replace hA_bk := hA_bk.kept (ho _ (y_ne hY_bk hY_se rfl))
      obtain ⟨z19, hg_z19⟩ : ∃ z19 : Int32, a + Int32.ofInt 1 = z19 := ⟨_, rfl⟩
      have h_z19 : z19.toInt = a.toInt + 1 := by rw [← hg_z19]; exact y_inc (by decide) (by omega) (by omega)
      refine lv_iinc hx hb loq_d19 hl (k := 0) rfl hg_z19 (by decide) (lv' := [(3, .int z19), (0, .ref this), (1, .int y), (2, .int mi)]) rfl fun ls hl => ?_
      refine lv_goto hx hb loq_d22 (tgt := 2) (by decide) ?_
      exact ih _ _ _ _ _ _ hI hY_this hY_bk hY_se hs_bk hs_se hA_bk hA_se (lv_sub hl [0, 1, 2, 3] rfl) (by first | assumption | omega) (fun i hi => by rw [← hf_f18]; by_cases e : (i : Int) = a.toInt; (rw [show i = a.toInt.toNat by omega, y_up_at]); rw [y_up_ne (by omega)]; exact hz i (by omega)) (by omega)
theorem ym_looks : y_Met vwCl x_G x_Zs x_Tb x_Nb xM185 y_T z_Plo := by
  refine y_main (by decide +kernel) (by decide +kernel) x_Tb_good x_Nb_ok ?_
  intro p l e s m below meth c D U Y0 av ls B hI _ hl
  have X := B.1
  have hx := X.1
  have hb := X.2.1
  have hY0 := B.2.2.2.2.1
  obtain ⟨v0, v1, v2, rfl, hv0, ⟨y, rfl, -⟩, ⟨mi, rfl, -⟩⟩ := y_three B.2.2.2.2.2
  obtain ⟨this, t0, rfl, ht0, hY_this⟩ := x_ref_at hv0 rfl
  obtain rfl := List.mem_singleton.mp ht0
  replace hl : lv_has ls xM185.2.2.1 [(0, .ref this), (1, .int y), (2, .int mi)] := hl
  obtain ⟨bk, hs_bk, hY_bk⟩ := y_fldR (k := 0) hI.1 hY_this rfl rfl
  obtain ⟨fb9, hA9, hB9⟩ := y_arr hI.1 hY_bk rfl rfl
  obtain ⟨fb, hcn, hA_bk, hB_bk⟩ := z_canon (Y := Y0) (P := fun j v => x_c Y0 ([xI 0 10, xI 0 8, xI 0 8].getD j xF) (.int v)) hA9 hB9
  clear hA9 hB9 fb9
  have hs0 := hs_bk
  have hA0 := hA_bk
  have hd := z_hdr hB_bk
  have hd0 := hd.1
  have hd1 := hd.2.1
  obtain ⟨se, hs_se, hY_se⟩ := y_fldR (k := 8) hI.1 hY_this rfl rfl
  obtain ⟨fs0, hA_se, -⟩ := y_arr hI.1 hY_se rfl rfl
  have hs8 := hs_se
  refine lv_iconst hx hb loq_d0 (v := 0) (by decide) ?_
  have ec0 : (0 : Int32).toInt = 0 := by decide
  refine lv_istore_n hx hb loq_d1 rfl hl (by decide) (lv' := [(3, .int (0 : Int32)), (0, .ref this), (1, .int y), (2, .int mi)]) rfl fun ls hl => ?_
  exact loq_L2 B rfl hs0 hs8 hA0 hcn hd0 12 _ _ _ _ _ _ hI hY_this hY_bk hY_se hs_bk hs_se hA_bk hA_se (lv_sub hl [0, 1, 2, 3] rfl) (by first | assumption | omega) (fun i hi => absurd hi (by omega)) (by omega)
def z_Plw : yP := fun D av _ H v _ H' => ∀ (this bk : Nat) (w : Int32) (f : Nat → Int32), av = [.ref this, .int w] → x_sl D 12 0 this H = some (.ref bk) → z_c f → y_A bk 160 H f → ∀ (se : Nat) (S : Nat → Int32), x_sl D 12 8 this H = some (.ref se) → (∀ i, i < (f 0).toInt.toNat → y_at se i H = some (.int (S i))) → v = some (.int (m_b (m_lw S w (f 0).toInt.toNat)))
theorem lwq_d0 : decode xM191.2.1 0 = .ok (.iconst 1, 1) := dz_ok (by decide +kernel)
theorem lwq_d1 : decode xM191.2.1 1 = .ok (.istore_n 2, 1) := dz_ok (by decide +kernel)
theorem lwq_d2 : decode xM191.2.1 2 = .ok (.iconst 0, 1) := dz_ok (by decide +kernel)
theorem lwq_d3 : decode xM191.2.1 3 = .ok (.istore_n 3, 1) := dz_ok (by decide +kernel)
theorem lwq_d4 : decode xM191.2.1 4 = .ok (.iload_n 3, 1) := dz_ok (by decide +kernel)
theorem lwq_d5 : decode xM191.2.1 5 = .ok (.aload_n 0, 1) := dz_ok (by decide +kernel)
theorem lwq_d6 : decode xM191.2.1 6 = .ok (.getfield 7, 3) := dz_ok (by decide +kernel)
theorem lwq_d9 : decode xM191.2.1 9 = .ok (.iconst 0, 1) := dz_ok (by decide +kernel)
theorem lwq_d10 : decode xM191.2.1 10 = .ok (.iaload, 1) := dz_ok (by decide +kernel)
theorem lwq_d11 : decode xM191.2.1 11 = .ok (.if_icmp .ge 42, 3) := dz_ok (by decide +kernel)
theorem lwq_d14 : decode xM191.2.1 14 = .ok (.iload_n 2, 1) := dz_ok (by decide +kernel)
theorem lwq_d15 : decode xM191.2.1 15 = .ok (.ifCond .eq 38, 3) := dz_ok (by decide +kernel)
theorem lwq_d18 : decode xM191.2.1 18 = .ok (.iload_n 1, 1) := dz_ok (by decide +kernel)
theorem lwq_d19 : decode xM191.2.1 19 = .ok (.iload_n 3, 1) := dz_ok (by decide +kernel)
theorem lwq_d20 : decode xM191.2.1 20 = .ok (.ishr, 1) := dz_ok (by decide +kernel)
theorem lwq_d21 : decode xM191.2.1 21 = .ok (.iconst 1, 1) := dz_ok (by decide +kernel)
theorem lwq_d22 : decode xM191.2.1 22 = .ok (.iand, 1) := dz_ok (by decide +kernel)
theorem lwq_d23 : decode xM191.2.1 23 = .ok (.ifCond .eq 18, 3) := dz_ok (by decide +kernel)
theorem lwq_d26 : decode xM191.2.1 26 = .ok (.aload_n 0, 1) := dz_ok (by decide +kernel)
theorem lwq_d27 : decode xM191.2.1 27 = .ok (.getfield 26, 3) := dz_ok (by decide +kernel)
theorem lwq_d30 : decode xM191.2.1 30 = .ok (.iload_n 3, 1) := dz_ok (by decide +kernel)
theorem lwq_d31 : decode xM191.2.1 31 = .ok (.iaload, 1) := dz_ok (by decide +kernel)
theorem lwq_d32 : decode xM191.2.1 32 = .ok (.iload_n 1, 1) := dz_ok (by decide +kernel)
theorem lwq_d33 : decode xM191.2.1 33 = .ok (.iand, 1) := dz_ok (by decide +kernel)
theorem lwq_d34 : decode xM191.2.1 34 = .ok (.invokestatic 148, 3) := dz_ok (by decide +kernel)
theorem lwq_d37 : decode xM191.2.1 37 = .ok (.iconst 1, 1) := dz_ok (by decide +kernel)
theorem lwq_d38 : decode xM191.2.1 38 = .ok (.if_icmp .ne 7, 3) := dz_ok (by decide +kernel)
theorem lwq_d41 : decode xM191.2.1 41 = .ok (.iconst 1, 1) := dz_ok (by decide +kernel)
theorem lwq_d42 : decode xM191.2.1 42 = .ok (.goto 4, 3) := dz_ok (by decide +kernel)
theorem lwq_d45 : decode xM191.2.1 45 = .ok (.iconst 0, 1) := dz_ok (by decide +kernel)
theorem lwq_d46 : decode xM191.2.1 46 = .ok (.istore_n 2, 1) := dz_ok (by decide +kernel)
theorem lwq_d47 : decode xM191.2.1 47 = .ok (.iinc 3 1, 3) := dz_ok (by decide +kernel)
theorem lwq_d50 : decode xM191.2.1 50 = .ok (.goto (-46), 3) := dz_ok (by decide +kernel)
theorem lwq_d53 : decode xM191.2.1 53 = .ok (.iload_n 2, 1) := dz_ok (by decide +kernel)
theorem lwq_d54 : decode xM191.2.1 54 = .ok (.ireturn, 1) := dz_ok (by decide +kernel)
theorem lwq_L4 {p : Program} {l : Launch} {e : Env} {s : State} {m : MethodId} {below : List Frame} {meth : Method} {c : Code} {D : va_G} {U : State} {Y0 : xY} {av : List Value} (B : y_B vwCl x_Tb x_Nb xM191 p s m meth c D U Y0 av) {this bk se : Nat} {w : Int32} {fb fs : Nat → Int32} (hav : av = [.ref this, .int w]) (hs0 : x_sl D 12 0 this s.heap = some (.ref bk)) (hs8 : x_sl D 12 8 this s.heap = some (.ref se)) (hA0 : y_A bk 160 s.heap fb) (hAs0 : y_A se 10 s.heap fs) (hcn : z_c fb) (hd0 : 0 ≤ (fb 0).toInt ∧ (fb 0).toInt ≤ 10)  :
    ∀ (n : Nat), ∀ (H : Heap) (Y : xY) (locs : List Loc) (ls : Array Slot) (j : Int32) (is : Int32), x_I D x_G x_Zs U (x_efs xM191) Y0 s.heap Y H locs → Y this = some 17 → Y bk = some 46 → Y se = some 51 → x_sl D 12 0 this H = some (.ref bk) → x_sl D 12 8 this H = some (.ref se) → y_A bk 160 H fb → y_A se 10 H fs → lv_has ls xM191.2.2.1 [(3, .int j), (2, .int is), (0, .ref this), (1, .int w)] → (0 ≤ j.toInt ∧ j.toInt ≤ (fb 0).toInt) → (is = m_b (m_all (fun h => !(m_has w (nI h)) || decide (z_bits (fs h &&& w) = 1)) j.toInt.toNat)) → (11 - j.toInt).toNat < n → W p l e (x_rm xM191) s m av.toArray below meth c H locs 0 0 (y_QQ below D x_G x_Zs U xM191 z_Plw av Y0 s) (F0 m 4 ls []) := by
  have X := B.1
  have hx := X.1
  have hb := X.2.1
  have hY0 := B.2.2.2.2.1
  intro n
  induction n with
  | zero => intro _ _ _ _ _ _ _ _ _ _ _ _ _ _ _ _ _ h; exact absurd h (Nat.not_lt_zero _)
  | succ n ih =>
    intro H Y locs ls j is  hI hY_this hY_bk hY_se hs_bk hs_se hA_bk hA_se hl hj his hn
    refine lv_iload_n hx hb lwq_d4 rfl (lv_at hl 0 rfl) ?_
    refine lv_aload_n hx hb lwq_d5 rfl (lv_at hl 2 rfl) ?_
    refine y_getf X (fl190 X.2.2.2.2.1) hI.1 hY_this rfl hs_bk lwq_d6 ?_
    refine lv_iconst hx hb lwq_d9 (v := 0) (by decide) ?_
    have ec0 : (0 : Int32).toInt = 0 := by decide
    refine y_iald X hI.1 hY_bk rfl hA_bk (by omega) (by show _ < (160 : Int); omega) lwq_d10 ?_
    obtain ⟨e10, hg_e10⟩ : ∃ e10 : Int32, fb (0 : Int32).toInt.toNat = e10 := ⟨_, rfl⟩
    rw [hg_e10]
    rw [z_i0] at hg_e10
    have h_e10 : e10.toInt = (fb 0).toInt := by rw [hg_e10]
    refine lv_icmp_ge hx hb lwq_d11 (tgt := 53) (by decide) (fun q11 => ?_) (fun q11 => ?_)
    · have q11_ : e10.toInt ≤ j.toInt := x_le32.mp q11
      refine lv_iload_n hx hb lwq_d53 rfl (lv_at hl 1 rfl) ?_
      have hfin : m_b (m_lw fs w (fb 0).toInt.toNat) = is := by rw [his]; refine congrArg m_b ?_; unfold m_lw; first | (rw [show j.toInt.toNat = (fb 0).toInt.toNat by omega]) | (have h9 := m_b0 (his.symm.trans q15); rw [h9]; exact m_all_F h9 (fb 0).toInt.toNat (by omega))
      have hb01 : 0 ≤ is.toInt ∧ is.toInt ≤ 1 := by rw [his]; exact m_b01
      subst hav
      exact y_ireturn B hI rfl rfl (x_nar_ok (u := (0, 1)) (by decide) ⟨hb01.1, hb01.2⟩) (List.mem_cons_of_mem _ List.mem_cons_self) ⟨_, rfl, ⟨_, rfl, hb01.1, hb01.2⟩⟩ (x_cs.mono B.2.2.2.2.2 (y_mon B hI)) (fun t' b' w0' f' h1 h2 h3 h4 => by cases h1; cases h2.symm.trans hs0; cases z_uniq h4 hA0 h3 hcn; exact fun se' S' h5 h6 => by cases h5.symm.trans hs8; rw [← hfin]; exact congrArg (fun x => some (Value.int (m_b x))) (m_all_congr fun i hi => by rw [show fs i = S' i by have h8 := (hAs0 i (by omega)).symm.trans (h6 i hi); injection h8 with h8; injection h8])) (Nat.le_refl _) (Nat.le_refl _) lwq_d54
    · have q11_ : j.toInt < e10.toInt := Int.not_le.mp fun q => q11 (x_le32.mpr q)
      refine lv_iload_n hx hb lwq_d14 rfl (lv_at hl 1 rfl) ?_
      refine lv_if_eq hx hb lwq_d15 (tgt := 53) (by decide) (fun q15 => ?_) (fun q15 => ?_)
      · have q15_ : is.toInt = (0 : Int32).toInt := by rw [q15]
        refine lv_iload_n hx hb lwq_d53 rfl (lv_at hl 1 rfl) ?_
        have hfin : m_b (m_lw fs w (fb 0).toInt.toNat) = is := by rw [his]; refine congrArg m_b ?_; unfold m_lw; first | (rw [show j.toInt.toNat = (fb 0).toInt.toNat by omega]) | (have h9 := m_b0 (his.symm.trans q15); rw [h9]; exact m_all_F h9 (fb 0).toInt.toNat (by omega))
        have hb01 : 0 ≤ is.toInt ∧ is.toInt ≤ 1 := by rw [his]; exact m_b01
        subst hav
        exact y_ireturn B hI rfl rfl (x_nar_ok (u := (0, 1)) (by decide) ⟨hb01.1, hb01.2⟩) (List.mem_cons_of_mem _ List.mem_cons_self) ⟨_, rfl, ⟨_, rfl, hb01.1, hb01.2⟩⟩ (x_cs.mono B.2.2.2.2.2 (y_mon B hI)) (fun t' b' w0' f' h1 h2 h3 h4 => by cases h1; cases h2.symm.trans hs0; cases z_uniq h4 hA0 h3 hcn; exact fun se' S' h5 h6 => by cases h5.symm.trans hs8; rw [← hfin]; exact congrArg (fun x => some (Value.int (m_b x))) (m_all_congr fun i hi => by rw [show fs i = S' i by have h8 := (hAs0 i (by omega)).symm.trans (h6 i hi); injection h8 with h8; injection h8])) (Nat.le_refl _) (Nat.le_refl _) lwq_d54
      · have q15_ : ¬ is.toInt = (0 : Int32).toInt := fun q => q15 (Int32.toInt_inj.mp q)
        refine lv_iload_n hx hb lwq_d18 rfl (lv_at hl 3 rfl) ?_
        refine lv_iload_n hx hb lwq_d19 rfl (lv_at hl 0 rfl) ?_
        refine lv_ishr hx hb lwq_d20 ?_
        generalize hg_z20 : w >>> (j &&& 31) = z20
        refine lv_iconst hx hb lwq_d21 (v := 1) (by decide) ?_
        have ec1 : (1 : Int32).toInt = 1 := by decide
        refine lv_iand hx hb lwq_d22 ?_
        generalize hg_z22 : z20 &&& (1 : Int32) = z22
        refine lv_if_eq hx hb lwq_d23 (tgt := 41) (by decide) (fun q23 => ?_) (fun q23 => ?_)
        · have q23_ : z22.toInt = (0 : Int32).toInt := by rw [q23]
          refine lv_iconst hx hb lwq_d41 (v := 1) (by decide) ?_
          refine lv_goto hx hb lwq_d42 (tgt := 46) (by decide) ?_
          refine lv_istore_n hx hb lwq_d46 rfl hl (by decide) (lv' := [(2, .int (1 : Int32)), (3, .int j), (0, .ref this), (1, .int w)]) rfl fun ls hl => ?_
          obtain ⟨z47, hg_z47⟩ : ∃ z47 : Int32, j + Int32.ofInt 1 = z47 := ⟨_, rfl⟩
          have h_z47 : z47.toInt = j.toInt + 1 := by rw [← hg_z47]; exact y_inc (by decide) (by omega) (by omega)
          refine lv_iinc hx hb lwq_d47 hl (k := 1) rfl hg_z47 (by decide) (lv' := [(3, .int z47), (2, .int (1 : Int32)), (0, .ref this), (1, .int w)]) rfl fun ls hl => ?_
          refine lv_goto hx hb lwq_d50 (tgt := 4) (by decide) ?_
          have hnx : z47.toInt.toNat = j.toInt.toNat + 1 := by omega
          have h1b := m_bn (fun q => q15 (his.trans q))
          have hnj := m_nj hj.1
          exact ih _ _ _ _ _ _ hI hY_this hY_bk hY_se hs_bk hs_se hA_bk hA_se (lv_sub hl [0, 1, 2, 3] rfl) (by first | assumption | omega) (by rw [hnx]; show _ = m_b (m_all (fun h => !(m_has w (nI h)) || decide (z_bits (fs h &&& w) = 1)) j.toInt.toNat && (!(m_has w (nI j.toInt.toNat)) || decide (z_bits (fs j.toInt.toNat &&& w) = 1))); rw [h1b, Bool.true_and, hnj]; first | (rw [show m_has w j = false by unfold m_has; rw [hg_z20, hg_z22]; exact decide_eq_false (fun q => q q23)]; rfl) | (rw [hg_e31, hg_z33, hg_r34, q38, Bool.or_eq_true_iff.mpr (Or.inr (decide_eq_true rfl))]; rfl) | (rw [show m_has w j = true by unfold m_has; rw [hg_z20, hg_z22]; exact decide_eq_true q23, hg_e31, hg_z33, hg_r34, decide_eq_false q38]; rfl)) (by omega)
        · have q23_ : ¬ z22.toInt = (0 : Int32).toInt := fun q => q23 (Int32.toInt_inj.mp q)
          refine lv_aload_n hx hb lwq_d26 rfl (lv_at hl 2 rfl) ?_
          refine y_getf X (fl199 X.2.2.2.2.1) hI.1 hY_this rfl hs_se lwq_d27 ?_
          refine lv_iload_n hx hb lwq_d30 rfl (lv_at hl 0 rfl) ?_
          refine y_iald X hI.1 hY_se rfl hA_se (by omega) (by show _ < (10 : Int); omega) lwq_d31 ?_
          obtain ⟨e31, hg_e31⟩ : ∃ e31 : Int32, fs j.toInt.toNat = e31 := ⟨_, rfl⟩
          rw [hg_e31]
          refine lv_iload_n hx hb lwq_d32 rfl (lv_at hl 3 rfl) ?_
          refine lv_iand hx hb lwq_d33 ?_
          generalize hg_z33 : e31 &&& w = z33
          refine y_call (z := (1, 148, 1, none, xM189)) (av := [.int z33]) (rest := []) (y_cokS (n := 1) X ym_bits (x_cons (x_bw78 4 rfl rfl) (x_cons (x_bw78 5 rfl rfl) (x_cons (x_bw0 9 rfl rfl) x_nilm))) (x_bw78 6 rfl rfl) (by decide +kernel) ⟨Nat.le_of_ble_eq_true rfl, Nat.le_of_ble_eq_true rfl⟩) hY0 hI rfl lwq_d34 hl.1 (Nat.le_of_ble_eq_true rfl) (Nat.le_of_ble_eq_true rfl) (Nat.le_of_ble_eq_true rfl) (y_cons ⟨_, rfl, x_i32 _⟩ y_nil) rfl (y_norecv rfl) trivial (y_sub_ef rfl) fun v Yn o Hn L ho hr ha hIn hx_ hE hP => ?_
          have hPs := hP _ rfl
          obtain rfl := hPs
          replace hs_bk := y_Efld hE hY_this rfl (by decide) (by decide) hs_bk
          replace hs_se := y_Efld hE hY_this rfl (by decide) (by decide) hs_se
          replace hA_bk := hA_bk.kept (y_Earr hE hY_bk rfl (by decide))
          replace hA_se := hA_se.kept (y_Earr hE hY_se rfl (by decide))
          replace hY_this := y_ext hx_ hI.1 hY_this
          replace hY_bk := y_ext hx_ hI.1 hY_bk
          replace hY_se := y_ext hx_ hI.1 hY_se
          generalize hg_r34 : z_bits z33 = r34
          clear ho hr ha hE hP hI hx_
          rename x_I _ _ _ _ _ _ _ _ _ _ => hI
          refine lv_iconst hx hb lwq_d37 (v := 1) (by decide) ?_
          refine lv_icmp_ne hx hb lwq_d38 (tgt := 45) (by decide) (fun q38 => ?_) (fun q38 => ?_)
          · have q38_ : ¬ r34.toInt = (1 : Int32).toInt := fun q => q38 (Int32.toInt_inj.mp q)
            refine lv_iconst hx hb lwq_d45 (v := 0) (by decide) ?_
            refine lv_istore_n hx hb lwq_d46 rfl hl (by decide) (lv' := [(2, .int (0 : Int32)), (3, .int j), (0, .ref this), (1, .int w)]) rfl fun ls hl => ?_
            obtain ⟨z47, hg_z47⟩ : ∃ z47 : Int32, j + Int32.ofInt 1 = z47 := ⟨_, rfl⟩
            have h_z47 : z47.toInt = j.toInt + 1 := by rw [← hg_z47]; exact y_inc (by decide) (by omega) (by omega)
            refine lv_iinc hx hb lwq_d47 hl (k := 1) rfl hg_z47 (by decide) (lv' := [(3, .int z47), (2, .int (0 : Int32)), (0, .ref this), (1, .int w)]) rfl fun ls hl => ?_
            refine lv_goto hx hb lwq_d50 (tgt := 4) (by decide) ?_
            have hnx : z47.toInt.toNat = j.toInt.toNat + 1 := by omega
            have h1b := m_bn (fun q => q15 (his.trans q))
            have hnj := m_nj hj.1
            exact ih _ _ _ _ _ _ hI hY_this hY_bk hY_se hs_bk hs_se hA_bk hA_se (lv_sub hl [0, 1, 2, 3] rfl) (by first | assumption | omega) (by rw [hnx]; show _ = m_b (m_all (fun h => !(m_has w (nI h)) || decide (z_bits (fs h &&& w) = 1)) j.toInt.toNat && (!(m_has w (nI j.toInt.toNat)) || decide (z_bits (fs j.toInt.toNat &&& w) = 1))); rw [h1b, Bool.true_and, hnj]; first | (rw [show m_has w j = false by unfold m_has; rw [hg_z20, hg_z22]; exact decide_eq_false (fun q => q q23)]; rfl) | (rw [hg_e31, hg_z33, hg_r34, q38, Bool.or_eq_true_iff.mpr (Or.inr (decide_eq_true rfl))]; rfl) | (rw [show m_has w j = true by unfold m_has; rw [hg_z20, hg_z22]; exact decide_eq_true q23, hg_e31, hg_z33, hg_r34, decide_eq_false q38]; rfl)) (by omega)
          · have q38_ : r34.toInt = (1 : Int32).toInt := by rw [q38]
            refine lv_iconst hx hb lwq_d41 (v := 1) (by decide) ?_
            refine lv_goto hx hb lwq_d42 (tgt := 46) (by decide) ?_
            refine lv_istore_n hx hb lwq_d46 rfl hl (by decide) (lv' := [(2, .int (1 : Int32)), (3, .int j), (0, .ref this), (1, .int w)]) rfl fun ls hl => ?_
            obtain ⟨z47, hg_z47⟩ : ∃ z47 : Int32, j + Int32.ofInt 1 = z47 := ⟨_, rfl⟩
            have h_z47 : z47.toInt = j.toInt + 1 := by rw [← hg_z47]; exact y_inc (by decide) (by omega) (by omega)
            refine lv_iinc hx hb lwq_d47 hl (k := 1) rfl hg_z47 (by decide) (lv' := [(3, .int z47), (2, .int (1 : Int32)), (0, .ref this), (1, .int w)]) rfl fun ls hl => ?_
            refine lv_goto hx hb lwq_d50 (tgt := 4) (by decide) ?_
            have hnx : z47.toInt.toNat = j.toInt.toNat + 1 := by omega
            have h1b := m_bn (fun q => q15 (his.trans q))
            have hnj := m_nj hj.1
            exact ih _ _ _ _ _ _ hI hY_this hY_bk hY_se hs_bk hs_se hA_bk hA_se (lv_sub hl [0, 1, 2, 3] rfl) (by first | assumption | omega) (by rw [hnx]; show _ = m_b (m_all (fun h => !(m_has w (nI h)) || decide (z_bits (fs h &&& w) = 1)) j.toInt.toNat && (!(m_has w (nI j.toInt.toNat)) || decide (z_bits (fs j.toInt.toNat &&& w) = 1))); rw [h1b, Bool.true_and, hnj]; first | (rw [show m_has w j = false by unfold m_has; rw [hg_z20, hg_z22]; exact decide_eq_false (fun q => q q23)]; rfl) | (rw [hg_e31, hg_z33, hg_r34, q38, Bool.or_eq_true_iff.mpr (Or.inr (decide_eq_true rfl))]; rfl) | (rw [show m_has w j = true by unfold m_has; rw [hg_z20, hg_z22]; exact decide_eq_true q23, hg_e31, hg_z33, hg_r34, decide_eq_false q38]; rfl)) (by omega)
theorem ym_isLawfulX : y_Met vwCl x_G x_Zs x_Tb x_Nb xM191 y_T z_Plw := by
  refine y_main (by decide +kernel) (by decide +kernel) x_Tb_good x_Nb_ok ?_
  intro p l e s m below meth c D U Y0 av ls B hI _ hl
  have X := B.1
  have hx := X.1
  have hb := X.2.1
  have hY0 := B.2.2.2.2.1
  obtain ⟨v0, v1, rfl, hv0, ⟨w, rfl, -⟩⟩ := x_two B.2.2.2.2.2
  obtain ⟨this, t0, rfl, ht0, hY_this⟩ := x_ref_at hv0 rfl
  obtain rfl := List.mem_singleton.mp ht0
  replace hl : lv_has ls xM191.2.2.1 [(0, .ref this), (1, .int w)] := hl
  obtain ⟨bk, hs_bk, hY_bk⟩ := y_fldR (k := 0) hI.1 hY_this rfl rfl
  obtain ⟨fb9, hA9, hB9⟩ := y_arr hI.1 hY_bk rfl rfl
  obtain ⟨fb, hcn, hA_bk, hB_bk⟩ := z_canon (Y := Y0) (P := fun j v => x_c Y0 ([xI 0 10, xI 0 8, xI 0 8].getD j xF) (.int v)) hA9 hB9
  clear hA9 hB9 fb9
  have hs0 := hs_bk
  have hA0 := hA_bk
  have hd := z_hdr hB_bk
  have hd0 := hd.1
  have hd1 := hd.2.1
  obtain ⟨se, hs_se, hY_se⟩ := y_fldR (k := 8) hI.1 hY_this rfl rfl
  obtain ⟨fs, hA_se, -⟩ := y_arr hI.1 hY_se rfl rfl
  have hs8 := hs_se
  have hAs0 := hA_se
  refine lv_iconst hx hb lwq_d0 (v := 1) (by decide) ?_
  have ec1 : (1 : Int32).toInt = 1 := by decide
  refine lv_istore_n hx hb lwq_d1 rfl hl (by decide) (lv' := [(2, .int (1 : Int32)), (0, .ref this), (1, .int w)]) rfl fun ls hl => ?_
  refine lv_iconst hx hb lwq_d2 (v := 0) (by decide) ?_
  have ec0 : (0 : Int32).toInt = 0 := by decide
  refine lv_istore_n hx hb lwq_d3 rfl hl (by decide) (lv' := [(3, .int (0 : Int32)), (2, .int (1 : Int32)), (0, .ref this), (1, .int w)]) rfl fun ls hl => ?_
  exact lwq_L4 B rfl hs0 hs8 hA0 hAs0 hcn hd0 12 _ _ _ _ _ _ hI hY_this hY_bk hY_se hs_bk hs_se hA_bk hA_se (lv_sub hl [0, 1, 2, 3] rfl) (by first | assumption | omega) rfl (by omega)

