/-! BOTH SIDES SEE ALIKE: whole numbers with their bounds -/
def m_R (v : Int32) (z B : Int) : Prop := v.toInt = z ∧ -B ≤ z ∧ z ≤ B
section MRR
variable {u v : Int32} {z w A B : Int}
theorem m_mulB (a2 : -A ≤ z) (a3 : z ≤ A) (b2 : -B ≤ w) (b3 : w ≤ B) : -(A * B) ≤ z * w ∧ z * w ≤ A * B := by
  have h : (z * w).natAbs ≤ A.toNat * B.toNat := by
    rw [Int.natAbs_mul]; exact Nat.mul_le_mul (by omega) (by omega)
  have e : ((A.toNat * B.toNat : Nat) : Int) = A * B := by
    rw [Int.natCast_mul, Int.toNat_of_nonneg (by omega), Int.toNat_of_nonneg (by omega)]
  omega
theorem m_R.of (h1 : -B ≤ v.toInt) (h2 : v.toInt ≤ B) : m_R v v.toInt B := ⟨rfl, h1, h2⟩
theorem m_R.le (h : m_R v z A) (h1 : A ≤ B) : m_R v z B := ⟨h.1, by have := h.2.1; omega, by have := h.2.2; omega⟩
theorem m_R.sub (h1 : m_R u z A) (h2 : m_R v w B) (h : A + B ≤ 2147483647) : m_R (u - v) (z - w) (A + B) := by
  obtain ⟨a1, a2, a3⟩ := h1
  obtain ⟨b1, b2, b3⟩ := h2
  exact ⟨by rw [y_sub (by omega) (by omega), a1, b1], by omega, by omega⟩
theorem m_R.add (h1 : m_R u z A) (h2 : m_R v w B) (h : A + B ≤ 2147483647) : m_R (u + v) (z + w) (A + B) := by
  obtain ⟨a1, a2, a3⟩ := h1
  obtain ⟨b1, b2, b3⟩ := h2
  exact ⟨by rw [y_add (by omega) (by omega), a1, b1], by omega, by omega⟩
theorem m_R.mul (h1 : m_R u z A) (h2 : m_R v w B) (h : A * B ≤ 2147483647) : m_R (u * v) (z * w) (A * B) := by
  obtain ⟨a1, a2, a3⟩ := h1
  obtain ⟨b1, b2, b3⟩ := h2
  have := m_mulB a2 a3 b2 b3
  exact ⟨by rw [y_mul (by rw [a1, b1]; omega) (by rw [a1, b1]; omega), a1, b1], this.1, this.2⟩
theorem m_R.neg (h1 : m_R u z A) (h : A ≤ 2147483647) : m_R (-u) (-z) A := by
  obtain ⟨a1, a2, a3⟩ := h1
  exact ⟨by rw [Int32.toInt_neg, a1, x_bm (by omega) (by omega)], by omega, by omega⟩
theorem m_R.abs (h1 : m_R u z A) (h : A ≤ 2147483647) : m_R (m_abs u) (max z (-z)) A := by
  have h9 := h1
  obtain ⟨a1, a2, a3⟩ := h9
  unfold m_abs
  by_cases q : 0 ≤ u
  · have q1 := x_le32.mp q
    rw [m_c0] at q1
    rw [if_pos q]; exact ⟨by omega, by omega, by omega⟩
  · have q1 : ¬ (0 : Int32).toInt ≤ u.toInt := fun q2 => q (x_le32.mpr q2)
    rw [m_c0] at q1
    have h2 : m_R (0 : Int32) 0 0 := ⟨m_c0, by omega, by omega⟩
    have h3 := h2.sub h1 (by omega)
    rw [if_neg q]; exact ⟨by rw [h3.1]; omega, by omega, by omega⟩
theorem m_R.ab2 (h1 : m_R u z A) (h : A ≤ 2147483647) : m_R (m_ab2 u) (max z (-z)) A := by
  have h9 := h1
  obtain ⟨a1, a2, a3⟩ := h9
  unfold m_ab2
  by_cases q : u < 0
  · have q1 := x_lt32.mp q
    rw [m_c0] at q1
    rw [if_pos q]; exact ⟨by rw [(h1.neg h).1]; omega, by omega, by omega⟩
  · have q1 : ¬ u.toInt < (0 : Int32).toInt := fun q2 => q (x_lt32.mpr q2)
    rw [m_c0] at q1
    rw [if_neg q]; exact ⟨by omega, by omega, by omega⟩
theorem m_R.mxa (h1 : m_R u z A) (h2 : m_R v w A) : m_R (m_max u v) (max z w) A := by
  obtain ⟨a1, a2, a3⟩ := h1
  obtain ⟨b1, b2, b3⟩ := h2
  unfold m_max
  by_cases q : u < v
  · have q1 := x_lt32.mp q
    rw [if_pos q]; exact ⟨by omega, by omega, by omega⟩
  · have q1 : ¬ u.toInt < v.toInt := fun q2 => q (x_lt32.mpr q2)
    rw [if_neg q]; exact ⟨by omega, by omega, by omega⟩
theorem m_R.mx2 (h1 : m_R u z A) (h2 : m_R v w A) : m_R (m_mx2 u v) (max z w) A := by
  obtain ⟨a1, a2, a3⟩ := h1
  obtain ⟨b1, b2, b3⟩ := h2
  unfold m_mx2
  by_cases q : v < u
  · have q1 := x_lt32.mp q
    rw [if_pos q]; exact ⟨by omega, by omega, by omega⟩
  · have q1 : ¬ v.toInt < u.toInt := fun q2 => q (x_lt32.mpr q2)
    rw [if_neg q]; exact ⟨by omega, by omega, by omega⟩
end MRR
/-- what hides, in whole numbers: u, v from a to b; p, q from a to what stands there, h high -/
def m_HJ (u v p q ha hb w h : Int) : Prop := 0 < p * u + q * v ∧ p * u + q * v < u * u + v * v ∧ max (p * v - q * u) (-(p * v - q * u)) ≤ w * max (max u (-u)) (max v (-v)) ∧ ha * (u * u + v * v) + (hb - ha) * (p * u + q * v) < h * (u * u + v * v)
def m_HI (xa ya ha xb yb hb w x y h : Int) : Prop := m_HJ (xb - xa) (yb - ya) (x - xa) (y - ya) ha hb w h
theorem m_HJ_symm {u v p q ha hb w h : Int} (h0 : m_HJ u v p q ha hb w h) : m_HJ (-u) (-v) (p - u) (q - v) hb ha w h := by
  obtain ⟨h1, h2, h3, h4⟩ := h0
  have eD : (-u) * (-u) + (-v) * (-v) = u * u + v * v := by rw [Int.neg_mul_neg, Int.neg_mul_neg]
  have eA : (p - u) * (-u) + (q - v) * (-v) = (u * u + v * v) - (p * u + q * v) := by
    rw [Int.mul_neg, Int.mul_neg, Int.sub_mul, Int.sub_mul]; omega
  have eC : (p - u) * (-v) - (q - v) * (-u) = -(p * v - q * u) := by
    rw [Int.mul_neg, Int.mul_neg, Int.sub_mul, Int.sub_mul, Int.mul_comm v u]; omega
  unfold m_HJ
  rw [eD, eA, eC]
  generalize hD : u * u + v * v = D at *
  generalize hA : p * u + q * v = al at *
  generalize hC : p * v - q * u = cr at *
  refine ⟨by omega, by omega, ?_, ?_⟩
  · rw [show max (-u) (- -u) = max u (-u) by omega, show max (-v) (- -v) = max v (-v) by omega]
    omega
  · rw [Int.sub_mul] at h4
    rw [Int.sub_mul, Int.mul_sub, Int.mul_sub]
    omega
theorem m_HI_symm {xa ya ha xb yb hb w x y h : Int} : m_HI xa ya ha xb yb hb w x y h ↔ m_HI xb yb hb xa ya ha w x y h := by
  unfold m_HI
  constructor
  · intro h0
    have := m_HJ_symm h0
    rw [show xa - xb = -(xb - xa) by omega, show ya - yb = -(yb - ya) by omega, show x - xb = x - xa - (xb - xa) by omega, show y - yb = y - ya - (yb - ya) by omega]
    exact this
  · intro h0
    have := m_HJ_symm h0
    rw [show xb - xa = -(xa - xb) by omega, show yb - ya = -(ya - yb) by omega, show x - xa = x - xb - (xa - xb) by omega, show y - ya = y - yb - (ya - yb) by omega]
    exact this
def m_HF (f : Nat → Int32) (a b : Nat) (x y h : Int) : Prop := m_HI (f (10 + 5 * a)).toInt (f (11 + 5 * a)).toInt (f (12 + 5 * a)).toInt (f (10 + 5 * b)).toInt (f (11 + 5 * b)).toInt (f (12 + 5 * b)).toInt (f 6).toInt x y h
section MHF
variable {f : Nat → Int32} {a b : Nat} {x y h : Int32}
theorem m_rg.hill (hg : m_rg f) (ha : a < 10) : m_R (f (10 + 5 * a)) (f (10 + 5 * a)).toInt 19 ∧ m_R (f (11 + 5 * a)) (f (11 + 5 * a)).toInt 19 ∧ m_R (f (12 + 5 * a)) (f (12 + 5 * a)).toInt 99 := by
  obtain ⟨t1, t2, t3, -⟩ := m_T1 a ha
  have b1 := (hg (10 + 5 * a) (by omega)).to t1
  have b2 := (hg (11 + 5 * a) (by omega)).to t2
  have b3 := (hg (12 + 5 * a) (by omega)).to t3
  exact ⟨.of (by omega) (by omega), .of (by omega) (by omega), .of (by omega) (by omega)⟩
theorem m_hs_iff (hg : m_rg f) (ha : a < 10) (hb : b < 10) (hx : 0 ≤ x.toInt ∧ x.toInt ≤ 19) (hy : 0 ≤ y.toInt ∧ y.toInt ≤ 19) (hh : 0 ≤ h.toInt ∧ h.toInt ≤ 99) : m_hs f a b x y h = true ↔ m_HF f a b x.toInt y.toInt h.toInt := by
  obtain ⟨a1, a2, a3⟩ := hg.hill ha
  obtain ⟨b1, b2, b3⟩ := hg.hill hb
  have w6 := (hg 6 (by decide)).to m_T0.2.2.2.2.2.1
  have rw6 : m_R (f 6) (f 6).toInt 3 := .of (by omega) (by omega)
  have rx : m_R x x.toInt 19 := .of (by omega) (by omega)
  have ry : m_R y y.toInt 19 := .of (by omega) (by omega)
  have rh : m_R h h.toInt 99 := .of (by omega) (by omega)
  have du := b1.sub a1 (by decide)
  have dv := b2.sub a2 (by decide)
  have dp := rx.sub a1 (by decide)
  have dq := ry.sub a2 (by decide)
  have rD : m_R (m_rd f a b) _ _ := (du.mul du (by decide)).add (dv.mul dv (by decide)) (by decide)
  have rA : m_R (m_ra f a b x y) _ _ := (dp.mul du (by decide)).add (dq.mul dv (by decide)) (by decide)
  have rC : m_R (m_rs f a b x y) _ _ := ((dp.mul dv (by decide)).sub (dq.mul du (by decide)) (by decide)).ab2 (by decide)
  have rW : m_R (m_rw f a b) _ _ := rw6.mul ((du.ab2 (by decide)).mx2 (dv.ab2 (by decide))) (by decide)
  have rL := (a3.mul rD (by decide)).add ((b3.sub a3 (by decide)).mul rA (by decide)) (by decide)
  have rH := rh.mul rD (by decide)
  unfold m_hs
  simp only [Bool.and_eq_true, decide_eq_true_eq]
  rw [rL.1, rH.1, rC.1, rW.1, rA.1, rD.1]
  exact Iff.rfl
theorem m_cl_iff (hg : m_rg f) (ha : a < 10) (hb : b < 10) (hx : 0 ≤ x.toInt ∧ x.toInt ≤ 19) (hy : 0 ≤ y.toInt ∧ y.toInt ≤ 19) (hh : 0 ≤ h.toInt ∧ h.toInt ≤ 99) : (m_mt (m_ln f a b) x y && m_hd (m_ln f a b) x y h) = true ↔ m_HF f a b x.toInt y.toInt h.toInt := by
  obtain ⟨a1, a2, a3⟩ := hg.hill ha
  obtain ⟨b1, b2, b3⟩ := hg.hill hb
  have w6 := (hg 6 (by decide)).to m_T0.2.2.2.2.2.1
  have rw6 : m_R (f 6) (f 6).toInt 3 := .of (by omega) (by omega)
  have rx : m_R x x.toInt 19 := .of (by omega) (by omega)
  have ry : m_R y y.toInt 19 := .of (by omega) (by omega)
  have rh : m_R h h.toInt 99 := .of (by omega) (by omega)
  have du := b1.sub a1 (by decide)
  have dv := b2.sub a2 (by decide)
  have dp := rx.sub a1 (by decide)
  have dq := ry.sub a2 (by decide)
  have rD : m_R (m_ln f a b 7) _ _ := (du.mul du (by decide)).add (dv.mul dv (by decide)) (by decide)
  have rA : m_R (m_al (m_ln f a b) x y) _ _ := (dp.mul du (by decide)).add (dq.mul dv (by decide)) (by decide)
  have rC : m_R (m_abs ((x - m_ln f a b 0) * m_ln f a b 3 - (y - m_ln f a b 1) * m_ln f a b 2)) _ _ := ((dp.mul dv (by decide)).sub (dq.mul du (by decide)) (by decide)).abs (by decide)
  have rW : m_R (m_ln f a b 4) _ _ := rw6.mul ((du.abs (by decide)).mxa (dv.abs (by decide))) (by decide)
  have rO : m_R (m_ov (m_ln f a b) x y h) _ _ := ((a3.sub rh (by decide)).mul rD (by decide)).add ((b3.sub a3 (by decide)).mul rA (by decide)) (by decide)
  unfold m_mt m_bt m_hd
  simp only [Bool.and_eq_true, decide_eq_true_eq]
  rw [rO.1, rC.1, rW.1, rA.1, rD.1, Int.sub_mul (f (12 + 5 * a)).toInt h.toInt]
  unfold m_HF m_HI m_HJ
  constructor
  · rintro ⟨⟨⟨h1, h2⟩, h3⟩, h4⟩
    exact ⟨h1, h2, h3, by omega⟩
  · rintro ⟨h1, h2, h3, h4⟩
    exact ⟨⟨⟨h1, h2⟩, h3⟩, by omega⟩
end MHF
theorem m_99_rg {v : Int32} (h : 0 ≤ v.toInt) : 0 ≤ (m_99 v).toInt ∧ (m_99 v).toInt ≤ 99 := by
  by_cases q : 99 < v.toInt
  · rw [m_99_lt q]; decide
  · rw [m_99_le (by omega)]; omega
section MHG
variable {f : Nat → Int32} {t p : Nat} {y d : Int32}
theorem m_wd_rg (hk : 0 ≤ (f p).toInt) (h3 : 0 ≤ (f (p + 3)).toInt ∧ (f (p + 3)).toInt ≤ 99) (h4 : 0 ≤ (f (p + 4)).toInt ∧ (f (p + 4)).toInt ≤ 9) (hy : 0 ≤ y.toInt ∧ y.toInt ≤ 99) : 0 ≤ (m_wd f p y d).toInt ∧ (m_wd f p y d).toInt ≤ 99 := by
  unfold m_wd
  by_cases hd : d = 0
  · rw [if_pos hd]
    have r3 : m_R (f (p + 3)) (f (p + 3)).toInt 99 := .of (by omega) (by omega)
    have r4 : m_R (f (p + 4)) (f (p + 4)).toInt 9 := .of (by omega) (by omega)
    have ry : m_R y y.toInt 99 := .of (by omega) (by omega)
    have hg : ∃ z : Int, m_R (m_gr (f p).toInt (f (p + 4)) y) z 1782 ∧ 0 ≤ z := by
      unfold m_gr
      by_cases k1 : (f p).toInt = 1
      · rw [if_pos k1]; exact ⟨_, (r4.mul ry (by decide)).le (by decide), Int.mul_nonneg h4.1 hy.1⟩
      · rw [if_neg k1]
        by_cases k3 : (f p).toInt = 3
        · rw [if_pos k3]
          have e5 : (5 : Int32).toInt = 5 := by decide
          have hd5 := y_div (x := y) (y := (5 : Int32)) (by omega) (by rw [e5]; omega)
          rw [e5] at hd5
          have r5 : m_R (y / 5) (y / 5).toInt 19 := .of (by omega) (by omega)
          have r55 : m_R (5 : Int32) 5 5 := ⟨e5, by omega, by omega⟩
          have r6 := ry.sub (r5.mul r55 (by decide)) (by decide)
          have r7 : m_R (y - y / 5 * 5) (y.toInt - (y / 5).toInt * 5) 4 := ⟨r6.1, by omega, by omega⟩
          exact ⟨_, (r4.mul r7 (by decide)).le (by decide), Int.mul_nonneg h4.1 (by omega)⟩
        · rw [if_neg k3]
          have r2 : m_R (2 : Int32) 2 2 := ⟨by decide, by omega, by omega⟩
          exact ⟨_, (r2.mul r4 (by decide)).mul ry (by decide), Int.mul_nonneg (by omega) hy.1⟩
    obtain ⟨z, r, hz⟩ := hg
    exact m_99_rg (by rw [(r3.add r (by decide)).1]; omega)
  · rw [if_neg hd]; decide
theorem m_stn_rg (hk : 0 ≤ (f p).toInt) (h3 : 0 ≤ (f (p + 3)).toInt ∧ (f (p + 3)).toInt ≤ 99) (h4 : 0 ≤ (f (p + 4)).toInt ∧ (f (p + 4)).toInt ≤ 9) (hy : 0 ≤ y.toInt ∧ y.toInt ≤ 99) : 0 ≤ (m_stn f p y d).toInt ∧ (m_stn f p y d).toInt ≤ 99 := by
  have hw := m_wd_rg (d := d) hk h3 h4 hy
  unfold m_stn
  by_cases k0 : (f p).toInt = 0
  · rw [if_pos k0]; exact h3
  rw [if_neg k0]
  by_cases k5 : (f p).toInt = 5
  · rw [if_pos k5]
    by_cases hd : d = 0
    · rw [if_pos hd]; decide
    · rw [if_neg hd]; exact h3
  rw [if_neg k5]
  by_cases k4 : (f p).toInt = 4
  · rw [if_pos k4]
    have e2 : (2 : Int32).toInt = 2 := by decide
    have h2 := y_div (x := m_wd f p y d) (y := (2 : Int32)) (by omega) (by rw [e2]; omega)
    rw [e2] at h2
    omega
  · rw [if_neg k4]; exact hw
theorem m_rg.thing (hg : m_rg f) (ht : t < 8) : (0 ≤ (f (60 + 7 * t)).toInt ∧ (f (60 + 7 * t)).toInt ≤ 5) ∧ (0 ≤ (f (61 + 7 * t)).toInt ∧ (f (61 + 7 * t)).toInt ≤ 19) ∧ (0 ≤ (f (62 + 7 * t)).toInt ∧ (f (62 + 7 * t)).toInt ≤ 19) ∧ (0 ≤ (f (63 + 7 * t)).toInt ∧ (f (63 + 7 * t)).toInt ≤ 99) ∧ (0 ≤ (f (64 + 7 * t)).toInt ∧ (f (64 + 7 * t)).toInt ≤ 9) := by
  obtain ⟨t0, t1, t2, t3, t4, -⟩ := m_T2 t ht
  exact ⟨(hg _ (by omega)).to t0, (hg _ (by omega)).to t1, (hg _ (by omega)).to t2, (hg _ (by omega)).to t3, (hg _ (by omega)).to t4⟩
theorem m_stn_rg2 (hg : m_rg f) (ht : t < 8) (hy : 0 ≤ y.toInt ∧ y.toInt ≤ 99) : 0 ≤ (m_stn f (60 + 7 * t) y d).toInt ∧ (m_stn f (60 + 7 * t) y d).toInt ≤ 99 := by
  obtain ⟨t0, -, -, t3, t4⟩ := hg.thing ht
  exact m_stn_rg t0.1 (by rw [show 60 + 7 * t + 3 = 63 + 7 * t by omega]; exact t3) (by rw [show 60 + 7 * t + 4 = 64 + 7 * t by omega]; exact t4) hy
end MHG
section MEQ
variable {f : Nat → Int32} {a b : Nat} {y mi wk : Int32}
/-- in sight, in words of both -/
def m_SI (f : Nat → Int32) (a b : Nat) (y mi : Int32) : Prop := (mi.toInt ≤ (f (12 + 5 * a)).toInt ∧ mi.toInt ≤ (f (12 + 5 * b)).toInt) ∧ (∀ h : Nat, h < (f 0).toInt.toNat → h ≠ a → h ≠ b → ¬ m_HF f a b (f (10 + 5 * h)).toInt (f (11 + 5 * h)).toInt (f (12 + 5 * h)).toInt) ∧ ∀ t : Nat, t < (f 1).toInt.toNat → ¬ m_HF f a b (f (61 + 7 * t)).toInt (f (62 + 7 * t)).toInt (m_hgh f t y).toInt
theorem m_SI_symm (h : m_SI f a b y mi) : m_SI f b a y mi := ⟨⟨h.1.2, h.1.1⟩, fun k h1 h2 h3 h4 => h.2.1 k h1 h3 h2 (m_HI_symm.mp h4), fun t h1 h2 => h.2.2 t h1 (m_HI_symm.mp h2)⟩
theorem m_hgh_rg (hg : m_rg f) {t : Nat} (ht : t < 8) (hy : 0 ≤ y.toInt ∧ y.toInt ≤ 99) : 0 ≤ (m_hgh f t y).toInt ∧ (m_hgh f t y).toInt ≤ 99 := m_stn_rg2 hg ht hy
theorem m_ss_iff (hg : m_rg f) (ha : a < 10) (hb : b < 10) (hy : 0 ≤ y.toInt ∧ y.toInt ≤ 99) : m_ss f a b y mi = true ↔ m_SI f a b y mi := by
  have n0 := hg.n0
  have n1 := hg.n1
  unfold m_ss m_s0 m_SI
  simp only [Bool.and_eq_true, decide_eq_true_eq, m_all_iff]
  constructor
  · rintro ⟨⟨h1, h2⟩, h3⟩
    refine ⟨h1, fun k k1 k2 k3 k4 => ?_, fun t t1 t2 => ?_⟩
    · have h9 := h2 k k1
      obtain ⟨c1, c2, c3⟩ := hg.hill (a := k) (by omega)
      obtain ⟨t1, t2, t3, -⟩ := m_T1 k (by omega)
      have r := (m_hs_iff hg ha hb ((hg _ (by omega)).to t1) ((hg _ (by omega)).to t2) ((hg _ (by omega)).to t3)).mpr k4
      unfold m_k1 at h9
      rw [decide_eq_false k2, decide_eq_false k3, r] at h9
      cases h9
    · have h9 := h3 t t1
      obtain ⟨r0, r1, r2, -, -⟩ := hg.thing (t := t) (by omega)
      unfold m_k2 m_hrk at h9
      rw [m_hr_eq r0, (m_hs_iff hg ha hb r1 r2 (m_hgh_rg hg (by omega) hy)).mpr t2] at h9
      cases h9
  · rintro ⟨h1, h2, h3⟩
    refine ⟨⟨h1, fun k k1 => ?_⟩, fun t t1 => ?_⟩
    · unfold m_k1
      by_cases e1 : k = a
      · rw [decide_eq_true e1, Bool.true_or]
      by_cases e2 : k = b
      · rw [decide_eq_true e2, Bool.true_or, Bool.or_true]
      obtain ⟨t1, t2, t3, -⟩ := m_T1 k (by omega)
      cases hX : m_hs f a b (f (10 + 5 * k)) (f (11 + 5 * k)) (f (12 + 5 * k)) with
      | false => simp
      | true => exact absurd ((m_hs_iff hg ha hb ((hg _ (by omega)).to t1) ((hg _ (by omega)).to t2) ((hg _ (by omega)).to t3)).mp hX) (h2 k k1 e1 e2)
    · obtain ⟨r0, r1, r2, -, -⟩ := hg.thing (t := t) (by omega)
      unfold m_k2 m_hrk
      rw [m_hr_eq r0]
      cases hX : m_hs f a b (f (61 + 7 * t)) (f (62 + 7 * t)) (m_hgh f t y) with
      | false => rfl
      | true => exact absurd ((m_hs_iff hg ha hb r1 r2 (m_hgh_rg hg (by omega) hy)).mp hX) (h3 t t1)
theorem m_gg0 {c : Nat → Bool} {v : Int32} {k : Nat} (hk : k ≤ 8) : m_gg c v k = 0 → v = 0 ∨ v = 256 → v = 0 ∧ ∀ i, i < k → c i = false := by
  intro h hv
  have hb : ∀ j, (m_bi v j || (decide (j < k) && c j)) = false := fun j => by rw [← m_gg_bi k (by omega), h]; exact m_bi_0
  refine ⟨?_, fun i hi => ?_⟩
  · rcases hv with e | e
    · exact e
    · have h8 := hb 8
      rw [e, show m_bi 256 8 = true by decide] at h8
      cases h8
  · have h8 := hb i
    rw [decide_eq_true hi, Bool.true_and, Bool.or_eq_false_iff] at h8
    exact h8.2
theorem m_gg0' {c : Nat → Bool} : ∀ k, (∀ i, i < k → c i = false) → m_gg c 0 k = 0 := by
  intro k
  induction k with
  | zero => intro _; rfl
  | succ k ih => intro h; rw [m_gg_F (h k (by omega))]; exact ih fun i hi => h i (by omega)
theorem m_okC_iff (hg : m_rg f) (ha : a < 10) (hb : b < 10) (hy : 0 ≤ y.toInt ∧ y.toInt ≤ 99) : m_okC f y mi 0 a b = true ↔ m_SI f a b y mi := by
  have n0 := hg.n0
  have n1 := hg.n1
  have e0 : (m_gN f y a b &&& ((0 : Int32) ^^^ -1)) ||| (m_gD f y a b &&& 0) = m_gN f y a b := m_bi_ext fun j hj => by
    rw [m_bi_or, m_bi_and, m_bi_and, m_bi_0, Bool.and_false, Bool.or_false, show m_bi ((0 : Int32) ^^^ -1) j = true from (by decide : ∀ j, j < 32 → m_bi ((0 : Int32) ^^^ -1) j = true) j hj, Bool.and_true]
  unfold m_okC m_SI
  rw [e0]
  simp only [Bool.and_eq_true, decide_eq_true_eq]
  have hN : m_gN f y a b = 0 ↔ (m_hb (m_ln f a b) f a b = false ∧ ∀ i, i < (f 1).toInt.toNat → m_gc (m_ln f a b) f y i = false) := by
    unfold m_gN
    constructor
    · intro h
      obtain ⟨h1, h2⟩ := m_gg0 (by omega) h (by cases m_hb (m_ln f a b) f a b <;> simp)
      refine ⟨?_, h2⟩
      cases hX : m_hb (m_ln f a b) f a b with
      | false => rfl
      | true => rw [hX] at h1; exact absurd h1 (by decide)
    · rintro ⟨h1, h2⟩
      rw [h1]; exact m_gg0' _ h2
  have hg8 : ∀ t, t < (f 1).toInt.toNat → (m_gc (m_ln f a b) f y t = true ↔ m_HF f a b (f (61 + 7 * t)).toInt (f (62 + 7 * t)).toInt (m_hgh f t y).toInt) := fun t ht => by
    obtain ⟨r0, r1, r2, -, -⟩ := hg.thing (t := t) (by omega)
    exact m_cl_iff hg ha hb r1 r2 (m_hgh_rg hg (by omega) hy)
  have hh8 : ∀ k, k < (f 0).toInt.toNat → (m_hc (m_ln f a b) f a b k = true ↔ (k ≠ a ∧ k ≠ b ∧ m_HF f a b (f (10 + 5 * k)).toInt (f (11 + 5 * k)).toInt (f (12 + 5 * k)).toInt)) := fun k hk => by
    obtain ⟨t1, t2, t3, -⟩ := m_T1 k (by omega)
    have r := m_cl_iff (a := a) (b := b) hg ha hb ((hg (10 + 5 * k) (by omega)).to t1) ((hg (11 + 5 * k) (by omega)).to t2) ((hg (12 + 5 * k) (by omega)).to t3)
    unfold m_hc
    rw [Bool.and_eq_true, Bool.and_eq_true, r, Bool.not_eq_true', Bool.not_eq_true', decide_eq_false_iff_not, decide_eq_false_iff_not]
    constructor
    · rintro ⟨h1, h2, h3⟩
      exact ⟨by omega, by omega, h3⟩
    · rintro ⟨h1, h2, h3⟩
      exact ⟨by omega, by omega, h3⟩
  rw [hN]
  constructor
  · rintro ⟨⟨h1, h2⟩, h3⟩
    refine ⟨h3, fun k k1 k2 k3 k4 => ?_, fun t t1 t2 => ?_⟩
    · have h9 : m_hb (m_ln f a b) f a b = true := m_any_T ((hh8 k k1).mpr ⟨k2, k3, k4⟩) _ k1
      rw [h1] at h9; cases h9
    · have h9 := (hg8 t t1).mpr t2
      rw [h2 t t1] at h9; cases h9
  · rintro ⟨h1, h2, h3⟩
    refine ⟨⟨m_any_F _ fun k hk => ?_, fun t ht => ?_⟩, h1⟩
    · cases hX : m_hc (m_ln f a b) f a b k with
      | false => rfl
      | true =>
        obtain ⟨c1, c2, c3⟩ := (hh8 k hk).mp hX
        exact absurd c3 (h2 k hk c1 c2)
    · cases hX : m_gc (m_ln f a b) f y t with
      | false => rfl
      | true => exact absurd ((hg8 t ht).mp hX) (h3 t ht)
theorem m_okC_ss (hg : m_rg f) (ha : a < 10) (hb : b < 10) (hy : 0 ≤ y.toInt ∧ y.toInt ≤ 99) : m_okC f y mi 0 a b = m_ss f b a y mi := by
  rw [Bool.eq_iff_iff, m_okC_iff hg ha hb hy, m_ss_iff hg hb ha hy]
  exact ⟨m_SI_symm, m_SI_symm⟩
theorem m_V_eq (hg : m_rg f) (hy : 0 ≤ y.toInt ∧ y.toInt ≤ 99) (i : Nat) : m_VC f y mi 0 i = m_VR f y mi i := by
  have n0 := hg.n0
  exact m_vw_congr fun p q h1 h2 => m_okC_ss hg (by omega) (by omega) hy
end MEQ
theorem m_bc_bitsB : ∀ n, n < 1024 → m_bc (nI n) = z_bits (nI n) := by decide +kernel
theorem m_bc_bits {x : Int32} (h : 0 ≤ x.toInt ∧ x.toInt ≤ 1023) : m_bc x = z_bits x := by
  rw [← m_nj h.1]; exact m_bc_bitsB _ (by omega)
theorem m_bi_lt {x : Int32} (h : ∀ j, 10 ≤ j → m_bi x j = false) : 0 ≤ x.toInt ∧ x.toInt ≤ 1023 := by
  have h1 : x.toBitVec.toNat < 2 ^ 10 := by
    refine Nat.lt_pow_two_of_testBit _ fun j hj => ?_
    exact h j hj
  have h2 := x_tn2 (x := x) (by omega)
  omega
