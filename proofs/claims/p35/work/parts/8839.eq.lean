/-! BOTH SIDES SEE ALIKE: whole numbers with their bounds -/
def m_R (v : Int32) (z B : Int) : Prop := v.toInt = z ∧ -B ≤ z ∧ z ≤ B
section MRR
variable {u v : Int32} {z w A B : Int}
theorem m_R.of (h1 : -B ≤ v.toInt) (h2 : v.toInt ≤ B) : m_R v v.toInt B := ⟨rfl, h1, h2⟩
theorem m_R.le (h : m_R v z A) (h1 : A ≤ B) : m_R v z B := ⟨h.1, by have := h.2.1; omega, by have := h.2.2; omega⟩
theorem m_R.sub (h1 : m_R u z A) (h2 : m_R v w B) (h : A + B ≤ 2147483647) : m_R (u - v) (z - w) (A + B) := by
  obtain ⟨a1, a2, a3⟩ := h1
  obtain ⟨b1, b2, b3⟩ := h2
  exact ⟨by rw [y_sub (by omega) (by omega), a1, b1], by omega, by omega⟩
theorem m_R.add (h1 : m_R u z A) (h2 : m_R v w B) (h : A + B ≤ 2147483647) : m_R (u + v) (z + w) (A + B) := by
  obtain ⟨a1, a2, a3⟩ := h1
  obtain ⟨b1, b2, b3⟩ := h2
  exact ⟨by rw [y_add (by omega) (by omega), a1, b1], by omega, by omega⟩
theorem m_R.abs (h1 : m_R u z A) (h : A ≤ 2147483647) : m_R (m_abs u) (max z (-z)) A := by
  have h9 := h1
  obtain ⟨a1, a2, a3⟩ := h9
  unfold m_abs
  by_cases q : 0 ≤ u
  · have q1 := x_le32.mp q
    rw [m_c0] at q1
    rw [if_pos q]; exact ⟨by omega, by omega, by omega⟩
  · have q1 : ¬ (0 : Int32).toInt ≤ u.toInt := fun q2 => q (x_le32.mpr q2)
    rw [m_c0] at q1
    have h2 : m_R (0 : Int32) 0 0 := ⟨m_c0, by omega, by omega⟩
    have h3 := h2.sub h1 (by omega)
    rw [if_neg q]; exact ⟨by rw [h3.1]; omega, by omega, by omega⟩
end MRR
section MHF
variable {f : Nat → Int32} {a b : Nat} {x y h : Int32}
theorem m_rg.hill (hg : m_rg f) (ha : a < 10) : m_R (f (10 + 5 * a)) (f (10 + 5 * a)).toInt 19 ∧ m_R (f (11 + 5 * a)) (f (11 + 5 * a)).toInt 19 ∧ m_R (f (12 + 5 * a)) (f (12 + 5 * a)).toInt 99 := by
  obtain ⟨t1, t2, t3, -⟩ := m_T1 a ha
  have b1 := (hg (10 + 5 * a) (by omega)).to t1
  have b2 := (hg (11 + 5 * a) (by omega)).to t2
  have b3 := (hg (12 + 5 * a) (by omega)).to t3
  exact ⟨.of (by omega) (by omega), .of (by omega) (by omega), .of (by omega) (by omega)⟩
end MHF
section MHG
variable {f : Nat → Int32} {t p : Nat} {y d : Int32}
theorem m_rg.thing (hg : m_rg f) (ht : t < 8) : (0 ≤ (f (60 + 7 * t)).toInt ∧ (f (60 + 7 * t)).toInt ≤ 5) ∧ (0 ≤ (f (61 + 7 * t)).toInt ∧ (f (61 + 7 * t)).toInt ≤ 19) ∧ (0 ≤ (f (62 + 7 * t)).toInt ∧ (f (62 + 7 * t)).toInt ≤ 19) ∧ (0 ≤ (f (63 + 7 * t)).toInt ∧ (f (63 + 7 * t)).toInt ≤ 99) ∧ (0 ≤ (f (64 + 7 * t)).toInt ∧ (f (64 + 7 * t)).toInt ≤ 9) := by
  obtain ⟨t0, t1, t2, t3, t4, -⟩ := m_T2 t ht
  exact ⟨(hg _ (by omega)).to t0, (hg _ (by omega)).to t1, (hg _ (by omega)).to t2, (hg _ (by omega)).to t3, (hg _ (by omega)).to t4⟩
end MHG
section MEQ
variable {f : Nat → Int32} {a b : Nat} {y mi wk : Int32}
end MEQ
theorem m_bc_bitsB : ∀ n, n < 1024 → m_bc (nI n) = z_bits (nI n) := by decide +kernel
theorem m_bc_bits {x : Int32} (h : 0 ≤ x.toInt ∧ x.toInt ≤ 1023) : m_bc x = z_bits x := by
  rw [← m_nj h.1]; exact m_bc_bitsB _ (by omega)
theorem m_bi_lt {x : Int32} (h : ∀ j, 10 ≤ j → m_bi x j = false) : 0 ≤ x.toInt ∧ x.toInt ≤ 1023 := by
  have h1 : x.toBitVec.toNat < 2 ^ 10 := by
    refine Nat.lt_pow_two_of_testBit _ fun j hj => ?_
    exact h j hj
  have h2 := x_tn2 (x := x) (by omega)
  omega
