/-! Bounds of ints through the machine's arithmetic -/
theorem x_rng (x : Int32) : -2147483648 ≤ x.toInt ∧ x.toInt ≤ 2147483647 := by
  have h1 := Int32.le_toInt x
  have h2 := Int32.toInt_lt x
  omega
theorem x_rngL (x : Int64) : -9223372036854775808 ≤ x.toInt ∧ x.toInt ≤ 9223372036854775807 := by
  have h1 := Int64.le_toInt x
  have h2 := Int64.toInt_lt x
  omega
theorem x_bm {z : Int} (h1 : -2147483648 ≤ z) (h2 : z ≤ 2147483647) : z.bmod (2 ^ 32) = z := by
  rw [Int.bmod_eq_of_le (by simpa using h1) (by omega)]
def x_full : Int × Int := (-2147483648, 2147483647)
def xFull : (Int × Int) ⊕ ((Int × Int) ⊕ (Bool × List Nat)) := .inl (-2147483648, 2147483647)
def x_fullL : Int × Int := (-9223372036854775808, 9223372036854775807)
def x_clip (lo hi : Int) : Int × Int := if -2147483648 ≤ lo ∧ hi ≤ 2147483647 then (lo, hi) else x_full
def x_b (q : Int × Int) (x : Int32) : Prop := q.1 ≤ x.toInt ∧ x.toInt ≤ q.2
theorem x_fullb (x : Int32) : x_b x_full x := x_rng x
theorem x_clipb {lo hi : Int} {x : Int32} (h : -2147483648 ≤ lo → hi ≤ 2147483647 → lo ≤ x.toInt ∧ x.toInt ≤ hi) : x_b (x_clip lo hi) x := by
  unfold x_clip
  split
  · next q => exact h q.1 q.2
  · exact x_fullb x
def x_addB (p q : Int × Int) : Int × Int := x_clip (p.1 + q.1) (p.2 + q.2)
def x_subB (p q : Int × Int) : Int × Int := x_clip (p.1 - q.2) (p.2 - q.1)
def x_mulB (p q : Int × Int) : Int × Int := if 0 ≤ p.1 ∧ 0 ≤ q.1 then x_clip (p.1 * q.1) (p.2 * q.2) else x_full
def x_negB (p : Int × Int) : Int × Int := x_clip (-p.2) (-p.1)
def x_andB (p q : Int × Int) : Int × Int := if 0 ≤ p.1 then (if 0 ≤ q.1 then (0, min p.2 q.2) else (0, p.2)) else if 0 ≤ q.1 then (0, q.2) else x_full
def x_orB (p q : Int × Int) : Int × Int := if 0 ≤ p.1 ∧ 0 ≤ q.1 then (0, ((2 ^ ((max p.2 q.2).toNat.log2 + 1) : Nat) : Int) - 1) else x_full
def x_shlB (p q : Int × Int) : Int × Int := if 0 ≤ p.1 ∧ 0 ≤ q.1 ∧ q.2 ≤ 30 ∧ p.2 * ((2 ^ q.2.toNat : Nat) : Int) ≤ 2147483647 then (p.1, p.2 * ((2 ^ q.2.toNat : Nat) : Int)) else x_full
def x_shrB (p _q : Int × Int) : Int × Int := if 0 ≤ p.1 then (0, p.2) else x_full
def x_divB (p q : Int × Int) : Int × Int := if 0 ≤ p.1 ∧ 0 < q.1 then (0, p.2) else x_full
def x_remB (p q : Int × Int) : Int × Int := if 0 ≤ p.1 ∧ 0 < q.1 then (0, min p.2 (q.2 - 1)) else x_full
theorem x_add_ok {p q : Int × Int} {x y : Int32} (hx : x_b p x) (hy : x_b q y) : x_b (x_addB p q) (x + y) := by
  refine x_clipb fun h1 h2 => ?_
  have := hx.1; have := hx.2; have := hy.1; have := hy.2
  rw [Int32.toInt_add, x_bm (by omega) (by omega)]
  omega
theorem x_sub_ok {p q : Int × Int} {x y : Int32} (hx : x_b p x) (hy : x_b q y) : x_b (x_subB p q) (x - y) := by
  refine x_clipb fun h1 h2 => ?_
  have := hx.1; have := hx.2; have := hy.1; have := hy.2
  rw [Int32.toInt_sub, x_bm (by omega) (by omega)]
  omega
theorem x_neg_ok {p : Int × Int} {x : Int32} (hx : x_b p x) : x_b (x_negB p) (-x) := by
  refine x_clipb fun h1 h2 => ?_
  have := hx.1; have := hx.2
  rw [Int32.toInt_neg, x_bm (by omega) (by omega)]
  omega
theorem x_mul_ok {p q : Int × Int} {x y : Int32} (hx : x_b p x) (hy : x_b q y) : x_b (x_mulB p q) (x * y) := by
  unfold x_mulB
  split
  · next h0 =>
    refine x_clipb fun h1 h2 => ?_
    have a1 := hx.1; have a2 := hx.2; have b1 := hy.1; have b2 := hy.2
    have l1 : p.1 * q.1 ≤ x.toInt * y.toInt := Int.mul_le_mul a1 b1 h0.2 (by omega)
    have l2 : x.toInt * y.toInt ≤ p.2 * q.2 := Int.mul_le_mul a2 b2 (by omega) (by omega)
    rw [Int32.toInt_mul, x_bm (by omega) (by omega)]
    exact ⟨l1, l2⟩
  · exact x_fullb _
theorem x_tn {x : Int32} (h : 0 ≤ x.toInt) : ((x.toBitVec.toNat : Nat) : Int) = x.toInt := by
  have h1 : x.toInt = x.toBitVec.toInt := rfl
  have h2 := BitVec.toInt_eq_toNat_cond x.toBitVec
  have h3 := x.toBitVec.isLt
  rw [h1] at h ⊢
  rw [h2] at h ⊢
  split at h
  · next q => rw [if_pos q]
  · omega
theorem x_tn2 {x : Int32} (h : x.toBitVec.toNat < 2 ^ 31) : x.toInt = (x.toBitVec.toNat : Int) := by
  have h1 : x.toInt = x.toBitVec.toInt := rfl
  have h2 := BitVec.toInt_eq_toNat_cond x.toBitVec
  rw [h1, h2, if_pos (by omega)]
theorem x_and1 {x y : Int32} (hy : 0 ≤ y.toInt) : 0 ≤ (x &&& y).toInt ∧ (x &&& y).toInt ≤ y.toInt := by
  have h1 := x_tn hy
  have h2 := (x_rng y).2
  have h3 : (x &&& y).toBitVec.toNat = x.toBitVec.toNat &&& y.toBitVec.toNat := by rw [Int32.toBitVec_and, BitVec.toNat_and]
  have h4 : x.toBitVec.toNat &&& y.toBitVec.toNat ≤ y.toBitVec.toNat := Nat.and_le_right
  have h5 := x_tn2 (x := x &&& y) (by rw [h3]; omega)
  rw [h5, h3]
  omega
theorem x_and2 {x y : Int32} (hx : 0 ≤ x.toInt) : 0 ≤ (x &&& y).toInt ∧ (x &&& y).toInt ≤ x.toInt := by
  rw [Int32.and_comm]
  exact x_and1 hx
theorem x_and_ok {p q : Int × Int} {x y : Int32} (hx : x_b p x) (hy : x_b q y) : x_b (x_andB p q) (x &&& y) := by
  have a1 := hx.1; have a2 := hx.2; have b1 := hy.1; have b2 := hy.2
  unfold x_andB
  split
  · next h =>
    have c1 := x_and2 (x := x) (y := y) (by omega)
    split
    · next h' =>
      have c2 := x_and1 (x := x) (y := y) (by omega)
      refine ⟨c1.1, ?_⟩
      show _ ≤ min p.2 q.2
      omega
    · exact ⟨c1.1, by show _ ≤ p.2; omega⟩
  · split
    · next h' =>
      have c2 := x_and1 (x := x) (y := y) (by omega)
      exact ⟨c2.1, by show _ ≤ q.2; omega⟩
    · exact x_fullb _
theorem x_lg {n m : Nat} (h : n ≤ m) : n < 2 ^ (m.log2 + 1) := Nat.lt_of_le_of_lt h Nat.lt_log2_self
theorem x_or_aux {p q : Int × Int} {x y z : Int32} (hx : x_b p x) (hy : x_b q y) (h0 : 0 ≤ p.1 ∧ 0 ≤ q.1) (hz : ∀ k, x.toBitVec.toNat < 2 ^ k → y.toBitVec.toNat < 2 ^ k → z.toBitVec.toNat < 2 ^ k) : 0 ≤ z.toInt ∧ z.toInt ≤ ((2 ^ ((max p.2 q.2).toNat.log2 + 1) : Nat) : Int) - 1 := by
  have a1 := hx.1; have a2 := hx.2; have b1 := hy.1; have b2 := hy.2
  have t1 := x_tn (x := x) (by omega)
  have t2 := x_tn (x := y) (by omega)
  have r1 := (x_rng x).2
  have r2 := (x_rng y).2
  have k1 := hz ((max p.2 q.2).toNat.log2 + 1) (x_lg (by omega)) (x_lg (by omega))
  have k2 := hz 31 (by omega) (by omega)
  rw [x_tn2 k2]
  omega
theorem x_or_ok {p q : Int × Int} {x y : Int32} (hx : x_b p x) (hy : x_b q y) : x_b (x_orB p q) (x ||| y) := by
  unfold x_orB
  split
  · next h0 =>
    refine x_or_aux hx hy h0 fun k h1 h2 => ?_
    rw [Int32.toBitVec_or, BitVec.toNat_or]
    exact Nat.or_lt_two_pow h1 h2
  · exact x_fullb _
theorem x_xor_ok {p q : Int × Int} {x y : Int32} (hx : x_b p x) (hy : x_b q y) : x_b (x_orB p q) (x ^^^ y) := by
  unfold x_orB
  split
  · next h0 =>
    refine x_or_aux hx hy h0 fun k h1 h2 => ?_
    rw [Int32.toBitVec_xor, BitVec.toNat_xor]
    exact Nat.xor_lt_two_pow h1 h2
  · exact x_fullb _
theorem x_sl31 : ∀ n, n < 32 → ((nI n &&& 31).toBitVec.smod 32).toNat = n := by decide +kernel
theorem x_shl_ok {p q : Int × Int} {x y : Int32} (hx : x_b p x) (hy : x_b q y) : x_b (x_shlB p q) (x <<< (y &&& 31)) := by
  unfold x_shlB
  split
  · next h0 =>
    obtain ⟨h1, h2, h3, h4⟩ := h0
    have a1 := hx.1; have a2 := hx.2; have b1 := hy.1; have b2 := hy.2
    have ey : y = nI y.toInt.toNat := by
      apply Int32.toInt_inj.mp
      rw [nI_toInt (by omega)]
      omega
    have e0 : ((y &&& 31).toBitVec.smod 32).toNat = y.toInt.toNat := by
      conv => lhs; rw [ey]
      exact x_sl31 _ (by omega)
    have e1 := pk_shl x (y &&& 31) y.toInt.toNat e0
    have t1 := x_tn (x := x) (by omega)
    have m1 : 2 ^ y.toInt.toNat ≤ 2 ^ q.2.toNat := Nat.pow_le_pow_right (by decide) (by omega)
    have m2 : x.toBitVec.toNat * 2 ^ y.toInt.toNat ≤ p.2.toNat * 2 ^ q.2.toNat := Nat.mul_le_mul (by omega) m1
    have m3 : ((p.2.toNat * 2 ^ q.2.toNat : Nat) : Int) = p.2 * ((2 ^ q.2.toNat : Nat) : Int) := by
      rw [Int.natCast_mul, Int.toNat_of_nonneg (by omega)]
    have m4 : x.toBitVec.toNat ≤ x.toBitVec.toNat * 2 ^ y.toInt.toNat := Nat.le_mul_of_pos_right _ (Nat.two_pow_pos _)
    rw [Nat.mod_eq_of_lt (by omega)] at e1
    have e2 := x_tn2 (x := x <<< (y &&& 31)) (by rw [e1]; omega)
    refine ⟨?_, ?_⟩
    · show p.1 ≤ _
      rw [e2, e1]; omega
    · show _ ≤ p.2 * _
      rw [e2, e1]; omega
  · exact x_fullb _
theorem x_shr_ok {p q : Int × Int} {x y : Int32} (hx : x_b p x) (_hy : x_b q y) : x_b (x_shrB p q) (x >>> (y &&& 31)) := by
  unfold x_shrB
  split
  · next h0 =>
    have a1 := hx.1; have a2 := hx.2
    have e1 := pk_shr x (y &&& 31) _ rfl
    have hn : x.toInt = (x.toInt.toNat : Int) := by omega
    rw [Int.shiftRight_eq_div_pow, hn] at e1
    have e2 : (x >>> (y &&& 31)).toInt = ((x.toInt.toNat / 2 ^ ((y &&& 31).toBitVec.smod 32).toNat : Nat) : Int) := by rw [e1]; norm_cast
    have e3 := Nat.div_le_self x.toInt.toNat (2 ^ ((y &&& 31).toBitVec.smod 32).toNat)
    generalize x.toInt.toNat / 2 ^ ((y &&& 31).toBitVec.smod 32).toNat = z at e2 e3
    refine ⟨?_, ?_⟩
    · show (0 : Int) ≤ _
      rw [e2]; omega
    · show _ ≤ p.2
      rw [e2]; omega
  · exact x_fullb _
theorem x_div_ok {p q : Int × Int} {x y : Int32} (hx : x_b p x) (hy : x_b q y) : x_b (x_divB p q) (x / y) := by
  unfold x_divB
  split
  · next h0 =>
    have a1 := hx.1; have a2 := hx.2; have b1 := hy.1; have b2 := hy.2
    have r := x_rng x
    have r2 := x_rng y
    have ex : x = nI x.toInt.toNat := by
      apply Int32.toInt_inj.mp
      rw [nI_toInt (by omega)]; omega
    have ey : y = nI y.toInt.toNat := by
      apply Int32.toInt_inj.mp
      rw [nI_toInt (by omega)]; omega
    have e1 : x / y = nI (x.toInt.toNat / y.toInt.toNat) := by
      conv => lhs; rw [ex, ey]
      rw [pk_div (by omega) (by omega) (by omega)]
    have e3 := Nat.div_le_self x.toInt.toNat y.toInt.toNat
    rw [e1]
    generalize x.toInt.toNat / y.toInt.toNat = z at e3 ⊢
    refine ⟨?_, ?_⟩
    · show (0 : Int) ≤ _
      rw [nI_toInt (by omega)]; omega
    · show _ ≤ p.2
      rw [nI_toInt (by omega)]; omega
  · exact x_fullb _
theorem x_rem_ok {p q : Int × Int} {x y : Int32} (hx : x_b p x) (hy : x_b q y) : x_b (x_remB p q) (x - x / y * y) := by
  unfold x_remB
  split
  · next h0 =>
    have a1 := hx.1; have a2 := hx.2; have b1 := hy.1; have b2 := hy.2
    have r := x_rng x
    have r2 := x_rng y
    have ex : x = nI x.toInt.toNat := by
      apply Int32.toInt_inj.mp
      rw [nI_toInt (by omega)]; omega
    have ey : y = nI y.toInt.toNat := by
      apply Int32.toInt_inj.mp
      rw [nI_toInt (by omega)]; omega
    have e1 : x - x / y * y = nI (x.toInt.toNat % y.toInt.toNat) := by
      conv => lhs; rw [ex, ey]
      rw [pk_rem (by omega) (by omega) (by omega)]
    have e3 := Nat.mod_le x.toInt.toNat y.toInt.toNat
    have e4 := Nat.mod_lt x.toInt.toNat (y := y.toInt.toNat) (by omega)
    rw [e1]
    generalize x.toInt.toNat % y.toInt.toNat = z at e3 e4 ⊢
    refine ⟨?_, ?_⟩
    · show (0 : Int) ≤ _
      rw [nI_toInt (by omega)]; omega
    · show _ ≤ min p.2 (q.2 - 1)
      rw [nI_toInt (by omega)]; omega
  · exact x_fullb _
/-! what a comparison tells of two numbers by their bounds; none: it can't be -/
abbrev xB2 : Type := (Int × Int) × (Int × Int)
def x_sane (r : xB2) : Option xB2 := if r.1.1 ≤ r.1.2 ∧ r.2.1 ≤ r.2.2 then some r else none
def x_rlt (p q : Int × Int) : Option xB2 := x_sane ((p.1, min p.2 (q.2 - 1)), (max q.1 (p.1 + 1), q.2))
def x_rle (p q : Int × Int) : Option xB2 := x_sane ((p.1, min p.2 q.2), (max q.1 p.1, q.2))
def x_req (p q : Int × Int) : Option xB2 := x_sane ((max p.1 q.1, min p.2 q.2), (max p.1 q.1, min p.2 q.2))
def x_rn1 (p q : Int × Int) : Int × Int := if q.1 = q.2 then (if p.1 = q.1 then (p.1 + 1, p.2) else if p.2 = q.1 then (p.1, p.2 - 1) else p) else p
def x_rne (p q : Int × Int) : Option xB2 := x_sane (x_rn1 p q, x_rn1 q p)
theorem x_sane_ok {r : xB2} {x y : Int} (h1 : r.1.1 ≤ x ∧ x ≤ r.1.2) (h2 : r.2.1 ≤ y ∧ y ≤ r.2.2) : x_sane r = some r := by
  unfold x_sane
  rw [if_pos ⟨by omega, by omega⟩]
theorem x_rlt_ok {p q : Int × Int} {x y : Int} (hx : p.1 ≤ x ∧ x ≤ p.2) (hy : q.1 ≤ y ∧ y ≤ q.2) (h : x < y) : ∃ r : xB2, x_rlt p q = some r ∧ (r.1.1 ≤ x ∧ x ≤ r.1.2) ∧ (r.2.1 ≤ y ∧ y ≤ r.2.2) := by
  have h1 : p.1 ≤ x ∧ x ≤ min p.2 (q.2 - 1) := by omega
  have h2 : max q.1 (p.1 + 1) ≤ y ∧ y ≤ q.2 := by omega
  exact ⟨_, x_sane_ok h1 h2, h1, h2⟩
theorem x_rle_ok {p q : Int × Int} {x y : Int} (hx : p.1 ≤ x ∧ x ≤ p.2) (hy : q.1 ≤ y ∧ y ≤ q.2) (h : x ≤ y) : ∃ r : xB2, x_rle p q = some r ∧ (r.1.1 ≤ x ∧ x ≤ r.1.2) ∧ (r.2.1 ≤ y ∧ y ≤ r.2.2) := by
  have h1 : p.1 ≤ x ∧ x ≤ min p.2 q.2 := by omega
  have h2 : max q.1 p.1 ≤ y ∧ y ≤ q.2 := by omega
  exact ⟨_, x_sane_ok h1 h2, h1, h2⟩
theorem x_req_ok {p q : Int × Int} {x y : Int} (hx : p.1 ≤ x ∧ x ≤ p.2) (hy : q.1 ≤ y ∧ y ≤ q.2) (h : x = y) : ∃ r : xB2, x_req p q = some r ∧ (r.1.1 ≤ x ∧ x ≤ r.1.2) ∧ (r.2.1 ≤ y ∧ y ≤ r.2.2) := by
  have h1 : max p.1 q.1 ≤ x ∧ x ≤ min p.2 q.2 := by omega
  have h2 : max p.1 q.1 ≤ y ∧ y ≤ min p.2 q.2 := by omega
  exact ⟨_, x_sane_ok h1 h2, h1, h2⟩
theorem x_rn1_ok {p q : Int × Int} {x y : Int} (hx : p.1 ≤ x ∧ x ≤ p.2) (hy : q.1 ≤ y ∧ y ≤ q.2) (h : x ≠ y) : (x_rn1 p q).1 ≤ x ∧ x ≤ (x_rn1 p q).2 := by
  unfold x_rn1
  split
  · split
    · exact ⟨by show p.1 + 1 ≤ x; omega, hx.2⟩
    · split
      · exact ⟨hx.1, by show x ≤ p.2 - 1; omega⟩
      · exact hx
  · exact hx
theorem x_rne_ok {p q : Int × Int} {x y : Int} (hx : p.1 ≤ x ∧ x ≤ p.2) (hy : q.1 ≤ y ∧ y ≤ q.2) (h : x ≠ y) : ∃ r : xB2, x_rne p q = some r ∧ (r.1.1 ≤ x ∧ x ≤ r.1.2) ∧ (r.2.1 ≤ y ∧ y ≤ r.2.2) := by
  have h1 := x_rn1_ok hx hy h
  have h2 := x_rn1_ok hy hx (Ne.symm h)
  exact ⟨_, x_sane_ok h1 h2, h1, h2⟩

