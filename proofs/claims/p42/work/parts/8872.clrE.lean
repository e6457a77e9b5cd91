/-! THE FRACTION: both sides come to the same; a digest's words -/
section CLE
variable {f : Nat → Int32} {a b t w h r r' : Int32}
theorem m_clB_0 {k q : Nat} : m_clB f k k q = false := by
  have h0 : m_al (m_ln f k k) (f (61 + 7 * q)) (f (62 + 7 * q)) = 0 := by
    show (f (61 + 7 * q) - f (10 + 5 * k)) * (f (10 + 5 * k) - f (10 + 5 * k)) + (f (62 + 7 * q) - f (11 + 5 * k)) * (f (11 + 5 * k) - f (11 + 5 * k)) = 0
    rw [Int32.sub_self, Int32.sub_self, Int32.mul_zero, Int32.mul_zero]; rfl
  unfold m_clB m_bt
  rw [h0, m_c0, decide_eq_false (by omega), Bool.false_and]
theorem m_clOk_eq : m_clOk f a b t ↔ m_clOkR f a b t := by
  constructor
  · intro ⟨h1, h2, h3, h4⟩
    exact ⟨h1, h2, fun e => by rw [e, m_clB_0] at h4; (cases h4), h3, h4⟩
  · intro ⟨h1, h2, _, h3, h4⟩
    exact ⟨h1, h2, h3, h4⟩
theorem m_clTE (h1 : m_clT f a b t r) (h2 : m_clTR f a b t r') : r = 1 ↔ r' = 1 := by
  by_cases k : m_clOk f a b t
  · have k' := m_clOk_eq.mp k
    exact ⟨fun _ => h2.1 k', fun _ => h1.1 k⟩
  · have k' : ¬ m_clOkR f a b t := fun q => k (m_clOk_eq.mpr q)
    exact ⟨fun q => absurd q (h1.2 k), fun q => absurd q (h2.2 k')⟩
theorem m_clUE (hg : m_rg f) {i j k : Nat} (hk : k < 8) : m_clU f i j k = m_clUR f i j k := by
  unfold m_clU m_clUR
  refine congrArg Int32.toInt64 ?_
  rw [m_hr_eq (hg.thing hk).1]
  show (f (12 + 5 * i) - m_hgh f k (f 4)) * m_ln f i j 7 + (f (12 + 5 * j) - f (12 + 5 * i)) * m_al _ _ _ = _
  rw [Int32.sub_mul, Int32.sub_eq_add_neg, Int32.sub_eq_add_neg (_ + _) (_ * _), Int32.add_assoc, Int32.add_comm (-_), Int32.add_assoc]
theorem m_lab32 (x : Int32) : 0 ≤ (m_labs x.toInt64).toInt := m_labs_0 (by rw [Int32.toInt_toInt64]; have := x_rng x; omega)
theorem m_clD_pos (h1 : m_clB f a.toInt.toNat b.toInt.toNat t.toInt.toNat = true) : 1 ≤ (m_clD f a.toInt.toNat b.toInt.toNat).toInt := by
  unfold m_clD
  rw [Int32.toInt_toInt64]
  unfold m_clB m_bt at h1
  rw [Bool.and_eq_true, decide_eq_true_eq, decide_eq_true_eq] at h1
  omega
/-- bounds -/
theorem m_blame (hg : m_rg f) {k : Nat} (hk : k < 10) : 0 ≤ (f (14 + 5 * k)).toInt ∧ (f (14 + 5 * k)).toInt ≤ 9 := (hg (14 + 5 * k) (by omega)).to (m_T1 k hk).2.2.2.2
theorem m_truth (hg : m_rg f) : 1 ≤ (f 7).toInt ∧ (f 7).toInt ≤ 10 := (hg 7 (by decide)).to m_T0.2.2.2.2.2.2
theorem m_chs_b (hg : m_rg f) {th : Int32} : ∀ k, k ≤ 10 → 0 ≤ (m_chs f th k).toInt ∧ (m_chs f th k).toInt ≤ 9 * (k : Int)
  | 0, _ => by
    show 0 ≤ (0 : Int32).toInt ∧ (0 : Int32).toInt ≤ _
    rw [m_c0]; omega
  | k + 1, hk => by
    have ih := m_chs_b hg (th := th) k (by omega)
    have hb := m_blame hg (k := k) (by omega)
    show 0 ≤ (if _ then _ else _ : Int32).toInt ∧ (if _ then _ else _ : Int32).toInt ≤ _
    split
    · have := y_add (x := m_chs f th k) (y := f (14 + 5 * k)) (by omega) (by omega)
      rw [this]; omega
    · omega
theorem m_wtl_b (hg : m_rg f) {V : Nat → Int32} {lit : Int32} {v0 : Int64} (h0 : 0 ≤ v0.toInt ∧ v0.toInt ≤ 9) : ∀ k, k ≤ 10 → 0 ≤ (m_wtl f V lit v0 k).toInt ∧ (m_wtl f V lit v0 k).toInt ≤ 9 * 10 ^ k
  | 0, _ => by
    show 0 ≤ v0.toInt ∧ v0.toInt ≤ 9 * 10 ^ 0
    omega
  | k + 1, hk => by
    have ih := m_wtl_b hg (V := V) (lit := lit) h0 k (by omega)
    have ht := m_truth hg
    have hp : (10 : Int) ^ k ≤ 10 ^ 10 := by
      have : (10 : Nat) ^ k ≤ 10 ^ 10 := Nat.pow_le_pow_right (by decide) (by omega)
      exact_mod_cast this
    have hp0 : 0 ≤ (10 : Int) ^ k := Int.pow_nonneg (by decide)
    have hs : (10 : Int) ^ (k + 1) = 10 ^ k * 10 := Int.pow_succ ..
    show 0 ≤ (if _ then _ else _ : Int64).toInt ∧ (if _ then _ else _ : Int64).toInt ≤ _
    split
    · omega
    · have hc : ∀ c : Int64, 0 ≤ c.toInt ∧ c.toInt ≤ 10 → 0 ≤ (m_wtl f V lit v0 k * c).toInt ∧ (m_wtl f V lit v0 k * c).toInt ≤ 9 * 10 ^ (k + 1) := fun c hc => by
        have := m_lmul (A := 9 * 10 ^ k) (B := 10) ih hc (by omega)
        rw [hs]; omega
      refine hc _ ?_
      split
      · rw [Int32.toInt_toInt64]; omega
      · rw [Int32.toInt_toInt64]
        have := y_sub (x := (10 : Int32)) (y := f 7) (by rw [show (10 : Int32).toInt = 10 by decide]; omega) (by rw [show (10 : Int32).toInt = 10 by decide]; omega)
        rw [this, show (10 : Int32).toInt = 10 by decide]; omega
theorem m_wtC_b (hg : m_rg f) {V : Nat → Int32} {k : Nat} (hk : k < 10) : 0 ≤ (m_wtC f V w k).toInt ∧ (m_wtC f V w k).toInt ≤ 90000000000 := by
  have n0 := hg.n0
  have hb := m_blame hg hk
  have h := m_wtl_b hg (V := V) (lit := w ||| m_sh (nI k)) (v0 := (f (14 + 5 * k)).toInt64) (by rw [Int32.toInt_toInt64]; exact hb) (f 0).toInt.toNat (by omega)
  have hp : (10 : Int) ^ (f 0).toInt.toNat ≤ 10 ^ 10 := by
    have : (10 : Nat) ^ (f 0).toInt.toNat ≤ 10 ^ 10 := Nat.pow_le_pow_right (by decide) (by omega)
    exact_mod_cast this
  unfold m_wtC
  omega
theorem m_lsC_b (hg : m_rg f) {V : Nat → Int32} : ∀ k, k ≤ 10 → 0 ≤ (m_lsC f V w k).toInt ∧ (m_lsC f V w k).toInt ≤ 90000000000 * (k : Int)
  | 0, _ => by
    show 0 ≤ (0 : Int64).toInt ∧ (0 : Int64).toInt ≤ _
    rw [show (0 : Int64).toInt = 0 by decide]; omega
  | k + 1, hk => by
    have ih := m_lsC_b hg (V := V) k (by omega)
    have hc : 0 ≤ (if m_has w (nI k) then (0 : Int64) else m_wtC f V w k).toInt ∧ (if m_has w (nI k) then (0 : Int64) else m_wtC f V w k).toInt ≤ 90000000000 := by
      split
      · rw [show (0 : Int64).toInt = 0 by decide]; omega
      · exact m_wtC_b hg (by omega)
    have := m_ladd ih hc (by omega)
    show 0 ≤ (_ + _ : Int64).toInt ∧ (_ + _ : Int64).toInt ≤ _
    omega
/-- how the two numbers stand behind a call -/
def m_fa (r : Int32) (up down fa : Int64) : Int64 := if r = 1 then up / m_gcd (m_labs up) down else fa
def m_fb (r : Int32) (up down fb : Int64) : Int64 := if r = 1 then down / m_gcd (m_labs up) down else fb
theorem z_fx.at {D : va_G} {H H' : Heap} {x : Nat} {up down fa fb : Int64} (h : z_fx D H H' x r up down) (h0 : z_FR D H x fa fb) (hp : r = 1 → 1 ≤ down.toInt ∧ 0 ≤ (m_labs up).toInt) : z_FR D H' x (m_fa r up down fa) (m_fb r up down fb) := by
  unfold m_fa m_fb
  by_cases k : r = 1
  · rw [if_pos k, if_pos k]; exact h.2 k (hp k).1 (hp k).2
  · rw [if_neg k, if_neg k]; exact h.1 k _ _ h0
theorem z_fxM.at {D : va_G} {H H' : Heap} {x : Nat} {up down fa fb : Int64} (h : z_fxM D H H' x r up down) (h0 : z_FM D H x fa fb) (hp : r = 1 → 1 ≤ down.toInt ∧ 0 ≤ (m_labs up).toInt) : z_FM D H' x (m_fa r up down fa) (m_fb r up down fb) := by
  unfold m_fa m_fb
  by_cases k : r = 1
  · rw [if_pos k, if_pos k]; exact h.2 k (hp k).1 (hp k).2
  · rw [if_neg k, if_neg k]; exact h.1 k _ _ h0
theorem m_fab {up down up' down' fa fb : Int64} (h : r = 1 ↔ r' = 1) (h1 : r = 1 → up = up' ∧ down = down') : m_fa r up down fa = m_fa r' up' down' fa ∧ m_fb r up down fb = m_fb r' up' down' fb := by
  unfold m_fa m_fb
  by_cases k : r = 1
  · rw [if_pos k, if_pos k, if_pos (h.mp k), if_pos (h.mp k), (h1 k).1, (h1 k).2]
    exact ⟨rfl, rfl⟩
  · rw [if_neg k, if_neg k, if_neg (fun q => k (h.mpr q)), if_neg (fun q => k (h.mpr q))]
    exact ⟨rfl, rfl⟩
theorem z_FR.E {D : va_G} {Y : xY} {x : Nat} {H H' : Heap} {fa fb : Int64} {ef : List (Nat × Nat)} (h : z_FR D H x fa fb) (hx : Y x = some 0) (hE : x_E D x_G ef Y H H') (hn : ((0, 7) ∉ ef) ∧ ((0, 8) ∉ ef)) : z_FR D H' x fa fb :=
  ⟨y_Efld hE hx rfl (by decide) hn.1 h.1, y_Efld hE hx rfl (by decide) hn.2 h.2⟩
theorem z_FM.E {D : va_G} {Y : xY} {x : Nat} {H H' : Heap} {fa fb : Int64} {ef : List (Nat × Nat)} (h : z_FM D H x fa fb) (hx : Y x = some 17) (hE : x_E D x_G ef Y H H') (hn : ((17, 6) ∉ ef) ∧ ((17, 7) ∉ ef)) : z_FM D H' x fa fb :=
  ⟨y_Efld hE hx rfl (by decide) hn.1 h.1, y_Efld hE hx rfl (by decide) hn.2 h.2⟩
/-- what a law needs of clear, chance, lies -/
theorem m_clP (hg : m_rg f) (h : m_clT f a b t r) : r = 1 → 1 ≤ (m_clD f a.toInt.toNat b.toInt.toNat).toInt ∧ 0 ≤ (m_labs (m_clU f a.toInt.toNat b.toInt.toNat t.toInt.toNat)).toInt := fun k => by
  have ok : m_clOk f a b t := Classical.byContradiction fun q => h.2 q k
  exact ⟨m_clD_pos ok.2.2.2, m_lab32 _⟩
theorem m_clQ (hg : m_rg f) (h : m_clT f a b t r) : r = 1 → m_clU f a.toInt.toNat b.toInt.toNat t.toInt.toNat = m_clUR f a.toInt.toNat b.toInt.toNat t.toInt.toNat ∧ m_clD f a.toInt.toNat b.toInt.toNat = m_clD f a.toInt.toNat b.toInt.toNat := fun k => by
  have ok : m_clOk f a b t := Classical.byContradiction fun q => h.2 q k
  have ht := ok.2.2.1
  have n1 := hg.n1
  unfold m_isT at ht
  exact ⟨m_clUE hg (by omega), rfl⟩
theorem m_3.one {ok nz : Prop} {law : Bool} (h : m_3 ok law nz r) (k : r = 1) : ok ∧ law = true ∧ nz := by
  by_cases o : ok
  · cases l : law with
    | true =>
      by_cases n : nz
      · exact ⟨o, rfl, n⟩
      · have := h.2.1 o l n; rw [k] at this; exact absurd this (by decide)
    | false => have := h.2.2.1 o l; rw [k] at this; exact absurd this (by decide)
  · have := h.2.2.2 o; rw [k] at this; exact absurd this (by decide)
theorem m_chP (hg : m_rg f) (h : m_3 (m_isS f w ∧ m_isH f a) (m_lwC f w) (¬ m_chs f (m_thC f w) (f 0).toInt.toNat = 0) r) : r = 1 → 1 ≤ (m_chD f w).toInt ∧ 0 ≤ (m_labs (m_chU f w a.toInt.toNat)).toInt := fun k => by
  have n0 := hg.n0
  have hb := m_chs_b hg (th := m_thC f w) (f 0).toInt.toNat (by omega)
  have hn := (h.one k).2.2
  have hz : ¬ (m_chs f (m_thC f w) (f 0).toInt.toNat).toInt = 0 := fun q => hn (Int32.toInt_inj.mp (q.trans m_c0.symm))
  refine ⟨?_, ?_⟩
  · unfold m_chD; rw [Int32.toInt_toInt64]; omega
  · unfold m_chU
    split
    · exact m_lab32 _
    · decide
theorem m_chQ (hg : m_rg f) (h : m_3 (m_isS f w ∧ m_isH f a) (m_lwC f w) (¬ m_chs f (m_thC f w) (f 0).toInt.toNat = 0) r) : r = 1 → m_chU f w a.toInt.toNat = m_chUR f w a.toInt.toNat ∧ m_chD f w = m_chDR f w := fun k => by
  have o := h.one k
  have n0 := hg.n0
  have hh := o.1.2
  unfold m_isH at hh
  exact m_chF hg o.1.1 o.2.1 (by omega)
theorem m_liP (hg : m_rg f) {V : Nat → Int32} (h : m_3 (m_isS f w ∧ m_isH f a ∧ m_has w a = false) (m_lwC f w) (¬ m_lsC f V w (f 0).toInt.toNat = 0) r) : r = 1 → 1 ≤ (m_lsC f V w (f 0).toInt.toNat).toInt ∧ 0 ≤ (m_labs (m_wtC f V w a.toInt.toNat)).toInt := fun k => by
  have n0 := hg.n0
  have o := h.one k
  have hh := o.1.2.1
  unfold m_isH at hh
  have hb := m_lsC_b hg (V := V) (w := w) (f 0).toInt.toNat (by omega)
  have hz : ¬ (m_lsC f V w (f 0).toInt.toNat).toInt = 0 := fun q => o.2.2 (Int64.toInt_inj.mp (q.trans (by decide)))
  have hw := m_wtC_b hg (V := V) (w := w) (k := a.toInt.toNat) (by omega)
  exact ⟨by omega, m_labs_0 (by omega)⟩
theorem m_liQ (hg : m_rg f) (h : m_3 (m_isS f w ∧ m_isH f a ∧ m_has w a = false) (m_lwC f w) (¬ m_lsC f (m_VC f (f 4) (f 5) 0) w (f 0).toInt.toNat = 0) r) : r = 1 → m_wtC f (m_VC f (f 4) (f 5) 0) w a.toInt.toNat = m_loR f (m_VR f (f 4) (f 5)) w a.toInt.toNat ∧ m_lsC f (m_VC f (f 4) (f 5) 0) w (f 0).toInt.toNat = m_lsR f (m_VR f (f 4) (f 5)) w (f 0).toInt.toNat := fun k => by
  have n0 := hg.n0
  have o := h.one k
  have hh := o.1.2.1
  unfold m_isH at hh
  exact ⟨m_lo_eq hg o.1.1 (by omega) (by rw [m_nj hh.1]; exact o.1.2.2), m_ls_eq hg o.1.1 _ (by omega)⟩
end CLE
def m_mxs (f : Nat → Int32) (p : Nat) (h : Int64) : Nat → Int64
  | 0 => h
  | k + 1 => 31 * m_mxs f p h k + (f (p + k)).toInt64
def m_rps (f : Nat → Int32) : Int32 := Int32.ofInt (m_reps f (f 0).toInt.toNat : Nat)
theorem m_rps_of {f : Nat → Int32} {r : Int32} (h : r.toInt = (m_reps f (f 0).toInt.toNat : Nat)) : r = m_rps f := by
  unfold m_rps
  rw [← h, Int32.ofInt_toInt]
def m_cts (f : Nat → Int32) (n : Int32) : Nat → Int32
  | 0 => f 0
  | 1 => f 1
  | 2 => n
  | 3 => m_rps f
  | _ => f 2
def m_dg0 (f : Nat → Int32) (n : Int32) : Int64 := m_mxs (m_cts f n) 0 619 5
def m_dg (f : Nat → Int32) (n : Int32) (a b : Int64) : Int64 :=
  31 * (31 * m_mxs f 136 (m_mxs f 128 (m_mxs f 116 (m_mxs f 4 (m_mxs f 60 (m_mxs f 10 (m_dg0 f n) (5 * (f 0).toInt.toNat)) (7 * (f 1).toInt.toNat)) 4) 12) (f 2).toInt.toNat) 24 + a) + b
theorem m_cnt.cts {f : Nat → Int32} {n w r : Int32} (h : m_cnt f n w r) (hw : 0 ≤ w.toInt ∧ w.toInt ≤ 4) : r = m_cts f n w.toInt.toNat := by
  rcases (by omega : w.toInt = 0 ∨ w.toInt = 1 ∨ w.toInt = 2 ∨ w.toInt = 3 ∨ w.toInt = 4) with q | q | q | q | q
  · rw [h.1 q, q]; rfl
  · rw [h.2.1 q, q]; rfl
  · rw [h.2.2.1 q, q]; rfl
  · rw [m_rps_of (h.2.2.2.1 q), q]; rfl
  · rw [h.2.2.2.2.1 q, q]; rfl

