/-! TOWER: how high a hill must be -/
def m_hdv (l : Nat → Int32) (x y h v : Int32) : Bool := m_mt l x y && m_hd (y_up l 5 v) x y h
def m_lft (l : Nat → Int32) (x y h v0 r : Int32) : Prop := v0.toInt ≤ r.toInt ∧ (∀ u : Int32, v0.toInt ≤ u.toInt → u.toInt < r.toInt → u.toInt ≤ 99 ∧ m_hdv l x y h u = true) ∧ (r.toInt ≤ 99 → m_hdv l x y h r = false)
/-- what may hide: hill c, thing t -/
def m_oc (f : Nat → Int32) (h b : Nat) (c : Nat) (u : Int32) : Bool := m_hdv (m_ln f h b) (f (10 + 5 * c)) (f (11 + 5 * c)) (f (12 + 5 * c)) u
def m_ot (f : Nat → Int32) (h b : Nat) (t : Nat) (u : Int32) : Bool := m_hdv (m_ln f h b) (f (61 + 7 * t)) (f (62 + 7 * t)) (m_hgh f t (f 4)) u
/-- u is too low: of the hills below c, the things below t one hides -/
def m_obs (f : Nat → Int32) (h b c t : Nat) (u : Int32) : Prop := (∃ k, k < c ∧ k ≠ h ∧ k ≠ b ∧ m_oc f h b k u = true) ∨ ∃ k, k < t ∧ m_ot f h b k u = true
/-- none of them hides from some height on that is passed -/
def m_pas (f : Nat → Int32) (h b c t : Nat) (v0 r : Int32) : Prop := (∀ k, k < c → k ≠ h → k ≠ b → ∃ w : Int32, v0.toInt ≤ w.toInt ∧ w.toInt ≤ r.toInt ∧ (w.toInt ≤ 99 → m_oc f h b k w = false)) ∧ ∀ k, k < t → ∃ w : Int32, v0.toInt ≤ w.toInt ∧ w.toInt ≤ r.toInt ∧ (w.toInt ≤ 99 → m_ot f h b k w = false)
def m_tto (f : Nat → Int32) (h b c t : Nat) (v0 r : Int32) : Prop := v0.toInt ≤ r.toInt ∧ (∀ u : Int32, v0.toInt ≤ u.toInt → u.toInt < r.toInt → u.toInt ≤ 99 ∧ m_obs f h b c t u) ∧ m_pas f h b c t v0 r
section TOW
variable {l f : Nat → Int32} {x y h v v0 r r' u : Int32} {a b c t n : Nat}
theorem m_hdv_up : m_hdv (y_up l 5 v) x y h u = m_hdv l x y h u := by
  unfold m_hdv m_mt m_bt m_al m_hd m_ov
  rw [y_up_up]
  rw [y_up_ne (f := l) (show (0 : Nat) ≠ 5 by decide), y_up_ne (f := l) (show (1 : Nat) ≠ 5 by decide), y_up_ne (f := l) (show (2 : Nat) ≠ 5 by decide), y_up_ne (f := l) (show (3 : Nat) ≠ 5 by decide), y_up_ne (f := l) (show (4 : Nat) ≠ 5 by decide), y_up_ne (f := l) (show (7 : Nat) ≠ 5 by decide)]
theorem m_mt_up : m_mt (y_up l 5 v) x y = m_mt l x y := by
  unfold m_mt m_bt m_al
  rw [y_up_ne (f := l) (show (0 : Nat) ≠ 5 by decide), y_up_ne (f := l) (show (1 : Nat) ≠ 5 by decide), y_up_ne (f := l) (show (2 : Nat) ≠ 5 by decide), y_up_ne (f := l) (show (3 : Nat) ≠ 5 by decide), y_up_ne (f := l) (show (4 : Nat) ≠ 5 by decide), y_up_ne (f := l) (show (7 : Nat) ≠ 5 by decide)]
theorem m_tto.zero {i j : Nat} : m_tto f i j 0 0 v0 v0 := ⟨Int.le_refl _, fun u h1 h2 => by omega, ⟨fun k hk => absurd hk (by omega), fun k hk => absurd hk (by omega)⟩⟩
theorem m_tto.hill {i j : Nat} (h0 : m_tto f i j c t v0 v) (h1 : c ≠ i) (h2 : c ≠ j) (h3 : m_lft (m_ln f i j) (f (10 + 5 * c)) (f (11 + 5 * c)) (f (12 + 5 * c)) v r) : m_tto f i j (c + 1) t v0 r := by
  obtain ⟨a1, a2, a3, a4⟩ := h0
  obtain ⟨b1, b2, b3⟩ := h3
  refine ⟨by omega, fun u u1 u2 => ?_, fun k k1 k2 k3 => ?_, fun k k1 => ?_⟩
  · rcases Int.lt_or_le u.toInt v.toInt with q | q
    · obtain ⟨c1, c2⟩ := a2 u u1 q
      refine ⟨c1, ?_⟩
      rcases c2 with ⟨k, k1, k2⟩ | c2
      · exact Or.inl ⟨k, by omega, k2⟩
      · exact Or.inr c2
    · obtain ⟨c1, c2⟩ := b2 u q u2
      exact ⟨c1, Or.inl ⟨c, by omega, h1, h2, c2⟩⟩
  · by_cases e : k = c
    · subst e; exact ⟨r, by omega, Int.le_refl _, b3⟩
    · obtain ⟨w, w1, w2, w3⟩ := a3 k (by omega) k2 k3
      exact ⟨w, w1, by omega, w3⟩
  · obtain ⟨w, w1, w2, w3⟩ := a4 k k1
    exact ⟨w, w1, by omega, w3⟩
theorem m_tto.skip {i j : Nat} (h0 : m_tto f i j c t v0 v) (h1 : c = i ∨ c = j) : m_tto f i j (c + 1) t v0 v := by
  obtain ⟨a1, a2, a3, a4⟩ := h0
  refine ⟨a1, fun u u1 u2 => ⟨(a2 u u1 u2).1, ?_⟩, fun k k1 k2 k3 => a3 k (by omega) k2 k3, a4⟩
  rcases (a2 u u1 u2).2 with ⟨k, k1, k2⟩ | c2
  · exact Or.inl ⟨k, by omega, k2⟩
  · exact Or.inr c2
theorem m_tto.thing {i j : Nat} (h0 : m_tto f i j c t v0 v) (h3 : m_lft (m_ln f i j) (f (61 + 7 * t)) (f (62 + 7 * t)) (m_hgh f t (f 4)) v r) : m_tto f i j c (t + 1) v0 r := by
  obtain ⟨a1, a2, a3, a4⟩ := h0
  obtain ⟨b1, b2, b3⟩ := h3
  refine ⟨by omega, fun u u1 u2 => ?_, fun k k1 k2 k3 => ?_, fun k k1 => ?_⟩
  · rcases Int.lt_or_le u.toInt v.toInt with q | q
    · obtain ⟨c1, c2⟩ := a2 u u1 q
      refine ⟨c1, ?_⟩
      rcases c2 with c2 | ⟨k, k1, k2⟩
      · exact Or.inl c2
      · exact Or.inr ⟨k, by omega, k2⟩
    · obtain ⟨c1, c2⟩ := b2 u q u2
      exact ⟨c1, Or.inr ⟨t, by omega, c2⟩⟩
  · obtain ⟨w, w1, w2, w3⟩ := a3 k k1 k2 k3
    exact ⟨w, w1, by omega, w3⟩
  · by_cases e : k = t
    · subst e; exact ⟨r, by omega, Int.le_refl _, b3⟩
    · obtain ⟨w, w1, w2, w3⟩ := a4 k (by omega)
      exact ⟨w, w1, by omega, w3⟩
end TOW
/-- all hills below n but h -/
def m_tb (f : Nat → Int32) : Int32 := if 1 < (f 0).toInt then f 5 else 0
def m_all2 (f : Nat → Int32) (h n : Nat) (v0 q : Int32) : Prop := v0.toInt ≤ q.toInt ∧ (∀ b, b < n → b ≠ h → (f 5).toInt ≤ (f (12 + 5 * b)).toInt) ∧ (∀ u : Int32, v0.toInt ≤ u.toInt → u.toInt < q.toInt → u.toInt ≤ 99 ∧ ∃ b, b < n ∧ b ≠ h ∧ m_obs f h b (f 0).toInt.toNat (f 1).toInt.toNat u) ∧ ∀ b, b < n → b ≠ h → m_pas f h b (f 0).toInt.toNat (f 1).toInt.toNat v0 q
def m_lt (f : Nat → Int32) (h : Nat) (r : Int32) : Prop := (r = -1 ∧ ∃ b, b < (f 0).toInt.toNat ∧ b ≠ h ∧ (f (12 + 5 * b)).toInt < (f 5).toInt) ∨ ∃ q : Int32, m_all2 f h (f 0).toInt.toNat (m_tb f) q ∧ (99 < q.toInt → r = -1) ∧ (q.toInt ≤ 99 → r = q)
def m_ok9 (f : Nat → Int32) (h n : Nat) (v : Int32) : Prop := ∀ b, b < n → b ≠ h → m_ss (y_up f (12 + 5 * h) v) h b (f 4) (f 5) = true
def m_ltR (f : Nat → Int32) (h : Nat) (r : Int32) : Prop := (r = -1 ∧ ∀ v : Int32, 0 ≤ v.toInt → v.toInt ≤ 99 → ¬ m_ok9 f h (f 0).toInt.toNat v) ∨ (0 ≤ r.toInt ∧ r.toInt ≤ 99 ∧ m_ok9 f h (f 0).toInt.toNat r ∧ ∀ u : Int32, 0 ≤ u.toInt → u.toInt < r.toInt → ¬ m_ok9 f h (f 0).toInt.toNat u)
def m_tow (L : (Nat → Int32) → Nat → Int32 → Prop) (f : Nat → Int32) (h r : Int32) : Prop := (m_isH f h → L f h.toInt.toNat r) ∧ (¬ m_isH f h → r = -2)
section TOE
variable {f : Nat → Int32} {v v0 q r r' u w : Int32} {b h n : Nat}
theorem m_all2.zero {i : Nat} : m_all2 f i 0 v0 v0 := ⟨Int.le_refl _, fun k hk => absurd hk (by omega), fun u h1 h2 => by omega, fun k hk => absurd hk (by omega)⟩
theorem m_all2.skip (h0 : m_all2 f h h v0 q) : m_all2 f h (h + 1) v0 q := by
  obtain ⟨a1, a2, a3, a4⟩ := h0
  refine ⟨a1, fun k k1 k2 => a2 k (by omega) k2, fun u u1 u2 => ⟨(a3 u u1 u2).1, ?_⟩, fun k k1 k2 => a4 k (by omega) k2⟩
  obtain ⟨k, k1, k2⟩ := (a3 u u1 u2).2
  exact ⟨k, by omega, k2⟩
theorem m_pas.mono (h0 : m_pas f h b n w.toInt.toNat v0 q) (hq : q.toInt ≤ r.toInt) : m_pas f h b n w.toInt.toNat v0 r :=
  ⟨fun k k1 k2 k3 => by obtain ⟨x, x1, x2, x3⟩ := h0.1 k k1 k2 k3; exact ⟨x, x1, by omega, x3⟩, fun k k1 => by obtain ⟨x, x1, x2, x3⟩ := h0.2 k k1; exact ⟨x, x1, by omega, x3⟩⟩
theorem m_all2.step (h0 : m_all2 f h b v0 q) (hb : b ≠ h) (hm : (f 5).toInt ≤ (f (12 + 5 * b)).toInt) (h1 : m_tto f h b (f 0).toInt.toNat (f 1).toInt.toNat q r) : m_all2 f h (b + 1) v0 r := by
  obtain ⟨a1, a2, a3, a4⟩ := h0
  obtain ⟨b1, b2, b3⟩ := h1
  refine ⟨by omega, fun k k1 k2 => ?_, fun u u1 u2 => ?_, fun k k1 k2 => ?_⟩
  · by_cases e : k = b
    · rw [e]; exact hm
    · exact a2 k (by omega) k2
  · rcases Int.lt_or_le u.toInt q.toInt with z | z
    · obtain ⟨c1, k, k1, k2⟩ := a3 u u1 z
      exact ⟨c1, k, by omega, k2⟩
    · obtain ⟨c1, c2⟩ := b2 u z u2
      exact ⟨c1, b, by omega, hb, c2⟩
  · by_cases e : k = b
    · subst e
      exact ⟨fun j j1 j2 j3 => by obtain ⟨x, x1, x2, x3⟩ := b3.1 j j1 j2 j3; exact ⟨x, by omega, x2, x3⟩, fun j j1 => by obtain ⟨x, x1, x2, x3⟩ := b3.2 j j1; exact ⟨x, by omega, x2, x3⟩⟩
    · exact (a4 k (by omega) k2).mono b1
theorem m_rg.tw (hg : m_rg f) (hh : h < 10) (hv : 0 ≤ v.toInt ∧ v.toInt ≤ 99) : m_rg (y_up f (12 + 5 * h) v) := hg.up (.of (m_T1 h hh).2.2.1 hv)
theorem m_ln_tw (hne : h ≠ b) : m_ln (y_up f (12 + 5 * h) v) h b = y_up (m_ln f h b) 5 v := by
  have e : ∀ p, p ≠ 12 + 5 * h → y_up f (12 + 5 * h) v p = f p := fun p hp => y_up_ne hp
  funext k
  match k with
  | 0 => rw [y_up_ne (f := m_ln f h b) (show (0 : Nat) ≠ 5 by decide)]; show y_up f (12 + 5 * h) v (10 + 5 * h) = f (10 + 5 * h); exact e _ (by omega)
  | 1 => rw [y_up_ne (f := m_ln f h b) (show (1 : Nat) ≠ 5 by decide)]; show y_up f (12 + 5 * h) v (11 + 5 * h) = f (11 + 5 * h); exact e _ (by omega)
  | 2 => rw [y_up_ne (f := m_ln f h b) (show (2 : Nat) ≠ 5 by decide)]; show y_up f (12 + 5 * h) v (10 + 5 * b) - y_up f (12 + 5 * h) v (10 + 5 * h) = f (10 + 5 * b) - f (10 + 5 * h); rw [e (10 + 5 * b) (by omega), e (10 + 5 * h) (by omega)]
  | 3 => rw [y_up_ne (f := m_ln f h b) (show (3 : Nat) ≠ 5 by decide)]; show y_up f (12 + 5 * h) v (11 + 5 * b) - y_up f (12 + 5 * h) v (11 + 5 * h) = f (11 + 5 * b) - f (11 + 5 * h); rw [e (11 + 5 * b) (by omega), e (11 + 5 * h) (by omega)]
  | 4 =>
    rw [y_up_ne (f := m_ln f h b) (show (4 : Nat) ≠ 5 by decide)]
    show y_up f (12 + 5 * h) v 6 * m_max (m_abs (y_up f (12 + 5 * h) v (10 + 5 * b) - y_up f (12 + 5 * h) v (10 + 5 * h))) (m_abs (y_up f (12 + 5 * h) v (11 + 5 * b) - y_up f (12 + 5 * h) v (11 + 5 * h))) = f 6 * m_max (m_abs (f (10 + 5 * b) - f (10 + 5 * h))) (m_abs (f (11 + 5 * b) - f (11 + 5 * h)))
    rw [e 6 (by omega), e (10 + 5 * b) (by omega), e (10 + 5 * h) (by omega), e (11 + 5 * b) (by omega), e (11 + 5 * h) (by omega)]
  | 5 => rw [y_up_at]; show y_up f (12 + 5 * h) v (12 + 5 * h) = v; exact y_up_at
  | 6 => rw [y_up_ne (f := m_ln f h b) (show (6 : Nat) ≠ 5 by decide)]; show y_up f (12 + 5 * h) v (12 + 5 * b) = f (12 + 5 * b); exact e _ (by omega)
  | 7 =>
    rw [y_up_ne (f := m_ln f h b) (show (7 : Nat) ≠ 5 by decide)]
    show (y_up f (12 + 5 * h) v (10 + 5 * b) - y_up f (12 + 5 * h) v (10 + 5 * h)) * (y_up f (12 + 5 * h) v (10 + 5 * b) - y_up f (12 + 5 * h) v (10 + 5 * h)) + (y_up f (12 + 5 * h) v (11 + 5 * b) - y_up f (12 + 5 * h) v (11 + 5 * h)) * (y_up f (12 + 5 * h) v (11 + 5 * b) - y_up f (12 + 5 * h) v (11 + 5 * h)) = (f (10 + 5 * b) - f (10 + 5 * h)) * (f (10 + 5 * b) - f (10 + 5 * h)) + (f (11 + 5 * b) - f (11 + 5 * h)) * (f (11 + 5 * b) - f (11 + 5 * h))
    rw [e (10 + 5 * b) (by omega), e (10 + 5 * h) (by omega), e (11 + 5 * b) (by omega), e (11 + 5 * h) (by omega)]
  | k + 8 => rw [y_up_ne (f := m_ln f h b) (show k + 8 ≠ 5 by omega)]; show (0 : Int32) = 0; rfl
theorem m_hdv_iff (hg : m_rg f) (hh : h < 10) (hb : b < 10) (hne : h ≠ b) (hv : 0 ≤ v.toInt ∧ v.toInt ≤ 99) {x y z : Int32} (hx : 0 ≤ x.toInt ∧ x.toInt ≤ 19) (hy : 0 ≤ y.toInt ∧ y.toInt ≤ 19) (hz : 0 ≤ z.toInt ∧ z.toInt ≤ 99) : m_hdv (m_ln f h b) x y z v = true ↔ m_HF (y_up f (12 + 5 * h) v) h b x.toInt y.toInt z.toInt := by
  rw [← m_cl_iff (hg.tw hh hv) hh hb hx hy hz, m_ln_tw hne, m_mt_up]
  rfl
theorem m_HF_mono (hne : h ≠ b) (hvw : v.toInt ≤ w.toInt) {x y z : Int} (h0 : m_HF (y_up f (12 + 5 * h) w) h b x y z) : m_HF (y_up f (12 + 5 * h) v) h b x y z := by
  have e : ∀ p, p ≠ 12 + 5 * h → ∀ v9, y_up f (12 + 5 * h) v9 p = f p := fun p hp v9 => y_up_ne hp
  unfold m_HF at h0 ⊢
  rw [e (10 + 5 * h) (by omega), e (11 + 5 * h) (by omega), e (10 + 5 * b) (by omega), e (11 + 5 * b) (by omega), e (12 + 5 * b) (by omega), e 6 (by omega), y_up_at] at h0 ⊢
  unfold m_HI m_HJ at h0 ⊢
  obtain ⟨h1, h2, h3, h4⟩ := h0
  refine ⟨h1, h2, h3, ?_⟩
  revert h1 h2 h4
  generalize (f (10 + 5 * b)).toInt - (f (10 + 5 * h)).toInt = U
  generalize (f (11 + 5 * b)).toInt - (f (11 + 5 * h)).toInt = V
  generalize U * U + V * V = DD
  generalize (x - (f (10 + 5 * h)).toInt) * U + (y - (f (11 + 5 * h)).toInt) * V = AL
  generalize (f (12 + 5 * b)).toInt = HB
  intro h1 h2 h4
  have k1 : 0 ≤ (w.toInt - v.toInt) * (DD - AL) := Int.mul_nonneg (by omega) (by omega)
  rw [Int.mul_sub, Int.sub_mul, Int.sub_mul] at k1
  rw [Int.sub_mul] at h4 ⊢
  omega
/-- what hides at a height hides at a lower one -/
theorem m_oc_mono (hg : m_rg f) (hh : h < 10) (hb : b < 10) (hne : h ≠ b) {c : Nat} (hc : c < 10) (hv : 0 ≤ v.toInt) (hvw : v.toInt ≤ w.toInt) (hw : w.toInt ≤ 99) (h0 : m_oc f h b c w = true) : m_oc f h b c v = true := by
  obtain ⟨t1, t2, t3, -⟩ := m_T1 c hc
  have r1 := (hg (10 + 5 * c) (by omega)).to t1
  have r2 := (hg (11 + 5 * c) (by omega)).to t2
  have r3 := (hg (12 + 5 * c) (by omega)).to t3
  unfold m_oc at h0 ⊢
  rw [m_hdv_iff hg hh hb hne ⟨by omega, by omega⟩ r1 r2 r3] at h0 ⊢
  exact m_HF_mono hne hvw h0
theorem m_ot_mono (hg : m_rg f) (hh : h < 10) (hb : b < 10) (hne : h ≠ b) {t : Nat} (ht : t < 8) (hv : 0 ≤ v.toInt) (hvw : v.toInt ≤ w.toInt) (hw : w.toInt ≤ 99) (h0 : m_ot f h b t w = true) : m_ot f h b t v = true := by
  obtain ⟨-, r1, r2, -⟩ := hg.thing ht
  unfold m_ot at h0 ⊢
  rw [m_hdv_iff hg hh hb hne ⟨by omega, by omega⟩ r1 r2 (m_hgh_rg hg ht hg.y4)] at h0 ⊢
  exact m_HF_mono hne hvw h0
theorem m_hgh_tw (hh : h < 10) {t : Nat} {y : Int32} : m_hgh (y_up f (12 + 5 * h) v) t y = m_hgh f t y := by
  unfold m_hgh m_stn m_wd
  rw [y_up_ne (show 60 + 7 * t ≠ 12 + 5 * h by omega), y_up_ne (show 60 + 7 * t + 3 ≠ 12 + 5 * h by omega), y_up_ne (show 60 + 7 * t + 4 ≠ 12 + 5 * h by omega), y_up_ne (show 65 + 7 * t ≠ 12 + 5 * h by omega)]
/-- the reference's sight by a told height -/
theorem m_ss_tw (hg : m_rg f) (hh : h < 10) (hb : b < (f 0).toInt.toNat) (hne : h ≠ b) (hv : 0 ≤ v.toInt ∧ v.toInt ≤ 99) : m_ss (y_up f (12 + 5 * h) v) h b (f 4) (f 5) = true ↔ ((f 5).toInt ≤ v.toInt ∧ (f 5).toInt ≤ (f (12 + 5 * b)).toInt) ∧ ¬ m_obs f h b (f 0).toInt.toNat (f 1).toInt.toNat v := by
  have n0 := hg.n0
  have n1 := hg.n1
  have e : ∀ p, p ≠ 12 + 5 * h → y_up f (12 + 5 * h) v p = f p := fun p hp => y_up_ne hp
  rw [m_ss_iff (hg.tw hh hv) hh (by omega) hg.y4]
  unfold m_SI
  rw [y_up_at, e (12 + 5 * b) (by omega), e 0 (by omega), e 1 (by omega)]
  have hc : ∀ k, k < (f 0).toInt.toNat → k ≠ h → (m_HF (y_up f (12 + 5 * h) v) h b (y_up f (12 + 5 * h) v (10 + 5 * k)).toInt (y_up f (12 + 5 * h) v (11 + 5 * k)).toInt (y_up f (12 + 5 * h) v (12 + 5 * k)).toInt ↔ m_oc f h b k v = true) := fun k k1 k2 => by
    obtain ⟨t1, t2, t3, -⟩ := m_T1 k (by omega)
    unfold m_oc
    rw [e (10 + 5 * k) (by omega), e (11 + 5 * k) (by omega), e (12 + 5 * k) (by omega)]
    exact (m_hdv_iff hg hh (by omega) hne hv ((hg (10 + 5 * k) (by omega)).to t1) ((hg (11 + 5 * k) (by omega)).to t2) ((hg (12 + 5 * k) (by omega)).to t3)).symm
  have ht : ∀ k, k < (f 1).toInt.toNat → (m_HF (y_up f (12 + 5 * h) v) h b (y_up f (12 + 5 * h) v (61 + 7 * k)).toInt (y_up f (12 + 5 * h) v (62 + 7 * k)).toInt (m_hgh (y_up f (12 + 5 * h) v) k (f 4)).toInt ↔ m_ot f h b k v = true) := fun k k1 => by
    obtain ⟨-, r1, r2, -⟩ := hg.thing (t := k) (by omega)
    unfold m_ot
    rw [e (61 + 7 * k) (by omega), e (62 + 7 * k) (by omega), m_hgh_tw hh]
    exact (m_hdv_iff hg hh (by omega) hne hv r1 r2 (m_hgh_rg hg (by omega) hg.y4)).symm
  constructor
  · rintro ⟨h1, h2, h3⟩
    refine ⟨h1, ?_⟩
    rintro (⟨k, k1, k2, k3, k4⟩ | ⟨k, k1, k2⟩)
    · exact h2 k k1 k2 k3 ((hc k k1 k2).mpr k4)
    · exact h3 k k1 ((ht k k1).mpr k2)
  · rintro ⟨h1, h2⟩
    refine ⟨h1, fun k k1 k2 k3 k4 => h2 (Or.inl ⟨k, k1, k2, k3, (hc k k1 k2).mp k4⟩), fun k k1 k2 => h2 (Or.inr ⟨k, k1, (ht k k1).mp k2⟩)⟩
/-- what is passed does not hide any more -/
theorem m_pas_no (hg : m_rg f) (hh : h < 10) (hb : b < (f 0).toInt.toNat) (hne : h ≠ b) (h0 : m_pas f h b (f 0).toInt.toNat (f 1).toInt.toNat v0 q) (hv0 : 0 ≤ v0.toInt) (hq : q.toInt ≤ 99) : ¬ m_obs f h b (f 0).toInt.toNat (f 1).toInt.toNat q := by
  have n0 := hg.n0
  have n1 := hg.n1
  rintro (⟨k, k1, k2, k3, k4⟩ | ⟨k, k1, k2⟩)
  · obtain ⟨w, w1, w2, w3⟩ := h0.1 k k1 k2 k3
    have := m_oc_mono hg hh (by omega) hne (by omega) (by omega) w2 hq k4
    rw [w3 (by omega)] at this; cases this
  · obtain ⟨w, w1, w2, w3⟩ := h0.2 k k1
    have := m_ot_mono hg hh (by omega) hne (by omega) (by omega) w2 hq k2
    rw [w3 (by omega)] at this; cases this
theorem m_lt_eq (hg : m_rg f) (hh : h < (f 0).toInt.toNat) (h1 : m_lt f h r) (h2 : m_ltR f h r') : r = r' := by
  have n0 := hg.n0
  have m5 := (hg 5 (by decide)).to m_T0.2.2.2.2.1
  have hsee : ∀ v : Int32, 0 ≤ v.toInt → v.toInt ≤ 99 → (m_ok9 f h (f 0).toInt.toNat v ↔ ∀ b, b < (f 0).toInt.toNat → b ≠ h → ((f 5).toInt ≤ v.toInt ∧ (f 5).toInt ≤ (f (12 + 5 * b)).toInt) ∧ ¬ m_obs f h b (f 0).toInt.toNat (f 1).toInt.toNat v) := fun v v1 v2 => by
    unfold m_ok9
    exact ⟨fun z b b1 b2 => (m_ss_tw hg (by omega) b1 (fun e => b2 e.symm) ⟨v1, v2⟩).mp (z b b1 b2), fun z b b1 b2 => (m_ss_tw hg (by omega) b1 (fun e => b2 e.symm) ⟨v1, v2⟩).mpr (z b b1 b2)⟩
  have c99 : (r = -1 → (∀ v : Int32, 0 ≤ v.toInt → v.toInt ≤ 99 → ¬ m_ok9 f h (f 0).toInt.toNat v) → r = r') := fun e z => by
    rcases h2 with ⟨e2, -⟩ | ⟨a1, a2, a3, -⟩
    · rw [e, e2]
    · exact absurd a3 (z r' a1 a2)
  rcases h1 with ⟨e, b, b1, b2, b3⟩ | ⟨q, ⟨q1, q2, q3, q4⟩, q5, q6⟩
  · refine c99 e fun v v1 v2 z => ?_
    have := ((hsee v v1 v2).mp z b b1 b2).1.2
    omega
  · have hv0 : 0 ≤ (m_tb f).toInt := by
      unfold m_tb
      split
      · omega
      · rw [m_c0]; omega
    have hlow : ∀ u : Int32, 0 ≤ u.toInt → u.toInt < q.toInt → u.toInt ≤ 99 → ¬ m_ok9 f h (f 0).toInt.toNat u := fun u u1 u2 u3 z => by
      rcases Int.lt_or_le u.toInt (m_tb f).toInt with k | k
      · have h9 : 1 < (f 0).toInt := by
          rcases Int.lt_or_le 1 (f 0).toInt with k2 | k2
          · exact k2
          · unfold m_tb at k
            rw [if_neg (by omega), m_c0] at k; omega
        have e5 : m_tb f = f 5 := by unfold m_tb; rw [if_pos h9]
        rw [e5] at k
        obtain ⟨b, b1, b2⟩ : ∃ b, b < (f 0).toInt.toNat ∧ b ≠ h := by
          by_cases e0 : h = 0
          · exact ⟨1, by omega, by omega⟩
          · exact ⟨0, by omega, by omega⟩
        have := ((hsee u u1 u3).mp z b b1 b2).1.1
        omega
      · obtain ⟨-, b, b1, b2, b3⟩ := q3 u k u2
        exact ((hsee u u1 u3).mp z b b1 b2).2 b3
    rcases Int.lt_or_le 99 q.toInt with k | k
    · exact c99 (q5 k) fun v v1 v2 => hlow v v1 (by omega) v2
    · have hq : m_ok9 f h (f 0).toInt.toNat q := (hsee q (by omega) k).mpr fun b b1 b2 => by
        refine ⟨⟨?_, q2 b b1 b2⟩, m_pas_no hg (by omega) b1 (fun e => b2 e.symm) (q4 b b1 b2) hv0 k⟩
        have e5 : m_tb f = f 5 := by unfold m_tb; rw [if_pos (by omega)]
        rw [e5] at q1
        exact q1
      rw [q6 k]
      rcases h2 with ⟨-, z⟩ | ⟨a1, a2, a3, a4⟩
      · exact absurd hq (z q (by omega) k)
      · rcases Int.lt_trichotomy q.toInt r'.toInt with z | z | z
        · exact absurd hq (a4 q (by omega) z)
        · exact Int32.toInt_inj.mp z
        · exact absurd a3 (hlow r' a1 z a2)
theorem m_towE {h : Int32} (hg : m_rg f) (h1 : m_tow m_lt f h r) (h2 : m_tow m_ltR f h r') : r = r' := by
  by_cases k : m_isH f h
  · have hh := k
    unfold m_isH at hh
    exact m_lt_eq hg (by omega) (h1.1 k) (h2.1 k)
  · rw [h1.2 k, h2.2 k]
end TOE
