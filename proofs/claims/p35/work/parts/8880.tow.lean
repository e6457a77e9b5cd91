/-! TOWER: how high a hill must be -/
def m_hdv (l : Nat → Int32) (x y h v : Int32) : Bool := m_mt l x y && m_hd (y_up l 5 v) x y h
def m_lft (l : Nat → Int32) (x y h v0 r : Int32) : Prop := v0.toInt ≤ r.toInt ∧ (∀ u : Int32, v0.toInt ≤ u.toInt → u.toInt < r.toInt → u.toInt ≤ 99 ∧ m_hdv l x y h u = true) ∧ (r.toInt ≤ 99 → m_hdv l x y h r = false)
/-- what may hide: hill c, thing t -/
def m_oc (f : Nat → Int32) (h b : Nat) (c : Nat) (u : Int32) : Bool := m_hdv (m_ln f h b) (f (10 + 5 * c)) (f (11 + 5 * c)) (f (12 + 5 * c)) u
def m_ot (f : Nat → Int32) (h b : Nat) (t : Nat) (u : Int32) : Bool := m_hdv (m_ln f h b) (f (61 + 7 * t)) (f (62 + 7 * t)) (m_hgh f t (f 4)) u
/-- u is too low: of the hills below c, the things below t one hides -/
def m_obs (f : Nat → Int32) (h b c t : Nat) (u : Int32) : Prop := (∃ k, k < c ∧ k ≠ h ∧ k ≠ b ∧ m_oc f h b k u = true) ∨ ∃ k, k < t ∧ m_ot f h b k u = true
/-- none of them hides from some height on that is passed -/
def m_pas (f : Nat → Int32) (h b c t : Nat) (v0 r : Int32) : Prop := (∀ k, k < c → k ≠ h → k ≠ b → ∃ w : Int32, v0.toInt ≤ w.toInt ∧ w.toInt ≤ r.toInt ∧ (w.toInt ≤ 99 → m_oc f h b k w = false)) ∧ ∀ k, k < t → ∃ w : Int32, v0.toInt ≤ w.toInt ∧ w.toInt ≤ r.toInt ∧ (w.toInt ≤ 99 → m_ot f h b k w = false)
def m_tto (f : Nat → Int32) (h b c t : Nat) (v0 r : Int32) : Prop := v0.toInt ≤ r.toInt ∧ (∀ u : Int32, v0.toInt ≤ u.toInt → u.toInt < r.toInt → u.toInt ≤ 99 ∧ m_obs f h b c t u) ∧ m_pas f h b c t v0 r
section TOW
variable {l f : Nat → Int32} {x y h v v0 r r' u : Int32} {a b c t n : Nat}
theorem m_hdv_up : m_hdv (y_up l 5 v) x y h u = m_hdv l x y h u := by
  unfold m_hdv m_mt m_bt m_al m_hd m_ov
  rw [y_up_up]
  rw [y_up_ne (f := l) (show (0 : Nat) ≠ 5 by decide), y_up_ne (f := l) (show (1 : Nat) ≠ 5 by decide), y_up_ne (f := l) (show (2 : Nat) ≠ 5 by decide), y_up_ne (f := l) (show (3 : Nat) ≠ 5 by decide), y_up_ne (f := l) (show (4 : Nat) ≠ 5 by decide), y_up_ne (f := l) (show (7 : Nat) ≠ 5 by decide)]
theorem m_tto.zero {i j : Nat} : m_tto f i j 0 0 v0 v0 := ⟨Int.le_refl _, fun u h1 h2 => by omega, ⟨fun k hk => absurd hk (by omega), fun k hk => absurd hk (by omega)⟩⟩
theorem m_tto.hill {i j : Nat} (h0 : m_tto f i j c t v0 v) (h1 : c ≠ i) (h2 : c ≠ j) (h3 : m_lft (m_ln f i j) (f (10 + 5 * c)) (f (11 + 5 * c)) (f (12 + 5 * c)) v r) : m_tto f i j (c + 1) t v0 r := by
  obtain ⟨a1, a2, a3, a4⟩ := h0
  obtain ⟨b1, b2, b3⟩ := h3
  refine ⟨by omega, fun u u1 u2 => ?_, fun k k1 k2 k3 => ?_, fun k k1 => ?_⟩
  · rcases Int.lt_or_le u.toInt v.toInt with q | q
    · obtain ⟨c1, c2⟩ := a2 u u1 q
      refine ⟨c1, ?_⟩
      rcases c2 with ⟨k, k1, k2⟩ | c2
      · exact Or.inl ⟨k, by omega, k2⟩
      · exact Or.inr c2
    · obtain ⟨c1, c2⟩ := b2 u q u2
      exact ⟨c1, Or.inl ⟨c, by omega, h1, h2, c2⟩⟩
  · by_cases e : k = c
    · subst e; exact ⟨r, by omega, Int.le_refl _, b3⟩
    · obtain ⟨w, w1, w2, w3⟩ := a3 k (by omega) k2 k3
      exact ⟨w, w1, by omega, w3⟩
  · obtain ⟨w, w1, w2, w3⟩ := a4 k k1
    exact ⟨w, w1, by omega, w3⟩
theorem m_tto.skip {i j : Nat} (h0 : m_tto f i j c t v0 v) (h1 : c = i ∨ c = j) : m_tto f i j (c + 1) t v0 v := by
  obtain ⟨a1, a2, a3, a4⟩ := h0
  refine ⟨a1, fun u u1 u2 => ⟨(a2 u u1 u2).1, ?_⟩, fun k k1 k2 k3 => a3 k (by omega) k2 k3, a4⟩
  rcases (a2 u u1 u2).2 with ⟨k, k1, k2⟩ | c2
  · exact Or.inl ⟨k, by omega, k2⟩
  · exact Or.inr c2
theorem m_tto.thing {i j : Nat} (h0 : m_tto f i j c t v0 v) (h3 : m_lft (m_ln f i j) (f (61 + 7 * t)) (f (62 + 7 * t)) (m_hgh f t (f 4)) v r) : m_tto f i j c (t + 1) v0 r := by
  obtain ⟨a1, a2, a3, a4⟩ := h0
  obtain ⟨b1, b2, b3⟩ := h3
  refine ⟨by omega, fun u u1 u2 => ?_, fun k k1 k2 k3 => ?_, fun k k1 => ?_⟩
  · rcases Int.lt_or_le u.toInt v.toInt with q | q
    · obtain ⟨c1, c2⟩ := a2 u u1 q
      refine ⟨c1, ?_⟩
      rcases c2 with c2 | ⟨k, k1, k2⟩
      · exact Or.inl c2
      · exact Or.inr ⟨k, by omega, k2⟩
    · obtain ⟨c1, c2⟩ := b2 u q u2
      exact ⟨c1, Or.inr ⟨t, by omega, c2⟩⟩
  · obtain ⟨w, w1, w2, w3⟩ := a3 k k1 k2 k3
    exact ⟨w, w1, by omega, w3⟩
  · by_cases e : k = t
    · subst e; exact ⟨r, by omega, Int.le_refl _, b3⟩
    · obtain ⟨w, w1, w2, w3⟩ := a4 k (by omega)
      exact ⟨w, w1, by omega, w3⟩
end TOW
def m_all2 (f : Nat → Int32) (h n : Nat) (v0 q : Int32) : Prop := v0.toInt ≤ q.toInt ∧ (∀ b, b < n → b ≠ h → (f 5).toInt ≤ (f (12 + 5 * b)).toInt) ∧ (∀ u : Int32, v0.toInt ≤ u.toInt → u.toInt < q.toInt → u.toInt ≤ 99 ∧ ∃ b, b < n ∧ b ≠ h ∧ m_obs f h b (f 0).toInt.toNat (f 1).toInt.toNat u) ∧ ∀ b, b < n → b ≠ h → m_pas f h b (f 0).toInt.toNat (f 1).toInt.toNat v0 q
section TOE
variable {f : Nat → Int32} {v v0 q r r' u w : Int32} {b h n : Nat}
theorem m_all2.zero {i : Nat} : m_all2 f i 0 v0 v0 := ⟨Int.le_refl _, fun k hk => absurd hk (by omega), fun u h1 h2 => by omega, fun k hk => absurd hk (by omega)⟩
theorem m_all2.skip (h0 : m_all2 f h h v0 q) : m_all2 f h (h + 1) v0 q := by
  obtain ⟨a1, a2, a3, a4⟩ := h0
  refine ⟨a1, fun k k1 k2 => a2 k (by omega) k2, fun u u1 u2 => ⟨(a3 u u1 u2).1, ?_⟩, fun k k1 k2 => a4 k (by omega) k2⟩
  obtain ⟨k, k1, k2⟩ := (a3 u u1 u2).2
  exact ⟨k, by omega, k2⟩
theorem m_pas.mono (h0 : m_pas f h b n w.toInt.toNat v0 q) (hq : q.toInt ≤ r.toInt) : m_pas f h b n w.toInt.toNat v0 r :=
  ⟨fun k k1 k2 k3 => by obtain ⟨x, x1, x2, x3⟩ := h0.1 k k1 k2 k3; exact ⟨x, x1, by omega, x3⟩, fun k k1 => by obtain ⟨x, x1, x2, x3⟩ := h0.2 k k1; exact ⟨x, x1, by omega, x3⟩⟩
theorem m_all2.step (h0 : m_all2 f h b v0 q) (hb : b ≠ h) (hm : (f 5).toInt ≤ (f (12 + 5 * b)).toInt) (h1 : m_tto f h b (f 0).toInt.toNat (f 1).toInt.toNat q r) : m_all2 f h (b + 1) v0 r := by
  obtain ⟨a1, a2, a3, a4⟩ := h0
  obtain ⟨b1, b2, b3⟩ := h1
  refine ⟨by omega, fun k k1 k2 => ?_, fun u u1 u2 => ?_, fun k k1 k2 => ?_⟩
  · by_cases e : k = b
    · rw [e]; exact hm
    · exact a2 k (by omega) k2
  · rcases Int.lt_or_le u.toInt q.toInt with z | z
    · obtain ⟨c1, k, k1, k2⟩ := a3 u u1 z
      exact ⟨c1, k, by omega, k2⟩
    · obtain ⟨c1, c2⟩ := b2 u z u2
      exact ⟨c1, b, by omega, hb, c2⟩
  · by_cases e : k = b
    · subst e
      exact ⟨fun j j1 j2 j3 => by obtain ⟨x, x1, x2, x3⟩ := b3.1 j j1 j2 j3; exact ⟨x, by omega, x2, x3⟩, fun j j1 => by obtain ⟨x, x1, x2, x3⟩ := b3.2 j j1; exact ⟨x, by omega, x2, x3⟩⟩
    · exact (a4 k (by omega) k2).mono b1
end TOE
