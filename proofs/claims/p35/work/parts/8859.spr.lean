/-! HOW FAR, hour by hour: what the class's loops keep -/
def m_W (L : Nat → Bool) (N : Nat) (fo : Int32) (fr : Nat → Int32) : Prop := N ≤ 1024 ∧ fo.toInt = (m_cn L N : Nat) ∧ m_sets L N fr
section SPR
variable {L : Nat → Bool} {N fr st : Nat} {F F' G : Nat → Int32} {S : Nat → Int32} {fo h g v : Int32}
theorem m_cn_inv {i : Nat} : ∀ n, i ≤ m_cn L n → ∃ k, k ≤ n ∧ m_cn L k = i
  | 0, h => ⟨0, Nat.le_refl _, by have : m_cn L 0 = 0 := rfl; omega⟩
  | n + 1, h => by
    by_cases e : i = m_cn L (n + 1)
    · exact ⟨n + 1, Nat.le_refl _, e.symm⟩
    · have : m_cn L (n + 1) ≤ m_cn L n + 1 := by show m_cn L n + _ ≤ _; split <;> omega
      obtain ⟨k, k1, k2⟩ := m_cn_inv (i := i) n (by omega)
      exact ⟨k, by omega, k2⟩
theorem m_W.at (h0 : m_W L N fo S) {i : Nat} (hi : (i : Int) < fo.toInt) : ∃ s, s < N ∧ L s = true ∧ S i = nI s := by
  obtain ⟨a, b, c⟩ := h0
  obtain ⟨k, k1, k2⟩ := m_cn_inv (L := L) (i := i) N (by omega)
  obtain ⟨q, q1, q2, q3, q4⟩ := m_nx (L := L) k1 (by omega)
  refine ⟨q, q2, q3, ?_⟩
  have := c q q2 q3
  rw [m_cn_skip q1 q4, k2] at this
  exact this
theorem m_W.of (h0 : m_W L N fo S) {s : Nat} (hs : s < N) (hL : L s = true) : ∃ i : Nat, (i : Int) < fo.toInt ∧ S i = nI s := by
  obtain ⟨a, b, c⟩ := h0
  have := m_cn_lt hs hL
  exact ⟨m_cn L s, by omega, c s hs hL⟩
theorem m_nIn {s : Nat} (h : s < 1024) : (nI s).toInt.toNat = s := by rw [nI_toInt (by omega)]; omega
theorem m_nIi {s u : Nat} (hs : s < 1024) (hu : u < 1024) (e : nI s = nI u) : s = u := by
  have := congrArg (fun x => x.toInt.toNat) e
  simp only [m_nIn hs, m_nIn hu] at this
  exact this
/-- at the beginning of an hour -/
def m_SB (L : Nat → Bool) (N st : Nat) (F : Nat → Int32) (h : Int32) : Prop := m_Q1 L N st F ∧ (∀ s, s < N → (F s).toInt ≤ h.toInt) ∧ (∀ u, u < N → L u = true → ¬ (F u).toInt = -1 → (F u).toInt < h.toInt → m_Q2 L N F u)
theorem m_SB.congr (h0 : m_SB L N st F h) (e : ∀ s, s < N → F s = G s) : m_SB L N st G h :=
  ⟨h0.1.congr e, fun s hs => by rw [← e s hs]; exact h0.2.1 s hs, fun u hu hL h1 h2 => (h0.2.2 u hu hL (by rw [e u hu]; exact h1) (by rw [e u hu]; exact h2)).congr hu e⟩
/-- within the hour: g says whether one was found -/
def m_SIb (L : Nat → Bool) (N st : Nat) (F0 F : Nat → Int32) (h g : Int32) : Prop := m_Q1 L N st F ∧ (∀ s, s < N → (F s).toInt ≤ h.toInt + 1) ∧ (∀ u, u < N → L u = true → ¬ (F u).toInt = -1 → (F u).toInt < h.toInt → m_Q2 L N F u) ∧ ((g = 0 ∧ ∀ s, s < N → (F s).toInt ≤ h.toInt) ∨ (g = 1 ∧ z_cnt F0 1024 + 1 ≤ z_cnt F 1024)) ∧ z_cnt F0 1024 ≤ z_cnt F 1024
theorem m_SB.start (h0 : m_SB L N st F h) : m_SIb L N st F F h 0 := ⟨h0.1, fun s hs => by have := h0.2.1 s hs; omega, h0.2.2, Or.inl ⟨rfl, h0.2.1⟩, Nat.le_refl _⟩
theorem m_SIb.push (hN : N ≤ 1024) (hh : 0 ≤ h.toInt) (h0 : m_SIb L N st G F h g) {u s : Nat} (hu : u < N) (hLu : L u = true) (hFu : (F u).toInt = h.toInt) (hs : s < N) (hLs : L s = true) (hst : m_st u s) (hm : (F s).toInt = -1) (hv : v.toInt = h.toInt + 1) : m_SIb L N st G (y_up F s v) h 1 := by
  obtain ⟨a1, a2, a3, a4, a5⟩ := h0
  have hc := z_cnt_up (v := v) hm (by omega) 1024 (by omega)
  refine ⟨a1.push hu hs hLu hLs hst (by omega) hm (by omega), fun t ht => ?_, fun w hw hLw h1 h2 => ?_, Or.inr ⟨rfl, by omega⟩, by omega⟩
  · by_cases e : t = s
    · rw [e, y_up_at]; omega
    · rw [y_up_ne e]; exact a2 t ht
  · have hws : w ≠ s := fun e => by rw [e, y_up_at] at h2; omega
    rw [y_up_ne hws] at h1 h2
    exact (a3 w hw hLw h1 h2).push hws hm
/-- at its end: those of this hour are closed too -/
def m_SC (L : Nat → Bool) (N st : Nat) (F0 F : Nat → Int32) (h g : Int32) : Prop := m_SIb L N st F0 F h g ∧ ∀ u, u < N → L u = true → (F u).toInt = h.toInt → m_Q2 L N F u
theorem m_SC.next (hh : 0 ≤ h.toInt) (h0 : m_SC L N st F' F h g) {h2 : Int32} (h3 : h2.toInt = h.toInt + 1) : m_SB L N st F h2 := by
  obtain ⟨⟨a1, a2, a3, a4, a5⟩, a6⟩ := h0
  refine ⟨a1, fun s hs => by rw [h3]; exact a2 s hs, fun u hu hL h4 h5 => ?_⟩
  by_cases e : (F u).toInt = h.toInt
  · exact a6 u hu hL e
  · exact a3 u hu hL h4 (by omega)
theorem m_SC.stop (h0 : m_SC L N st F' F h 0) : m_D L N st F := by
  obtain ⟨⟨a1, a2, a3, a4, a5⟩, a6⟩ := h0
  refine ⟨a1, fun u hu hL hf => ?_⟩
  rcases a4 with ⟨-, q⟩ | ⟨q, -⟩
  · have := q u hu
    by_cases e : (F u).toInt = h.toInt
    · exact a6 u hu hL e
    · exact a3 u hu hL hf (by omega)
  · cases q
/-- between two hours -/
def m_SL (L : Nat → Bool) (N st : Nat) (F : Nat → Int32) (h g : Int32) : Prop := (g = 1 ∧ m_SB L N st F h ∧ h.toInt + 1 ≤ (z_cnt F 1024 : Int)) ∨ (g = 0 ∧ m_D L N st F)
theorem m_SL.end (h0 : m_SL L N st F h g) (he : g = 0 ∨ 1024 ≤ h.toInt) : m_D L N st F := by
  rcases h0 with ⟨q, q1, q2⟩ | ⟨-, q⟩
  · have := z_cnt_le F 1024
    rcases he with e | e
    · rw [q] at e; cases e
    · omega
  · exact q
theorem m_SL.step {g' : Int32} (h0 : m_SL L N st F h g) (hg : ¬ g = 0) (hh : 0 ≤ h.toInt) (hc : m_SB L N st F h → m_SC L N st F F' h g') {h2 : Int32} (h3 : h2.toInt = h.toInt + 1) : m_SL L N st F' h2 g' := by
  rcases h0 with ⟨q, q1, q2⟩ | ⟨q, -⟩
  · have hc := hc q1
    rcases hc.1.2.2.2.1 with ⟨e, -⟩ | ⟨e, e2⟩
    · exact Or.inr ⟨e, (e ▸ hc).stop⟩
    · exact Or.inl ⟨e, hc.next hh h3, by omega⟩
  · exact absurd q hg
/-- near is a step, or nothing changes -/
def m_nr (a b : Int32) : Bool := decide ((m_bc (a ^^^ b)).toInt ≤ 2)
theorem m_nrB : ∀ n, n < 1024 → ((z_bits (nI n)).toInt ≤ 2 ↔ n = 0 ∨ z_bits (nI n) = 1 ∨ z_bits (nI n) = 2) := by
  have h : ((List.range 1024).all fun n => decide ((z_bits (nI n)).toInt ≤ 2 ↔ n = 0 ∨ z_bits (nI n) = 1 ∨ z_bits (nI n) = 2)) = true := by decide +kernel
  intro n hn
  exact of_decide_eq_true (List.all_eq_true.mp h n (List.mem_range.mpr hn))
theorem m_nr_st {u s : Nat} (hu : u < 1024) (hs : s < 1024) : m_nr (nI u) (nI s) = true ↔ u = s ∨ m_st u s := by
  have hb : ∀ w, w < 1024 → ∀ j, 10 ≤ j → m_bi (nI w) j = false := fun w hw j hj => by
    have e : (nI w).toBitVec.toNat < 2 ^ 10 := by
      have h1 := x_tn (x := nI w) (by rw [nI_toInt (by omega)]; omega)
      rw [nI_toInt (by omega)] at h1
      omega
    exact Nat.testBit_lt_two_pow (Nat.lt_of_lt_of_le e (Nat.pow_le_pow_right (by decide) hj))
  have hx := m_bi_lt (x := nI u ^^^ nI s) fun j hj => by rw [m_bi_xor, hb u hu j hj, hb s hs j hj]; rfl
  unfold m_nr m_st z_step
  rw [decide_eq_true_eq, m_bc_bits hx]
  have h2 := m_nrB (nI u ^^^ nI s).toInt.toNat (by omega)
  rw [m_nj hx.1] at h2
  rw [h2]
  have h3 : (nI u ^^^ nI s).toInt.toNat = 0 ↔ u = s := by
    constructor
    · intro e
      have e0 : nI u ^^^ nI s = 0 := Int32.toInt_inj.mp (by rw [m_c0]; omega)
      refine m_nIi hu hs (m_bi_ext fun j _ => ?_)
      have := congrArg (fun x => m_bi x j) e0
      simp only [m_bi_xor, m_bi_0] at this
      cases hA : m_bi (nI u) j <;> cases hB : m_bi (nI s) j <;> simp_all
    · intro e
      have : nI u ^^^ nI s = 0 := by rw [e]; exact m_bi_ext fun j _ => by rw [m_bi_xor, m_bi_0, Bool.xor_self]
      rw [this]; decide
  rw [h3]
end SPR
