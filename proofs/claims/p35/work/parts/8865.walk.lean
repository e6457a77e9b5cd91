/-! A ROW, step by step: the least that is one nearer -/
def m_nx0 (L : Nat → Bool) (F : Nat → Int32) (u s : Nat) : Prop := L s = true ∧ (F s).toInt = (F u).toInt - 1 ∧ m_st u s
def m_nxR (L : Nat → Bool) (N : Nat) (F : Nat → Int32) (u v : Nat) : Prop := v < N ∧ m_nx0 L F u v ∧ ∀ s, s < v → ¬ m_nx0 L F u s
def m_pth (L : Nat → Bool) (N : Nat) (F : Nat → Int32) : Nat → Nat → Nat → Prop
  | 0, u, v => v = u
  | k + 1, u, v => ∃ t, m_pth L N F k u t ∧ m_nxR L N F t v
/-- what is seen: marks, and how many unlike ones -/
def m_vwSt (F : Nat → Int32) (n sn : Int32) (s : (Nat → Int32) × Int32) (k : Nat) : (Nat → Int32) × Int32 := if (0 ≤ (F k).toInt ∧ (F k).toInt ≤ n.toInt) ∧ s.1 (nI k &&& sn).toInt.toNat = 0 then (y_up s.1 (nI k &&& sn).toInt.toNat 1, s.2 + 1) else s
def m_snSt (F : Nat → Int32) (n sn : Int32) (s : Nat → Int32) (k : Nat) : Nat → Int32 := if 0 ≤ (F k).toInt ∧ (F k).toInt ≤ n.toInt then y_up s (nI k &&& sn).toInt.toNat 1 else s
def m_nz (M : Nat → Int32) (s : Nat) : Bool := !(decide (M s = 0))
section WLK
variable {L L' : Nat → Bool} {N fr : Nat} {F F' : Nat → Int32}
theorem m_nxR.uniq {u v v' : Nat} (h : m_nxR L N F u v) (h' : m_nxR L N F u v') : v = v' := by
  rcases Nat.lt_trichotomy v v' with q | q | q
  · exact absurd h.2.1 (h'.2.2 v q)
  · exact q
  · exact absurd h'.2.1 (h.2.2 v' q)
theorem m_nxR.congr {u v : Nat} (hu : u < N) (eL : ∀ s, s < N → L s = L' s) (eF : ∀ s, s < N → F s = F' s) (h : m_nxR L N F u v) : m_nxR L' N F' u v := by
  have e : ∀ s, s < N → (m_nx0 L F u s ↔ m_nx0 L' F' u s) := fun s hs => by
    unfold m_nx0
    rw [eL s hs, eF s hs, eF u hu]
  exact ⟨h.1, (e v h.1).mp h.2.1, fun s hs q => h.2.2 s hs ((e s (by have := h.1; omega)).mpr q)⟩
theorem m_pth.lt {k u v : Nat} (hu : u < N) (h : m_pth L N F k u v) : v < N := by
  cases k with
  | zero => rw [show v = u from h]; exact hu
  | succ k =>
    obtain ⟨t, -, h2⟩ := h
    exact h2.1
theorem m_pth.uniq {u : Nat} : ∀ {k v v' : Nat}, m_pth L N F k u v → m_pth L N F k u v' → v = v'
  | 0, v, v', h, h' => (show v = u from h).trans (show v' = u from h').symm
  | k + 1, v, v', ⟨t, h1, h2⟩, ⟨t', h1', h2'⟩ => by
    have := m_pth.uniq h1 h1'
    subst this
    exact h2.uniq h2'
theorem m_pth.congr {u : Nat} (hu : u < N) (eL : ∀ s, s < N → L s = L' s) (eF : ∀ s, s < N → F s = F' s) : ∀ {k v : Nat}, m_pth L N F k u v → m_pth L' N F' k u v
  | 0, v, h => h
  | k + 1, v, ⟨t, h1, h2⟩ => ⟨t, m_pth.congr hu eL eF h1, h2.congr (h1.lt hu) eL eF⟩
theorem m_W.ati {S : Nat → Int32} {fo : Int32} (h0 : m_W L N fo S) {i : Nat} (hi : (i : Int) < fo.toInt) : ∃ s, s < N ∧ L s = true ∧ m_cn L s = i ∧ S i = nI s := by
  obtain ⟨a, b, c⟩ := h0
  obtain ⟨k, k1, k2⟩ := m_cn_inv (L := L) (i := i) N (by omega)
  obtain ⟨q, q1, q2, q3, q4⟩ := m_nx (L := L) k1 (by omega)
  have e := m_cn_skip q1 q4
  refine ⟨q, q2, q3, by rw [e, k2], ?_⟩
  have := c q q2 q3
  rw [e, k2] at this
  exact this
theorem m_nz_up {M : Nat → Int32} {s : Nat} (h : M s = 0) : ∀ n, (s < n → m_cn (m_nz (y_up M s 1)) n = m_cn (m_nz M) n + 1) ∧ (n ≤ s → m_cn (m_nz (y_up M s 1)) n = m_cn (m_nz M) n)
  | 0 => ⟨fun q => absurd q (by omega), fun _ => rfl⟩
  | n + 1 => by
    obtain ⟨i1, i2⟩ := m_nz_up h n
    by_cases e : n = s
    · refine ⟨fun _ => ?_, fun q => absurd q (by omega)⟩
      have a : m_nz (y_up M s 1) n = true := by unfold m_nz; rw [e, y_up_at]; decide
      have b : m_nz M n = false := by unfold m_nz; rw [e, h]; decide
      rw [m_cn_T a, m_cn_F b, i2 (by omega)]
    · have a : m_nz (y_up M s 1) n = m_nz M n := by unfold m_nz; rw [y_up_ne e]
      refine ⟨fun q => ?_, fun q => ?_⟩
      · show m_cn _ n + _ = m_cn _ n + _ + 1
        rw [a, i1 (by omega)]; omega
      · show m_cn _ n + _ = m_cn _ n + _
        rw [a, i2 (by omega)]
theorem y_up_same {M : Nat → Int32} {s : Nat} {v : Int32} (h : M s = v) : y_up M s v = M := by
  funext t
  by_cases e : t = s
  · rw [e, y_up_at, h]
  · rw [y_up_ne e]
/-- the class marks what the reference marks, and counts the marks -/
def m_vI (A : (Nat → Int32) × Int32) (B : Nat → Int32) (k : Nat) : Prop := A.1 = B ∧ A.2.toInt = (m_cn (m_nz B) 1024 : Nat) ∧ m_cn (m_nz B) 1024 ≤ k ∧ ∀ j, B j = 0 ∨ B j = 1
theorem m_vI.step {A : (Nat → Int32) × Int32} {B : Nat → Int32} {n sn : Int32} {k : Nat} (hk : k < 1024) (hb : 0 ≤ (nI k &&& sn).toInt ∧ (nI k &&& sn).toInt ≤ 1023) (h : m_vI A B k) : m_vI (m_vwSt F n sn A k) (m_snSt F n sn B k) (k + 1) := by
  obtain ⟨i1, i2, i3, i4⟩ := h
  subst i1
  unfold m_vwSt m_snSt
  by_cases e : 0 ≤ (F k).toInt ∧ (F k).toInt ≤ n.toInt
  · by_cases e2 : A.1 (nI k &&& sn).toInt.toNat = 0
    · have hu := (m_nz_up e2 1024).1 (by omega)
      rw [if_pos e, if_pos ⟨e, e2⟩]
      refine ⟨rfl, ?_, by omega, fun j => ?_⟩
      · show (A.2 + 1).toInt = _
        have := y_add (x := A.2) (y := (1 : Int32)) (by rw [m_c1]; omega) (by rw [m_c1]; omega)
        rw [m_c1] at this
        rw [this, hu, i2]
        omega
      · by_cases q : j = (nI k &&& sn).toInt.toNat
        · rw [q, y_up_at]; exact Or.inr rfl
        · rw [y_up_ne q]; exact i4 j
    · rw [if_pos e, if_neg (fun q => e2 q.2), y_up_same ((i4 _).resolve_left e2)]
      exact ⟨rfl, i2, by omega, i4⟩
  · rw [if_neg e, if_neg (fun q => e q.1)]
    exact ⟨rfl, i2, by omega, i4⟩
theorem m_vI.zero : m_vI (fun _ => 0, 0) (fun _ => 0) 0 := by
  have : m_cn (m_nz (fun _ => 0)) 1024 = m_cn (m_nz (fun _ => 0)) 0 := m_cn_skip (Nat.zero_le _) fun q _ _ => by unfold m_nz; rfl
  refine ⟨rfl, ?_, ?_, fun j => Or.inl rfl⟩
  · show (0 : Int32).toInt = ((m_cn (m_nz (fun _ => 0)) 1024 : Nat) : Int)
    rw [this]; rfl
  · rw [this]; exact Nat.le_refl _
end WLK
