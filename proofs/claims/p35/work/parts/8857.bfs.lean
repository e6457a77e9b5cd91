/-! HOW FAR EACH SET IS: one function of numbers, whoever looks for it -/
def m_st (u s : Nat) : Prop := z_step (nI u) (nI s)
/-- what is found is right: one is at the start, each other has a neighbour one step nearer -/
def m_Q1 (L : Nat → Bool) (N fr : Nat) (F : Nat → Int32) : Prop := (L fr = true ∧ fr < N ∧ (F fr).toInt = 0) ∧ (∀ s, s < N → L s = true → s = fr ∨ (F s).toInt = -1 ∨ (1 ≤ (F s).toInt ∧ ∃ u, u < N ∧ L u = true ∧ m_st u s ∧ (F u).toInt = (F s).toInt - 1)) ∧ (∀ s, s < N → L s = false → (F s).toInt = -1)
/-- all next to u is found -/
def m_Q2 (L : Nat → Bool) (N : Nat) (F : Nat → Int32) (u : Nat) : Prop := ∀ s, s < N → L s = true → m_st u s → ¬ (F s).toInt = -1 ∧ (F s).toInt ≤ (F u).toInt + 1
def m_D (L : Nat → Bool) (N fr : Nat) (F : Nat → Int32) : Prop := m_Q1 L N fr F ∧ ∀ u, u < N → L u = true → ¬ (F u).toInt = -1 → m_Q2 L N F u
section BFS
variable {L : Nat → Bool} {N fr : Nat} {F F' : Nat → Int32}
theorem m_Q1.ge (h : m_Q1 L N fr F) {s : Nat} (hs : s < N) : (F s).toInt = -1 ∨ 0 ≤ (F s).toInt := by
  cases hL : L s with
  | false => exact Or.inl (h.2.2 s hs hL)
  | true =>
    rcases h.2.1 s hs hL with e | e | e
    · rw [e, h.1.2.2]; exact Or.inr (by decide)
    · exact Or.inl e
    · exact Or.inr (by omega)
theorem m_Q1.lw (h : m_Q1 L N fr F) {s : Nat} (hs : s < N) (hf : ¬ (F s).toInt = -1) : L s = true := by
  cases hL : L s with
  | false => exact absurd (h.2.2 s hs hL) hf
  | true => rfl
theorem m_Q1.push (h : m_Q1 L N fr F) {u s : Nat} {v : Int32} (hu : u < N) (hs : s < N) (hLu : L u = true) (hLs : L s = true) (hst : m_st u s) (h0 : 0 ≤ (F u).toInt) (hm : (F s).toInt = -1) (hv : v.toInt = (F u).toInt + 1) : m_Q1 L N fr (y_up F s v) := by
  have hus : u ≠ s := fun e => by rw [e] at h0; omega
  have hfs : fr ≠ s := fun e => by have := h.1.2.2; rw [e] at this; omega
  refine ⟨⟨h.1.1, h.1.2.1, by rw [y_up_ne hfs]; exact h.1.2.2⟩, fun t ht hLt => ?_, fun t ht hLt => ?_⟩
  · by_cases e : t = s
    · subst e
      rw [y_up_at]
      exact Or.inr (Or.inr ⟨by omega, u, hu, hLu, hst, by rw [y_up_ne hus]; omega⟩)
    · rw [y_up_ne e]
      rcases h.2.1 t ht hLt with q | q | ⟨q, w, w1, w2, w3, w4⟩
      · exact Or.inl q
      · exact Or.inr (Or.inl q)
      · exact Or.inr (Or.inr ⟨q, w, w1, w2, w3, by rw [y_up_ne (fun e9 => by rw [e9] at w4; omega)]; exact w4⟩)
  · have : t ≠ s := fun e => by rw [e, hLs] at hLt; cases hLt
    rw [y_up_ne this]
    exact h.2.2 t ht hLt
theorem m_Q2.push {u s : Nat} {v : Int32} (h : m_Q2 L N F u) (hus : u ≠ s) (hm : (F s).toInt = -1) : m_Q2 L N (y_up F s v) u := fun t ht hLt hst => by
  have q := h t ht hLt hst
  have : t ≠ s := fun e => q.1 (by rw [e]; exact hm)
  rw [y_up_ne this, y_up_ne hus]
  exact q
theorem m_D.le (h : m_Q1 L N fr F) (h' : m_D L N fr F') : ∀ (t : Nat) s, s < N → (F s).toInt = (t : Int) → ¬ (F' s).toInt = -1 ∧ (F' s).toInt ≤ (t : Int)
  | 0, s, hs, e => by
    rcases h.2.1 s hs (h.lw hs (by omega)) with q | q | q
    · rw [q, h'.1.1.2.2]; exact ⟨by decide, by omega⟩
    · omega
    · omega
  | t + 1, s, hs, e => by
    have hL := h.lw hs (by omega)
    rcases h.2.1 s hs hL with q | q | ⟨q, u, u1, u2, u3, u4⟩
    · rw [q, h.1.2.2] at e; omega
    · omega
    · have ih := m_D.le h h' t u u1 (by omega)
      have q2 := h'.2 u u1 u2 ih.1 s hs hL u3
      exact ⟨q2.1, by omega⟩
theorem m_D.eq (h : m_D L N fr F) (h' : m_D L N fr F') {s : Nat} (hs : s < N) : F s = F' s := by
  refine Int32.toInt_inj.mp ?_
  have a : ∀ {G G' : Nat → Int32}, m_D L N fr G → m_D L N fr G' → 0 ≤ (G s).toInt → ¬ (G' s).toInt = -1 ∧ (G' s).toInt ≤ (G s).toInt := fun {G G'} g g' g0 => by
    have := m_D.le g.1 g' (G s).toInt.toNat s hs (by omega)
    exact ⟨this.1, by omega⟩
  rcases h.1.ge hs with e | e
  · rcases h'.1.ge hs with e' | e'
    · omega
    · exact absurd e (a h' h e').1
  · have a1 := a h h' e
    rcases h'.1.ge hs with e' | e'
    · exact absurd e' a1.1
    · have a2 := a h' h e'
      omega
/-- only what is below N counts -/
theorem m_Q1.congr {G : Nat → Int32} (h : m_Q1 L N fr F) (e : ∀ s, s < N → F s = G s) : m_Q1 L N fr G := by
  refine ⟨⟨h.1.1, h.1.2.1, by rw [← e fr h.1.2.1]; exact h.1.2.2⟩, fun s hs hL => ?_, fun s hs hL => by rw [← e s hs]; exact h.2.2 s hs hL⟩
  rw [← e s hs]
  rcases h.2.1 s hs hL with q | q | ⟨q, u, u1, u2, u3, u4⟩
  · exact Or.inl q
  · exact Or.inr (Or.inl q)
  · exact Or.inr (Or.inr ⟨q, u, u1, u2, u3, by rw [← e u u1]; exact u4⟩)
theorem m_Q2.congr {G : Nat → Int32} {u : Nat} (h : m_Q2 L N F u) (hu : u < N) (e : ∀ s, s < N → F s = G s) : m_Q2 L N G u := fun s hs hL hst => by
  rw [← e s hs, ← e u hu]
  exact h s hs hL hst
theorem m_D.congr {G : Nat → Int32} (h : m_D L N fr F) (e : ∀ s, s < N → F s = G s) : m_D L N fr G :=
  ⟨h.1.congr e, fun u hu hL hf => (h.2 u hu hL (by rw [e u hu]; exact hf)).congr hu e⟩
/-- the start -/
theorem m_Q1.start {z : Int32} (hL : L fr = true) (hN : fr < N) (hF : ∀ s, s < N → (F s).toInt = -1) (hz : z.toInt = 0) : m_Q1 L N fr (y_up F fr z) := by
  refine ⟨⟨hL, hN, by rw [y_up_at]; exact hz⟩, fun s hs _ => ?_, fun s hs hLs => ?_⟩
  · by_cases e : s = fr
    · exact Or.inl e
    · rw [y_up_ne e]; exact Or.inr (Or.inl (hF s hs))
  · have : s ≠ fr := fun e => by rw [e, hL] at hLs; cases hLs
    rw [y_up_ne this]; exact hF s hs
/-- the queue: it goes up by one at most, what stands before the head is closed, what is found stands in it -/
def m_QU (L : Nat → Bool) (N : Nat) (F qq : Nat → Int32) (hd tl : Nat) : Prop := hd ≤ tl ∧ (∀ j, j < tl → 0 ≤ (qq j).toInt ∧ (qq j).toInt.toNat < N ∧ L (qq j).toInt.toNat = true ∧ 0 ≤ (F (qq j).toInt.toNat).toInt) ∧ (∀ i j, i ≤ j → j < tl → (F (qq i).toInt.toNat).toInt ≤ (F (qq j).toInt.toNat).toInt) ∧ (∀ s, s < N → ¬ (F s).toInt = -1 → ∃ j, j < tl ∧ (qq j).toInt.toNat = s)
/-- all that is found is at most one further than v -/
def m_QT (F qq : Nat → Int32) (tl : Nat) (v : Int) : Prop := ∀ j, j < tl → (F (qq j).toInt.toNat).toInt ≤ v + 1
theorem m_QU.push {qq : Nat → Int32} {hd tl s : Nat} {v sI : Int32} {w : Int} (h : m_QU L N F qq hd tl) (ht : m_QT F qq tl w) (hs : s < N) (hLs : L s = true) (hsI : sI.toInt = (s : Int)) (hm : (F s).toInt = -1) (hv : v.toInt = w + 1) (hw : 0 ≤ w) : m_QU L N (y_up F s v) (y_up qq tl sI) hd (tl + 1) ∧ m_QT (y_up F s v) (y_up qq tl sI) (tl + 1) w := by
  obtain ⟨a1, a2, a3, a4⟩ := h
  have hsn : sI.toInt.toNat = s := by omega
  have hne : ∀ j, j < tl → (qq j).toInt.toNat ≠ s := fun j hj e => by have := (a2 j hj).2.2.2; rw [e] at this; omega
  have hF : ∀ j, j < tl → (y_up F s v) ((y_up qq tl sI) j).toInt.toNat = F (qq j).toInt.toNat := fun j hj => by rw [y_up_ne (show j ≠ tl by omega), y_up_ne (hne j hj)]
  have hFt : (y_up F s v) ((y_up qq tl sI) tl).toInt.toNat = v := by rw [y_up_at, hsn, y_up_at]
  refine ⟨⟨by omega, fun j hj => ?_, fun i j hij hj => ?_, fun t ht1 ht2 => ?_⟩, fun j hj => ?_⟩
  · by_cases e : j = tl
    · subst e
      rw [hFt, y_up_at, hsn]
      exact ⟨by omega, hs, hLs, by omega⟩
    · rw [hF j (by omega), y_up_ne e]
      exact a2 j (by omega)
  · by_cases e : j = tl
    · subst e
      rw [hFt]
      by_cases e2 : i = j
      · subst e2; rw [hFt]; omega
      · rw [hF i (by omega)]
        have := ht i (by omega)
        omega
    · rw [hF i (by omega), hF j (by omega)]
      exact a3 i j hij (by omega)
  · by_cases e : t = s
    · exact ⟨tl, by omega, by rw [y_up_at, e]; exact hsn⟩
    · rw [y_up_ne e] at ht2
      obtain ⟨j, j1, j2⟩ := a4 t ht1 ht2
      exact ⟨j, by omega, by rw [y_up_ne (show j ≠ tl by omega)]; exact j2⟩
  · by_cases e : j = tl
    · subst e; rw [hFt]; omega
    · rw [hF j (by omega)]; exact ht j (by omega)
/-- nobody is further than its place in the queue -/
def m_QB (F qq : Nat → Int32) (tl : Nat) : Prop := ∀ j, j < tl → (F (qq j).toInt.toNat).toInt ≤ (j : Int)
theorem m_QB.push {qq : Nat → Int32} {hd tl s : Nat} {v sI : Int32} (hb : m_QB F qq tl) (h : m_QU L N F qq hd tl) (hsI : sI.toInt = (s : Int)) (hm : (F s).toInt = -1) (hv : v.toInt ≤ (tl : Int)) : m_QB (y_up F s v) (y_up qq tl sI) (tl + 1) := fun j hj => by
  have hsn : sI.toInt.toNat = s := by omega
  by_cases e : j = tl
  · rw [e, y_up_at, hsn, y_up_at]; exact hv
  · have hne : (qq j).toInt.toNat ≠ s := fun e9 => by have := (h.2.1 j (by omega)).2.2.2; rw [e9] at this; omega
    rw [y_up_ne e, y_up_ne hne]
    exact hb j (by omega)
theorem m_D.congrL {L' : Nat → Bool} (h : m_D L N fr F) (e : ∀ s, s < N → L s = L' s) : m_D L' N fr F := by
  refine ⟨⟨⟨by rw [← e fr h.1.1.2.1]; exact h.1.1.1, h.1.1.2.1, h.1.1.2.2⟩, fun s hs hL => ?_, fun s hs hL => h.1.2.2 s hs (by rw [e s hs]; exact hL)⟩, fun u hu hL hf s hs hLs hst => h.2 u hu (by rw [e u hu]; exact hL) hf s hs (by rw [e s hs]; exact hLs) hst⟩
  rcases h.1.2.1 s hs (by rw [e s hs]; exact hL) with q | q | ⟨q, u, u1, u2, u3, u4⟩
  · exact Or.inl q
  · exact Or.inr (Or.inl q)
  · exact Or.inr (Or.inr ⟨q, u, u1, by rw [← e u u1]; exact u2, u3, u4⟩)
end BFS
