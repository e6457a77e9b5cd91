/-! TOLD: a state is 1024 * letters read + set -/
def m_Rt (E : Nat → Nat → Prop) (fr : Nat) : Nat → Nat → Prop
  | 0, s => s = fr
  | t + 1, s => ∃ u, m_Rt E fr t u ∧ E u s
def m_tE (L : Nat → Bool) (rd : Nat → Nat → Nat) (u s : Nat) : Prop := L (s % 1024) = true ∧ (u % 1024 = s % 1024 ∨ m_st (u % 1024) (s % 1024)) ∧ s / 1024 = rd (s % 1024) (u / 1024)
/-- the first hour at which something good is there; -1: never -/
def m_tol (E : Nat → Nat → Prop) (fr : Nat) (G : Nat → Prop) (r : Int32) : Prop := (0 ≤ r.toInt ∧ (∃ s, G s ∧ m_Rt E fr r.toInt.toNat s) ∧ ∀ t, t < r.toInt.toNat → ∀ s, G s → ¬ m_Rt E fr t s) ∨ (r = -1 ∧ ∀ t s, G s → ¬ m_Rt E fr t s)
def m_B1 (E : Nat → Nat → Prop) (fr N : Nat) (F : Nat → Int32) : Prop := ((F fr).toInt = 0 ∧ fr < N) ∧ ∀ s, s < N → (F s).toInt = -1 ∨ (0 ≤ (F s).toInt ∧ m_Rt E fr (F s).toInt.toNat s)
def m_B2 (E : Nat → Nat → Prop) (N : Nat) (F : Nat → Int32) (u : Nat) : Prop := ∀ s, s < N → E u s → ¬ (F s).toInt = -1 ∧ (F s).toInt ≤ (F u).toInt + 1
section TOL
variable {E E' : Nat → Nat → Prop} {fr N : Nat} {G : Nat → Prop} {F : Nat → Int32} {r r' : Int32}
theorem m_tol.eq (h : m_tol E fr G r) (h' : m_tol E fr G r') : r = r' := by
  rcases h with ⟨a1, ⟨s, a2, a3⟩, a4⟩ | ⟨a1, a2⟩
  · rcases h' with ⟨b1, ⟨s', b2, b3⟩, b4⟩ | ⟨b1, b2⟩
    · refine Int32.toInt_inj.mp ?_
      rcases Int.lt_trichotomy r.toInt r'.toInt with z | z | z
      · exact absurd a3 (b4 _ (by omega) s a2)
      · exact z
      · exact absurd b3 (a4 _ (by omega) s' b2)
    · exact absurd a3 (b2 _ s a2)
  · rcases h' with ⟨b1, ⟨s', b2, b3⟩, b4⟩ | ⟨b1, b2⟩
    · exact absurd b3 (a2 _ s' b2)
    · rw [a1, b1]
theorem m_tol.congr (h : ∀ u s, E u s ↔ E' u s) (x : m_tol E fr G r) : m_tol E' fr G r := by
  have e : E = E' := by
    funext u s
    exact propext (h u s)
  rw [← e]; exact x
theorem m_B1.push (h : m_B1 E fr N F) {u s : Nat} {v : Int32} (hu : u < N) (hE : E u s) (h0 : 0 ≤ (F u).toInt) (hm : (F s).toInt = -1) (hv : v.toInt = (F u).toInt + 1) : m_B1 E fr N (y_up F s v) := by
  have hfs : fr ≠ s := fun e => by have := h.1.1; rw [e] at this; omega
  refine ⟨⟨by rw [y_up_ne hfs]; exact h.1.1, h.1.2⟩, fun t ht => ?_⟩
  by_cases e : t = s
  · rw [e, y_up_at]
    refine Or.inr ⟨by omega, ?_⟩
    rw [show v.toInt.toNat = (F u).toInt.toNat + 1 by omega]
    rcases h.2 u hu with q | q
    · omega
    · exact ⟨u, q.2, hE⟩
  · rw [y_up_ne e]; exact h.2 t ht
theorem m_B2.push {u s : Nat} {v : Int32} (h : m_B2 E N F u) (hus : u ≠ s) (hm : (F s).toInt = -1) : m_B2 E N (y_up F s v) u := fun t ht hst => by
  have q := h t ht hst
  have : t ≠ s := fun e => q.1 (by rw [e]; exact hm)
  rw [y_up_ne this, y_up_ne hus]
  exact q
theorem m_B1.start {z : Int32} (hN : fr < N) (hF : ∀ s, s < N → (F s).toInt = -1) (hz : z.toInt = 0) : m_B1 E fr N (y_up F fr z) := by
  refine ⟨⟨by rw [y_up_at]; exact hz, hN⟩, fun s hs => ?_⟩
  by_cases e : s = fr
  · rw [e, y_up_at]
    refine Or.inr ⟨by omega, ?_⟩
    rw [hz]
    show fr = fr
    rfl
  · rw [y_up_ne e]; exact Or.inl (hF s hs)
theorem m_B1.found (h1 : m_B1 E fr N F) {qq : Nat → Int32} {he ta : Nat} (hN : ∀ t s, m_Rt E fr t s → s < N) (hU : m_QU (fun _ => true) N F qq he ta) (hcl : ∀ j, j < he → m_B2 E N F (qq j).toInt.toNat) {v : Int} (hv : ∀ j, he ≤ j → j < ta → v ≤ (F (qq j).toInt.toNat).toInt) : ∀ (t : Nat) s, (t : Int) < v → m_Rt E fr t s → (F s).toInt ≤ (t : Int) ∧ ∃ j, j < he ∧ (qq j).toInt.toNat = s := by
  have key : ∀ (t : Nat) s, (t : Int) < v → s < N → ¬ (F s).toInt = -1 → (F s).toInt ≤ (t : Int) → ∃ j, j < he ∧ (qq j).toInt.toNat = s := fun t s ht hs hf hle => by
    obtain ⟨j, j1, j2⟩ := hU.2.2.2 s hs hf
    refine ⟨j, ?_, j2⟩
    rcases Nat.lt_or_ge j he with k | k
    · exact k
    · have := hv j k j1
      rw [j2] at this; omega
  intro t
  induction t with
  | zero =>
    intro s ht hR
    have e : s = fr := hR
    have h0 := h1.1.1
    rw [e]
    exact ⟨by omega, key 0 fr ht h1.1.2 (by omega) (by omega)⟩
  | succ t ih =>
    intro s ht hR
    obtain ⟨u, u1, u2⟩ := hR
    obtain ⟨a1, j, j1, j2⟩ := ih u (by omega) u1
    have hs := hN (t + 1) s ⟨u, u1, u2⟩
    have q := hcl j j1 s hs (by rw [j2]; exact u2)
    rw [j2] at q
    have hle : (F s).toInt ≤ ((t + 1 : Nat) : Int) := by omega
    exact ⟨hle, key (t + 1) s ht hs q.1 hle⟩
theorem m_B1.ret (h1 : m_B1 E fr N F) {qq : Nat → Int32} {he ta : Nat} (hN : ∀ t s, m_Rt E fr t s → s < N) (hU : m_QU (fun _ => true) N F qq he ta) (hcl : ∀ j, j < he → m_B2 E N F (qq j).toInt.toNat) (hlt : he < ta) (hng : ∀ j, j < he → ¬ G (qq j).toInt.toNat) (hG : G (qq he).toInt.toNat) : m_tol E fr G (F (qq he).toInt.toNat) := by
  have q := hU.2.1 he hlt
  have hR : m_Rt E fr (F (qq he).toInt.toNat).toInt.toNat (qq he).toInt.toNat := by
    rcases h1.2 _ q.2.1 with k | k
    · have := q.2.2.2; omega
    · exact k.2
  refine Or.inl ⟨q.2.2.2, ⟨_, hG, hR⟩, fun t ht s hs hRs => ?_⟩
  obtain ⟨-, j, j1, j2⟩ := h1.found hN hU hcl (v := (F (qq he).toInt.toNat).toInt) (fun j j1 j2 => hU.2.2.1 he j j1 j2) t s (by omega) hRs
  exact hng j j1 (by rw [j2]; exact hs)
theorem m_B1.none (h1 : m_B1 E fr N F) {qq : Nat → Int32} {ta : Nat} (hN : ∀ t s, m_Rt E fr t s → s < N) (hU : m_QU (fun _ => true) N F qq ta ta) (hcl : ∀ j, j < ta → m_B2 E N F (qq j).toInt.toNat) (hng : ∀ j, j < ta → ¬ G (qq j).toInt.toNat) : m_tol E fr G (-1) :=
  Or.inr ⟨rfl, fun t s hs hRs => by
    obtain ⟨-, j, j1, j2⟩ := h1.found hN hU hcl (v := (t : Int) + 1) (fun j j1 j2 => absurd j2 (by omega)) t s (by omega) hRs
    exact hng j j1 (by rw [j2]; exact hs)⟩
end TOL
/-- letters read by a set behind i -/
def m_rdn (f : Nat → Int32) (sn : Int32) (w i : Nat) : Nat := if (i : Int) < (f 2).toInt ∧ f (128 + i) = m_bc (nI w &&& sn) then i + 1 else i
def m_cl1 (E : Nat → Nat → Prop) (fr t w : Nat) (c : Int32) : Prop := (c = -1 ∧ ∀ i, ¬ m_Rt E fr t (1024 * i + w)) ∨ (0 ≤ c.toInt ∧ m_Rt E fr t (1024 * c.toInt.toNat + w) ∧ ∀ i, m_Rt E fr t (1024 * i + w) → i ≤ c.toInt.toNat)
def m_cA (L : Nat → Bool) (N : Nat) (E : Nat → Nat → Prop) (fr t : Nat) (F : Nat → Int32) : Prop := ∀ w, w < N → L w = true → m_cl1 E fr t w (F (m_cn L w))
/-- the most read near u -/
def m_bst (fo : Int32) (S F : Nat → Int32) (u b : Int32) : Prop := (∀ j : Nat, (j : Int) < fo.toInt → m_nr u (S j) = true → (F j).toInt ≤ b.toInt) ∧ (b = -1 ∨ ∃ j : Nat, (j : Int) < fo.toInt ∧ m_nr u (S j) = true ∧ F j = b)
def m_rb (f : Nat → Int32) (sn w b : Int32) : Int32 := if b = -1 then -1 else nI (m_rdn f sn w.toInt.toNat b.toInt.toNat)
/-- an hour on -/
def m_hrn (f : Nat → Int32) (sn fo : Int32) (S F F' : Nat → Int32) : Prop := ∀ k : Nat, (k : Int) < fo.toInt → ∃ b, m_bst fo S F (S k) b ∧ F' k = m_rb f sn (S k) b
def m_sm (F : Nat → Int32) : Nat → Int
  | 0 => 0
  | k + 1 => m_sm F k + ((F k).toInt + 1)
section TOC
variable {L : Nat → Bool} {N fr t : Nat} {f S F F' : Nat → Int32} {sn fo : Int32} {w i j : Nat}
theorem m_nr_comm {a b : Int32} : m_nr a b = m_nr b a := by unfold m_nr; rw [Int32.xor_comm]
theorem m_rd_ge : i ≤ m_rdn f sn w i := by
  unfold m_rdn
  split
  · omega
  · omega
theorem m_rd_le1 : m_rdn f sn w i ≤ i + 1 := by
  unfold m_rdn
  split
  · omega
  · omega
theorem m_rd_le (h : (i : Int) ≤ (f 2).toInt) : (m_rdn f sn w i : Int) ≤ (f 2).toInt := by
  unfold m_rdn
  split
  · next q => have := q.1; omega
  · exact h
theorem m_rd_mono (h : i ≤ j) : m_rdn f sn w i ≤ m_rdn f sn w j := by
  by_cases e : i = j
  · rw [e]; exact Nat.le_refl _
  · have a := m_rd_le1 (f := f) (sn := sn) (w := w) (i := i)
    have b := m_rd_ge (f := f) (sn := sn) (w := w) (i := j)
    omega
theorem m_Rt_L {rd : Nat → Nat → Nat} (hfr : L (fr % 1024) = true) : ∀ t s, m_Rt (m_tE L rd) fr t s → L (s % 1024) = true
  | 0, s, h => by
    have e : s = fr := h
    rw [e]; exact hfr
  | t + 1, s, h => by
    obtain ⟨u, _, h2⟩ := h
    exact h2.1
theorem m_Rt_m (hfr : ((fr / 1024 : Nat) : Int) ≤ (f 2).toInt) : ∀ t s, m_Rt (m_tE L (m_rdn f sn)) fr t s → ((s / 1024 : Nat) : Int) ≤ (f 2).toInt
  | 0, s, h => by
    have e : s = fr := h
    rw [e]; exact hfr
  | t + 1, s, h => by
    obtain ⟨u, h1, h2⟩ := h
    rw [h2.2.2]
    exact m_rd_le (m_Rt_m hfr t u h1)

theorem m_nr_self {a : Int32} : m_nr a a = true := by
  unfold m_nr
  rw [Int32.xor_self]
  decide
theorem m_rb_v {a b : Int32} (hb : 0 ≤ b.toInt ∧ b.toInt ≤ 8) : (m_rb f sn a b).toInt = (m_rdn f sn a.toInt.toNat b.toInt.toNat : Int) := by
  have hn : ¬ b = -1 := fun e => by have h := hb.1; rw [e, m_cm1] at h; omega
  have := m_rd_le1 (f := f) (sn := sn) (w := a.toInt.toNat) (i := b.toInt.toNat)
  unfold m_rb
  rw [if_neg hn, nI_toInt (by omega)]
theorem m_cA.step (hW : m_W L N fo S) (hb : ∀ k : Nat, (k : Int) < fo.toInt → -1 ≤ (F k).toInt ∧ (F k).toInt ≤ 8) (hfr : L (fr % 1024) = true) (hLN : ∀ w, L w = true → w < N) (h : m_cA L N (m_tE L (m_rdn f sn)) fr t F) (hh : m_hrn f sn fo S F F') : m_cA L N (m_tE L (m_rdn f sn)) fr (t + 1) F' := by
  intro w hw hL
  have hN := hW.1
  have hk : S (m_cn L w) = nI w := hW.2.2 w hw hL
  have hpos : ∀ u, u < N → L u = true → ((m_cn L u : Nat) : Int) < fo.toInt := fun u hu hLu => by
    have a1 := m_cn_lt hu hLu
    have a2 := hW.2.1
    omega
  obtain ⟨b, ⟨b1, b2⟩, b3⟩ := hh _ (hpos w hw hL)
  rw [hk] at b1 b2 b3
  have near : ∀ u, u < N → L u = true → (u = w ∨ m_st u w) → (F (m_cn L u)).toInt ≤ b.toInt := fun u hu hLu hn => b1 _ (hpos u hu hLu) (by
    rw [hW.2.2 u hu hLu, m_nr_comm]
    exact (m_nr_st (by omega) (by omega)).mpr hn)
  have pred : ∀ i, m_Rt (m_tE L (m_rdn f sn)) fr (t + 1) (1024 * i + w) → ∃ x, m_Rt (m_tE L (m_rdn f sn)) fr t x ∧ L (x % 1024) = true ∧ (x % 1024 = w ∨ m_st (x % 1024) w) ∧ i = m_rdn f sn w (x / 1024) := fun i hR => by
    obtain ⟨x, x1, x2, x3, x4⟩ := hR
    have e1 : (1024 * i + w) % 1024 = w := by omega
    have e2 : (1024 * i + w) / 1024 = i := by omega
    rw [e1] at x3 x4
    rw [e2] at x4
    exact ⟨x, x1, m_Rt_L hfr t x x1, x3, x4⟩
  have most : ∀ x, m_Rt (m_tE L (m_rdn f sn)) fr t x → L (x % 1024) = true → (x % 1024 = w ∨ m_st (x % 1024) w) → 0 ≤ (F (m_cn L (x % 1024))).toInt ∧ x / 1024 ≤ b.toInt.toNat := fun x x1 x2 x3 => by
    have hx := hLN _ x2
    have a1 := near _ hx x2 x3
    have ex : 1024 * (x / 1024) + x % 1024 = x := by omega
    rcases h _ hx x2 with ⟨-, c2⟩ | ⟨c1, c2, c3⟩
    · exact absurd x1 (by have := c2 (x / 1024); rw [ex] at this; exact this)
    · have := c3 (x / 1024) (by rw [ex]; exact x1)
      exact ⟨c1, by omega⟩
  by_cases e : b = -1
  · refine Or.inl ⟨by rw [b3]; unfold m_rb; rw [if_pos e], fun i hR => ?_⟩
    obtain ⟨x, x1, x2, x3, x4⟩ := pred i hR
    have a1 := (most x x1 x2 x3).1
    have a2 := near _ (hLN _ x2) x2 x3
    rw [e, m_cm1] at a2
    omega
  · obtain ⟨j, j1, j2, j3⟩ := b2.resolve_left e
    obtain ⟨u, u1, u2, u3, u4⟩ := hW.ati j1
    have hbj := hb j j1
    rw [j3] at hbj
    have hb0 : 0 ≤ b.toInt ∧ b.toInt ≤ 8 := by
      refine ⟨?_, hbj.2⟩
      rcases Int.lt_or_le b.toInt 0 with q | q
      · exact absurd (Int32.toInt_inj.mp (by rw [m_cm1]; omega)) e
      · exact q
    have hu : u = w ∨ m_st u w := by
      rw [u4, m_nr_comm] at j2
      exact (m_nr_st (by omega) (by omega)).mp j2
    have hv := m_rb_v (f := f) (sn := sn) (a := nI w) hb0
    rw [m_nIn (show w < 1024 by omega)] at hv
    have c := h u u1 u2
    rw [u3, j3] at c
    refine Or.inr ⟨by rw [b3, hv]; omega, ?_, fun i hR => ?_⟩
    · rw [b3, hv]
      rcases c with ⟨c1, -⟩ | ⟨c1, c2, c3⟩
      · exact absurd c1 e
      · have e1 : (1024 * ((m_rdn f sn w b.toInt.toNat : Nat) : Int).toNat + w) % 1024 = w := by omega
        have e2 : (1024 * ((m_rdn f sn w b.toInt.toNat : Nat) : Int).toNat + w) / 1024 = m_rdn f sn w b.toInt.toNat := by omega
        have e3 : (1024 * b.toInt.toNat + u) % 1024 = u := by omega
        have e4 : (1024 * b.toInt.toNat + u) / 1024 = b.toInt.toNat := by omega
        refine ⟨_, c2, ?_⟩
        unfold m_tE
        rw [e1, e2, e3, e4]
        exact ⟨hL, hu, rfl⟩
    · obtain ⟨x, x1, x2, x3, x4⟩ := pred i hR
      have a2 := (most x x1 x2 x3).2
      have a3 := m_rd_mono (f := f) (sn := sn) (w := w) a2
      rw [b3, hv, x4]
      omega
theorem m_cA.fix (hW : m_W L N fo S) (hb : ∀ k : Nat, (k : Int) < fo.toInt → -1 ≤ (F k).toInt ∧ (F k).toInt ≤ 8) (hfr : L (fr % 1024) = true) (hLN : ∀ w, L w = true → w < N) (h : m_cA L N (m_tE L (m_rdn f sn)) fr t F) (hh : m_hrn f sn fo S F F') (he : ∀ k : Nat, (k : Int) < fo.toInt → F' k = F k) : ∀ d, m_cA L N (m_tE L (m_rdn f sn)) fr (t + d) F
  | 0 => h
  | d + 1 => m_cA.step (t := t + d) hW hb hfr hLN (m_cA.fix hW hb hfr hLN h hh he d) (fun k hk => by
      obtain ⟨b, b1, b2⟩ := hh k hk
      exact ⟨b, b1, by rw [← he k hk]; exact b2⟩)
theorem m_cA.noG (hW : m_W L N fo S) (hfr : L (fr % 1024) = true) (hLN : ∀ w, L w = true → w < N) (hfm : ((fr / 1024 : Nat) : Int) ≤ (f 2).toInt) (h : m_cA L N (m_tE L (m_rdn f sn)) fr t F) (hn : ∀ k : Nat, (k : Int) < fo.toInt → ¬ (F k).toInt = (f 2).toInt) : ∀ s, ((s / 1024 : Nat) : Int) = (f 2).toInt → ¬ m_Rt (m_tE L (m_rdn f sn)) fr t s := fun s hs hR => by
  have hL := m_Rt_L hfr t s hR
  have hw := hLN _ hL
  have hN := hW.1
  have ex : 1024 * (s / 1024) + s % 1024 = s := by omega
  rcases h _ hw hL with ⟨-, c2⟩ | ⟨c1, c2, c3⟩
  · exact c2 (s / 1024) (by rw [ex]; exact hR)
  · have a1 := c3 (s / 1024) (by rw [ex]; exact hR)
    have a2 := m_Rt_m hfm t _ c2
    have e2 : (1024 * (F (m_cn L (s % 1024))).toInt.toNat + s % 1024) / 1024 = (F (m_cn L (s % 1024))).toInt.toNat := by omega
    rw [e2] at a2
    exact hn (m_cn L (s % 1024)) (by have b1 := m_cn_lt hw hL; have b2 := hW.2.1; omega) (by omega)
theorem m_cA.isG (hW : m_W L N fo S) (h : m_cA L N (m_tE L (m_rdn f sn)) fr t F) (h2 : 0 ≤ (f 2).toInt) {k : Nat} (hk : (k : Int) < fo.toInt) (he : (F k).toInt = (f 2).toInt) : ∃ s, ((s / 1024 : Nat) : Int) = (f 2).toInt ∧ m_Rt (m_tE L (m_rdn f sn)) fr t s := by
  have hN := hW.1
  obtain ⟨u, u1, u2, u3, u4⟩ := hW.ati hk
  rcases h u u1 u2 with ⟨c1, -⟩ | ⟨c1, c2, c3⟩
  · rw [u3] at c1; rw [c1, m_cm1] at he; omega
  · rw [u3] at c2
    exact ⟨_, by omega, c2⟩
theorem m_hrn.mono (hb : ∀ k : Nat, (k : Int) < fo.toInt → -1 ≤ (F k).toInt ∧ (F k).toInt ≤ 8) (hS : ∀ k : Nat, (k : Int) < fo.toInt → 0 ≤ (S k).toInt) (hh : m_hrn f sn fo S F F') {k : Nat} (hk : (k : Int) < fo.toInt) : (F k).toInt ≤ (F' k).toInt := by
  obtain ⟨b, ⟨b1, b2⟩, b3⟩ := hh k hk
  have a1 := b1 k hk m_nr_self
  by_cases e : b = -1
  · rw [b3]; unfold m_rb; rw [if_pos e]; rw [e] at a1; exact a1
  · obtain ⟨j, j1, j2, j3⟩ := b2.resolve_left e
    have hbj := hb j j1
    rw [j3] at hbj
    have hb0 : 0 ≤ b.toInt ∧ b.toInt ≤ 8 := by
      refine ⟨?_, hbj.2⟩
      rcases Int.lt_or_le b.toInt 0 with q | q
      · exact absurd (Int32.toInt_inj.mp (by rw [m_cm1]; omega)) e
      · exact q
    rw [b3, m_rb_v hb0]
    have := m_rd_ge (f := f) (sn := sn) (w := (S k).toInt.toNat) (i := b.toInt.toNat)
    omega
theorem m_sm_le : ∀ n, (∀ k, k < n → (F k).toInt ≤ (F' k).toInt) → m_sm F n ≤ m_sm F' n
  | 0, _ => Int.le_refl _
  | n + 1, h => by
    have a := m_sm_le n fun k hk => h k (by omega)
    have b := h n (by omega)
    show m_sm F n + _ ≤ m_sm F' n + _
    omega
theorem m_sm_lt : ∀ n, (∀ k, k < n → (F k).toInt ≤ (F' k).toInt) → (∃ k, k < n ∧ ¬ (F' k).toInt = (F k).toInt) → m_sm F n + 1 ≤ m_sm F' n
  | 0, _, h => by obtain ⟨k, k1, -⟩ := h; omega
  | n + 1, h, hx => by
    obtain ⟨k, k1, k2⟩ := hx
    have b := h n (by omega)
    show m_sm F n + _ + 1 ≤ m_sm F' n + _
    by_cases e : k = n
    · rw [e] at k2
      have a := m_sm_le n fun k hk => h k (by omega)
      omega
    · have a := m_sm_lt n (fun k hk => h k (by omega)) ⟨k, by omega, k2⟩
      omega
theorem m_sm_1 (h0 : ∀ k, k < w → -1 ≤ (F k).toInt) (hi : i < w) (h1 : 0 ≤ (F i).toInt) : 1 ≤ m_sm F w := by
  have : ∀ n, (∀ k, k < n → -1 ≤ (F k).toInt) → 0 ≤ m_sm F n := fun n => by
    induction n with
    | zero => intro _; exact Int.le_refl _
    | succ n ih =>
      intro h
      have a := ih fun k hk => h k (by omega)
      have b := h n (by omega)
      show 0 ≤ m_sm F n + _
      omega
  induction w with
  | zero => omega
  | succ n ih =>
    have b := h0 n (by omega)
    show 1 ≤ m_sm F n + _
    by_cases e : i = n
    · rw [e] at h1
      have a := this n fun k hk => h0 k (by omega)
      omega
    · have a := ih (fun k hk => h0 k (by omega)) (by omega)
      omega
theorem m_bst.skip {i i' : Int32} {u b : Int32} (h : m_bst i S F u b) (h0 : 0 ≤ i.toInt) (his : i'.toInt = i.toInt + 1) (hx : m_nr u (S i.toInt.toNat) = true → (F i.toInt.toNat).toInt ≤ b.toInt) : m_bst i' S F u b := by
  refine ⟨fun j hj hn => ?_, ?_⟩
  · by_cases e : j = i.toInt.toNat
    · rw [e] at hn ⊢; exact hx hn
    · exact h.1 j (by omega) hn
  · rcases h.2 with q | ⟨j, j1, j2⟩
    · exact Or.inl q
    · exact Or.inr ⟨j, by omega, j2⟩
theorem m_bst.take {i i' : Int32} {u b : Int32} (h : m_bst i S F u b) (h0 : 0 ≤ i.toInt) (his : i'.toInt = i.toInt + 1) (hn : m_nr u (S i.toInt.toNat) = true) (hge : b.toInt ≤ (F i.toInt.toNat).toInt) : m_bst i' S F u (F i.toInt.toNat) := by
  refine ⟨fun j hj hn2 => ?_, Or.inr ⟨i.toInt.toNat, by omega, hn, rfl⟩⟩
  by_cases e : j = i.toInt.toNat
  · rw [e]; exact Int.le_refl _
  · have := h.1 j (by omega) hn2
    omega
theorem m_bst.congr {S' : Nat → Int32} {u b : Int32} (h : m_bst fo S F u b) (hS : ∀ j : Nat, (j : Int) < fo.toInt → S' j = S j) (hF : ∀ j : Nat, (j : Int) < fo.toInt → F' j = F j) : m_bst fo S' F' u b := by
  refine ⟨fun j hj hn => ?_, ?_⟩
  · rw [hF j hj]; rw [hS j hj] at hn; exact h.1 j hj hn
  · rcases h.2 with q | ⟨j, j1, j2, j3⟩
    · exact Or.inl q
    · exact Or.inr ⟨j, j1, by rw [hS j j1]; exact j2, by rw [hF j j1]; exact j3⟩
def m_rbI (f : Nat → Int32) (i fi : Int32) : Int32 := if i.toInt < (f 2).toInt ∧ f (128 + i.toInt.toNat) = m_bc fi then i + 1 else i
theorem m_rbI_eq {i w : Int32} (hi : 0 ≤ i.toInt ∧ i.toInt ≤ 8) (hw : 0 ≤ w.toInt) : m_rbI f i (w &&& sn) = nI (m_rdn f sn w.toInt.toNat i.toInt.toNat) := by
  have e1 := m_rd_le1 (f := f) (sn := sn) (w := w.toInt.toNat) (i := i.toInt.toNat)
  unfold m_rbI
  refine Int32.toInt_inj.mp ?_
  rw [nI_toInt (by omega)]
  unfold m_rdn
  rw [m_nj hw]
  by_cases q : i.toInt < (f 2).toInt ∧ f (128 + i.toInt.toNat) = m_bc (w &&& sn)
  · rw [if_pos q, if_pos ⟨by have := q.1; omega, q.2⟩]
    have := y_add (x := i) (y := (1 : Int32)) (by rw [m_c1]; omega) (by rw [m_c1]; omega)
    rw [m_c1] at this
    omega
  · rw [if_neg q, if_neg (fun h9 => q ⟨by have := h9.1; omega, h9.2⟩)]
    omega
def m_r0 (f : Nat → Int32) (sn fm w : Int32) : Int32 := if w = fm then m_rbI f 0 (w &&& sn) else -1
def m_st0 (f : Nat → Int32) (sn fm : Int32) : Nat := 1024 * m_rdn f sn fm.toInt.toNat 0 + fm.toInt.toNat
/-- where the class stands at hour t -/
def m_tI (f : Nat → Int32) (sn fm fo : Int32) (S F : Nat → Int32) (t : Nat) (fix go : Prop) : Prop := ∀ (L : Nat → Bool) (N : Nat), m_W L N fo S → (∀ w, L w = true → w < N) → L fm.toInt.toNat = true → m_cA L N (m_tE L (m_rdn f sn)) (m_st0 f sn fm) t F ∧ (∀ t', t' < t → ∀ s, ((s / 1024 : Nat) : Int) = (f 2).toInt → ¬ m_Rt (m_tE L (m_rdn f sn)) (m_st0 f sn fm) t' s) ∧ (fix → ∀ d, m_cA L N (m_tE L (m_rdn f sn)) (m_st0 f sn fm) (t + d) F) ∧ (go → (t : Int) + 1 ≤ m_sm F fo.toInt.toNat)
theorem m_st0_m {fm : Int32} (hfm : 0 ≤ fm.toInt ∧ fm.toInt ≤ 1023) : m_st0 f sn fm % 1024 = fm.toInt.toNat ∧ m_st0 f sn fm / 1024 = m_rdn f sn fm.toInt.toNat 0 := by
  unfold m_st0
  constructor
  · omega
  · omega
theorem m_st0_i {fm : Int32} (hfm : 0 ≤ fm.toInt ∧ fm.toInt ≤ 1023) (h2 : 0 ≤ (f 2).toInt) : ((m_st0 f sn fm / 1024 : Nat) : Int) ≤ (f 2).toInt := by
  rw [(m_st0_m hfm).2]
  exact m_rd_le (by omega)
theorem m_cA.congrF {E : Nat → Nat → Prop} (hW : m_W L N fo S) (h : m_cA L N E fr t F) (he : ∀ k : Nat, (k : Int) < fo.toInt → F' k = F k) : m_cA L N E fr t F' := fun w hw hL => by
  rw [he _ (by have := m_cn_lt hw hL; have := hW.2.1; omega)]
  exact h w hw hL
theorem m_tI.start {fm : Int32} (hfm : 0 ≤ fm.toInt ∧ fm.toInt ≤ 1023) (hF : ∀ k : Nat, (k : Int) < fo.toInt → F k = m_r0 f sn fm (S k)) : m_tI f sn fm fo S F 0 False True := fun L N hW hLN hLf => by
  have hN := hW.1
  have hc1 := m_rd_le1 (f := f) (sn := sn) (w := fm.toInt.toNat) (i := 0)
  have hv0 : (m_rbI f 0 (fm &&& sn)).toInt = (m_rdn f sn fm.toInt.toNat 0 : Int) := by
    rw [m_rbI_eq (by rw [m_c0]; omega) hfm.1, nI_toInt (by rw [z_i0]; omega), z_i0]
  have hpos : ∀ u, u < N → L u = true → ((m_cn L u : Nat) : Int) < fo.toInt := fun u hu hLu => by
    have a1 := m_cn_lt hu hLu
    have a2 := hW.2.1
    omega
  have hval : ∀ w, w < N → L w = true → (w = fm.toInt.toNat → (F (m_cn L w)).toInt = (m_rdn f sn fm.toInt.toNat 0 : Int)) ∧ (w ≠ fm.toInt.toNat → F (m_cn L w) = -1) := fun w hw hL => by
    rw [hF _ (hpos w hw hL), hW.2.2 w hw hL]
    unfold m_r0
    constructor
    · intro e
      rw [e, m_nj hfm.1, if_pos rfl]
      exact hv0
    · intro e
      rw [if_neg (fun h9 => e (by rw [← h9]; exact (m_nIn (by omega)).symm))]
  refine ⟨fun w hw hL => ?_, fun t' ht => absurd ht (by omega), fun h9 => absurd h9 id, fun _ => ?_⟩
  · by_cases e : w = fm.toInt.toNat
    · have hv := (hval w hw hL).1 e
      refine Or.inr ⟨by omega, ?_, fun i hR => ?_⟩
      · show _ = m_st0 f sn fm
        unfold m_st0
        rw [e] at hv ⊢
        omega
      · have h9 : 1024 * i + w = m_st0 f sn fm := hR
        unfold m_st0 at h9
        omega
    · refine Or.inl ⟨(hval w hw hL).2 e, fun i hR => ?_⟩
      have h9 : 1024 * i + w = m_st0 f sn fm := hR
      unfold m_st0 at h9
      omega
  · have hfN := hLN _ hLf
    have hv := (hval _ hfN hLf).1 rfl
    have := m_sm_1 (F := F) (w := fo.toInt.toNat) (i := m_cn L fm.toInt.toNat) (fun k hk => by
      obtain ⟨u, u1, u2, u3, u4⟩ := hW.ati (i := k) (by omega)
      by_cases e : u = fm.toInt.toNat
      · have := (hval u u1 u2).1 e
        rw [u3] at this; omega
      · have := (hval u u1 u2).2 e
        rw [u3] at this; rw [this, m_cm1]; omega) (by have := hpos _ hfN hLf; omega) (by omega)
    omega
theorem m_tI.step {fm : Int32} {fix go : Prop} (hfm : 0 ≤ fm.toInt ∧ fm.toInt ≤ 1023) (h2 : 0 ≤ (f 2).toInt) (hb : ∀ k : Nat, (k : Int) < fo.toInt → -1 ≤ (F k).toInt ∧ (F k).toInt ≤ 8) (hS : ∀ k : Nat, (k : Int) < fo.toInt → 0 ≤ (S k).toInt) (h : m_tI f sn fm fo S F t fix go) (hgo : go) (hn : ∀ k : Nat, (k : Int) < fo.toInt → ¬ F k = f 2) (hh : m_hrn f sn fo S F F') : m_tI f sn fm fo S F' (t + 1) (∀ k : Nat, (k : Int) < fo.toInt → F' k = F k) (∃ k : Nat, (k : Int) < fo.toInt ∧ ¬ F' k = F k) := fun L N hW hLN hLf => by
  obtain ⟨a1, a2, a3, a4⟩ := h L N hW hLN hLf
  have hL0 : L (m_st0 f sn fm % 1024) = true := by rw [(m_st0_m hfm).1]; exact hLf
  have hs := m_cA.step hW hb hL0 hLN a1 hh
  refine ⟨hs, fun t' ht s hG => ?_, fun he d => ?_, fun hx => ?_⟩
  · by_cases e : t' = t
    · rw [e]
      exact a1.noG hW hL0 hLN (m_st0_i hfm h2) (fun k hk q => hn k hk (Int32.toInt_inj.mp q)) s hG
    · exact a2 t' (by omega) s hG
  · have := m_cA.fix hW hb hL0 hLN a1 hh he (1 + d)
    rw [show t + (1 + d) = t + 1 + d by omega] at this
    exact this.congrF hW he
  · have h9 := a4 hgo
    obtain ⟨k, k1, k2⟩ := hx
    have := m_sm_lt (F := F) (F' := F') fo.toInt.toNat (fun k hk => hh.mono hb hS (by omega)) ⟨k, by omega, fun q => k2 (Int32.toInt_inj.mp q)⟩
    omega
theorem m_tI.yes {fm r : Int32} {fix go : Prop} (h2 : 0 ≤ (f 2).toInt) (h : m_tI f sn fm fo S F t fix go) (hr : r.toInt = (t : Int)) (hy : ∃ k : Nat, (k : Int) < fo.toInt ∧ F k = f 2) (hW : m_W L N fo S) (hLN : ∀ w, L w = true → w < N) (hLf : L fm.toInt.toNat = true) : m_tol (m_tE L (m_rdn f sn)) (m_st0 f sn fm) (fun s => ((s / 1024 : Nat) : Int) = (f 2).toInt) r := by
  obtain ⟨a1, a2, a3, a4⟩ := h L N hW hLN hLf
  obtain ⟨k, k1, k2⟩ := hy
  have e : r.toInt.toNat = t := by omega
  refine Or.inl ⟨by omega, ?_, fun t' ht s hG => a2 t' (by omega) s hG⟩
  rw [e]
  exact a1.isG hW h2 k1 (by rw [k2])
theorem m_tI.no {fm : Int32} {fix go : Prop} (hfm : 0 ≤ fm.toInt ∧ fm.toInt ≤ 1023) (h2 : 0 ≤ (f 2).toInt) (h : m_tI f sn fm fo S F t fix go) (hf : fix) (hn : ∀ k : Nat, (k : Int) < fo.toInt → ¬ F k = f 2) (hW : m_W L N fo S) (hLN : ∀ w, L w = true → w < N) (hLf : L fm.toInt.toNat = true) : m_tol (m_tE L (m_rdn f sn)) (m_st0 f sn fm) (fun s => ((s / 1024 : Nat) : Int) = (f 2).toInt) (-1) := by
  obtain ⟨a1, a2, a3, a4⟩ := h L N hW hLN hLf
  have hL0 : L (m_st0 f sn fm % 1024) = true := by rw [(m_st0_m hfm).1]; exact hLf
  refine Or.inr ⟨rfl, fun t' s hG => ?_⟩
  rcases Nat.lt_or_ge t' t with q | q
  · exact a2 t' q s hG
  · have := a3 hf (t' - t)
    rw [show t + (t' - t) = t' by omega] at this
    exact this.noG hW hL0 hLN (m_st0_i hfm h2) (fun k hk q => hn k hk (Int32.toInt_inj.mp q)) s hG
end TOC
