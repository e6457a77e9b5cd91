section
/-! A TYPED HEAP: each cell that is ours has a tag; a tag says its class and, field by field (or for all places of an array), what may stand there: ints and longs by bounds, references by null and tags. -/
abbrev xV : Type := (Int × Int) ⊕ ((Int × Int) ⊕ (Bool × List Nat))
abbrev xY : Type := Nat → Option Nat
abbrev xG : Type := (Nat × List xV) ⊕ (FieldType × Nat × List xV × xV)
abbrev xZ : Type := String × String × String × Nat
def x_c (Y : xY) (t : xV) (v : Value) : Prop := match t with
  | .inl q => ∃ x : Int32, v = .int x ∧ q.1 ≤ x.toInt ∧ x.toInt ≤ q.2
  | .inr (.inl q) => ∃ x : Int64, v = .long x ∧ q.1 ≤ x.toInt ∧ x.toInt ≤ q.2
  | .inr (.inr q) => (v = .null ∧ q.1 = true) ∨ ∃ a t : Nat, v = .ref a ∧ t ∈ q.2 ∧ Y a = some t
def x_cell (D : va_G) (U : State) (Y : xY) (g : xG) (a : Nat) (H : Heap) : Prop := match g with
  | .inl o => ∃ V : Nat → Value, t_OB a (D.1 o.1) o.2.length (D.2 o.1) H V ∧ ∀ (k : Nat) (ft : xV), o.2[k]? = some ft → x_c Y ft (V k)
  | .inr q => ∃ cell : Cell, H[a]? = some cell ∧ U.isArrayOf cell q.1 ∧ cell.vm ≠ .unknown ∧ cell.slots.size = q.2.1 ∧ (q.1.isReference = true → va_RA U cell.cls q.1) ∧ ∀ (j : Nat) (v : Value), cell.slots[j]? = some v → x_c Y (q.2.2.1.getD j q.2.2.2) v
def x_st (Zs : List xZ) (U : State) (Y : xY) (H : Heap) : Prop := ∀ z ∈ Zs, ∃ b : Nat, Y b = some z.2.2.2 ∧ va_Z z.1 z.2.1 z.2.2.1 (.ref b) (fun q => ∃ t, Y q = some t) U H
def x_H (D : va_G) (G : List xG) (Zs : List xZ) (U : State) (Y : xY) (H : Heap) : Prop :=
  (∀ a t : Nat, Y a = some t → ∃ g, G[t]? = some g ∧ x_cell D U Y g a H) ∧ x_st Zs U Y H
def x_up (Y : xY) (h t : Nat) : xY := fun q => if q = h then some t else Y q
theorem x_up_self (Y : xY) (h t : Nat) : x_up Y h t h = some t := by simp [x_up]
theorem x_up_ne {Y : xY} {h t q : Nat} (n : q ≠ h) : x_up Y h t q = Y q := by simp [x_up, n]
theorem x_c.mono {Y Y' : xY} {t : xV} {v : Value} (h : x_c Y t v) (hY : ∀ a t, Y a = some t → Y' a = some t) : x_c Y' t v := by
  rcases t with q | q | q
  · exact h
  · exact h
  · rcases h with h | ⟨a, t, h1, h2, h3⟩
    · exact Or.inl h
    · exact Or.inr ⟨a, t, h1, h2, hY a t h3⟩
theorem x_cell.mono {D : va_G} {U : State} {Y Y' : xY} {g : xG} {a : Nat} {H : Heap} (h : x_cell D U Y g a H) (hY : ∀ a t, Y a = some t → Y' a = some t) : x_cell D U Y' g a H := by
  rcases g with o | q
  · obtain ⟨V, h1, h2⟩ := h
    exact ⟨V, h1, fun k ft hk => (h2 k ft hk).mono hY⟩
  · obtain ⟨cell, h1, h2, h3, h4, h5, h6⟩ := h
    exact ⟨cell, h1, h2, h3, h4, h5, fun j v hj => (h6 j v hj).mono hY⟩
theorem x_cell.kept {D : va_G} {U : State} {Y : xY} {g : xG} {a : Nat} {H H1 : Heap} (h : x_cell D U Y g a H) (hq : H1[a]? = H[a]?) : x_cell D U Y g a H1 := by
  rcases g with o | q
  · obtain ⟨V, h1, h2⟩ := h
    exact ⟨V, h1.kept hq, h2⟩
  · obtain ⟨cell, h1, h2⟩ := h
    exact ⟨cell, by rw [hq]; exact h1, h2⟩
theorem x_cell.lt {D : va_G} {U : State} {Y : xY} {g : xG} {a : Nat} {H : Heap} (h : x_cell D U Y g a H) : a < H.size := by
  rcases g with o | q
  · obtain ⟨V, ⟨cell, h1, -⟩, -⟩ := h
    exact (Array.getElem?_eq_some_iff.mp h1).1
  · obtain ⟨cell, h1, -⟩ := h
    exact (Array.getElem?_eq_some_iff.mp h1).1
theorem x_H.lt {D : va_G} {G : List xG} {Zs : List xZ} {U : State} {Y : xY} {H : Heap} (h : x_H D G Zs U Y H) {a t : Nat} (ha : Y a = some t) : a < H.size := by
  obtain ⟨g, -, hc⟩ := h.1 a t ha
  exact hc.lt
theorem x_H.fresh {D : va_G} {G : List xG} {Zs : List xZ} {U : State} {Y : xY} {H : Heap} (h : x_H D G Zs U Y H) {a : Nat} (ha : H.size ≤ a) : Y a = none := by
  cases hy : Y a with
  | none => rfl
  | some t => exact absurd (h.lt hy) (Nat.not_lt.mpr ha)
theorem x_st.put {Zs : List xZ} {U : State} {Y : xY} {H H' : Heap} (h : x_st Zs U Y H) (hq : ∀ q, q < H.size → (¬ ∃ t, Y q = some t) → H'[q]? = H[q]?) : x_st Zs U Y H' := by
  intro z hz
  obtain ⟨b, h1, h2⟩ := h z hz
  exact ⟨b, h1, h2.kept hq⟩
/-- a cell of ours is written: it holds its tag's word still, all others are as they were -/
theorem x_H.put {D : va_G} {G : List xG} {Zs : List xZ} {U : State} {Y : xY} {H H' : Heap} (h : x_H D G Zs U Y H) {a t : Nat} (ha : Y a = some t) (hq : ∀ q, q ≠ a → H'[q]? = H[q]?) {g : xG} (hg : G[t]? = some g) (hc : x_cell D U Y g a H') : x_H D G Zs U Y H' := by
  refine ⟨fun b u hb => ?_, h.2.put fun q _ hn => hq q (fun e => hn ⟨t, by rw [e]; exact ha⟩)⟩
  by_cases e : b = a
  · subst e
    cases ha.symm.trans hb
    exact ⟨g, hg, hc⟩
  · obtain ⟨g', h1, h2⟩ := h.1 b u hb
    exact ⟨g', h1, h2.kept (hq b e)⟩
/-- a new cell gets a tag -/
theorem x_H.new {D : va_G} {G : List xG} {Zs : List xZ} {U : State} {Y : xY} {H H' : Heap} (h : x_H D G Zs U Y H) {a t : Nat} (ha : H.size = a) (hq : ∀ q, q < a → H'[q]? = H[q]?) {g : xG} (hg : G[t]? = some g) (hc : x_cell D U (x_up Y a t) g a H') : x_H D G Zs U (x_up Y a t) H' := by
  subst ha
  have hm : ∀ b u, Y b = some u → x_up Y H.size t b = some u := fun b u hb => by
    rw [x_up_ne (Nat.ne_of_lt (h.lt hb))]; exact hb
  refine ⟨fun b u hb => ?_, fun z hz => ?_⟩
  · by_cases e : b = H.size
    · subst e
      rw [x_up_self] at hb
      cases hb
      exact ⟨g, hg, hc⟩
    · rw [x_up_ne e] at hb
      obtain ⟨g', h1, h2⟩ := h.1 b u hb
      exact ⟨g', h1, (h2.kept (hq b (h.lt hb))).mono hm⟩
  · obtain ⟨b, h1, h2⟩ := h.2 z hz
    refine ⟨b, hm _ _ h1, ?_⟩
    obtain ⟨cf, kf, fi, f, x, cell, q1, q2, q3, q4, q5, q6, q7, q8⟩ := h2
    have hx : x < H.size := (Array.getElem?_eq_some_iff.mp q5).1
    refine ⟨cf, kf, fi, f, x, cell, q1, q2, q3, q4, by rw [hq x hx]; exact q5, q6, q7, fun ⟨u, hu⟩ => ?_⟩
    rw [x_up_ne (Nat.ne_of_lt hx)] at hu
    exact q8 ⟨u, hu⟩
/-- what a method may have changed of the cells that were ours at its start: the fields (tag, number) and arrays (tag, 0) of a list -/
def x_sl (D : va_G) (ci k a : Nat) (H : Heap) : Option Value := (H[a]?).bind fun cell => cell.slots[D.2 ci k]?
def x_E (D : va_G) (G : List xG) (ef : List (Nat × Nat)) (Y : xY) (H0 H : Heap) : Prop := ∀ (a t : Nat) (g : xG), Y a = some t → G[t]? = some g → match g with
  | .inl o => ∀ k, k < o.2.length → (t, k) ∉ ef → x_sl D o.1 k a H = x_sl D o.1 k a H0
  | .inr _ => (t, 0) ∉ ef → H[a]? = H0[a]?
theorem x_E.rf {D : va_G} {G : List xG} {ef : List (Nat × Nat)} {Y : xY} {H : Heap} : x_E D G ef Y H H := by
  intro a t g _ _
  rcases g with o | q
  · exact fun _ _ _ => rfl
  · exact fun _ => rfl
theorem x_E.trans {D : va_G} {G : List xG} {e1 e2 : List (Nat × Nat)} {Y Y1 : xY} {H0 H1 H2 : Heap} (h : x_E D G e1 Y H0 H1) (h2 : x_E D G e2 Y1 H1 H2) (hY : ∀ a t, Y a = some t → Y1 a = some t) (he : ∀ x ∈ e2, x ∈ e1) : x_E D G e1 Y H0 H2 := by
  intro a t g ha hg
  have q1 := h a t g ha hg
  have q2 := h2 a t g (hY a t ha) hg
  rcases g with o | q
  · intro k hk hn
    exact (q2 k hk (fun z => hn (he _ z))).trans (q1 k hk hn)
  · intro hn
    exact (q2 (fun z => hn (he _ z))).trans (q1 hn)
theorem x_E.kept {D : va_G} {G : List xG} {ef : List (Nat × Nat)} {Y : xY} {H0 H1 H2 : Heap} (h : x_E D G ef Y H0 H1) (hq : ∀ a t, Y a = some t → H2[a]? = H1[a]?) : x_E D G ef Y H0 H2 := by
  intro a t g ha hg
  have q1 := h a t g ha hg
  have e := hq a t ha
  rcases g with o | q
  · intro k hk hn
    have := q1 k hk hn
    simpa [x_sl, e] using this
  · intro hn
    rw [e]; exact q1 hn
/-- bounds and tags that say less -/
def x_le : xV → xV → Bool
  | .inl p, .inl q => decide (q.1 ≤ p.1) && decide (p.2 ≤ q.2)
  | .inr (.inl p), .inr (.inl q) => decide (q.1 ≤ p.1) && decide (p.2 ≤ q.2)
  | .inr (.inr p), .inr (.inr q) => (!p.1 || q.1) && p.2.all (fun t => q.2.any (fun u => t == u))
  | _, _ => false
theorem x_le_ok {Y : xY} {t u : xV} {v : Value} (h : x_le t u = true) (hc : x_c Y t v) : x_c Y u v := by
  rcases t with p | p | p <;> rcases u with q | q | q <;> first | (simp [x_le] at h; done) | skip
  · simp only [x_le, Bool.and_eq_true, decide_eq_true_eq] at h
    obtain ⟨x, h1, h2, h3⟩ := hc
    exact ⟨x, h1, by omega, by omega⟩
  · simp only [x_le, Bool.and_eq_true, decide_eq_true_eq] at h
    obtain ⟨x, h1, h2, h3⟩ := hc
    exact ⟨x, h1, by omega, by omega⟩
  · simp only [x_le, Bool.and_eq_true, Bool.or_eq_true, Bool.not_eq_true', List.all_eq_true, List.any_eq_true, beq_iff_eq] at h
    rcases hc with ⟨h1, h2⟩ | ⟨a, t, h1, h2, h3⟩
    · rcases h.1 with h4 | h4
      · rw [h2] at h4; cases h4
      · exact Or.inl ⟨h1, h4⟩
    · obtain ⟨u, h5, rfl⟩ := h.2 t h2
      exact Or.inr ⟨a, t, h1, h5, h3⟩
end
section
/-! Bounds of ints through the machine's arithmetic -/
theorem x_rng (x : Int32) : -2147483648 ≤ x.toInt ∧ x.toInt ≤ 2147483647 := by
  have h1 := Int32.le_toInt x
  have h2 := Int32.toInt_lt x
  omega
theorem x_rngL (x : Int64) : -9223372036854775808 ≤ x.toInt ∧ x.toInt ≤ 9223372036854775807 := by
  have h1 := Int64.le_toInt x
  have h2 := Int64.toInt_lt x
  omega
theorem x_bm {z : Int} (h1 : -2147483648 ≤ z) (h2 : z ≤ 2147483647) : z.bmod (2 ^ 32) = z := by
  rw [Int.bmod_eq_of_le (by simpa using h1) (by omega)]
def x_full : Int × Int := (-2147483648, 2147483647)
def xFull : (Int × Int) ⊕ ((Int × Int) ⊕ (Bool × List Nat)) := .inl (-2147483648, 2147483647)
def x_fullL : Int × Int := (-9223372036854775808, 9223372036854775807)
def x_clip (lo hi : Int) : Int × Int := if -2147483648 ≤ lo ∧ hi ≤ 2147483647 then (lo, hi) else x_full
def x_b (q : Int × Int) (x : Int32) : Prop := q.1 ≤ x.toInt ∧ x.toInt ≤ q.2
theorem x_fullb (x : Int32) : x_b x_full x := x_rng x
theorem x_clipb {lo hi : Int} {x : Int32} (h : -2147483648 ≤ lo → hi ≤ 2147483647 → lo ≤ x.toInt ∧ x.toInt ≤ hi) : x_b (x_clip lo hi) x := by
  unfold x_clip
  split
  · next q => exact h q.1 q.2
  · exact x_fullb x
def x_addB (p q : Int × Int) : Int × Int := x_clip (p.1 + q.1) (p.2 + q.2)
def x_subB (p q : Int × Int) : Int × Int := x_clip (p.1 - q.2) (p.2 - q.1)
def x_mulB (p q : Int × Int) : Int × Int := if 0 ≤ p.1 ∧ 0 ≤ q.1 then x_clip (p.1 * q.1) (p.2 * q.2) else x_full
def x_negB (p : Int × Int) : Int × Int := x_clip (-p.2) (-p.1)
def x_andB (p q : Int × Int) : Int × Int := if 0 ≤ p.1 then (if 0 ≤ q.1 then (0, min p.2 q.2) else (0, p.2)) else if 0 ≤ q.1 then (0, q.2) else x_full
def x_orB (p q : Int × Int) : Int × Int := if 0 ≤ p.1 ∧ 0 ≤ q.1 then (0, ((2 ^ ((max p.2 q.2).toNat.log2 + 1) : Nat) : Int) - 1) else x_full
def x_shlB (p q : Int × Int) : Int × Int := if 0 ≤ p.1 ∧ 0 ≤ q.1 ∧ q.2 ≤ 30 ∧ p.2 * ((2 ^ q.2.toNat : Nat) : Int) ≤ 2147483647 then (p.1, p.2 * ((2 ^ q.2.toNat : Nat) : Int)) else x_full
def x_shrB (p _q : Int × Int) : Int × Int := if 0 ≤ p.1 then (0, p.2) else x_full
def x_divB (p q : Int × Int) : Int × Int := if 0 ≤ p.1 ∧ 0 < q.1 then (0, p.2) else x_full
def x_remB (p q : Int × Int) : Int × Int := if 0 ≤ p.1 ∧ 0 < q.1 then (0, min p.2 (q.2 - 1)) else x_full
theorem x_add_ok {p q : Int × Int} {x y : Int32} (hx : x_b p x) (hy : x_b q y) : x_b (x_addB p q) (x + y) := by
  refine x_clipb fun h1 h2 => ?_
  have := hx.1; have := hx.2; have := hy.1; have := hy.2
  rw [Int32.toInt_add, x_bm (by omega) (by omega)]
  omega
theorem x_sub_ok {p q : Int × Int} {x y : Int32} (hx : x_b p x) (hy : x_b q y) : x_b (x_subB p q) (x - y) := by
  refine x_clipb fun h1 h2 => ?_
  have := hx.1; have := hx.2; have := hy.1; have := hy.2
  rw [Int32.toInt_sub, x_bm (by omega) (by omega)]
  omega
theorem x_neg_ok {p : Int × Int} {x : Int32} (hx : x_b p x) : x_b (x_negB p) (-x) := by
  refine x_clipb fun h1 h2 => ?_
  have := hx.1; have := hx.2
  rw [Int32.toInt_neg, x_bm (by omega) (by omega)]
  omega
theorem x_mul_ok {p q : Int × Int} {x y : Int32} (hx : x_b p x) (hy : x_b q y) : x_b (x_mulB p q) (x * y) := by
  unfold x_mulB
  split
  · next h0 =>
    refine x_clipb fun h1 h2 => ?_
    have a1 := hx.1; have a2 := hx.2; have b1 := hy.1; have b2 := hy.2
    have l1 : p.1 * q.1 ≤ x.toInt * y.toInt := Int.mul_le_mul a1 b1 h0.2 (by omega)
    have l2 : x.toInt * y.toInt ≤ p.2 * q.2 := Int.mul_le_mul a2 b2 (by omega) (by omega)
    rw [Int32.toInt_mul, x_bm (by omega) (by omega)]
    exact ⟨l1, l2⟩
  · exact x_fullb _
theorem x_tn {x : Int32} (h : 0 ≤ x.toInt) : ((x.toBitVec.toNat : Nat) : Int) = x.toInt := by
  have h1 : x.toInt = x.toBitVec.toInt := rfl
  have h2 := BitVec.toInt_eq_toNat_cond x.toBitVec
  have h3 := x.toBitVec.isLt
  rw [h1] at h ⊢
  rw [h2] at h ⊢
  split at h
  · next q => rw [if_pos q]
  · omega
theorem x_tn2 {x : Int32} (h : x.toBitVec.toNat < 2 ^ 31) : x.toInt = (x.toBitVec.toNat : Int) := by
  have h1 : x.toInt = x.toBitVec.toInt := rfl
  have h2 := BitVec.toInt_eq_toNat_cond x.toBitVec
  rw [h1, h2, if_pos (by omega)]
theorem x_and1 {x y : Int32} (hy : 0 ≤ y.toInt) : 0 ≤ (x &&& y).toInt ∧ (x &&& y).toInt ≤ y.toInt := by
  have h1 := x_tn hy
  have h2 := (x_rng y).2
  have h3 : (x &&& y).toBitVec.toNat = x.toBitVec.toNat &&& y.toBitVec.toNat := by rw [Int32.toBitVec_and, BitVec.toNat_and]
  have h4 : x.toBitVec.toNat &&& y.toBitVec.toNat ≤ y.toBitVec.toNat := Nat.and_le_right
  have h5 := x_tn2 (x := x &&& y) (by rw [h3]; omega)
  rw [h5, h3]
  omega
theorem x_and2 {x y : Int32} (hx : 0 ≤ x.toInt) : 0 ≤ (x &&& y).toInt ∧ (x &&& y).toInt ≤ x.toInt := by
  rw [Int32.and_comm]
  exact x_and1 hx
theorem x_and_ok {p q : Int × Int} {x y : Int32} (hx : x_b p x) (hy : x_b q y) : x_b (x_andB p q) (x &&& y) := by
  have a1 := hx.1; have a2 := hx.2; have b1 := hy.1; have b2 := hy.2
  unfold x_andB
  split
  · next h =>
    have c1 := x_and2 (x := x) (y := y) (by omega)
    split
    · next h' =>
      have c2 := x_and1 (x := x) (y := y) (by omega)
      refine ⟨c1.1, ?_⟩
      show _ ≤ min p.2 q.2
      omega
    · exact ⟨c1.1, by show _ ≤ p.2; omega⟩
  · split
    · next h' =>
      have c2 := x_and1 (x := x) (y := y) (by omega)
      exact ⟨c2.1, by show _ ≤ q.2; omega⟩
    · exact x_fullb _
theorem x_lg {n m : Nat} (h : n ≤ m) : n < 2 ^ (m.log2 + 1) := Nat.lt_of_le_of_lt h Nat.lt_log2_self
theorem x_or_aux {p q : Int × Int} {x y z : Int32} (hx : x_b p x) (hy : x_b q y) (h0 : 0 ≤ p.1 ∧ 0 ≤ q.1) (hz : ∀ k, x.toBitVec.toNat < 2 ^ k → y.toBitVec.toNat < 2 ^ k → z.toBitVec.toNat < 2 ^ k) : 0 ≤ z.toInt ∧ z.toInt ≤ ((2 ^ ((max p.2 q.2).toNat.log2 + 1) : Nat) : Int) - 1 := by
  have a1 := hx.1; have a2 := hx.2; have b1 := hy.1; have b2 := hy.2
  have t1 := x_tn (x := x) (by omega)
  have t2 := x_tn (x := y) (by omega)
  have r1 := (x_rng x).2
  have r2 := (x_rng y).2
  have k1 := hz ((max p.2 q.2).toNat.log2 + 1) (x_lg (by omega)) (x_lg (by omega))
  have k2 := hz 31 (by omega) (by omega)
  rw [x_tn2 k2]
  omega
theorem x_or_ok {p q : Int × Int} {x y : Int32} (hx : x_b p x) (hy : x_b q y) : x_b (x_orB p q) (x ||| y) := by
  unfold x_orB
  split
  · next h0 =>
    refine x_or_aux hx hy h0 fun k h1 h2 => ?_
    rw [Int32.toBitVec_or, BitVec.toNat_or]
    exact Nat.or_lt_two_pow h1 h2
  · exact x_fullb _
theorem x_xor_ok {p q : Int × Int} {x y : Int32} (hx : x_b p x) (hy : x_b q y) : x_b (x_orB p q) (x ^^^ y) := by
  unfold x_orB
  split
  · next h0 =>
    refine x_or_aux hx hy h0 fun k h1 h2 => ?_
    rw [Int32.toBitVec_xor, BitVec.toNat_xor]
    exact Nat.xor_lt_two_pow h1 h2
  · exact x_fullb _
theorem x_sl31 : ∀ n, n < 32 → ((nI n &&& 31).toBitVec.smod 32).toNat = n := by decide +kernel
theorem x_shl_ok {p q : Int × Int} {x y : Int32} (hx : x_b p x) (hy : x_b q y) : x_b (x_shlB p q) (x <<< (y &&& 31)) := by
  unfold x_shlB
  split
  · next h0 =>
    obtain ⟨h1, h2, h3, h4⟩ := h0
    have a1 := hx.1; have a2 := hx.2; have b1 := hy.1; have b2 := hy.2
    have ey : y = nI y.toInt.toNat := by
      apply Int32.toInt_inj.mp
      rw [nI_toInt (by omega)]
      omega
    have e0 : ((y &&& 31).toBitVec.smod 32).toNat = y.toInt.toNat := by
      conv => lhs; rw [ey]
      exact x_sl31 _ (by omega)
    have e1 := pk_shl x (y &&& 31) y.toInt.toNat e0
    have t1 := x_tn (x := x) (by omega)
    have m1 : 2 ^ y.toInt.toNat ≤ 2 ^ q.2.toNat := Nat.pow_le_pow_right (by decide) (by omega)
    have m2 : x.toBitVec.toNat * 2 ^ y.toInt.toNat ≤ p.2.toNat * 2 ^ q.2.toNat := Nat.mul_le_mul (by omega) m1
    have m3 : ((p.2.toNat * 2 ^ q.2.toNat : Nat) : Int) = p.2 * ((2 ^ q.2.toNat : Nat) : Int) := by
      rw [Int.natCast_mul, Int.toNat_of_nonneg (by omega)]
    have m4 : x.toBitVec.toNat ≤ x.toBitVec.toNat * 2 ^ y.toInt.toNat := Nat.le_mul_of_pos_right _ (Nat.two_pow_pos _)
    rw [Nat.mod_eq_of_lt (by omega)] at e1
    have e2 := x_tn2 (x := x <<< (y &&& 31)) (by rw [e1]; omega)
    refine ⟨?_, ?_⟩
    · show p.1 ≤ _
      rw [e2, e1]; omega
    · show _ ≤ p.2 * _
      rw [e2, e1]; omega
  · exact x_fullb _
theorem x_shr_ok {p q : Int × Int} {x y : Int32} (hx : x_b p x) (_hy : x_b q y) : x_b (x_shrB p q) (x >>> (y &&& 31)) := by
  unfold x_shrB
  split
  · next h0 =>
    have a1 := hx.1; have a2 := hx.2
    have e1 := pk_shr x (y &&& 31) _ rfl
    have hn : x.toInt = (x.toInt.toNat : Int) := by omega
    rw [Int.shiftRight_eq_div_pow, hn] at e1
    have e2 : (x >>> (y &&& 31)).toInt = ((x.toInt.toNat / 2 ^ ((y &&& 31).toBitVec.smod 32).toNat : Nat) : Int) := by rw [e1]; norm_cast
    have e3 := Nat.div_le_self x.toInt.toNat (2 ^ ((y &&& 31).toBitVec.smod 32).toNat)
    generalize x.toInt.toNat / 2 ^ ((y &&& 31).toBitVec.smod 32).toNat = z at e2 e3
    refine ⟨?_, ?_⟩
    · show (0 : Int) ≤ _
      rw [e2]; omega
    · show _ ≤ p.2
      rw [e2]; omega
  · exact x_fullb _
theorem x_div_ok {p q : Int × Int} {x y : Int32} (hx : x_b p x) (hy : x_b q y) : x_b (x_divB p q) (x / y) := by
  unfold x_divB
  split
  · next h0 =>
    have a1 := hx.1; have a2 := hx.2; have b1 := hy.1; have b2 := hy.2
    have r := x_rng x
    have r2 := x_rng y
    have ex : x = nI x.toInt.toNat := by
      apply Int32.toInt_inj.mp
      rw [nI_toInt (by omega)]; omega
    have ey : y = nI y.toInt.toNat := by
      apply Int32.toInt_inj.mp
      rw [nI_toInt (by omega)]; omega
    have e1 : x / y = nI (x.toInt.toNat / y.toInt.toNat) := by
      conv => lhs; rw [ex, ey]
      rw [pk_div (by omega) (by omega) (by omega)]
    have e3 := Nat.div_le_self x.toInt.toNat y.toInt.toNat
    rw [e1]
    generalize x.toInt.toNat / y.toInt.toNat = z at e3 ⊢
    refine ⟨?_, ?_⟩
    · show (0 : Int) ≤ _
      rw [nI_toInt (by omega)]; omega
    · show _ ≤ p.2
      rw [nI_toInt (by omega)]; omega
  · exact x_fullb _
theorem x_rem_ok {p q : Int × Int} {x y : Int32} (hx : x_b p x) (hy : x_b q y) : x_b (x_remB p q) (x - x / y * y) := by
  unfold x_remB
  split
  · next h0 =>
    have a1 := hx.1; have a2 := hx.2; have b1 := hy.1; have b2 := hy.2
    have r := x_rng x
    have r2 := x_rng y
    have ex : x = nI x.toInt.toNat := by
      apply Int32.toInt_inj.mp
      rw [nI_toInt (by omega)]; omega
    have ey : y = nI y.toInt.toNat := by
      apply Int32.toInt_inj.mp
      rw [nI_toInt (by omega)]; omega
    have e1 : x - x / y * y = nI (x.toInt.toNat % y.toInt.toNat) := by
      conv => lhs; rw [ex, ey]
      rw [pk_rem (by omega) (by omega) (by omega)]
    have e3 := Nat.mod_le x.toInt.toNat y.toInt.toNat
    have e4 := Nat.mod_lt x.toInt.toNat (y := y.toInt.toNat) (by omega)
    rw [e1]
    generalize x.toInt.toNat % y.toInt.toNat = z at e3 e4 ⊢
    refine ⟨?_, ?_⟩
    · show (0 : Int) ≤ _
      rw [nI_toInt (by omega)]; omega
    · show _ ≤ min p.2 (q.2 - 1)
      rw [nI_toInt (by omega)]; omega
  · exact x_fullb _
/-! what a comparison tells of two numbers by their bounds; none: it can't be -/
abbrev xB2 : Type := (Int × Int) × (Int × Int)
def x_sane (r : xB2) : Option xB2 := if r.1.1 ≤ r.1.2 ∧ r.2.1 ≤ r.2.2 then some r else none
def x_rlt (p q : Int × Int) : Option xB2 := x_sane ((p.1, min p.2 (q.2 - 1)), (max q.1 (p.1 + 1), q.2))
def x_rle (p q : Int × Int) : Option xB2 := x_sane ((p.1, min p.2 q.2), (max q.1 p.1, q.2))
def x_req (p q : Int × Int) : Option xB2 := x_sane ((max p.1 q.1, min p.2 q.2), (max p.1 q.1, min p.2 q.2))
def x_rn1 (p q : Int × Int) : Int × Int := if q.1 = q.2 then (if p.1 = q.1 then (p.1 + 1, p.2) else if p.2 = q.1 then (p.1, p.2 - 1) else p) else p
def x_rne (p q : Int × Int) : Option xB2 := x_sane (x_rn1 p q, x_rn1 q p)
theorem x_sane_ok {r : xB2} {x y : Int} (h1 : r.1.1 ≤ x ∧ x ≤ r.1.2) (h2 : r.2.1 ≤ y ∧ y ≤ r.2.2) : x_sane r = some r := by
  unfold x_sane
  rw [if_pos ⟨by omega, by omega⟩]
theorem x_rlt_ok {p q : Int × Int} {x y : Int} (hx : p.1 ≤ x ∧ x ≤ p.2) (hy : q.1 ≤ y ∧ y ≤ q.2) (h : x < y) : ∃ r : xB2, x_rlt p q = some r ∧ (r.1.1 ≤ x ∧ x ≤ r.1.2) ∧ (r.2.1 ≤ y ∧ y ≤ r.2.2) := by
  have h1 : p.1 ≤ x ∧ x ≤ min p.2 (q.2 - 1) := by omega
  have h2 : max q.1 (p.1 + 1) ≤ y ∧ y ≤ q.2 := by omega
  exact ⟨_, x_sane_ok h1 h2, h1, h2⟩
theorem x_rle_ok {p q : Int × Int} {x y : Int} (hx : p.1 ≤ x ∧ x ≤ p.2) (hy : q.1 ≤ y ∧ y ≤ q.2) (h : x ≤ y) : ∃ r : xB2, x_rle p q = some r ∧ (r.1.1 ≤ x ∧ x ≤ r.1.2) ∧ (r.2.1 ≤ y ∧ y ≤ r.2.2) := by
  have h1 : p.1 ≤ x ∧ x ≤ min p.2 q.2 := by omega
  have h2 : max q.1 p.1 ≤ y ∧ y ≤ q.2 := by omega
  exact ⟨_, x_sane_ok h1 h2, h1, h2⟩
theorem x_req_ok {p q : Int × Int} {x y : Int} (hx : p.1 ≤ x ∧ x ≤ p.2) (hy : q.1 ≤ y ∧ y ≤ q.2) (h : x = y) : ∃ r : xB2, x_req p q = some r ∧ (r.1.1 ≤ x ∧ x ≤ r.1.2) ∧ (r.2.1 ≤ y ∧ y ≤ r.2.2) := by
  have h1 : max p.1 q.1 ≤ x ∧ x ≤ min p.2 q.2 := by omega
  have h2 : max p.1 q.1 ≤ y ∧ y ≤ min p.2 q.2 := by omega
  exact ⟨_, x_sane_ok h1 h2, h1, h2⟩
theorem x_rn1_ok {p q : Int × Int} {x y : Int} (hx : p.1 ≤ x ∧ x ≤ p.2) (hy : q.1 ≤ y ∧ y ≤ q.2) (h : x ≠ y) : (x_rn1 p q).1 ≤ x ∧ x ≤ (x_rn1 p q).2 := by
  unfold x_rn1
  split
  · split
    · exact ⟨by show p.1 + 1 ≤ x; omega, hx.2⟩
    · split
      · exact ⟨hx.1, by show x ≤ p.2 - 1; omega⟩
      · exact hx
  · exact hx
theorem x_rne_ok {p q : Int × Int} {x y : Int} (hx : p.1 ≤ x ∧ x ≤ p.2) (hy : q.1 ≤ y ∧ y ≤ q.2) (h : x ≠ y) : ∃ r : xB2, x_rne p q = some r ∧ (r.1.1 ≤ x ∧ x ≤ r.1.2) ∧ (r.2.1 ≤ y ∧ y ≤ r.2.2) := by
  have h1 := x_rn1_ok hx hy h
  have h2 := x_rn1_ok hy hx (Ne.symm h)
  exact ⟨_, x_sane_ok h1 h2, h1, h2⟩
end
section
/-! THE CHECKER'S STATE: bounds and tags of numbered values; locals and stack by their numbers; known fields (object, class, field, value); differences (value, value, int); the numbers of loop heads' measures; objects made here; cells and slots made so far. -/
abbrev xS : Type := List xV × List (Nat × Nat) × List Nat × List (Nat × Nat × Nat × Nat) × List (Nat × Nat × Int) × List Nat × List Nat × Nat × Nat
abbrev x_cells (a : xS) : Nat := a.2.2.2.2.2.2.2.1
abbrev x_slots (a : xS) : Nat := a.2.2.2.2.2.2.2.2
def x_wf (a : xS) : Bool :=
  a.2.1.all (fun q => Nat.blt q.2 a.1.length) && (a.2.2.1.all (fun k => Nat.blt k a.1.length) && (a.2.2.2.1.all (fun f => Nat.blt f.1 a.1.length && Nat.blt f.2.2.2 a.1.length) &&
  (a.2.2.2.2.1.all (fun d => Nat.blt d.1 a.1.length && Nat.blt d.2.1 a.1.length) && (a.2.2.2.2.2.1.all (fun k => Nat.blt k a.1.length) && a.2.2.2.2.2.2.1.all (fun k => Nat.blt k a.1.length)))))
def x_num (v : Value) : Option Int := match v with
  | .int x => some x.toInt
  | .long x => some x.toInt
  | _ => none
def x_dif (r : Nat → Value) (d : Nat × Nat × Int) : Prop := ∃ x y : Int, x_num (r d.1) = some x ∧ x_num (r d.2.1) = some y ∧ x = y + d.2.2
/-- a known field of an object (class ci), or place of an array (ci = 1000) -/
def x_fv (D : va_G) (ci k a : Nat) (H : Heap) : Option Value := (H[a]?).bind fun cell => cell.slots[if ci = 1000 then k else D.2 ci k]?
theorem x_fv_sl {D : va_G} {ci k a : Nat} {H : Heap} (h : ¬ ci = 1000) : x_fv D ci k a H = x_sl D ci k a H := by
  unfold x_fv x_sl
  rw [if_neg h]
def x_C (D : va_G) (Y0 : xY) (nL : Nat) (mu : List Value) (Y : xY) (H : Heap) (a : xS) (r : Nat → Value) (ls : Array Slot) (st : List Value) : Prop :=
  (∀ (k : Nat) (t : xV), a.1[k]? = some t → x_c Y t (r k)) ∧ lv_has ls nL (a.2.1.map fun q => (q.1, r q.2)) ∧ st = a.2.2.1.map r ∧
  (∀ f ∈ a.2.2.2.1, ∃ b : Nat, r f.1 = .ref b ∧ x_fv D f.2.1 f.2.2.1 b H = some (r f.2.2.2)) ∧
  (∀ d ∈ a.2.2.2.2.1, x_dif r d) ∧
  a.2.2.2.2.2.1.map r = mu ∧ (∀ k ∈ a.2.2.2.2.2.2.1, ∃ b : Nat, r k = .ref b ∧ Y0 b = none)
def x_psh (a : xS) (S : List Nat) (t : xV) : xS := (a.1 ++ [t], a.2.1, a.1.length :: S, a.2.2.2)
def x_top (a : xS) (S : List Nat) : xS := (a.1, a.2.1, S, a.2.2.2)
theorem x_wf_spec {a : xS} (h : x_wf a = true) : (∀ q ∈ a.2.1, q.2 < a.1.length) ∧ (∀ k ∈ a.2.2.1, k < a.1.length) ∧ (∀ f ∈ a.2.2.2.1, f.1 < a.1.length ∧ f.2.2.2 < a.1.length) ∧
    (∀ d ∈ a.2.2.2.2.1, d.1 < a.1.length ∧ d.2.1 < a.1.length) ∧ (∀ k ∈ a.2.2.2.2.2.1, k < a.1.length) ∧ (∀ k ∈ a.2.2.2.2.2.2.1, k < a.1.length) := by
  simp only [x_wf, Bool.and_eq_true, List.all_eq_true, Nat.blt_eq] at h
  exact ⟨h.1, h.2.1, h.2.2.1, h.2.2.2.1, h.2.2.2.2.1, h.2.2.2.2.2⟩
section XC
variable {D : va_G} {Y0 Y : xY} {nL : Nat} {mu : List Value} {H : Heap} {a : xS} {r : Nat → Value} {ls : Array Slot} {st : List Value}
theorem x_env_app {E : List xV} {t u : xV} {k : Nat} (h : (E ++ [t])[k]? = some u) : (k < E.length ∧ E[k]? = some u) ∨ (k = E.length ∧ u = t) := by
  by_cases hk : k < E.length
  · rw [List.getElem?_append_left hk] at h
    exact Or.inl ⟨hk, h⟩
  · rw [List.getElem?_append_right (by omega)] at h
    have hz : k - E.length < 1 := (List.getElem?_eq_some_iff.mp h).1
    have e : k = E.length := by omega
    subst e
    rw [Nat.sub_self] at h
    exact Or.inr ⟨rfl, (Option.some.inj h).symm⟩
/-- the stack is another row of values that are known -/
theorem x_C.stk (h : x_C D Y0 nL mu Y H a r ls st) (S : List Nat) : x_C D Y0 nL mu Y H (x_top a S) r ls (S.map r) := ⟨h.1, h.2.1, rfl, h.2.2.2⟩
/-- better bounds -/
theorem x_C.env (h : x_C D Y0 nL mu Y H a r ls st) {E : List xV} (he : ∀ (k : Nat) (t : xV), E[k]? = some t → x_c Y t (r k)) (S : List Nat) : x_C D Y0 nL mu Y H (E, a.2.1, S, a.2.2.2) r ls (S.map r) := ⟨he, h.2.1, rfl, h.2.2.2⟩
theorem x_up_ag {r : Nat → Value} {n k : Nat} {v : Value} (h : k < n) : updV r n v k = r k := by
  unfold updV
  rw [if_neg (Nat.ne_of_lt h)]
theorem x_up_at {r : Nat → Value} {n : Nat} {v : Value} : updV r n v n = v := by
  unfold updV
  rw [if_pos rfl]
/-- a new value, with its number -/
theorem x_C.new (hw : x_wf a = true) (h : x_C D Y0 nL mu Y H a r ls st) {t : xV} {v : Value} (hv : x_c Y t v) : x_C D Y0 nL mu Y H (a.1 ++ [t], a.2) (updV r a.1.length v) ls st := by
  obtain ⟨w1, w2, w3, w4, w5, w6⟩ := x_wf_spec hw
  obtain ⟨h1, h2, h3, h4, h5, h6, h7⟩ := h
  refine ⟨fun k u hk => ?_, ?_, ?_, fun f hf => ?_, fun d hd => ?_, ?_, fun k hk => ?_⟩
  · rcases x_env_app hk with ⟨q1, q2⟩ | ⟨q1, q2⟩
    · rw [x_up_ag q1]; exact h1 k u q2
    · rw [q1, q2, x_up_at]; exact hv
  · have e : (a.2.1.map fun q => (q.1, updV r a.1.length v q.2)) = a.2.1.map fun q => (q.1, r q.2) := List.map_congr_left fun q hq => by rw [x_up_ag (w1 q hq)]
    show lv_has ls nL (a.2.1.map fun q => (q.1, updV r a.1.length v q.2))
    rw [e]; exact h2
  · rw [h3]
    exact List.map_congr_left fun k hk => by rw [x_up_ag (w2 k hk)]
  · obtain ⟨b, q1, q2⟩ := h4 f hf
    exact ⟨b, by rw [x_up_ag (w3 f hf).1]; exact q1, by rw [x_up_ag (w3 f hf).2]; exact q2⟩
  · obtain ⟨x, y, q1, q2, q3⟩ := h5 d hd
    exact ⟨x, y, by rw [x_up_ag (w4 d hd).1]; exact q1, by rw [x_up_ag (w4 d hd).2]; exact q2, q3⟩
  · rw [← h6]
    exact List.map_congr_left fun k hk => by rw [x_up_ag (w5 k hk)]
  · obtain ⟨b, q1, q2⟩ := h7 k hk
    exact ⟨b, by rw [x_up_ag (w6 k hk)]; exact q1, q2⟩
theorem x_C.psh (hw : x_wf a = true) (h : x_C D Y0 nL mu Y H a r ls st) {S : List Nat} (hS : ∀ k ∈ S, k < a.1.length) {t : xV} {v : Value} (hv : x_c Y t v) : x_C D Y0 nL mu Y H (x_psh a S t) (updV r a.1.length v) ls (v :: S.map r) := by
  have q := (h.new hw hv).stk (a.1.length :: S)
  have e : (a.1.length :: S).map (updV r a.1.length v) = v :: S.map r := by
    rw [List.map_cons, x_up_at, List.map_congr_left fun k hk => x_up_ag (hS k hk)]
  rw [e] at q
  exact q
theorem x_C.loc (h : x_C D Y0 nL mu Y H a r ls st) {i k : Nat} (hk : (i, k) ∈ a.2.1) : ls[i]? = some (.val (r k)) := h.2.1.2.2 (i, r k) (List.mem_map.mpr ⟨(i, k), hk, rfl⟩)
/-- other locals, of values that are known -/
theorem x_C.locs {ls' : Array Slot} (h : x_C D Y0 nL mu Y H a r ls st) {L : List (Nat × Nat)} (hl : lv_has ls' nL (L.map fun q => (q.1, r q.2))) (S : List Nat) : x_C D Y0 nL mu Y H (a.1, L, S, a.2.2.2) r ls' (S.map r) := ⟨h.1, hl, rfl, h.2.2.2⟩
theorem x_C.dif (h : x_C D Y0 nL mu Y H a r ls st) {d : Nat × Nat × Int} (hd : x_dif r d) : x_C D Y0 nL mu Y H (a.1, a.2.1, a.2.2.1, a.2.2.2.1, d :: a.2.2.2.2.1, a.2.2.2.2.2) r ls st := by
  obtain ⟨h1, h2, h3, h4, h5, h6⟩ := h
  refine ⟨h1, h2, h3, h4, fun q hq => ?_, h6⟩
  rcases List.mem_cons.mp hq with e | hq
  · rw [e]; exact hd
  · exact h5 q hq
end XC
/-! what a method's body keeps, from its start to each of its steps -/
def x_I (D : va_G) (G : List xG) (Zs : List xZ) (U : State) (ef : List (Nat × Nat)) (Y0 : xY) (H0 : Heap) (Y : xY) (H : Heap) (locs : List Loc) : Prop :=
  x_H D G Zs U Y H ∧ (∀ q, q < H0.size → Y q = Y0 q) ∧ x_E D G ef Y0 H0 H ∧ va_S (fun q => (∃ t, Y0 q = some t) ∨ H0.size ≤ q) H0 H locs
section XK
variable (p : Program) (l : Launch) (e : Env) (R : Room) (s : State) (m : MethodId) (args : Array Value) (below : List Frame) (meth : Method) (c : Code) (Q : State → Prop)
variable (D : va_G) (G : List xG) (Zs : List xZ) (U : State) (ef : List (Nat × Nat)) (Y0 : xY) (H0 : Heap) (nL : Nat) (mu : List Value)
/-- from every state that the checker's state tells of, at this place, the machine comes to Q -/
def x_K (q : Nat × xS) : Prop := ∀ (Y : xY) (H : Heap) (locs : List Loc) (r : Nat → Value) (ls : Array Slot) (st : List Value),
  x_I D G Zs U ef Y0 H0 Y H locs → x_C D Y0 nL mu Y H q.2 r ls st → W p l e R s m args below meth c H locs (x_cells q.2) (x_slots q.2) Q (F0 m q.1 ls st)
end XK
/-! steps: the places that come next, with their states; none: the checker doesn't see that this is safe -/
abbrev xN : Type := Option (List (Nat × xS))
def x_bin (a : xS) (pc : Nat) (f : Int × Int → Int × Int → Option (Int × Int)) : xN := match a.2.2.1 with
  | y :: x :: S => (match a.1[y]?, a.1[x]? with
    | some (.inl q), some (.inl u) => (match f u q with
      | some t => some [(pc + 1, x_psh a S (.inl t))]
      | none => none)
    | _, _ => none)
  | _ => none
def x_un (a : xS) (pc : Nat) (f : Int × Int → Int × Int) : xN := match a.2.2.1 with
  | x :: S => (match a.1[x]? with
    | some (.inl u) => some [(pc + 1, x_psh a S (.inl (f u)))]
    | _ => none)
  | _ => none
/-- a sum with a number that is known, or one that needn't be -/
def x_addS (a : xS) (pc : Nat) : xN := match a.2.2.1 with
  | y :: x :: S => (match a.1[y]?, a.1[x]? with
    | some (.inl q), some (.inl u) => some [(pc + 1, (let b := x_psh a S (.inl (x_addB u q))
        if q.1 = q.2 ∧ -2147483648 ≤ u.1 + q.1 ∧ u.2 + q.2 ≤ 2147483647 then (b.1, b.2.1, b.2.2.1, b.2.2.2.1, (a.1.length, x, q.1) :: b.2.2.2.2.1, b.2.2.2.2.2) else b))]
    | _, _ => none)
  | _ => none
def x_binL (a : xS) (pc : Nat) (nz : Bool) : xN := match a.2.2.1 with
  | y :: x :: S => (match a.1[y]?, a.1[x]? with
    | some (.inr (.inl q)), some (.inr (.inl _)) => if nz = true ∧ ¬ (0 < q.1 ∨ q.2 < 0) then none else some [(pc + 1, x_psh a S (.inr (.inl x_fullL)))]
    | _, _ => none)
  | _ => none
def x_shL (a : xS) (pc : Nat) : xN := match a.2.2.1 with
  | y :: x :: S => (match a.1[y]?, a.1[x]? with
    | some (.inl _), some (.inr (.inl _)) => some [(pc + 1, x_psh a S (.inr (.inl x_fullL)))]
    | _, _ => none)
  | _ => none
def x_unL (a : xS) (pc : Nat) : xN := match a.2.2.1 with
  | x :: S => (match a.1[x]? with
    | some (.inr (.inl _)) => some [(pc + 1, x_psh a S (.inr (.inl x_fullL)))]
    | _ => none)
  | _ => none
def x_i2l (a : xS) (pc : Nat) : xN := match a.2.2.1 with
  | x :: S => (match a.1[x]? with
    | some (.inl u) => some [(pc + 1, (a.1 ++ [.inr (.inl u)], a.2.1, a.1.length :: S, a.2.2.2.1, (a.1.length, x, 0) :: a.2.2.2.2.1, a.2.2.2.2.2))]
    | _ => none)
  | _ => none
def x_l2i (a : xS) (pc : Nat) : xN := match a.2.2.1 with
  | x :: S => (match a.1[x]? with
    | some (.inr (.inl u)) => some [(pc + 1, x_psh a S (.inl (x_clip u.1 u.2)))]
    | _ => none)
  | _ => none
def x_ref2 (a : xS) (S : List Nat) (x y : Nat) (b : Option xB2) (pc : Nat) : List (Nat × xS) := match b with
  | some b => [(pc, ((a.1.set x (.inl b.1)).set y (.inl b.2), a.2.1, S, a.2.2.2))]
  | none => []
def x_icmp (a : xS) (pc : Nat) (off : Int) (f g : Int × Int → Int × Int → Option xB2) : xN := match a.2.2.1 with
  | y :: x :: S => (match a.1[y]?, a.1[x]? with
    | some (.inl q), some (.inl u) => if (pc : Int) + off = ((((pc : Int) + off).toNat : Nat) : Int) then some (x_ref2 a S x y (f u q) ((pc : Int) + off).toNat ++ x_ref2 a S x y (g u q) (pc + 3)) else none
    | _, _ => none)
  | _ => none
def x_if0 (a : xS) (pc : Nat) (off : Int) (f g : Int × Int → Int × Int → Option xB2) : xN := match a.2.2.1 with
  | x :: S => (match a.1[x]? with
    | some (.inl u) => if (pc : Int) + off = ((((pc : Int) + off).toNat : Nat) : Int) then some ((match f u (0, 0) with
        | some b => [(((pc : Int) + off).toNat, (a.1.set x (.inl b.1), a.2.1, S, a.2.2.2))]
        | none => []) ++ (match g u (0, 0) with
        | some b => [(pc + 3, (a.1.set x (.inl b.1), a.2.1, S, a.2.2.2))]
        | none => [])) else none
    | _ => none)
  | _ => none
def x_ld (a : xS) (pc : Nat) (i : Nat) (f : xV → Bool) : xN := match a.2.1.find? (fun q => q.1 == i) with
  | some q => (match a.1[q.2]? with
    | some t => if f t then some [(pc, x_top a (q.2 :: a.2.2.1))] else none
    | none => none)
  | none => none
def x_isI : xV → Bool | .inl _ => true | _ => false
def x_isL : xV → Bool | .inr (.inl _) => true | _ => false
def x_isR : xV → Bool | .inr (.inr _) => true | _ => false
def x_n2 (E : List xV) (k : Nat) : Bool := match E[k]? with
  | some (.inl _) => true
  | some (.inr (.inr _)) => true
  | _ => false
def x_sto (a : xS) (pc : Nat) (i nL : Nat) (f : xV → Bool) : xN := match a.2.2.1 with
  | x :: S => (match a.1[x]? with
    | some t => if f t = true ∧ i < nL then some [(pc, (a.1, (i, x) :: a.2.1.filter (fun q => !(q.1 == i) && (!(q.1 + 1 == i) || x_n2 a.1 q.2)), S, a.2.2.2))] else none
    | none => none)
  | _ => none
def x_stoL (a : xS) (pc : Nat) (i nL : Nat) : xN := match a.2.2.1 with
  | x :: S => (match a.1[x]? with
    | some (.inr (.inl _)) => if i + 1 < nL then some [(pc, (a.1, (i, x) :: a.2.1.filter (fun q => !(q.1 == i) && (!(q.1 == i + 1) && (!(q.1 + 1 == i) || x_n2 a.1 q.2))), S, a.2.2.2))] else none
    | _ => none)
  | _ => none
def x_iinc (a : xS) (pc : Nat) (i nL : Nat) (n : Int) : xN := match a.2.1.find? (fun q => q.1 == i) with
  | some q => (match a.1[q.2]? with
    | some (.inl u) => if -32768 ≤ n ∧ n ≤ 32767 ∧ i < nL then (if -2147483648 ≤ u.1 + n ∧ u.2 + n ≤ 2147483647 then some [(pc + 3, (a.1 ++ [.inl (u.1 + n, u.2 + n)], (i, a.1.length) :: a.2.1.filter (fun z => !(z.1 == i) && (!(z.1 + 1 == i) || x_n2 a.1 z.2)), a.2.2.1, a.2.2.2.1, (a.1.length, q.2, n) :: a.2.2.2.2.1, a.2.2.2.2.2))]
        else some [(pc + 3, (a.1 ++ [.inl x_full], (i, a.1.length) :: a.2.1.filter (fun z => !(z.1 == i) && (!(z.1 + 1 == i) || x_n2 a.1 z.2)), a.2.2.1, a.2.2.2))]) else none
    | _ => none)
  | none => none
def x_lcmp (a : xS) (pc : Nat) : xN := match a.2.2.1 with
  | y :: x :: S => (match a.1[y]?, a.1[x]? with
    | some (.inr (.inl q)), some (.inr (.inl u)) => some ((match x_rlt u q with
        | some b => [(pc + 1, x_psh ((a.1.set x (.inr (.inl b.1))).set y (.inr (.inl b.2)), a.2) S (.inl (-1, -1)))]
        | none => []) ++ ((match x_req u q with
        | some b => [(pc + 1, x_psh ((a.1.set x (.inr (.inl b.1))).set y (.inr (.inl b.2)), a.2) S (.inl (0, 0)))]
        | none => []) ++ (match x_rlt q u with
        | some b => [(pc + 1, x_psh ((a.1.set x (.inr (.inl b.2))).set y (.inr (.inl b.1)), a.2) S (.inl (1, 1)))]
        | none => [])))
    | _, _ => none)
  | _ => none
end
section
section XP
variable {p : Program} {l : Launch} {e : Env} {R : Room} {s : State} {m : MethodId} {args : Array Value} {below : List Frame} {meth : Method} {c : Code} {Q : State → Prop}
variable {D : va_G} {G : List xG} {Zs : List xZ} {U : State} {ef : List (Nat × Nat)} {Y0 : xY} {H0 : Heap} {nL : Nat} {mu : List Value}
variable {cc : ByteArray} {pc : Nat} {a : xS} {sc : List (Nat × xS)}
theorem x_bin_ok {f : Int × Int → Int × Int → Option (Int × Int)} {g : Int32 → Int32 → Int32} (hw : x_wf a = true) (hf : ∀ u q t x y, f u q = some t → x_b u x → x_b q y → x_b t (g x y))
    (row : ∀ (H : Heap) (locs : List Loc) (cells slots : Nat) (ls : Array Slot) (rest : List Value) (x y : Int32) (u q t : Int × Int), f u q = some t → x_b u x → x_b q y → W p l e R s m args below meth c H locs cells slots Q (F0 m (pc + 1) ls (.int (g x y) :: rest)) → W p l e R s m args below meth c H locs cells slots Q (F0 m pc ls (.int y :: .int x :: rest)))
    (h : x_bin a pc f = some sc) (hs : ∀ q ∈ sc, x_K p l e R s m args below meth c Q D G Zs U ef Y0 H0 nL mu q) : x_K p l e R s m args below meth c Q D G Zs U ef Y0 H0 nL mu (pc, a) := by
  intro Y H locs r ls st hI hC
  unfold x_bin at h
  split at h
  · next y x S hS =>
    split at h
    · next q u hq hu =>
      split at h
      · next t ht =>
        cases h
        obtain ⟨vy, ey, by1⟩ := hC.1 y _ hq
        obtain ⟨vx, ex, bx1⟩ := hC.1 x _ hu
        have hst : st = .int vy :: .int vx :: S.map r := by rw [hC.2.2.1, hS, List.map_cons, List.map_cons, ey, ex]
        rw [hst]
        have hSl : ∀ k ∈ S, k < a.1.length := fun k hk => (x_wf_spec hw).2.1 k (by rw [hS]; exact List.mem_cons_of_mem _ (List.mem_cons_of_mem _ hk))
        refine row H locs _ _ ls _ vx vy u q t ht bx1 by1 ?_
        exact hs _ List.mem_cons_self Y H locs _ ls _ hI (hC.psh hw hSl ⟨_, rfl, hf u q t vx vy ht bx1 by1⟩)
      · cases h
    · cases h
  · cases h
theorem x_un_ok {f : Int × Int → Int × Int} {g : Int32 → Int32} (hw : x_wf a = true) (hf : ∀ u x, x_b u x → x_b (f u) (g x))
    (row : ∀ (H : Heap) (locs : List Loc) (cells slots : Nat) (ls : Array Slot) (rest : List Value) (x : Int32), W p l e R s m args below meth c H locs cells slots Q (F0 m (pc + 1) ls (.int (g x) :: rest)) → W p l e R s m args below meth c H locs cells slots Q (F0 m pc ls (.int x :: rest)))
    (h : x_un a pc f = some sc) (hs : ∀ q ∈ sc, x_K p l e R s m args below meth c Q D G Zs U ef Y0 H0 nL mu q) : x_K p l e R s m args below meth c Q D G Zs U ef Y0 H0 nL mu (pc, a) := by
  intro Y H locs r ls st hI hC
  unfold x_un at h
  split at h
  · next x S hS =>
    split at h
    · next u hu =>
      cases h
      obtain ⟨vx, ex, bx1⟩ := hC.1 x _ hu
      have hst : st = .int vx :: S.map r := by rw [hC.2.2.1, hS, List.map_cons, ex]
      rw [hst]
      have hSl : ∀ k ∈ S, k < a.1.length := fun k hk => (x_wf_spec hw).2.1 k (by rw [hS]; exact List.mem_cons_of_mem _ hk)
      refine row H locs _ _ ls _ vx ?_
      exact hs _ List.mem_cons_self Y H locs _ ls _ hI (hC.psh hw hSl ⟨_, rfl, hf u vx bx1⟩)
    · cases h
  · cases h
theorem x_addS_ok (hw : x_wf a = true) (hx : p.tables.exec = Jvm.exec) (hb : c.code = cc) (hd : decode cc pc = .ok (.iadd, 1))
    (h : x_addS a pc = some sc) (hs : ∀ q ∈ sc, x_K p l e R s m args below meth c Q D G Zs U ef Y0 H0 nL mu q) : x_K p l e R s m args below meth c Q D G Zs U ef Y0 H0 nL mu (pc, a) := by
  intro Y H locs r ls st hI hC
  unfold x_addS at h
  split at h
  · next y x S hS =>
    split at h
    · next q u hq hu =>
      cases h
      obtain ⟨vy, ey, by1⟩ := hC.1 y _ hq
      obtain ⟨vx, ex, bx1⟩ := hC.1 x _ hu
      have hst : st = .int vy :: .int vx :: S.map r := by rw [hC.2.2.1, hS, List.map_cons, List.map_cons, ey, ex]
      rw [hst]
      have hSl : ∀ k ∈ S, k < a.1.length := fun k hk => (x_wf_spec hw).2.1 k (by rw [hS]; exact List.mem_cons_of_mem _ (List.mem_cons_of_mem _ hk))
      have hxl : x < a.1.length := (x_wf_spec hw).2.1 x (by rw [hS]; exact List.mem_cons_of_mem _ List.mem_cons_self)
      refine lv_iadd hx hb hd ?_
      have hN := hC.psh hw hSl (t := .inl (x_addB u q)) (v := .int (vx + vy)) ⟨_, rfl, x_add_ok bx1 by1⟩
      have hh := hs _ List.mem_cons_self Y H locs (updV r a.1.length (.int (vx + vy))) ls (.int (vx + vy) :: S.map r) hI
      dsimp only at hh
      split at hh
      · next hq2 =>
        refine hh (hN.dif (d := (a.1.length, x, q.1)) ⟨(vx + vy).toInt, vx.toInt, by show x_num (updV _ _ _ a.1.length) = _; rw [x_up_at]; rfl, by show x_num (updV _ _ _ x) = _; rw [x_up_ag hxl, ex]; rfl, ?_⟩)
        have a1 := bx1.1; have a2 := bx1.2; have b1 := by1.1; have b2 := by1.2
        rw [Int32.toInt_add, x_bm (by omega) (by omega)]
        show _ = _ + q.1
        omega
      · exact hh hN
    · cases h
  · cases h
theorem x_binL_ok {nz : Bool} {g : Int64 → Int64 → Int64} (hw : x_wf a = true)
    (row : ∀ (H : Heap) (locs : List Loc) (cells slots : Nat) (ls : Array Slot) (rest : List Value) (x y : Int64), (nz = true → ¬ y = 0) → W p l e R s m args below meth c H locs cells slots Q (F0 m (pc + 1) ls (.long (g x y) :: rest)) → W p l e R s m args below meth c H locs cells slots Q (F0 m pc ls (.long y :: .long x :: rest)))
    (h : x_binL a pc nz = some sc) (hs : ∀ q ∈ sc, x_K p l e R s m args below meth c Q D G Zs U ef Y0 H0 nL mu q) : x_K p l e R s m args below meth c Q D G Zs U ef Y0 H0 nL mu (pc, a) := by
  intro Y H locs r ls st hI hC
  unfold x_binL at h
  split at h
  · next y x S hS =>
    split at h
    · next q u hq hu =>
      split at h
      · cases h
      · next hn =>
        cases h
        obtain ⟨vy, ey, by1⟩ := hC.1 y _ hq
        obtain ⟨vx, ex, bx1⟩ := hC.1 x _ hu
        have hst : st = .long vy :: .long vx :: S.map r := by rw [hC.2.2.1, hS, List.map_cons, List.map_cons, ey, ex]
        rw [hst]
        have hSl : ∀ k ∈ S, k < a.1.length := fun k hk => (x_wf_spec hw).2.1 k (by rw [hS]; exact List.mem_cons_of_mem _ (List.mem_cons_of_mem _ hk))
        refine row H locs _ _ ls _ vx vy (fun hz e0 => hn ⟨hz, fun hh => ?_⟩) ?_
        · subst e0
          have z : (0 : Int64).toInt = 0 := rfl
          rw [z] at by1
          omega
        · exact hs _ List.mem_cons_self Y H locs _ ls _ hI (hC.psh hw hSl ⟨_, rfl, x_rngL _⟩)
    · cases h
  · cases h
theorem x_shL_ok {g : Int64 → Int32 → Int64} (hw : x_wf a = true)
    (row : ∀ (H : Heap) (locs : List Loc) (cells slots : Nat) (ls : Array Slot) (rest : List Value) (x : Int64) (y : Int32), W p l e R s m args below meth c H locs cells slots Q (F0 m (pc + 1) ls (.long (g x y) :: rest)) → W p l e R s m args below meth c H locs cells slots Q (F0 m pc ls (.int y :: .long x :: rest)))
    (h : x_shL a pc = some sc) (hs : ∀ q ∈ sc, x_K p l e R s m args below meth c Q D G Zs U ef Y0 H0 nL mu q) : x_K p l e R s m args below meth c Q D G Zs U ef Y0 H0 nL mu (pc, a) := by
  intro Y H locs r ls st hI hC
  unfold x_shL at h
  split at h
  · next y x S hS =>
    split at h
    · next q u hq hu =>
      cases h
      obtain ⟨vy, ey, by1⟩ := hC.1 y _ hq
      obtain ⟨vx, ex, bx1⟩ := hC.1 x _ hu
      have hst : st = .int vy :: .long vx :: S.map r := by rw [hC.2.2.1, hS, List.map_cons, List.map_cons, ey, ex]
      rw [hst]
      have hSl : ∀ k ∈ S, k < a.1.length := fun k hk => (x_wf_spec hw).2.1 k (by rw [hS]; exact List.mem_cons_of_mem _ (List.mem_cons_of_mem _ hk))
      refine row H locs _ _ ls _ vx vy ?_
      exact hs _ List.mem_cons_self Y H locs _ ls _ hI (hC.psh hw hSl ⟨_, rfl, x_rngL _⟩)
    · cases h
  · cases h
theorem x_unL_ok {g : Int64 → Int64} (hw : x_wf a = true)
    (row : ∀ (H : Heap) (locs : List Loc) (cells slots : Nat) (ls : Array Slot) (rest : List Value) (x : Int64), W p l e R s m args below meth c H locs cells slots Q (F0 m (pc + 1) ls (.long (g x) :: rest)) → W p l e R s m args below meth c H locs cells slots Q (F0 m pc ls (.long x :: rest)))
    (h : x_unL a pc = some sc) (hs : ∀ q ∈ sc, x_K p l e R s m args below meth c Q D G Zs U ef Y0 H0 nL mu q) : x_K p l e R s m args below meth c Q D G Zs U ef Y0 H0 nL mu (pc, a) := by
  intro Y H locs r ls st hI hC
  unfold x_unL at h
  split at h
  · next x S hS =>
    split at h
    · next u hu =>
      cases h
      obtain ⟨vx, ex, bx1⟩ := hC.1 x _ hu
      have hst : st = .long vx :: S.map r := by rw [hC.2.2.1, hS, List.map_cons, ex]
      rw [hst]
      have hSl : ∀ k ∈ S, k < a.1.length := fun k hk => (x_wf_spec hw).2.1 k (by rw [hS]; exact List.mem_cons_of_mem _ hk)
      refine row H locs _ _ ls _ vx ?_
      exact hs _ List.mem_cons_self Y H locs _ ls _ hI (hC.psh hw hSl ⟨_, rfl, x_rngL _⟩)
    · cases h
  · cases h
theorem x_i2l_ok (hw : x_wf a = true) (hx : p.tables.exec = Jvm.exec) (hb : c.code = cc) (hd : decode cc pc = .ok (.i2l, 1))
    (h : x_i2l a pc = some sc) (hs : ∀ q ∈ sc, x_K p l e R s m args below meth c Q D G Zs U ef Y0 H0 nL mu q) : x_K p l e R s m args below meth c Q D G Zs U ef Y0 H0 nL mu (pc, a) := by
  intro Y H locs r ls st hI hC
  unfold x_i2l at h
  split at h
  · next x S hS =>
    split at h
    · next u hu =>
      cases h
      obtain ⟨vx, ex, bx1⟩ := hC.1 x _ hu
      have hst : st = .int vx :: S.map r := by rw [hC.2.2.1, hS, List.map_cons, ex]
      rw [hst]
      have hSl : ∀ k ∈ S, k < a.1.length := fun k hk => (x_wf_spec hw).2.1 k (by rw [hS]; exact List.mem_cons_of_mem _ hk)
      refine lv_i2l hx hb hd rfl ?_
      have hxl : x < a.1.length := (x_wf_spec hw).2.1 x (by rw [hS]; exact List.mem_cons_self)
      have hN := hC.psh hw hSl (t := .inr (.inl u)) (v := .long vx.toInt64) ⟨_, rfl, by rw [Int32.toInt_toInt64]; exact bx1.1, by rw [Int32.toInt_toInt64]; exact bx1.2⟩
      refine hs _ List.mem_cons_self Y H locs _ ls _ hI (hN.dif (d := (a.1.length, x, 0)) ⟨vx.toInt64.toInt, vx.toInt, by show x_num (updV _ _ _ a.1.length) = _; rw [x_up_at]; rfl, by show x_num (updV _ _ _ x) = _; rw [x_up_ag hxl, ex]; rfl, by rw [Int32.toInt_toInt64]; show _ = _ + (0 : Int); omega⟩)
    · cases h
  · cases h
theorem x_l2i_ok (hw : x_wf a = true) (hx : p.tables.exec = Jvm.exec) (hb : c.code = cc) (hd : decode cc pc = .ok (.l2i, 1))
    (h : x_l2i a pc = some sc) (hs : ∀ q ∈ sc, x_K p l e R s m args below meth c Q D G Zs U ef Y0 H0 nL mu q) : x_K p l e R s m args below meth c Q D G Zs U ef Y0 H0 nL mu (pc, a) := by
  intro Y H locs r ls st hI hC
  unfold x_l2i at h
  split at h
  · next x S hS =>
    split at h
    · next u hu =>
      cases h
      obtain ⟨vx, ex, bx1⟩ := hC.1 x _ hu
      have hst : st = .long vx :: S.map r := by rw [hC.2.2.1, hS, List.map_cons, ex]
      rw [hst]
      have hSl : ∀ k ∈ S, k < a.1.length := fun k hk => (x_wf_spec hw).2.1 k (by rw [hS]; exact List.mem_cons_of_mem _ hk)
      refine lv_l2i hx hb hd rfl ?_
      refine hs _ List.mem_cons_self Y H locs _ ls _ hI (hC.psh hw hSl ⟨_, rfl, ?_⟩)
      refine x_clipb fun h1 h2 => ?_
      have a1 := bx1.1; have a2 := bx1.2
      rw [Int64.toInt_toInt32, x_bm (by omega) (by omega)]
      exact bx1
    · cases h
  · cases h
theorem x_set_ok {Y : xY} {E : List xV} {r : Nat → Value} (h : ∀ (k : Nat) (t : xV), E[k]? = some t → x_c Y t (r k)) {x : Nat} {t : xV} (ht : x_c Y t (r x)) : ∀ (k : Nat) (u : xV), (E.set x t)[k]? = some u → x_c Y u (r k) := by
  intro k u hk
  rw [List.getElem?_set] at hk
  split at hk
  · next e0 =>
    split at hk
    · cases hk; rw [← e0]; exact ht
    · cases hk
  · exact h k u hk
theorem x_icmp_ok {off : Int} {f g : Int × Int → Int × Int → Option xB2} {P : Int32 → Int32 → Prop}
    (hf : ∀ u q x y, x_b u x → x_b q y → P x y → ∃ b : xB2, f u q = some b ∧ x_b b.1 x ∧ x_b b.2 y) (hg : ∀ u q x y, x_b u x → x_b q y → ¬ P x y → ∃ b : xB2, g u q = some b ∧ x_b b.1 x ∧ x_b b.2 y)
    (row : ∀ (H : Heap) (locs : List Loc) (cells slots : Nat) (ls : Array Slot) (rest : List Value) (x y : Int32) (tgt : Nat), (pc : Int) + off = (tgt : Int) → (P x y → W p l e R s m args below meth c H locs cells slots Q (F0 m tgt ls rest)) → (¬ P x y → W p l e R s m args below meth c H locs cells slots Q (F0 m (pc + 3) ls rest)) → W p l e R s m args below meth c H locs cells slots Q (F0 m pc ls (.int y :: .int x :: rest)))
    (h : x_icmp a pc off f g = some sc) (hs : ∀ q ∈ sc, x_K p l e R s m args below meth c Q D G Zs U ef Y0 H0 nL mu q) : x_K p l e R s m args below meth c Q D G Zs U ef Y0 H0 nL mu (pc, a) := by
  intro Y H locs r ls st hI hC
  unfold x_icmp at h
  split at h
  · next y x S hS =>
    split at h
    · next q u hq hu =>
      split at h
      · next ht =>
        cases h
        obtain ⟨vy, ey, by1⟩ := hC.1 y _ hq
        obtain ⟨vx, ex, bx1⟩ := hC.1 x _ hu
        have hst : st = .int vy :: .int vx :: S.map r := by rw [hC.2.2.1, hS, List.map_cons, List.map_cons, ey, ex]
        rw [hst]
        refine row H locs _ _ ls _ vx vy _ ht (fun hp => ?_) (fun hp => ?_)
        · obtain ⟨b, e1, e2, e3⟩ := hf u q vx vy bx1 by1 hp
          refine hs (_, ((a.1.set x (.inl b.1)).set y (.inl b.2), a.2.1, S, a.2.2.2)) (List.mem_append_left _ (by rw [e1]; exact List.mem_cons_self)) Y H locs r ls _ hI (hC.env ?_ S)
          exact x_set_ok (x_set_ok hC.1 (by rw [ex]; exact ⟨_, rfl, e2⟩)) (by rw [ey]; exact ⟨_, rfl, e3⟩)
        · obtain ⟨b, e1, e2, e3⟩ := hg u q vx vy bx1 by1 hp
          refine hs (_, ((a.1.set x (.inl b.1)).set y (.inl b.2), a.2.1, S, a.2.2.2)) (List.mem_append_right _ (by rw [e1]; exact List.mem_cons_self)) Y H locs r ls _ hI (hC.env ?_ S)
          exact x_set_ok (x_set_ok hC.1 (by rw [ex]; exact ⟨_, rfl, e2⟩)) (by rw [ey]; exact ⟨_, rfl, e3⟩)
      · cases h
    · cases h
  · cases h
theorem x_if0_ok {off : Int} {f g : Int × Int → Int × Int → Option xB2} {P : Int32 → Prop}
    (hf : ∀ u x, x_b u x → P x → ∃ b : xB2, f u (0, 0) = some b ∧ x_b b.1 x) (hg : ∀ u x, x_b u x → ¬ P x → ∃ b : xB2, g u (0, 0) = some b ∧ x_b b.1 x)
    (row : ∀ (H : Heap) (locs : List Loc) (cells slots : Nat) (ls : Array Slot) (rest : List Value) (x : Int32) (tgt : Nat), (pc : Int) + off = (tgt : Int) → (P x → W p l e R s m args below meth c H locs cells slots Q (F0 m tgt ls rest)) → (¬ P x → W p l e R s m args below meth c H locs cells slots Q (F0 m (pc + 3) ls rest)) → W p l e R s m args below meth c H locs cells slots Q (F0 m pc ls (.int x :: rest)))
    (h : x_if0 a pc off f g = some sc) (hs : ∀ q ∈ sc, x_K p l e R s m args below meth c Q D G Zs U ef Y0 H0 nL mu q) : x_K p l e R s m args below meth c Q D G Zs U ef Y0 H0 nL mu (pc, a) := by
  intro Y H locs r ls st hI hC
  unfold x_if0 at h
  split at h
  · next x S hS =>
    split at h
    · next u hu =>
      split at h
      · next ht =>
        cases h
        obtain ⟨vx, ex, bx1⟩ := hC.1 x _ hu
        have hst : st = .int vx :: S.map r := by rw [hC.2.2.1, hS, List.map_cons, ex]
        rw [hst]
        refine row H locs _ _ ls _ vx _ ht (fun hp => ?_) (fun hp => ?_)
        · obtain ⟨b, e1, e2⟩ := hf u vx bx1 hp
          refine hs (_, (a.1.set x (.inl b.1), a.2.1, S, a.2.2.2)) (List.mem_append_left _ (by rw [e1]; exact List.mem_cons_self)) Y H locs r ls _ hI (hC.env ?_ S)
          exact x_set_ok hC.1 (by rw [ex]; exact ⟨_, rfl, e2⟩)
        · obtain ⟨b, e1, e2⟩ := hg u vx bx1 hp
          refine hs (_, (a.1.set x (.inl b.1), a.2.1, S, a.2.2.2)) (List.mem_append_right _ (by rw [e1]; exact List.mem_cons_self)) Y H locs r ls _ hI (hC.env ?_ S)
          exact x_set_ok hC.1 (by rw [ex]; exact ⟨_, rfl, e2⟩)
      · cases h
    · cases h
  · cases h
theorem x_ld_ok {i pc' : Nat} {f : xV → Bool}
    (row : ∀ (Y : xY) (H : Heap) (locs : List Loc) (cells slots : Nat) (ls : Array Slot) (rest : List Value) (t : xV) (v : Value), f t = true → x_c Y t v → ls[i]? = some (.val v) → W p l e R s m args below meth c H locs cells slots Q (F0 m pc' ls (v :: rest)) → W p l e R s m args below meth c H locs cells slots Q (F0 m pc ls rest))
    (h : x_ld a pc' i f = some sc) (hs : ∀ q ∈ sc, x_K p l e R s m args below meth c Q D G Zs U ef Y0 H0 nL mu q) : x_K p l e R s m args below meth c Q D G Zs U ef Y0 H0 nL mu (pc, a) := by
  intro Y H locs r ls st hI hC
  unfold x_ld at h
  split at h
  · next q hq =>
    split at h
    · next t ht =>
      split at h
      · next hft =>
        cases h
        have hm := List.mem_of_find?_eq_some hq
        have hi : q.1 = i := by simpa using List.find?_some hq
        have hl : ls[i]? = some (.val (r q.2)) := hC.loc (by rw [← hi]; exact hm)
        refine row Y H locs _ _ ls _ t (r q.2) hft (hC.1 _ _ ht) hl ?_
        have hst := hC.2.2.1
        rw [hst]
        exact hs _ List.mem_cons_self Y H locs r ls _ hI (hC.stk (q.2 :: a.2.2.1))
      · cases h
    · cases h
  · cases h
theorem lv_has.less {ls : Array Slot} {n : Nat} {x y : List (Nat × Value)} (h : lv_has ls n x) (hy : ∀ q ∈ y, q ∈ x) : lv_has ls n y := ⟨h.1, h.2.1, fun q hq => h.2.2 q (hy q hq)⟩
theorem x_n2_ok {Y : xY} {E : List xV} {r : Nat → Value} (h : ∀ (k : Nat) (t : xV), E[k]? = some t → x_c Y t (r k)) {k : Nat} (hk : x_n2 E k = true) : (r k).category = 1 := by
  unfold x_n2 at hk
  split at hk
  · next u hu =>
    obtain ⟨v, e0, -⟩ := h k _ hu
    rw [e0]; rfl
  · next u hu =>
    rcases h k _ hu with ⟨e0, -⟩ | ⟨b, t, e0, -⟩ <;> rw [e0] <;> rfl
  · cases hk
theorem x_fil {Y : xY} {E : List xV} {r : Nat → Value} (h : ∀ (k : Nat) (t : xV), E[k]? = some t → x_c Y t (r k)) {L : List (Nat × Nat)} {i : Nat} {q : Nat × Value}
    (hq : q ∈ (L.filter (fun q => !(q.1 == i) && (!(q.1 + 1 == i) || x_n2 E q.2))).map (fun q => (q.1, r q.2))) : q ∈ (L.map (fun q => (q.1, r q.2))).filter (fun q => !(q.1 == i) && !(q.1 + 1 == i && q.2.category == 2)) := by
  obtain ⟨z, hz, rfl⟩ := List.mem_map.mp hq
  obtain ⟨h1, h2⟩ := List.mem_filter.mp hz
  refine List.mem_filter.mpr ⟨List.mem_map.mpr ⟨z, h1, rfl⟩, ?_⟩
  simp only [Bool.and_eq_true, Bool.or_eq_true, Bool.not_eq_true'] at h2 ⊢
  refine ⟨h2.1, ?_⟩
  rcases h2.2 with h3 | h3
  · simp [h3]
  · simp [x_n2_ok h h3]
theorem x_sto_ok {i pc' : Nat} {f : xV → Bool}
    (row : ∀ (Y : xY) (H : Heap) (locs : List Loc) (cells slots : Nat) (ls : Array Slot) (rest : List Value) (t : xV) (v : Value) (lv : List (Nat × Value)), f t = true → x_c Y t v → lv_has ls nL lv → i < nL →
      (∀ ls' : Array Slot, lv_has ls' nL ((i, v) :: lv.filter (fun q => !(q.1 == i) && !(q.1 + 1 == i && q.2.category == 2))) → W p l e R s m args below meth c H locs cells slots Q (F0 m pc' ls' rest)) → W p l e R s m args below meth c H locs cells slots Q (F0 m pc ls (v :: rest)))
    (h : x_sto a pc' i nL f = some sc) (hs : ∀ q ∈ sc, x_K p l e R s m args below meth c Q D G Zs U ef Y0 H0 nL mu q) : x_K p l e R s m args below meth c Q D G Zs U ef Y0 H0 nL mu (pc, a) := by
  intro Y H locs r ls st hI hC
  unfold x_sto at h
  split at h
  · next x S hS =>
    split at h
    · next t ht =>
      split at h
      · next hft =>
        cases h
        have hst : st = r x :: S.map r := by rw [hC.2.2.1, hS, List.map_cons]
        rw [hst]
        refine row Y H locs _ _ ls _ t (r x) _ hft.1 (hC.1 _ _ ht) hC.2.1 hft.2 fun ls' hl => ?_
        refine hs _ List.mem_cons_self Y H locs r ls' _ hI (hC.locs (hl.less fun q hq => ?_) S)
        rw [List.map_cons] at hq
        rcases List.mem_cons.mp hq with e0 | hq
        · rw [e0]; exact List.mem_cons_self
        · exact List.mem_cons_of_mem _ (x_fil hC.1 hq)
      · cases h
    · cases h
  · cases h
theorem x_stoL_ok {i pc' : Nat}
    (row : ∀ (H : Heap) (locs : List Loc) (cells slots : Nat) (ls : Array Slot) (rest : List Value) (v : Int64) (lv : List (Nat × Value)), lv_has ls nL lv → i + 1 < nL →
      (∀ ls' : Array Slot, lv_has ls' nL ((i, .long v) :: lv.filter (fun q => !(q.1 == i) && (!(q.1 == i + 1) && !(q.1 + 1 == i && q.2.category == 2)))) → W p l e R s m args below meth c H locs cells slots Q (F0 m pc' ls' rest)) → W p l e R s m args below meth c H locs cells slots Q (F0 m pc ls (.long v :: rest)))
    (h : x_stoL a pc' i nL = some sc) (hs : ∀ q ∈ sc, x_K p l e R s m args below meth c Q D G Zs U ef Y0 H0 nL mu q) : x_K p l e R s m args below meth c Q D G Zs U ef Y0 H0 nL mu (pc, a) := by
  intro Y H locs r ls st hI hC
  unfold x_stoL at h
  split at h
  · next x S hS =>
    split at h
    · next u ht =>
      split at h
      · next hft =>
        cases h
        obtain ⟨v, ev, -⟩ := hC.1 _ _ ht
        have hst : st = .long v :: S.map r := by rw [hC.2.2.1, hS, List.map_cons, ev]
        rw [hst]
        refine row H locs _ _ ls _ v _ hC.2.1 hft fun ls' hl => ?_
        refine hs _ List.mem_cons_self Y H locs r ls' _ hI (hC.locs (hl.less fun q hq => ?_) S)
        rw [List.map_cons] at hq
        rcases List.mem_cons.mp hq with e0 | hq
        · rw [e0, ev]; exact List.mem_cons_self
        · refine List.mem_cons_of_mem _ ?_
          obtain ⟨z, hz, rfl⟩ := List.mem_map.mp hq
          obtain ⟨h1, h2⟩ := List.mem_filter.mp hz
          refine List.mem_filter.mpr ⟨List.mem_map.mpr ⟨z, h1, rfl⟩, ?_⟩
          simp only [Bool.and_eq_true, Bool.or_eq_true, Bool.not_eq_true'] at h2 ⊢
          refine ⟨h2.1, h2.2.1, ?_⟩
          rcases h2.2.2 with h3 | h3
          · simp [h3]
          · simp [x_n2_ok hC.1 h3]
      · cases h
    · cases h
  · cases h
theorem x_iinc_ok {i : Nat} {n : Int} (hw : x_wf a = true) (hx : p.tables.exec = Jvm.exec) (hb : c.code = cc) (hd : decode cc pc = .ok (.iinc i n, 3))
    (h : x_iinc a pc i nL n = some sc) (hs : ∀ q ∈ sc, x_K p l e R s m args below meth c Q D G Zs U ef Y0 H0 nL mu q) : x_K p l e R s m args below meth c Q D G Zs U ef Y0 H0 nL mu (pc, a) := by
  intro Y H locs r ls st hI hC
  unfold x_iinc at h
  split at h
  · next q hq =>
    split at h
    · next u hu =>
      split at h
      · next hc =>
        obtain ⟨c1, c2, c3⟩ := hc
        obtain ⟨vx, ex, bx1⟩ := hC.1 _ _ hu
        have hm := List.mem_of_find?_eq_some hq
        have hi : q.1 = i := by simpa using List.find?_some hq
        have hql : q.2 < a.1.length := (x_wf_spec hw).1 q hm
        obtain ⟨k, hk⟩ := List.getElem?_of_mem (List.mem_map.mpr ⟨q, hm, rfl⟩ : (q.1, r q.2) ∈ a.2.1.map fun q => (q.1, r q.2))
        rw [hi, ex] at hk
        have b1 := bx1.1; have b2 := bx1.2
        have hz : (Int32.ofInt n).toInt = n := by rw [Int32.toInt_ofInt, x_bm (by omega) (by omega)]
        refine lv_iinc hx hb hd hC.2.1 hk rfl c3 rfl fun ls' hl => ?_
        have hls : ∀ z ∈ (((i, a.1.length) :: a.2.1.filter (fun z => !(z.1 == i) && (!(z.1 + 1 == i) || x_n2 a.1 z.2))).map fun y => (y.1, updV r a.1.length (.int (vx + Int32.ofInt n)) y.2)), z ∈ ((i, Value.int (vx + Int32.ofInt n)) :: (a.2.1.map fun q => (q.1, r q.2)).filter (fun q => !(q.1 == i) && !(q.1 + 1 == i && q.2.category == 2))) := by
          intro z hz
          rw [List.map_cons] at hz
          rcases List.mem_cons.mp hz with e0 | hz
          · rw [e0, x_up_at]; exact List.mem_cons_self
          · refine List.mem_cons_of_mem _ (x_fil hC.1 ?_)
            obtain ⟨y, hy, rfl⟩ := List.mem_map.mp hz
            refine List.mem_map.mpr ⟨y, hy, ?_⟩
            rw [x_up_ag ((x_wf_spec hw).1 y (List.mem_filter.mp hy).1)]
        split at h
        · next hov =>
          cases h
          have ev : (vx + Int32.ofInt n).toInt = vx.toInt + n := by rw [Int32.toInt_add, hz, x_bm (by omega) (by omega)]
          have hN := hC.new hw (t := .inl (u.1 + n, u.2 + n)) (v := .int (vx + Int32.ofInt n)) ⟨_, rfl, by rw [ev]; show u.1 + n ≤ _; omega, by rw [ev]; show _ ≤ u.2 + n; omega⟩
          have hst := hN.2.2.1
          rw [hst]
          have hN2 := (hN.locs (ls' := ls') (L := (i, a.1.length) :: a.2.1.filter (fun z => !(z.1 == i) && (!(z.1 + 1 == i) || x_n2 a.1 z.2))) (hl.less hls) a.2.2.1).dif (d := (a.1.length, q.2, n)) ⟨_, vx.toInt, by show x_num (updV _ _ _ a.1.length) = _; rw [x_up_at]; rfl, by show x_num (updV _ _ _ q.2) = _; rw [x_up_ag hql, ex]; rfl, ev⟩
          exact hs _ List.mem_cons_self Y H locs _ ls' _ hI hN2
        · cases h
          have hN := hC.new hw (t := .inl x_full) (v := .int (vx + Int32.ofInt n)) ⟨_, rfl, x_fullb _⟩
          have hst := hN.2.2.1
          rw [hst]
          exact hs _ List.mem_cons_self Y H locs _ ls' _ hI (hN.locs (ls' := ls') (L := (i, a.1.length) :: a.2.1.filter (fun z => !(z.1 == i) && (!(z.1 + 1 == i) || x_n2 a.1 z.2))) (hl.less hls) a.2.2.1)
      · cases h
    · cases h
  · cases h
theorem x_lcmp_ok (hw : x_wf a = true) (hx : p.tables.exec = Jvm.exec) (hb : c.code = cc) (hd : decode cc pc = .ok (.lcmp, 1))
    (h : x_lcmp a pc = some sc) (hs : ∀ q ∈ sc, x_K p l e R s m args below meth c Q D G Zs U ef Y0 H0 nL mu q) : x_K p l e R s m args below meth c Q D G Zs U ef Y0 H0 nL mu (pc, a) := by
  intro Y H locs r ls st hI hC
  unfold x_lcmp at h
  split at h
  · next y x S hS =>
    split at h
    · next q u hq hu =>
      cases h
      obtain ⟨vy, ey, by1⟩ := hC.1 y _ hq
      obtain ⟨vx, ex, bx1⟩ := hC.1 x _ hu
      have hst : st = .long vy :: .long vx :: S.map r := by rw [hC.2.2.1, hS, List.map_cons, List.map_cons, ey, ex]
      rw [hst]
      have hSl : ∀ k ∈ S, k < a.1.length := fun k hk => (x_wf_spec hw).2.1 k (by rw [hS]; exact List.mem_cons_of_mem _ (List.mem_cons_of_mem _ hk))
      refine W.lcmp hx hb hd ?_
      have key : ∀ (E : List xV) (z : Int) (vz : Int32), E.length = a.1.length → (∀ (k : Nat) (t : xV), E[k]? = some t → x_c Y t (r k)) → vz.toInt = z → lg_cmp vx vy = vz →
          x_K p l e R s m args below meth c Q D G Zs U ef Y0 H0 nL mu (pc + 1, x_psh (E, a.2) S (.inl (z, z))) → W p l e R s m args below meth c H locs (x_cells a) (x_slots a) Q (F0 m (pc + 1) ls (.int (lg_cmp vx vy) :: S.map r)) := by
        intro E z vz hE he hz hv hk
        have hC2 : x_C D Y0 nL mu Y H (E, a.2) r ls st := ⟨he, hC.2⟩
        have hw2 : x_wf (E, a.2) = true := by
          have := hw
          unfold x_wf at this ⊢
          simp only [hE]
          exact this
        have hP := hC2.psh hw2 (S := S) (fun k hk => by show k < E.length; rw [hE]; exact hSl k hk) (t := .inl (z, z)) (v := .int (lg_cmp vx vy)) ⟨_, rfl, by rw [hv]; show z ≤ _; omega, by rw [hv]; show _ ≤ z; omega⟩
        exact hk Y H locs _ ls _ hI hP
      rcases Int.lt_trichotomy vx.toInt vy.toInt with h1 | h1 | h1
      · obtain ⟨b, e1, e2, e3⟩ := x_rlt_ok bx1 by1 h1
        refine key _ (-1) (-1) (by simp) (x_set_ok (x_set_ok hC.1 (t := .inr (.inl b.1)) (by rw [ex]; exact ⟨_, rfl, e2⟩)) (t := .inr (.inl b.2)) (by rw [ey]; exact ⟨_, rfl, e3⟩)) (by decide) ?_ (hs _ (List.mem_append_left _ (by rw [e1]; exact List.mem_cons_self)))
        unfold lg_cmp
        rw [if_neg (by rw [gt_iff_lt, Int64.lt_iff_toInt_lt]; omega), if_neg (by rw [← Int64.toInt_inj]; omega)]
      · obtain ⟨b, e1, e2, e3⟩ := x_req_ok bx1 by1 h1
        refine key _ 0 0 (by simp) (x_set_ok (x_set_ok hC.1 (t := .inr (.inl b.1)) (by rw [ex]; exact ⟨_, rfl, e2⟩)) (t := .inr (.inl b.2)) (by rw [ey]; exact ⟨_, rfl, e3⟩)) (by decide) ?_ (hs _ (List.mem_append_right _ (List.mem_append_left _ (by rw [e1]; exact List.mem_cons_self))))
        unfold lg_cmp
        rw [if_neg (by rw [gt_iff_lt, Int64.lt_iff_toInt_lt]; omega), if_pos (by rw [← Int64.toInt_inj]; exact h1)]
      · obtain ⟨b, e1, e2, e3⟩ := x_rlt_ok by1 bx1 h1
        refine key _ 1 1 (by simp) (x_set_ok (x_set_ok hC.1 (t := .inr (.inl b.2)) (by rw [ex]; exact ⟨_, rfl, e3⟩)) (t := .inr (.inl b.1)) (by rw [ey]; exact ⟨_, rfl, e2⟩)) (by decide) ?_ (hs _ (List.mem_append_right _ (List.mem_append_right _ (by rw [e1]; exact List.mem_cons_self))))
        unfold lg_cmp
        rw [if_pos (by rw [gt_iff_lt, Int64.lt_iff_toInt_lt]; exact h1)]
    · cases h
  · cases h
end XP
end
section
/-! THE HEAP'S INSTRUCTIONS. A method's entries: fields (pool number, tag, field), made objects (pool number, tag), made arrays (place, tag), statics (pool number, number in Zs). -/
def x_all {α β : Type} (f : α → Option β) : List α → Option (List β)
  | [] => some []
  | x :: xs => match f x, x_all f xs with
    | some y, some ys => some (y :: ys)
    | _, _ => none
theorem x_all_mem {α β : Type} {f : α → Option β} : ∀ {xs : List α} {ys : List β}, x_all f xs = some ys → ∀ x ∈ xs, ∃ y, f x = some y ∧ y ∈ ys := by
  intro xs
  induction xs with
  | nil => intro ys _ x hx; cases hx
  | cons z zs ih =>
    intro ys h x hx
    unfold x_all at h
    split at h
    · next y ys' h1 h2 =>
      cases h
      rcases List.mem_cons.mp hx with e | hx
      · subst e; exact ⟨y, h1, List.mem_cons_self⟩
      · obtain ⟨y', q1, q2⟩ := ih h2 x hx
        exact ⟨y', q1, List.mem_cons_of_mem _ q2⟩
    · cases h
/-- a field that an instruction names: the class of the tag has it there, and the words for it are at hand -/
def x_fok (cl : List vw_C) (G : List xG) (Ts : List Cond) (s : State) (args : Array Value) (own : String) (z : Nat × Nat × Nat) : Prop :=
  ∃ (ci : Nat) (fts : List xV) (C : String) (T : u_T) (ref : String), G[z.2.1]? = some (.inl (ci, fts)) ∧ cl[ci]? = some (C, T, fts.length) ∧ z.2.2 < fts.length ∧ (∀ w ∈ u_ws C T fts.length, w ∈ Ts) ∧
    (Cond.fieldLink own z.1 ref (T z.2.2).2.1 (T z.2.2).2.2.1).before args s = true ∧ ∀ x, s.fieldFound? (T z.2.2).1 (T z.2.2).2.1 (T z.2.2).2.2.1 = some x → s.fieldFound? ref (T z.2.2).2.1 (T z.2.2).2.2.1 = some x
def x_fit (ft : xV) (ty : FieldType) : Prop := ∀ (Y : xY) (v : Value), x_c Y ft v → narrow ty v = v ∧ fits ty v = true
/-- and may be written -/
def x_pok (cl : List vw_C) (G : List xG) (Ts : List Cond) (s : State) (args : Array Value) (own mn : String) (z : Nat × Nat × Nat) : Prop :=
  ∃ (ci : Nat) (fts : List xV) (C : String) (T : u_T) (ref : String) (ty : Nat → FieldType) (ft : xV), G[z.2.1]? = some (.inl (ci, fts)) ∧ cl[ci]? = some (C, T, fts.length) ∧ z.2.2 < fts.length ∧ (∀ w ∈ u_ws C T fts.length, w ∈ Ts) ∧
    (Cond.fieldLink own z.1 ref (T z.2.2).2.1 (T z.2.2).2.2.1).before args s = true ∧ (∀ x, s.fieldFound? (T z.2.2).1 (T z.2.2).2.1 (T z.2.2).2.2.1 = some x → s.fieldFound? ref (T z.2.2).2.1 (T z.2.2).2.2.1 = some x) ∧
    (∀ k, k < fts.length → parseFieldDescriptor (T k).2.2.1 = some (ty k)) ∧ (∀ a, a < fts.length → ∀ b, b < fts.length → a ≠ b → (T a).2.1 ≠ (T b).2.1) ∧ fts[z.2.2]? = some ft ∧ x_fit ft (ty z.2.2) ∧
    ((T z.2.2).2.2.2 = false ∨ ((T z.2.2).2.2.2 = true ∧ mn = "<init>" ∧ (T z.2.2).1 = own))
def x_gf (G : List xG) (pf : List (Nat × Nat × Nat)) (a : xS) (pc idx : Nat) : xN := match a.2.2.1 with
  | o :: S => (match a.1[o]? with
    | some (.inr (.inr (false, ts))) => x_all (fun (t : Nat) => match G[t]?, pf.find? (fun z => z.1 == idx && z.2.1 == t) with
      | some (.inl (ci, fts)), some z => if ci = 1000 then none else (match a.2.2.2.1.find? (fun f => f.1 == o && (f.2.1 == ci && f.2.2.1 == z.2.2)) with
        | some f => some (pc + 3, (a.1.set o (.inr (.inr (false, [t]))), a.2.1, f.2.2.2 :: S, a.2.2.2))
        | none => (match fts[z.2.2]? with
          | some ft => some (pc + 3, (a.1.set o (.inr (.inr (false, [t]))) ++ [ft], a.2.1, a.1.length :: S, (o, ci, z.2.2, a.1.length) :: a.2.2.2.1, a.2.2.2.2))
          | none => none))
      | _, _ => none) ts
    | _ => none)
  | _ => none
/-- tags that two references can't share -/
def x_dj (E : List xV) (x y : Nat) : Bool := match E[x]?, E[y]? with
  | some (.inr (.inr p)), some (.inr (.inr q)) => p.2.all (fun t => q.2.all (fun u => !(t == u)))
  | _, _ => false
def x_pf (G : List xG) (pf : List (Nat × Nat × Nat)) (ef : List (Nat × Nat)) (a : xS) (pc idx : Nat) : xN := match a.2.2.1 with
  | v :: o :: S => (match a.1[o]?, a.1[v]? with
    | some (.inr (.inr (false, ts))), some tv => x_all (fun (t : Nat) => match G[t]?, pf.find? (fun z => z.1 == idx && z.2.1 == t) with
      | some (.inl (ci, fts)), some z => (match fts[z.2.2]? with
        | some ft => if ¬ ci = 1000 ∧ x_le tv ft = true ∧ (ef.any (fun q => q.1 == t && q.2 == z.2.2) = true ∨ a.2.2.2.2.2.2.1.any (fun k => k == o) = true) then
            some (pc + 3, (a.1.set o (.inr (.inr (false, [t]))), a.2.1, S, (o, ci, z.2.2, v) :: a.2.2.2.1.filter (fun f => (f.1 == o && (f.2.1 == ci && !(f.2.2.1 == z.2.2) && Nat.blt f.2.2.1 fts.length)) || x_dj a.1 f.1 o), a.2.2.2.2)) else none
        | none => none)
      | _, _ => none) ts
    | _, _ => none)
  | _ => none
/-- what is read at a place of an array, what may be written there: by the place's bounds -/
def x_er (pre : List xV) (ft : xV) (u : Int × Int) : Option xV := if u.1 = u.2 then some (pre.getD u.1.toNat ft) else if (pre.length : Int) ≤ u.1 then some ft else if pre.all (fun t => x_le t ft) then some ft else none
def x_ew (pre : List xV) (ft : xV) (u : Int × Int) : Option xV := if u.1 = u.2 then some (pre.getD u.1.toNat ft) else if (pre.length : Int) ≤ u.1 then some ft else none
theorem x_er_ok {Y : xY} {pre : List xV} {ft t : xV} {u : Int × Int} {x : Int32} {v : Value} (h : x_er pre ft u = some t) (hb : x_b u x) (h0 : 0 ≤ u.1) (hv : x_c Y (pre.getD x.toNatClampNeg ft) v) : x_c Y t v := by
  have a1 := hb.1; have a2 := hb.2
  have hc : x.toNatClampNeg = x.toInt.toNat := rfl
  unfold x_er at h
  split at h
  · next e0 =>
    cases h
    have : x.toNatClampNeg = u.1.toNat := by rw [hc]; omega
    rw [← this]; exact hv
  · split at h
    · next hp =>
      cases h
      rw [List.getD_eq_getElem?_getD, List.getElem?_eq_none (by rw [hc]; omega)] at hv
      exact hv
    · split at h
      · next hp =>
        cases h
        rw [List.getD_eq_getElem?_getD] at hv
        cases hq : pre[x.toNatClampNeg]? with
        | none => rw [hq] at hv; exact hv
        | some w =>
          rw [hq] at hv
          exact x_le_ok (List.all_eq_true.mp hp w (List.mem_of_getElem? hq)) hv
      · cases h
theorem x_ew_ok {pre : List xV} {ft t : xV} {u : Int × Int} {x : Int32} (h : x_ew pre ft u = some t) (hb : x_b u x) (h0 : 0 ≤ u.1) : pre.getD x.toNatClampNeg ft = t := by
  have a1 := hb.1; have a2 := hb.2
  have hc : x.toNatClampNeg = x.toInt.toNat := rfl
  unfold x_ew at h
  split at h
  · next e0 =>
    cases h
    have : x.toNatClampNeg = u.1.toNat := by rw [hc]; omega
    rw [this]
  · split at h
    · next hp =>
      cases h
      rw [List.getD_eq_getElem?_getD, List.getElem?_eq_none (by rw [hc]; omega)]
      rfl
    · cases h
/-- a known thing that a store at places u of the array o leaves alone -/
def x_kp (E : List xV) (o : Nat) (u : Int × Int) (f : Nat × Nat × Nat × Nat) : Bool := x_dj E f.1 o || (f.1 == o && (f.2.1 == 1000 && (decide ((f.2.2.1 : Int) < u.1) || decide (u.2 < (f.2.2.1 : Int)))))
def x_ial (G : List xG) (a : xS) (pc : Nat) (ty : FieldType → Bool) : xN := match a.2.2.1 with
  | i :: o :: S => (match a.1[o]?, a.1[i]? with
    | some (.inr (.inr (false, ts))), some (.inl u) => x_all (fun (t : Nat) => match G[t]? with
      | some (.inr (et, n, pre, ft)) => if ty et = true ∧ 0 ≤ u.1 ∧ u.2 < (n : Int) then (match x_er pre ft u with
          | some w => if u.1 = u.2 then (match a.2.2.2.1.find? (fun f => f.1 == o && (f.2.1 == 1000 && f.2.2.1 == u.1.toNat)) with
            | some f => some (pc + 1, (a.1.set o (.inr (.inr (false, [t]))), a.2.1, f.2.2.2 :: S, a.2.2.2))
            | none => some (pc + 1, (a.1.set o (.inr (.inr (false, [t]))) ++ [w], a.2.1, a.1.length :: S, (o, 1000, u.1.toNat, a.1.length) :: a.2.2.2.1, a.2.2.2.2)))
            else some (pc + 1, x_psh (a.1.set o (.inr (.inr (false, [t]))), a.2) S w)
          | none => none) else none
      | _ => none) ts
    | _, _ => none)
  | _ => none
def x_ias (G : List xG) (ef : List (Nat × Nat)) (a : xS) (pc : Nat) : xN := match a.2.2.1 with
  | v :: i :: o :: S => (match a.1[o]?, a.1[i]?, a.1[v]? with
    | some (.inr (.inr (false, ts))), some (.inl u), some (.inl tv) => x_all (fun (t : Nat) => match G[t]? with
      | some (.inr (.int, n, pre, ft)) => if (x_ew pre ft u).any (fun w => x_le (.inl tv) w) = true ∧ 0 ≤ u.1 ∧ u.2 < (n : Int) ∧ (ef.any (fun q => q.1 == t && q.2 == 0) = true ∨ a.2.2.2.2.2.2.1.any (fun k => k == o) = true) then
          some (pc + 1, (a.1.set o (.inr (.inr (false, [t]))), a.2.1, S, (if u.1 = u.2 then [(o, 1000, u.1.toNat, v)] else []) ++ a.2.2.2.1.filter (x_kp a.1 o u), a.2.2.2.2)) else none
      | _ => none) ts
    | _, _, _ => none)
  | _ => none
def x_aln (G : List xG) (a : xS) (pc : Nat) : xN := match a.2.2.1 with
  | o :: S => (match a.1[o]? with
    | some (.inr (.inr (false, ts))) => x_all (fun (t : Nat) => match G[t]? with
      | some (.inr (_, n, _, _)) => if n < 2147483648 then some (pc + 1, x_psh (a.1.set o (.inr (.inr (false, [t]))), a.2) S (.inl ((n : Int), (n : Int)))) else none
      | _ => none) ts
    | _ => none)
  | _ => none
section XR
variable {p : Program} {l : Launch} {e : Env} {R : Room} {s : State} {m : MethodId} {args : Array Value} {below : List Frame} {meth : Method} {c : Code} {Q : State → Prop}
variable {D : va_G} {G : List xG} {Zs : List xZ} {U : State} {ef : List (Nat × Nat)} {Y0 : xY} {H0 : Heap} {nL : Nat} {mu : List Value}
variable {cc : ByteArray} {pc : Nat} {a : xS} {sc : List (Nat × xS)} {cl : List vw_C} {Ts : List Cond} {own : String} {pf : List (Nat × Nat × Nat)}
theorem x_ref_at {Y : xY} {t0 : xV} {v : Value} {ts : List Nat} (h : x_c Y t0 v) (he : t0 = .inr (.inr (false, ts))) : ∃ b t : Nat, v = .ref b ∧ t ∈ ts ∧ Y b = some t := by
  subst he
  rcases h with ⟨-, h⟩ | h
  · cases h
  · exact h
theorem x_get_row {Y : xY} {H : Heap} {locs : List Loc} {cells slots : Nat} {ls : Array Slot} {rest : List Value} (hx : p.tables.exec = Jvm.exec) (hb : c.code = cc) (hts : ∀ w ∈ Ts, w.before args s = true) (hown : s.vm.findClass own = some m.cls) (hK : va_K D cl [] s)
    {z : Nat × Nat × Nat} (hf : x_fok cl G Ts s args own z) (hH : x_H D G Zs U Y H) {b : Nat} (hY : Y b = some z.2.1) (hd : decode cc pc = .ok (.getfield z.1, 3)) {ci : Nat} {fts : List xV} (hg : G[z.2.1]? = some (.inl (ci, fts)))
    (kk : ∀ v : Value, (∀ ft, fts[z.2.2]? = some ft → x_c Y ft v) → x_sl D ci z.2.2 b H = some v → W p l e R s m args below meth c H locs cells slots Q (F0 m (pc + 3) ls (v :: rest))) : W p l e R s m args below meth c H locs cells slots Q (F0 m pc ls (.ref b :: rest)) := by
  obtain ⟨ci', fts', C, T, ref, g1, g2, g3, g4, g5, g6⟩ := hf
  cases hg.symm.trans g1
  obtain ⟨g, h1, h2⟩ := hH.1 b _ hY
  cases h1.symm.trans g1
  obtain ⟨V, ⟨cell, q1, q2, q3, q4⟩, hV⟩ := h2
  obtain ⟨hS, hfc, kC, hkC, hkind⟩ := hK.1 ci _ g2
  obtain ⟨cf, kf, fi, f, hi, hsl⟩ := hS z.2.2 g3
  refine W.getf hx hb hown g5 (g6 _ hi) (u_facts hfc hkC (u_lays hts g4 g3) hi).1 q1 (by rw [q3]; exact fun h => by cases h) (v := V z.2.2) (by rw [hsl]; exact q4 _ g3) rfl rfl hd ?_
  refine kk _ (fun ft hft => hV _ _ hft) ?_
  show (H[b]?).bind _ = _
  rw [q1]
  exact q4 _ g3
theorem x_gf_ok {idx : Nat} (hw : x_wf a = true) (hx : p.tables.exec = Jvm.exec) (hb : c.code = cc) (hts : ∀ w ∈ Ts, w.before args s = true) (hown : s.vm.findClass own = some m.cls) (hK : va_K D cl [] s) (hpf : ∀ z ∈ pf, x_fok cl G Ts s args own z)
    (hd : decode cc pc = .ok (.getfield idx, 3)) (h : x_gf G pf a pc idx = some sc) (hs : ∀ q ∈ sc, x_K p l e R s m args below meth c Q D G Zs U ef Y0 H0 nL mu q) : x_K p l e R s m args below meth c Q D G Zs U ef Y0 H0 nL mu (pc, a) := by
  intro Y H locs r ls st hI hC
  unfold x_gf at h
  split at h
  · next o S hS =>
    split at h
    · next ts ho =>
      obtain ⟨b, t, eb, ht, hY⟩ := x_ref_at (hC.1 o _ ho) rfl
      obtain ⟨y, hy, hm⟩ := x_all_mem h t ht
      have hK1 := hs y hm
      have hst : st = .ref b :: S.map r := by rw [hC.2.2.1, hS, List.map_cons, eb]
      rw [hst]
      have hol : o < a.1.length := (List.getElem?_eq_some_iff.mp ho).1
      have hE : ∀ (k : Nat) (u : xV), (a.1.set o (.inr (.inr (false, [t]))))[k]? = some u → x_c Y u (r k) := x_set_ok hC.1 (Or.inr ⟨b, t, eb, List.mem_cons_self, hY⟩)
      have hSl : ∀ k ∈ S, k < a.1.length := fun k hk => (x_wf_spec hw).2.1 k (by rw [hS]; exact List.mem_cons_of_mem _ hk)
      split at hy
      · next ci fts z hg hz =>
        have hzm := List.mem_of_find?_eq_some hz
        have hze := List.find?_some hz
        simp only [Bool.and_eq_true, beq_iff_eq] at hze
        obtain ⟨e1, e2⟩ := hze
        subst e1; subst e2
        refine x_get_row hx hb hts hown hK (hpf z hzm) hI.1 hY hd hg fun v hv hsl => ?_
        split at hy
        · cases hy
        next hci =>
        split at hy
        · next f hf =>
          cases hy
          have hfm := List.mem_of_find?_eq_some hf
          have hfe := List.find?_some hf
          simp only [Bool.and_eq_true, beq_iff_eq] at hfe
          obtain ⟨f1, f2, f3⟩ := hfe
          obtain ⟨b', q1, q2⟩ := hC.2.2.2.1 f hfm
          rw [f1, eb] at q1
          cases q1
          rw [f2, f3, x_fv_sl hci, hsl] at q2
          cases q2
          exact hK1 Y H locs r ls _ hI (hC.env hE (f.2.2.2 :: S))
        · split at hy
          · next ft hft =>
            cases hy
            have hw2 : x_wf (a.1.set o (.inr (.inr (false, [z.2.1]))), a.2.1, S, a.2.2.2) = true := by
              have h3 := hw
              simp only [x_wf, Bool.and_eq_true, List.all_eq_true, Nat.blt_eq, List.length_set] at h3 ⊢
              exact ⟨h3.1, hSl, h3.2.2⟩
            have hP := (hC.env hE S).psh hw2 (S := S) (fun k hk => by show k < (a.1.set o _).length; rw [List.length_set]; exact hSl k hk) (hv ft hft)
            have hln : (a.1.set o (.inr (.inr (false, [z.2.1])))).length = a.1.length := List.length_set
            refine hK1 Y H locs (updV r a.1.length v) ls (v :: S.map r) hI ?_
            unfold x_psh at hP
            dsimp only at hP
            rw [hln] at hP
            obtain ⟨p1, p2, p3, p4, p5⟩ := hP
            refine ⟨p1, p2, p3, fun f hf => ?_, p5⟩
            rcases List.mem_cons.mp hf with e0 | hf
            · rw [e0]
              exact ⟨b, by show updV r a.1.length v o = _; rw [x_up_ag hol]; exact eb, by show x_fv D ci z.2.2 b H = some (updV r a.1.length v a.1.length); rw [x_up_at, x_fv_sl hci]; exact hsl⟩
            · exact p4 f hf
          · cases hy
      · cases hy
    · cases h
  · cases h
theorem x_put_row {Y : xY} {H : Heap} {locs : List Loc} {cells slots : Nat} {ls : Array Slot} {rest : List Value} (hx : p.tables.exec = Jvm.exec) (hb : c.code = cc) (hts : ∀ w ∈ Ts, w.before args s = true) (hown : s.vm.findClass own = some m.cls) (hK : va_K D cl [] s)
    {z : Nat × Nat × Nat} (hp : x_pok cl G Ts s args own meth.name z) (hH : x_H D G Zs U Y H) {b : Nat} (hY : Y b = some z.2.1) (hd : decode cc pc = .ok (.putfield z.1, 3)) {ci : Nat} {fts : List xV} (hg : G[z.2.1]? = some (.inl (ci, fts))) {ft : xV} (hft : fts[z.2.2]? = some ft) {v : Value} (hv : x_c Y ft v)
    (kk : ∀ (H' : Heap) (sl : Nat), H'.size = H.size → (∀ q, q ≠ b → H'[q]? = H[q]?) → x_H D G Zs U Y H' → x_sl D ci z.2.2 b H' = some v → (∀ j, j < fts.length → j ≠ z.2.2 → x_sl D ci j b H' = x_sl D ci j b H) → W p l e R s m args below meth c H' (locs ++ [⟨b, sl⟩]) cells slots Q (F0 m (pc + 3) ls rest)) :
    W p l e R s m args below meth c H locs cells slots Q (F0 m pc ls (v :: .ref b :: rest)) := by
  obtain ⟨ci', fts', C, T, ref, ty, ft', g1, g2, g3, g4, g5, g6, g7, g8, g9, g10, g11⟩ := hp
  cases hg.symm.trans g1
  cases hft.symm.trans g9
  obtain ⟨g, h1, h2⟩ := hH.1 b _ hY
  cases h1.symm.trans g1
  obtain ⟨V, ⟨cell, q1, q2, q3, q4⟩, hV⟩ := h2
  have hap := va_apart (own := own) hts g4 ty g7 g8 hK g2
  obtain ⟨hS, hfc, kC, hkC, hkind⟩ := hK.1 ci _ g2
  obtain ⟨cf, kf, fi, f, hi, hsl⟩ := hS z.2.2 g3
  obtain ⟨n1, n2⟩ := g10 Y v hv
  have hst := (u_facts hfc hkC (u_lays hts g4 g3) hi).1
  have fin : ∀ H' : Heap, H'[b]? = some (cell.setSlot f.slot v) → H'.size = H.size → (∀ q, q ≠ b → H'[q]? = H[q]?) → W p l e R s m args below meth c H' (locs ++ [⟨b, f.slot⟩]) cells slots Q (F0 m (pc + 3) ls rest) := by
    intro H' e1 e2 e3
    rw [hsl] at e1
    have q5 := t_set q4 hap g3 v
    refine kk H' f.slot e2 e3 (hH.put hY e3 g1 ⟨updV V z.2.2 v, ⟨_, e1, q2, q3, q5⟩, fun j fj hj => ?_⟩) ?_ (fun j hj hn => ?_)
    · by_cases ej : j = z.2.2
      · subst ej
        cases hj.symm.trans hft
        rw [x_up_at]; exact hv
      · have : updV V z.2.2 v j = V j := by unfold updV; rw [if_neg ej]
        rw [this]; exact hV j fj hj
    · show (H'[b]?).bind _ = _
      rw [e1]
      have := q5 z.2.2 g3
      rw [x_up_at] at this
      exact this
    · show (H'[b]?).bind _ = (H[b]?).bind _
      rw [e1, q1]
      have h1 := q5 j hj
      have h2 : updV V z.2.2 v j = V j := by unfold updV; rw [if_neg hn]
      rw [h2] at h1
      show (cell.setSlot (D.2 ci z.2.2) v).slots[D.2 ci j]? = cell.slots[D.2 ci j]?
      rw [h1, q4 j hj]
  rcases g11 with hfin | ⟨hfin, hmn, hdecl⟩
  · have hlay := hts _ (g4 _ (u_in_lay g3))
    unfold u_lay at hlay
    rw [if_neg (by rw [hfin]; decide)] at hlay
    have h6 := u_store hfc hkC hkind hlay hi (g7 _ g3) n1 n2
    exact W.putK hx hb (f := f) ⟨hown, g5, ⟨_, _, _, g6 _ hi⟩, hst⟩ (by rw [q2]; exact h6) q1 q3 (by rw [hsl]; exact k2_hasslot (q4 _ g3)) rfl rfl hd fin
  · have hlay := hts _ (g4 _ (u_in_lay g3))
    unfold u_lay at hlay
    rw [if_pos hfin] at hlay
    have hcf : m.cls = cf := by
      obtain ⟨_, _, c', _, _, _, -, -, hf', -, -, -, hown2, -⟩ := Cond.laysFinal_spec hlay
      have e1 : c' = cf := by have := hi.symm.trans hf'; simp at this; exact this.1.symm
      rw [hdecl] at hown2
      rw [← e1]; exact Option.some.inj (hown.symm.trans hown2)
    have h6 := u_fits hfc hkC hkind (Or.inr hlay) hi (g7 _ g3) n1 n2
    exact W.putFinK hx hb hown g5 (g6 _ hi) hst hcf hmn (by rw [q2]; exact h6) q1 q3 (by rw [hsl]; exact k2_hasslot (q4 _ g3)) rfl rfl hd fin
theorem x_dj_ok {Y : xY} {E : List xV} {r : Nat → Value} (h : ∀ (k : Nat) (t : xV), E[k]? = some t → x_c Y t (r k)) {x y bx b2 : Nat} (hd : x_dj E x y = true) (hx : r x = .ref bx) (hy : r y = .ref b2) : bx ≠ b2 := by
  unfold x_dj at hd
  split at hd
  · next u q h1 h2 =>
    have c1 := h x _ h1
    have c2 := h y _ h2
    rw [hx] at c1
    rw [hy] at c2
    rcases c1 with ⟨c1, -⟩ | ⟨b1, t1, c1, c3, c4⟩
    · cases c1
    rcases c2 with ⟨c2, -⟩ | ⟨b3, t2, c2, c5, c6⟩
    · cases c2
    cases c1; cases c2
    intro e0
    subst e0
    cases c4.symm.trans c6
    simp only [List.all_eq_true, Bool.not_eq_true', beq_eq_false_iff_ne] at hd
    exact hd t1 c3 t1 c5 rfl
  · cases hd
/-- a written cell of ours: what is kept since the start -/
theorem x_I.put {Y : xY} {H H' : Heap} {locs : List Loc} {b t sl : Nat} (hY0 : ∀ q u, Y0 q = some u → q < H0.size) (hI : x_I D G Zs U ef Y0 H0 Y H locs) (hY : Y b = some t) (hH : x_H D G Zs U Y H') (hz : H'.size = H.size) (ho : ∀ q, q ≠ b → H'[q]? = H[q]?)
    (hE : ∀ g, Y0 b = some t → G[t]? = some g → match g with
      | .inl o => ∀ k, k < o.2.length → (t, k) ∉ ef → x_sl D o.1 k b H' = x_sl D o.1 k b H
      | .inr _ => (t, 0) ∉ ef → H'[b]? = H[b]?) : x_I D G Zs U ef Y0 H0 Y H' (locs ++ [⟨b, sl⟩]) := by
  obtain ⟨-, i2, i3, i4⟩ := hI
  have hA : (∃ u, Y0 b = some u) ∨ H0.size ≤ b := by
    rcases Nat.lt_or_ge b H0.size with q | q
    · exact Or.inl ⟨t, by rw [← i2 b q]; exact hY⟩
    · exact Or.inr q
  refine ⟨hH, i2, fun a' t' g ha hg => ?_, i4.put hz ho hA⟩
  have k1 := i3 a' t' g ha hg
  by_cases ea : a' = b
  · subst ea
    have e2 : t' = t := by
      have := i2 a' (hY0 _ _ ha)
      rw [hY, ha] at this
      exact (Option.some.inj this).symm
    subst e2
    have k2 := hE g ha hg
    rcases g with o | q
    · intro k hk hn
      rw [k2 k hk hn]; exact k1 k hk hn
    · intro hn
      rw [k2 hn]; exact k1 hn
  · rcases g with o | q
    · intro k hk hn
      show (H'[a']?).bind _ = _
      rw [ho a' ea]; exact k1 k hk hn
    · intro hn
      rw [ho a' ea]; exact k1 hn
theorem x_pf_ok {idx : Nat} (hx : p.tables.exec = Jvm.exec) (hb : c.code = cc) (hts : ∀ w ∈ Ts, w.before args s = true) (hown : s.vm.findClass own = some m.cls) (hK : va_K D cl [] s) (hY0 : ∀ q u, Y0 q = some u → q < H0.size) (hpf : ∀ z ∈ pf, x_pok cl G Ts s args own meth.name z)
    (hd : decode cc pc = .ok (.putfield idx, 3)) (h : x_pf G pf ef a pc idx = some sc) (hs : ∀ q ∈ sc, x_K p l e R s m args below meth c Q D G Zs U ef Y0 H0 nL mu q) : x_K p l e R s m args below meth c Q D G Zs U ef Y0 H0 nL mu (pc, a) := by
  intro Y H locs r ls st hI hC
  unfold x_pf at h
  split at h
  · next v o S hS =>
    split at h
    · next ts tv ho hv =>
      obtain ⟨b, t, eb, ht, hY⟩ := x_ref_at (hC.1 o _ ho) rfl
      obtain ⟨y, hy, hm⟩ := x_all_mem h t ht
      have hK1 := hs y hm
      have hst : st = r v :: .ref b :: S.map r := by rw [hC.2.2.1, hS, List.map_cons, List.map_cons, eb]
      rw [hst]
      have hE : ∀ (k : Nat) (u : xV), (a.1.set o (.inr (.inr (false, [t]))))[k]? = some u → x_c Y u (r k) := x_set_ok hC.1 (Or.inr ⟨b, t, eb, List.mem_cons_self, hY⟩)
      split at hy
      · next ci fts z hg hz =>
        have hzm := List.mem_of_find?_eq_some hz
        have hze := List.find?_some hz
        simp only [Bool.and_eq_true, beq_iff_eq] at hze
        obtain ⟨e1, e2⟩ := hze
        subst e1; subst e2
        split at hy
        · next ft hft =>
          split at hy
          · next hc =>
            cases hy
            obtain ⟨hci, hle, hef⟩ := hc
            refine x_put_row hx hb hts hown hK (hpf z hzm) hI.1 hY hd hg hft (x_le_ok hle (hC.1 v _ hv)) fun H' sl hz1 ho1 hH' hs1 hs2 => ?_
            have hI' : x_I D G Zs U ef Y0 H0 Y H' (locs ++ [⟨b, sl⟩]) := by
              refine hI.put hY0 hY hH' hz1 ho1 (fun g hy0 hg2 => ?_)
              cases hg.symm.trans hg2
              intro k hk hn
              by_cases ek : k = z.2.2
              · subst ek
                rcases hef with h1 | h1
                · obtain ⟨q, q1, q2⟩ := List.any_eq_true.mp h1
                  simp only [Bool.and_eq_true, beq_iff_eq] at q2
                  exact absurd (by rw [← q2.1, ← q2.2]; exact q1) hn
                · obtain ⟨q, q1, q2⟩ := List.any_eq_true.mp h1
                  simp only [beq_iff_eq] at q2
                  obtain ⟨b', f1, f2⟩ := hC.2.2.2.2.2.2 q q1
                  rw [q2, eb] at f1
                  cases f1
                  rw [f2] at hy0; cases hy0
              · exact hs2 k hk ek
            refine hK1 Y H' _ r ls _ hI' ⟨hE, hC.2.1, rfl, fun f hf => ?_, hC.2.2.2.2⟩
            rcases List.mem_cons.mp hf with e0 | hf
            · rw [e0]
              exact ⟨b, eb, by show x_fv D ci z.2.2 b H' = _; rw [x_fv_sl hci]; exact hs1⟩
            · obtain ⟨hfm, hfc⟩ := List.mem_filter.mp hf
              obtain ⟨b', f1, f2⟩ := hC.2.2.2.1 f hfm
              refine ⟨b', f1, ?_⟩
              simp only [Bool.or_eq_true, Bool.and_eq_true, beq_iff_eq, Bool.not_eq_true', beq_eq_false_iff_ne, Nat.blt_eq] at hfc
              rcases hfc with ⟨c1, ⟨c2, c3⟩, c4⟩ | hfc
              · rw [c1, eb] at f1
                cases f1
                rw [c2, x_fv_sl hci] at f2 ⊢
                rw [hs2 _ c4 c3]; exact f2
              · have hne := x_dj_ok hC.1 hfc f1 eb
                show (H'[b']?).bind _ = _
                rw [ho1 b' hne]; exact f2
          · cases hy
        · cases hy
      · cases hy
    · cases h
  · cases h
theorem x_idx {u : Int × Int} {x : Int32} {n : Nat} (hb : x_b u x) (h0 : 0 ≤ u.1) (h1 : u.2 < (n : Int)) : ¬ (x < 0 ∨ n ≤ x.toNatClampNeg) ∧ x.toNatClampNeg < n := by
  have a1 := hb.1; have a2 := hb.2
  have hc : x.toNatClampNeg = x.toInt.toNat := rfl
  have hlt : x.toNatClampNeg < n := by rw [hc]; omega
  refine ⟨fun h => ?_, hlt⟩
  rcases h with h | h
  · rw [Int32.lt_iff_toInt_lt] at h
    have z : (0 : Int32).toInt = 0 := rfl
    omega
  · omega
theorem x_ial_ok {i : Instr} {ty : FieldType → Bool} (hw : x_wf a = true) (hU : U.vm.Alike s.vm)
    (row : ∀ (H : Heap) (locs : List Loc) (cells slots : Nat) (ls : Array Slot) (rest : List Value) (b : Addr) (cell : Cell) (j : Int32) (v : Value) (et : FieldType), ty et = true → H[b]? = some cell → s.isArrayOf cell et → cell.vm ≠ .unknown → ¬ (j < 0 ∨ cell.slots.size ≤ j.toNatClampNeg) → cell.slots[j.toNatClampNeg]? = some v →
      W p l e R s m args below meth c H locs cells slots Q (F0 m (pc + 1) ls (v :: rest)) → W p l e R s m args below meth c H locs cells slots Q (F0 m pc ls (.int j :: .ref b :: rest)))
    (h : x_ial G a pc ty = some sc) (hs : ∀ q ∈ sc, x_K p l e R s m args below meth c Q D G Zs U ef Y0 H0 nL mu q) : x_K p l e R s m args below meth c Q D G Zs U ef Y0 H0 nL mu (pc, a) := by
  intro Y H locs r ls st hI hC
  unfold x_ial at h
  split at h
  · next i o S hS =>
    split at h
    · next ts u ho hi =>
      obtain ⟨b, t, eb, ht, hY⟩ := x_ref_at (hC.1 o _ ho) rfl
      obtain ⟨y, hy, hm⟩ := x_all_mem h t ht
      have hK1 := hs y hm
      obtain ⟨vi, ei, bi⟩ := hC.1 i _ hi
      have hst : st = .int vi :: .ref b :: S.map r := by rw [hC.2.2.1, hS, List.map_cons, List.map_cons, eb, ei]
      rw [hst]
      have hE : ∀ (k : Nat) (u : xV), (a.1.set o (.inr (.inr (false, [t]))))[k]? = some u → x_c Y u (r k) := x_set_ok hC.1 (Or.inr ⟨b, t, eb, List.mem_cons_self, hY⟩)
      have hSl : ∀ k ∈ S, k < a.1.length := fun k hk => (x_wf_spec hw).2.1 k (by rw [hS]; exact List.mem_cons_of_mem _ (List.mem_cons_of_mem _ hk))
      split at hy
      · next et n pre ft hg =>
        split at hy
        · next hc =>
          split at hy
          · next w hwr =>
            obtain ⟨c1, c2, c3⟩ := hc
            obtain ⟨g, h1, h2⟩ := hI.1.1 b _ hY
            cases h1.symm.trans hg
            obtain ⟨cell, q1, q2, q3, q4, q5, q6⟩ := h2
            have hix := x_idx bi c2 c3
            have hln : vi.toNatClampNeg < cell.slots.size := by rw [q4]; exact hix.2
            refine row H locs _ _ ls _ b cell vi cell.slots[vi.toNatClampNeg] et c1 q1 (State.isArrayOf_alike hU q2) q3 (by rw [q4]; exact hix.1) (Array.getElem?_eq_getElem hln) ?_
            have hw2 : x_wf (a.1.set o (.inr (.inr (false, [t]))), a.2) = true := by
              have h3 := hw
              simp only [x_wf, Bool.and_eq_true, List.all_eq_true, Nat.blt_eq, List.length_set] at h3 ⊢
              exact h3
            have hC2 : x_C D Y0 nL mu Y H (a.1.set o (.inr (.inr (false, [t]))), a.2) r ls st := ⟨hE, hC.2⟩
            have hvw : x_c Y w cell.slots[vi.toNatClampNeg] := x_er_ok hwr bi c2 (q6 _ _ (Array.getElem?_eq_getElem hln))
            have hP := hC2.psh hw2 (S := S) (fun k hk => by show k < (a.1.set o _).length; rw [List.length_set]; exact hSl k hk) hvw
            split at hy
            · next huu =>
              have hvn : vi.toNatClampNeg = u.1.toNat := by
                have b1 := bi.1; have b2 := bi.2
                have hcl : vi.toNatClampNeg = vi.toInt.toNat := rfl
                rw [hcl]; omega
              have hfv : x_fv D 1000 u.1.toNat b H = some cell.slots[vi.toNatClampNeg] := by
                unfold x_fv
                rw [q1, if_pos rfl, ← hvn]
                exact Array.getElem?_eq_getElem hln
              split at hy
              · next f hf =>
                cases hy
                have hfm := List.mem_of_find?_eq_some hf
                have hfe := List.find?_some hf
                simp only [Bool.and_eq_true, beq_iff_eq] at hfe
                obtain ⟨f1, f2, f3⟩ := hfe
                obtain ⟨b', g1, g2⟩ := hC.2.2.2.1 f hfm
                rw [f1, eb] at g1
                cases g1
                rw [f2, f3, hfv] at g2
                rw [Option.some.inj g2]
                exact hK1 Y H locs r ls _ hI (hC.env hE (f.2.2.2 :: S))
              · cases hy
                have hlnE : (a.1.set o (.inr (.inr (false, [t])))).length = a.1.length := List.length_set
                refine hK1 Y H locs (updV r a.1.length cell.slots[vi.toNatClampNeg]) ls (cell.slots[vi.toNatClampNeg] :: S.map r) hI ?_
                unfold x_psh at hP
                dsimp only at hP
                rw [hlnE] at hP
                obtain ⟨p1, p2, p3, p4, p5⟩ := hP
                refine ⟨p1, p2, p3, fun f hf => ?_, p5⟩
                rcases List.mem_cons.mp hf with e0 | hf
                · rw [e0]
                  exact ⟨b, by show updV r a.1.length _ o = _; rw [x_up_ag (List.getElem?_eq_some_iff.mp ho).1]; exact eb, by show x_fv D 1000 u.1.toNat b H = some (updV r a.1.length _ a.1.length); rw [x_up_at]; exact hfv⟩
                · exact p4 f hf
            · cases hy
              exact hK1 Y H locs _ ls _ hI hP
          · cases hy
        · cases hy
      · cases hy
    · cases h
  · cases h
theorem x_aln_ok (hw : x_wf a = true) (hx : p.tables.exec = Jvm.exec) (hb : c.code = cc) (hU : U.vm.Alike s.vm) (hd : decode cc pc = .ok (.arraylength, 1))
    (h : x_aln G a pc = some sc) (hs : ∀ q ∈ sc, x_K p l e R s m args below meth c Q D G Zs U ef Y0 H0 nL mu q) : x_K p l e R s m args below meth c Q D G Zs U ef Y0 H0 nL mu (pc, a) := by
  intro Y H locs r ls st hI hC
  unfold x_aln at h
  split at h
  · next o S hS =>
    split at h
    · next ts ho =>
      obtain ⟨b, t, eb, ht, hY⟩ := x_ref_at (hC.1 o _ ho) rfl
      obtain ⟨y, hy, hm⟩ := x_all_mem h t ht
      have hK1 := hs y hm
      have hst : st = .ref b :: S.map r := by rw [hC.2.2.1, hS, List.map_cons, eb]
      rw [hst]
      have hE : ∀ (k : Nat) (u : xV), (a.1.set o (.inr (.inr (false, [t]))))[k]? = some u → x_c Y u (r k) := x_set_ok hC.1 (Or.inr ⟨b, t, eb, List.mem_cons_self, hY⟩)
      have hSl : ∀ k ∈ S, k < a.1.length := fun k hk => (x_wf_spec hw).2.1 k (by rw [hS]; exact List.mem_cons_of_mem _ hk)
      split at hy
      · next et n pre ft hg =>
        split at hy
        · next hn =>
          cases hy
          obtain ⟨g, h1, h2⟩ := hI.1.1 b _ hY
          cases h1.symm.trans hg
          obtain ⟨cell, q1, q2, q3, q4, q5, q6⟩ := h2
          refine W.alen hx hb q1 (State.isArrayOf_alike hU q2) rfl rfl rfl hd ?_
          have hw2 : x_wf (a.1.set o (.inr (.inr (false, [t]))), a.2) = true := by
            have h3 := hw
            simp only [x_wf, Bool.and_eq_true, List.all_eq_true, Nat.blt_eq, List.length_set] at h3 ⊢
            exact h3
          have hC2 : x_C D Y0 nL mu Y H (a.1.set o (.inr (.inr (false, [t]))), a.2) r ls st := ⟨hE, hC.2⟩
          have q4' : cell.slots.size = n := q4
          have hv : (cell.slots.size.toInt32).toInt = (n : Int) := by
            rw [q4']
            exact nI_toInt (by omega)
          exact hK1 Y H locs _ ls _ hI (hC2.psh hw2 (S := S) (fun k hk => by show k < (a.1.set o _).length; rw [List.length_set]; exact hSl k hk) (t := .inl ((n : Int), (n : Int))) (v := .int cell.slots.size.toInt32) ⟨_, rfl, by rw [hv]; exact Int.le_refl _, by rw [hv]; exact Int.le_refl _⟩)
        · cases hy
      · cases hy
    · cases h
  · cases h
end XR
end
section
/-! CONTRACTS: a method's name, code, locals, answer's type; its arguments; its ends (what is known of the arguments behind it, and of the answer); what it may change; frames, locals, cells, slots; the tag that its first argument has behind it, if it makes one. -/
abbrev xM : Type := MethodName × ByteArray × Nat × Option FieldType × List xV × List (List xV × Option xV) × List (Nat × Nat) × (Nat × Nat × Nat × Nat) × Option Nat
def x_rm (M : xM) : Room := { frames := M.2.2.2.2.2.2.2.1.1, cells := M.2.2.2.2.2.2.2.1.2.2.1, slots := M.2.2.2.2.2.2.2.1.2.2.2, locals := M.2.2.2.2.2.2.2.1.2.1 }
abbrev x_args (M : xM) : List xV := M.2.2.2.2.1
abbrev x_outs (M : xM) : List (List xV × Option xV) := M.2.2.2.2.2.1
abbrev x_efs (M : xM) : List (Nat × Nat) := M.2.2.2.2.2.2.1
abbrev x_rt (M : xM) : Option Nat := M.2.2.2.2.2.2.2.2
def x_ret (Y : xY) (o : Option xV) (oc : Option Value) : Prop := match o with
  | none => oc = none
  | some t => ∃ v, oc = some v ∧ x_c Y t v
def x_cs (Y : xY) (ts : List xV) (vs : List Value) : Prop := ts.length = vs.length ∧ ∀ (k : Nat) (t : xV) (v : Value), ts[k]? = some t → vs[k]? = some v → x_c Y t v
def x_ext (rt : Option Nat) (av : List Value) (Y Y' : xY) (sz : Nat) : Prop := match rt with
  | none => ∀ q, q < sz → Y' q = Y q
  | some t => ∃ b : Nat, av[0]? = some (.ref b) ∧ Y' b = some t ∧ ∀ q, q < sz → q ≠ b → Y' q = Y q
def x_Q (D : va_G) (G : List xG) (Zs : List xZ) (U : State) (M : xM) (av : List Value) (Y : xY) : Array Value → State → Outcome → State → Prop := fun _ st oc t =>
  ∃ (v : Option Value) (Y' : xY) (o : List xV × Option xV), oc = .returned v ∧ o ∈ x_outs M ∧ x_ret Y' o.2 v ∧ x_cs Y' o.1 av ∧ x_H D G Zs U Y' t.heap ∧ x_ext (x_rt M) av Y Y' st.heap.size ∧ x_E D G (x_efs M) Y st.heap t.heap ∧ va_F (fun q => (∃ u, Y q = some u) ∨ st.heap.size ≤ q) st t
def x_Met (cl : List vw_C) (G : List xG) (Zs : List xZ) (Tb Nb : List Cond) (M : xM) : Prop := ∀ (l : Launch) (D : va_G) (U : State) (Y : xY) (sz : Nat) (av : List Value), va_K D cl [] U → x_cs Y (x_args M) av →
  Met l M.1 (.code M.1 M.2.1 M.2.2.1 M.2.2.2.1 :: Tb) (x_rm M) (va_Pc av (fun S => S.heap.size = sz ∧ U.vm.Alike S.vm ∧ x_H D G Zs U Y S.heap ∧ ∀ w ∈ Nb, va_Nw w S)) (x_Q D G Zs U M av Y) (x_rm M).cells (x_rm M).slots (fun q => (∃ u, Y q = some u) ∨ sz ≤ q)
/-! bounds that two things tell of one value -/
def x_meet : xV → xV → Option xV
  | .inl p, .inl q => if max p.1 q.1 ≤ min p.2 q.2 then some (.inl (max p.1 q.1, min p.2 q.2)) else none
  | .inr (.inl p), .inr (.inl q) => if max p.1 q.1 ≤ min p.2 q.2 then some (.inr (.inl (max p.1 q.1, min p.2 q.2))) else none
  | .inr (.inr p), .inr (.inr q) => if x_le (.inr (.inr q)) (.inr (.inr p)) then some (.inr (.inr q)) else some (.inr (.inr p))
  | _, _ => none
theorem x_meet_ok {Y : xY} {t u : xV} {v : Value} (h1 : x_c Y t v) (h2 : x_c Y u v) : ∃ w, x_meet t u = some w ∧ x_c Y w v := by
  rcases t with p | p | p <;> rcases u with q | q | q
  · obtain ⟨x, e1, a1, a2⟩ := h1
    obtain ⟨y, e2, b1, b2⟩ := h2
    rw [e1] at e2; cases e2
    refine ⟨.inl (max p.1 q.1, min p.2 q.2), ?_, x, e1, by show max _ _ ≤ _; omega, by show _ ≤ min _ _; omega⟩
    exact if_pos (by omega)
  · obtain ⟨x, e1, -⟩ := h1; obtain ⟨y, e2, -⟩ := h2; rw [e1] at e2; cases e2
  · obtain ⟨x, e1, -⟩ := h1
    rcases h2 with ⟨e2, -⟩ | ⟨b, t, e2, -⟩ <;> rw [e1] at e2 <;> cases e2
  · obtain ⟨x, e1, -⟩ := h1; obtain ⟨y, e2, -⟩ := h2; rw [e1] at e2; cases e2
  · obtain ⟨x, e1, a1, a2⟩ := h1
    obtain ⟨y, e2, b1, b2⟩ := h2
    rw [e1] at e2; cases e2
    refine ⟨.inr (.inl (max p.1 q.1, min p.2 q.2)), ?_, x, e1, by show max _ _ ≤ _; omega, by show _ ≤ min _ _; omega⟩
    exact if_pos (by omega)
  · obtain ⟨x, e1, -⟩ := h1
    rcases h2 with ⟨e2, -⟩ | ⟨b, t, e2, -⟩ <;> rw [e1] at e2 <;> cases e2
  · obtain ⟨x, e2, -⟩ := h2
    rcases h1 with ⟨e1, -⟩ | ⟨b, t, e1, -⟩ <;> rw [e1] at e2 <;> cases e2
  · obtain ⟨x, e2, -⟩ := h2
    rcases h1 with ⟨e1, -⟩ | ⟨b, t, e1, -⟩ <;> rw [e1] at e2 <;> cases e2
  · by_cases hq : x_le (.inr (.inr q)) (.inr (.inr p)) = true
    · exact ⟨_, if_pos hq, h2⟩
    · exact ⟨_, if_neg hq, h1⟩
/-- the numbers of values, each told something more -/
def x_more : List xV → List (Nat × xV) → Option (List xV)
  | E, [] => some E
  | E, (k, t) :: L => match E[k]? with
    | some u => (match x_meet u t with
      | some w => x_more (E.set k w) L
      | none => none)
    | none => none
theorem x_more_len : ∀ {L : List (Nat × xV)} {E E' : List xV}, x_more E L = some E' → E'.length = E.length := by
  intro L
  induction L with
  | nil => intro E E' h; cases h; rfl
  | cons q L ih =>
    intro E E' h
    obtain ⟨k, t⟩ := q
    unfold x_more at h
    split at h
    · split at h
      · rw [ih h, List.length_set]
      · cases h
    · cases h
theorem x_more_ok {Y : xY} {r : Nat → Value} : ∀ {L : List (Nat × xV)} {E : List xV}, (∀ (k : Nat) (t : xV), E[k]? = some t → x_c Y t (r k)) → (∀ q ∈ L, x_c Y q.2 (r q.1)) → (∀ q ∈ L, q.1 < E.length) → ∃ E', x_more E L = some E' ∧ ∀ (k : Nat) (t : xV), E'[k]? = some t → x_c Y t (r k) := by
  intro L
  induction L with
  | nil => intro E h _ _; exact ⟨E, rfl, h⟩
  | cons q L ih =>
    intro E h hL hl
    obtain ⟨k, t⟩ := q
    have hk : k < E.length := hl _ List.mem_cons_self
    have hu : E[k]? = some E[k] := List.getElem?_eq_getElem hk
    obtain ⟨w, e1, e2⟩ := x_meet_ok (h k _ hu) (hL _ List.mem_cons_self)
    obtain ⟨E', e3, e4⟩ := ih (E := E.set k w) (x_set_ok h e2) (fun q hq => hL q (List.mem_cons_of_mem _ hq)) (fun q hq => by rw [List.length_set]; exact hl q (List.mem_cons_of_mem _ hq))
    refine ⟨E', ?_, e4⟩
    unfold x_more
    rw [hu]
    dsimp only
    rw [e1]
    exact e3
/-- what differences tell of their two values -/
def x_shft (t : xV) (c : Int) (u : xV) : Option xV := match t, u with
  | .inl p, .inl _ => some (.inl (p.1 + c, p.2 + c))
  | .inl p, .inr (.inl _) => some (.inr (.inl (p.1 + c, p.2 + c)))
  | .inr (.inl p), .inl _ => some (.inl (p.1 + c, p.2 + c))
  | .inr (.inl p), .inr (.inl _) => some (.inr (.inl (p.1 + c, p.2 + c)))
  | _, _ => none
def x_facts (E : List xV) (d : Nat × Nat × Int) : List (Nat × xV) := match E[d.1]?, E[d.2.1]? with
  | some t, some u => (match x_shft u d.2.2 t, x_shft t (-d.2.2) u with
    | some w, some z => [(d.1, w), (d.2.1, z)]
    | _, _ => [])
  | _, _ => []
def x_tight : List xV → List (Nat × Nat × Int) → Option (List xV)
  | E, [] => some E
  | E, d :: L => match x_more E (x_facts E d) with
    | some E' => x_tight E' L
    | none => none
theorem x_shft_ok {Y : xY} {t u w : xV} {c : Int} {vt vu : Value} {x y : Int} (h : x_shft t c u = some w) (ht : x_c Y t vt) (hu : x_c Y u vu) (hx : x_num vt = some x) (hy : x_num vu = some y) (e : y = x + c) : x_c Y w vu := by
  rcases t with p | p | p <;> rcases u with q | q | q <;> unfold x_shft at h <;> first | (cases h; done) | (dsimp only at h; cases h)
  all_goals
    obtain ⟨a, ea, a1, a2⟩ := ht
    obtain ⟨b, eb, b1, b2⟩ := hu
    rw [ea] at hx
    rw [eb] at hy
    cases hx; cases hy
    exact ⟨b, eb, by show _ + c ≤ _; omega, by show _ ≤ _ + c; omega⟩
theorem x_tight_len : ∀ {L : List (Nat × Nat × Int)} {E E' : List xV}, x_tight E L = some E' → E'.length = E.length := by
  intro L
  induction L with
  | nil => intro E E' h; cases h; rfl
  | cons d L ih =>
    intro E E' h
    unfold x_tight at h
    split at h
    · next E1 h1 => rw [ih h, x_more_len h1]
    · cases h
theorem x_tight_ok {Y : xY} {r : Nat → Value} : ∀ {L : List (Nat × Nat × Int)} {E : List xV}, (∀ (k : Nat) (t : xV), E[k]? = some t → x_c Y t (r k)) → (∀ d ∈ L, x_dif r d) → ∃ E', x_tight E L = some E' ∧ ∀ (k : Nat) (t : xV), E'[k]? = some t → x_c Y t (r k) := by
  intro L
  induction L with
  | nil => intro E h _; exact ⟨E, rfl, h⟩
  | cons d L ih =>
    intro E h hL
    have hd := hL d List.mem_cons_self
    obtain ⟨x, y, d1, d2, d3⟩ := hd
    have key : (∀ q ∈ x_facts E d, x_c Y q.2 (r q.1)) ∧ (∀ q ∈ x_facts E d, q.1 < E.length) := by
      unfold x_facts
      split
      · next t u ht hu =>
        split
        · next w z hw hz =>
          have c1 := x_shft_ok hw (h _ _ hu) (h _ _ ht) d2 d1 d3
          have c2 := x_shft_ok hz (h _ _ ht) (h _ _ hu) d1 d2 (by omega)
          refine ⟨fun q hq => ?_, fun q hq => ?_⟩
          · rcases List.mem_cons.mp hq with e0 | hq
            · rw [e0]; exact c1
            · rcases List.mem_cons.mp hq with e0 | hq
              · rw [e0]; exact c2
              · cases hq
          · rcases List.mem_cons.mp hq with e0 | hq
            · rw [e0]; exact (List.getElem?_eq_some_iff.mp ht).1
            · rcases List.mem_cons.mp hq with e0 | hq
              · rw [e0]; exact (List.getElem?_eq_some_iff.mp hu).1
              · cases hq
        · exact ⟨fun q hq => (by cases hq), fun q hq => (by cases hq)⟩
      · exact ⟨fun q hq => (by cases hq), fun q hq => (by cases hq)⟩
    obtain ⟨E1, e1, e2⟩ := x_more_ok h key.1 key.2
    obtain ⟨E2, e3, e4⟩ := ih e2 (fun q hq => hL q (List.mem_cons_of_mem _ hq))
    refine ⟨E2, ?_, e4⟩
    unfold x_tight
    rw [e1]
    exact e3
/-! a call that a method's code names: its kind (0 virtual, 1 static, 2 special), pool number, how many values it takes, the receiver's tag if that matters, the contract -/
abbrev xCl : Type := Nat × Nat × Nat × Option Nat × xM
def x_ins (kind idx : Nat) : Instr := if kind = 0 then .invokevirtual idx else if kind = 1 then .invokestatic idx else .invokespecial idx
def x_fitA (E : List xV) : List Nat → List xV → Bool
  | [], [] => true
  | k :: ks, t :: ts => (match E[k]? with
    | some u => x_le u t
    | none => false) && x_fitA E ks ts
  | _, _ => false
theorem x_fitA_ok {Y : xY} {E : List xV} {r : Nat → Value} (h : ∀ (k : Nat) (t : xV), E[k]? = some t → x_c Y t (r k)) : ∀ {ks : List Nat} {ts : List xV}, x_fitA E ks ts = true → x_cs Y ts (ks.map r) ∧ ∀ k ∈ ks, k < E.length := by
  intro ks
  induction ks with
  | nil =>
    intro ts hf
    cases ts with
    | nil => exact ⟨⟨rfl, fun k t v h1 => by simp at h1⟩, fun k hk => by cases hk⟩
    | cons t ts => cases hf
  | cons k ks ih =>
    intro ts hf
    cases ts with
    | nil => cases hf
    | cons t ts =>
      unfold x_fitA at hf
      rw [Bool.and_eq_true] at hf
      obtain ⟨h1, h2⟩ := hf
      obtain ⟨⟨i1, i2⟩, i3⟩ := ih h2
      split at h1
      · next u hu =>
        refine ⟨⟨by simp [i1], fun j w v hj hv => ?_⟩, fun j hj => ?_⟩
        · cases j with
          | zero =>
            rw [List.getElem?_cons_zero] at hj
            rw [List.map_cons, List.getElem?_cons_zero] at hv
            cases hj; cases hv
            exact x_le_ok h1 (h k u hu)
          | succ j =>
            rw [List.getElem?_cons_succ] at hj
            rw [List.map_cons, List.getElem?_cons_succ] at hv
            exact i2 j w v hj hv
        · rcases List.mem_cons.mp hj with e0 | hj
          · rw [e0]; exact (List.getElem?_eq_some_iff.mp hu).1
          · exact i3 j hj
      · cases h1
/-- a known field that a callee leaves alone -/
def x_keep (G : List xG) (E : List xV) (ef : List (Nat × Nat)) (f : Nat × Nat × Nat × Nat) : Bool := match E[f.1]? with
  | some (.inr (.inr q)) => q.2.all (fun t => match G[t]? with
    | some (.inl o) => (!(f.2.1 == 1000) && (o.1 == f.2.1)) && (Nat.blt f.2.2.1 o.2.length && !(ef.any (fun z => z.1 == t && z.2 == f.2.2.1)))
    | some (.inr _) => !(ef.any (fun z => z.1 == t && z.2 == 0))
    | none => false)
  | _ => false
def x_noraw (E : List xV) (k0 raw : Nat) : Bool := (List.range E.length).all (fun j => j == k0 || (match E[j]? with
  | some (.inr (.inr q)) => q.2.all (fun t => !(t == raw))
  | _ => true))
def x_out (G : List xG) (a : xS) (pc : Nat) (ks S : List Nat) (M : xM) (o : List xV × Option xV) : Option (List (Nat × xS)) := match x_rt M with
  | none => (match x_more a.1 (ks.zip o.1) with
    | none => some []
    | some E1 => (match x_tight E1 a.2.2.2.2.1 with
      | none => some []
      | some E2 => (let b : xS := (E2, a.2.1, S, a.2.2.2.1.filter (x_keep G E2 (x_efs M)), a.2.2.2.2.1, a.2.2.2.2.2.1, a.2.2.2.2.2.2.1, x_cells a + (x_rm M).cells, x_slots a + (x_rm M).slots)
        match o.2 with
        | none => some [(pc + 3, b)]
        | some t => some [(pc + 3, x_psh b S t)])))
  | some t' => (match ks with
    | k0 :: _ => (match a.1[k0]? with
      | some (.inr (.inr (false, [raw]))) => if x_noraw a.1 k0 raw = true ∧ a.2.2.2.2.2.2.1.any (fun k => k == k0) = true ∧ o.2 = none then
          some [(pc + 3, (a.1.set k0 (.inr (.inr (false, [t']))), a.2.1, S, a.2.2.2.1.filter (fun f => !(f.1 == k0) && x_keep G a.1 (x_efs M) f), a.2.2.2.2.1, a.2.2.2.2.2.1, a.2.2.2.2.2.2.1, x_cells a + (x_rm M).cells, x_slots a + (x_rm M).slots))] else none
      | _ => none)
    | _ => none)
def x_ct (E : List xV) (S : List Nat) : Nat := (S.map (fun k => if x_n2 E k then 1 else 2)).sum
def x_call1 (G : List xG) (ef : List (Nat × Nat)) (cs : List xCl) (mc ms : Nat) (a : xS) (pc kind idx : Nat) (rt : Option Nat) (ks S : List Nat) : Option (List (Nat × xS)) :=
  match cs.find? (fun z => z.1 == kind && (z.2.1 == idx && (z.2.2.1 == ks.length && (z.2.2.2.1 == rt && x_fitA a.1 ks (x_args z.2.2.2.2))))) with
  | some z => if x_cells a + (x_rm z.2.2.2.2).cells ≤ mc ∧ x_slots a + (x_rm z.2.2.2.2).slots ≤ ms ∧ (x_efs z.2.2.2.2).all (fun q => ef.any (fun u => q.1 == u.1 && q.2 == u.2)) = true then (match x_all (x_out G a pc ks S z.2.2.2.2) (x_outs z.2.2.2.2) with
      | some ys => some ys.flatten
      | none => none) else none
  | none => none
def x_call (G : List xG) (ef : List (Nat × Nat)) (cs : List xCl) (mc ms : Nat) (a : xS) (pc kind idx : Nat) : xN :=
  match cs.find? (fun z => z.1 == kind && z.2.1 == idx) with
  | some z0 => (let ks := (a.2.2.1.take z0.2.2.1).reverse
    let S := a.2.2.1.drop z0.2.2.1
    if z0.2.2.1 ≤ a.2.2.1.length ∧ x_ct a.1 S ≤ 8 then (match z0.2.2.2.1 with
      | none => x_call1 G ef cs mc ms a pc kind idx none ks S
      | some _ => (match ks with
        | o :: _ => (match a.1[o]? with
          | some (.inr (.inr (false, ts))) => (match x_all (fun (t : Nat) => x_call1 G ef cs mc ms (a.1.set o (.inr (.inr (false, [t]))), a.2) pc kind idx (some t) ks S) ts with
            | some ys => some ys.flatten
            | none => none)
          | _ => none)
        | _ => none)) else none)
  | none => none
section XL
variable {p : Program} {l : Launch} {e : Env} {R : Room} {s : State} {m : MethodId} {args : Array Value} {below : List Frame} {meth : Method} {c : Code} {Q : State → Prop}
variable {D : va_G} {G : List xG} {Zs : List xZ} {U : State} {ef : List (Nat × Nat)} {Y0 : xY} {H0 : Heap} {nL : Nat} {mu : List Value}
variable {cc : ByteArray} {pc : Nat} {a : xS} {sc : List (Nat × xS)} {cs : List xCl}
variable (p l e R s m args below meth c D G Zs U nL cc) in
/-- a call runs by its contract, from every state -/
def x_cok (z : xCl) : Prop := ∀ (H : Heap) (locs : List Loc) (cells slots pc : Nat) (ls : Array Slot) (rest av : List Value) (Y : xY), decode cc pc = .ok (x_ins z.1 z.2.1, 3) → ls.size = nL → (rest.map fun v => v.category).sum ≤ 8 →
  cells + (x_rm z.2.2.2.2).cells ≤ R.cells → slots + (x_rm z.2.2.2.2).slots ≤ R.slots → x_H D G Zs U Y H → x_cs Y (x_args z.2.2.2.2) av → av.length = z.2.2.1 → (∀ t, z.2.2.2.1 = some t → ∃ b : Nat, av[0]? = some (.ref b) ∧ Y b = some t) →
  va_Run p l e R s m args below meth c H locs cells slots (x_rm z.2.2.2.2).cells (x_rm z.2.2.2.2).slots (F0 m pc ls (av.reverse ++ rest)) rest (x_Q D G Zs U z.2.2.2.2 av Y av.toArray) (fun q => (∃ u, Y q = some u) ∨ H.size ≤ q)
theorem x_call_row {H : Heap} {locs : List Loc} {cells slots mc ms : Nat} {g : JFrame} {rest : List Value} {Qa : State → Outcome → State → Prop} {free : Addr → Prop} (hr : va_Run p l e R s m args below meth c H locs cells slots mc ms g rest Qa free)
    (kk : ∀ (v : Option Value) (st₀ t : State) (L : List Loc), st₀.heap = H → (∀ q ∈ L, free q.base) → Qa st₀ (.returned v) t → W p l e R s m args below meth c t.heap (locs ++ L) (cells + mc) (slots + ms) Q { g with pc := g.pc + 3, stack := v.toList ++ rest }) : W p l e R s m args below meth c H locs cells slots Q g := by
  intro T hT X
  obtain ⟨v, st₀, t, T', L, h0, X', hL, e1, e2, hq, st⟩ := hr T hT X
  obtain ⟨t2, a1, b1⟩ := kk v st₀ t L h0 hL hq T' e1 X'
  exact ⟨t2, st t2 a1, b1⟩
theorem x_keep_ok {Y : xY} {H H1 : Heap} {E : List xV} {r : Nat → Value} {ef' : List (Nat × Nat)} {f : Nat × Nat × Nat × Nat} (hk : x_keep G E ef' f = true) (hE : x_E D G ef' Y H H1)
    {b : Nat} (hb : r f.1 = .ref b) (h : ∀ (t : xV), E[f.1]? = some t → ∃ u, u ∈ (match t with
      | .inr (.inr q) => q.2
      | _ => []) ∧ Y b = some u) : x_fv D f.2.1 f.2.2.1 b H1 = x_fv D f.2.1 f.2.2.1 b H := by
  unfold x_keep at hk
  split at hk
  · next q hq =>
    obtain ⟨t, ht, hY⟩ := h _ hq
    have h1 := List.all_eq_true.mp hk t ht
    split at h1
    · next o ho =>
      simp only [Bool.and_eq_true, beq_iff_eq, Nat.blt_eq, Bool.not_eq_true', List.any_eq_false, beq_eq_false_iff_ne] at h1
      obtain ⟨⟨q0, q1⟩, q2, q3⟩ := h1
      have h2 := hE b t _ hY ho f.2.2.1 q2 (fun hz => q3 _ hz ⟨rfl, rfl⟩)
      rw [q1] at h2
      rw [x_fv_sl q0, x_fv_sl q0]
      exact h2
    · next o ho =>
      simp only [Bool.and_eq_true, beq_iff_eq, Bool.not_eq_true', List.any_eq_false] at h1
      have h2 := hE b t _ hY ho (fun hz => h1 _ hz ⟨rfl, rfl⟩)
      unfold x_fv
      rw [h2]
    · cases h1
  · cases hk
theorem x_ct_ok {Y : xY} {E : List xV} {r : Nat → Value} (h : ∀ (k : Nat) (t : xV), E[k]? = some t → x_c Y t (r k)) : ∀ S : List Nat, ((S.map r).map fun v => v.category).sum ≤ x_ct E S := by
  intro S
  induction S with
  | nil => exact Nat.le_refl _
  | cons k S ih =>
    show (r k).category + ((S.map r).map fun v => v.category).sum ≤ (if x_n2 E k then 1 else 2) + x_ct E S
    have : (r k).category ≤ (if x_n2 E k then 1 else 2) := by
      split
      · next hn => rw [x_n2_ok h hn]; exact Nat.le_refl 1
      · rcases lv_cat (r k) with q | q <;> rw [q] <;> decide
    omega
theorem x_call1_ok {kind idx : Nat} {rt : Option Nat} {ks S : List Nat} (hw : x_wf a = true) (hY0 : ∀ q u, Y0 q = some u → q < H0.size) (hcs : ∀ z ∈ cs, x_cok p l e R s m args below meth c D G Zs U nL cc z) (hd : decode cc pc = .ok (x_ins kind idx, 3))
    {mc ms : Nat} (hmc : mc ≤ R.cells) (hms : ms ≤ R.slots) (hS : a.2.2.1 = ks.reverse ++ S) (hct : x_ct a.1 S ≤ 8)
    (h : x_call1 G ef cs mc ms a pc kind idx rt ks S = some sc) (hs : ∀ q ∈ sc, x_K p l e R s m args below meth c Q D G Zs U ef Y0 H0 nL mu q) {Y : xY} {H : Heap} {locs : List Loc} {r : Nat → Value} {ls : Array Slot} {st : List Value}
    (hI : x_I D G Zs U ef Y0 H0 Y H locs) (hC : x_C D Y0 nL mu Y H a r ls st) (hrt : ∀ t, rt = some t → ∃ b : Nat, (ks.map r)[0]? = some (.ref b) ∧ Y b = some t) : W p l e R s m args below meth c H locs (x_cells a) (x_slots a) Q (F0 m pc ls st) := by
  unfold x_call1 at h
  split at h
  · next z hz =>
    have hzm := List.mem_of_find?_eq_some hz
    have hze := List.find?_some hz
    simp only [Bool.and_eq_true, beq_iff_eq] at hze
    obtain ⟨z1, z2, z3, z4, z5⟩ := hze
    split at h
    · next hc =>
      obtain ⟨c1, c2, c3⟩ := hc
      split at h
      · next ys hys =>
        cases h
        obtain ⟨hav, hkl⟩ := x_fitA_ok hC.1 z5
        have hst : st = (ks.map r).reverse ++ S.map r := by rw [hC.2.2.1, hS, List.map_append, List.map_reverse]
        rw [hst]
        refine x_call_row (hcs z hzm H locs _ _ pc ls (S.map r) (ks.map r) Y (by rw [z1, z2]; exact hd) hC.2.1.1 (Nat.le_trans (x_ct_ok hC.1 S) hct) (Nat.le_trans c1 hmc) (Nat.le_trans c2 hms) hI.1 hav (by rw [z3, List.length_map]) (fun t ht => hrt t (by rw [← z4]; exact ht))) fun v st₀ t L h0 hL hq => ?_
        obtain ⟨v', Y', o, e0, ho, hret, hcs', hH', hext, hE', hF⟩ := hq
        cases e0
        obtain ⟨y, hy, hym⟩ := x_all_mem hys o ho
        have hs' : ∀ q ∈ y, x_K p l e R s m args below meth c Q D G Zs U ef Y0 H0 nL mu q := fun q hq => hs q (List.mem_flatten.mpr ⟨y, hym, hq⟩)
        rw [h0] at hext hE' hF
        obtain ⟨hF1, hF2⟩ := hF
        rw [h0] at hF1
        have hefs : ∀ x ∈ x_efs z.2.2.2.2, x ∈ ef := fun x hx => by
          have h1 := List.all_eq_true.mp c3 x hx
          obtain ⟨u, hu, he⟩ := List.any_eq_true.mp h1
          simp only [Bool.and_eq_true, beq_iff_eq] at he
          have : x = u := Prod.ext he.1 he.2
          rw [this]; exact hu
        have hYY : ∀ q u, Y0 q = some u → Y q = some u := fun q u hq => by rw [hI.2.1 q (hY0 q u hq)]; exact hq
        have hsz : H0.size ≤ H.size := hI.2.2.2.1
        have hI' : (∀ q, q < H0.size → Y' q = Y0 q) → x_I D G Zs U ef Y0 H0 Y' t.heap (locs ++ L) := by
          intro hq0
          have hA : ∀ q, q < H.size → ((∃ u, Y q = some u) ∨ H.size ≤ q) → (∃ u, Y0 q = some u) ∨ H0.size ≤ q := fun q hq hz => by
            rcases Nat.lt_or_ge q H0.size with k | k
            · rcases hz with ⟨u, hu⟩ | hz
              · exact Or.inl ⟨u, by rw [← hI.2.1 q k]; exact hu⟩
              · omega
            · exact Or.inr k
          refine ⟨hH', hq0, hI.2.2.1.trans hE' hYY hefs, Nat.le_trans hsz hF1, fun q q1 q2 => ?_, fun q hq => ?_⟩
          · have hqH : q < H.size := Nat.lt_of_lt_of_le q1 hsz
            rw [hF2 q (by rw [h0]; exact hqH) (fun z => q2 (hA q hqH z)), h0]
            exact hI.2.2.2.2.1 q q1 q2
          · rcases List.mem_append.mp hq with hq | hq
            · exact hI.2.2.2.2.2 q hq
            · rcases Nat.lt_or_ge q.base H.size with k | k
              · exact hA _ k (hL q hq)
              · exact Or.inr (Nat.le_trans hsz k)
        unfold x_out at hy
        split at hy
        · next hrt0 =>
          unfold x_ext at hext
          rw [hrt0] at hext
          dsimp only at hext
          have hmon : ∀ q u, Y q = some u → Y' q = some u := fun q u hq => by rw [hext q (hI.1.lt hq)]; exact hq
          have hI2 := hI' (fun q hq => by rw [hext q (Nat.lt_of_lt_of_le hq hsz)]; exact hI.2.1 q hq)
          have hE1 : ∀ (k : Nat) (t : xV), a.1[k]? = some t → x_c Y' t (r k) := fun k t hk => (hC.1 k t hk).mono hmon
          have hzip : ∀ q ∈ ks.zip o.1, x_c Y' q.2 (r q.1) := by
            intro q hq
            obtain ⟨j, hj⟩ := List.getElem?_of_mem hq
            rw [List.getElem?_zip_eq_some] at hj
            exact hcs'.2 j q.2 (r q.1) hj.2 (by rw [List.getElem?_map, hj.1]; rfl)
          obtain ⟨E1, m1, m2⟩ := x_more_ok hE1 hzip (fun q hq => hkl q.1 (List.of_mem_zip hq).1)
          rw [m1] at hy
          dsimp only at hy
          obtain ⟨E2, n1, n2⟩ := x_tight_ok m2 hC.2.2.2.2.1
          rw [n1] at hy
          dsimp only at hy
          have hl2 : E2.length = a.1.length := by rw [x_tight_len n1, x_more_len m1]
          have hCb : x_C D Y0 nL mu Y' t.heap (E2, a.2.1, S, a.2.2.2.1.filter (x_keep G E2 (x_efs z.2.2.2.2)), a.2.2.2.2.1, a.2.2.2.2.2.1, a.2.2.2.2.2.2.1, x_cells a + (x_rm z.2.2.2.2).cells, x_slots a + (x_rm z.2.2.2.2).slots) r ls (S.map r) := by
            refine ⟨n2, hC.2.1, rfl, fun f hf => ?_, hC.2.2.2.2.1, hC.2.2.2.2.2.1, hC.2.2.2.2.2.2⟩
            obtain ⟨f1, f2⟩ := List.mem_filter.mp hf
            obtain ⟨b, b1, b2⟩ := hC.2.2.2.1 f f1
            refine ⟨b, b1, ?_⟩
            have hbs : b < H.size := by
              have : (x_fv D f.2.1 f.2.2.1 b H).isSome := by rw [b2]; rfl
              unfold x_fv at this
              cases hh : H[b]? with
              | none => rw [hh] at this; cases this
              | some w => exact (Array.getElem?_eq_some_iff.mp hh).1
            show x_fv D f.2.1 f.2.2.1 b t.heap = _
            rw [x_keep_ok f2 hE' b1 (fun tt htt => ?_)]
            · exact b2
            · have hcq := n2 _ _ htt
              rw [b1] at hcq
              rcases tt with q | q | q
              · obtain ⟨x, hx0, -⟩ := hcq; cases hx0
              · obtain ⟨x, hx0, -⟩ := hcq; cases hx0
              · rcases hcq with ⟨hcq, -⟩ | ⟨b', uu, hcq, huu, hYt⟩
                · cases hcq
                · cases hcq
                  exact ⟨uu, huu, by rw [← hext b hbs]; exact hYt⟩
          split at hy
          · next hr0 =>
            cases hy
            rw [hr0] at hret
            cases hret
            exact hs' _ List.mem_cons_self Y' t.heap _ r ls _ hI2 hCb
          · next tr hr0 =>
            cases hy
            rw [hr0] at hret
            obtain ⟨w, hw1, hw2⟩ := hret
            cases hw1
            have hwb : x_wf (E2, a.2.1, S, a.2.2.2.1.filter (x_keep G E2 (x_efs z.2.2.2.2)), a.2.2.2.2.1, a.2.2.2.2.2.1, a.2.2.2.2.2.2.1, x_cells a + (x_rm z.2.2.2.2).cells, x_slots a + (x_rm z.2.2.2.2).slots) = true := by
              have h3 := hw
              simp only [x_wf, Bool.and_eq_true, List.all_eq_true, Nat.blt_eq, hl2] at h3 ⊢
              refine ⟨h3.1, fun k hk => h3.2.1 k (by rw [hS]; exact List.mem_append_right _ hk), fun f hf => h3.2.2.1 f (List.mem_filter.mp hf).1, h3.2.2.2⟩
            have hSl : ∀ k ∈ S, k < E2.length := fun k hk => by rw [hl2]; exact (x_wf_spec hw).2.1 k (by rw [hS]; exact List.mem_append_right _ hk)
            exact hs' _ List.mem_cons_self Y' t.heap _ _ ls _ hI2 (hCb.psh hwb hSl hw2)
        · next t' hrt0 =>
          unfold x_ext at hext
          rw [hrt0] at hext
          dsimp only at hext
          split at hy
          · next k0 ks' =>
            split at hy
            · next raw hk0 =>
              split at hy
              · next hcc =>
                obtain ⟨d1, d2, d3⟩ := hcc
                cases hy
                rw [d3] at hret
                cases hret
                obtain ⟨b, x1, x2, x3⟩ := hext
                have x1 : r k0 = .ref b := Option.some.inj x1
                obtain ⟨k', hk', he'⟩ := List.any_eq_true.mp d2
                simp only [beq_iff_eq] at he'
                obtain ⟨b', y1, y2⟩ := hC.2.2.2.2.2.2 k' hk'
                rw [he', x1] at y1
                cases y1
                have hraw : Y b = some raw := by
                  have := hC.1 _ _ hk0
                  rw [x1] at this
                  rcases this with ⟨this, -⟩ | ⟨b', tt, this, htt, hYt⟩
                  · cases this
                  cases this
                  rcases List.mem_cons.mp htt with e0 | e0
                  · rw [← e0]; exact hYt
                  · cases e0
                have hbH : b < H.size := hI.1.lt hraw
                have hb0 : H0.size ≤ b := by
                  rcases Nat.lt_or_ge b H0.size with k | k
                  · have := hI.2.1 b k
                    rw [hraw, y2] at this; cases this
                  · exact k
                have hI2 := hI' (fun q hq => by rw [x3 q (Nat.lt_of_lt_of_le hq hsz) (by omega)]; exact hI.2.1 q hq)
                have hoth : ∀ (j : Nat) (u : xV), j ≠ k0 → a.1[j]? = some u → x_c Y' u (r j) := by
                  intro j u hj hu
                  have hc0 := hC.1 j u hu
                  rcases u with q | q | q
                  · exact hc0
                  · exact hc0
                  · rcases hc0 with hc0 | ⟨b2, tt, g1, g2, g3⟩
                    · exact Or.inl hc0
                    · refine Or.inr ⟨b2, tt, g1, g2, ?_⟩
                      have hne : b2 ≠ b := by
                        intro e0
                        subst e0
                        cases g3.symm.trans hraw
                        have h9 := List.all_eq_true.mp d1 j (List.mem_range.mpr (List.getElem?_eq_some_iff.mp hu).1)
                        rw [hu] at h9
                        simp only [Bool.or_eq_true, beq_iff_eq, List.all_eq_true, Bool.not_eq_true', beq_eq_false_iff_ne] at h9
                        rcases h9 with h9 | h9
                        · exact hj h9
                        · exact h9 _ g2 rfl
                      rw [x3 b2 (hI.1.lt g3) hne]; exact g3
                refine hs' _ List.mem_cons_self Y' t.heap _ r ls _ hI2 ⟨fun k u hk => ?_, hC.2.1, rfl, fun f hf => ?_, hC.2.2.2.2.1, hC.2.2.2.2.2.1, hC.2.2.2.2.2.2⟩
                · rw [List.getElem?_set] at hk
                  split at hk
                  · next e0 =>
                    split at hk
                    · cases hk
                      rw [← e0, x1]
                      exact Or.inr ⟨b, t', rfl, List.mem_cons_self, x2⟩
                    · cases hk
                  · next e0 => exact hoth k u (Ne.symm e0) hk
                · obtain ⟨f1, f2⟩ := List.mem_filter.mp hf
                  simp only [Bool.and_eq_true, Bool.not_eq_true', beq_eq_false_iff_ne] at f2
                  obtain ⟨b2, g1, g2⟩ := hC.2.2.2.1 f f1
                  refine ⟨b2, g1, ?_⟩
                  show x_fv D f.2.1 f.2.2.1 b2 t.heap = _
                  rw [x_keep_ok f2.2 hE' g1 (fun tt htt => ?_)]
                  · exact g2
                  · have hcq := hC.1 _ _ htt
                    rw [g1] at hcq
                    rcases tt with q | q | q
                    · obtain ⟨x, hx0, -⟩ := hcq; cases hx0
                    · obtain ⟨x, hx0, -⟩ := hcq; cases hx0
                    · rcases hcq with ⟨hcq, -⟩ | ⟨b', uu, hcq, huu, hYt⟩
                      · cases hcq
                      · cases hcq
                        exact ⟨uu, huu, hYt⟩
              · cases hy
            · cases hy
          · cases hy
      · cases h
    · cases h
  · cases h
theorem x_call_ok {kind idx : Nat} (hw : x_wf a = true) (hY0 : ∀ q u, Y0 q = some u → q < H0.size) (hcs : ∀ z ∈ cs, x_cok p l e R s m args below meth c D G Zs U nL cc z) (hd : decode cc pc = .ok (x_ins kind idx, 3))
    {mc ms : Nat} (hmc : mc ≤ R.cells) (hms : ms ≤ R.slots) (h : x_call G ef cs mc ms a pc kind idx = some sc) (hs : ∀ q ∈ sc, x_K p l e R s m args below meth c Q D G Zs U ef Y0 H0 nL mu q) : x_K p l e R s m args below meth c Q D G Zs U ef Y0 H0 nL mu (pc, a) := by
  intro Y H locs r ls st hI hC
  unfold x_call at h
  split at h
  · next z0 hz0 =>
    dsimp only at h
    split at h
    · next hc =>
      have hS : a.2.2.1 = ((a.2.2.1.take z0.2.2.1).reverse).reverse ++ a.2.2.1.drop z0.2.2.1 := by rw [List.reverse_reverse, List.take_append_drop]
      split at h
      · exact x_call1_ok hw hY0 hcs hd hmc hms hS hc.2 h hs hI hC (fun t ht => by cases ht)
      · split at h
        · next o ks' hks =>
          split at h
          · next ts ho =>
            split at h
            · next ys hys =>
              cases h
              obtain ⟨b, t, eb, ht, hY⟩ := x_ref_at (hC.1 o _ ho) rfl
              obtain ⟨y, hy, hym⟩ := x_all_mem hys t ht
              have hE : ∀ (k : Nat) (u : xV), (a.1.set o (.inr (.inr (false, [t]))))[k]? = some u → x_c Y u (r k) := x_set_ok hC.1 (Or.inr ⟨b, t, eb, List.mem_cons_self, hY⟩)
              have hw2 : x_wf (a.1.set o (.inr (.inr (false, [t]))), a.2) = true := by
                have h3 := hw
                simp only [x_wf, Bool.and_eq_true, List.all_eq_true, Nat.blt_eq, List.length_set] at h3 ⊢
                exact h3
              have hC2 : x_C D Y0 nL mu Y H (a.1.set o (.inr (.inr (false, [t]))), a.2) r ls st := ⟨hE, hC.2⟩
              have hct2 : x_ct (a.1.set o (.inr (.inr (false, [t])))) (a.2.2.1.drop z0.2.2.1) ≤ 8 := by
                refine Nat.le_trans (Nat.le_of_eq ?_) hc.2
                unfold x_ct
                congr 1
                refine List.map_congr_left fun k _ => ?_
                have : x_n2 (a.1.set o (.inr (.inr (false, [t])))) k = x_n2 a.1 k := by
                  unfold x_n2
                  by_cases e0 : o = k
                  · subst e0
                    rw [List.getElem?_set, if_pos rfl, if_pos (List.getElem?_eq_some_iff.mp ho).1, ho]
                  · rw [List.getElem?_set, if_neg e0]
                rw [this]
              refine x_call1_ok (a := (a.1.set o (.inr (.inr (false, [t]))), a.2)) hw2 hY0 hcs hd hmc hms hS hct2 hy (fun q hq => hs q (List.mem_flatten.mpr ⟨y, hym, hq⟩)) hI hC2 (fun t' ht' => ?_)
              cases ht'
              refine ⟨b, ?_, hY⟩
              rw [hks]
              show some (r o) = _
              rw [eb]
            · cases h
          · cases h
        · cases h
    · cases h
  · cases h
end XL
end
section
/-! objects and arrays that are made; stores of references and booleans; statics; switches -/
def x_nok (cl : List vw_C) (G : List xG) (Ts : List Cond) (s : State) (args : Array Value) (own : String) (z : Nat × Nat) : Prop :=
  ∃ (ci : Nat) (fts : List xV) (C : String) (T : u_T) (ty : Nat → FieldType), G[z.2]? = some (.inl (ci, fts)) ∧ cl[ci]? = some (C, T, fts.length) ∧ (∀ w ∈ u_ws C T fts.length, w ∈ Ts) ∧ (∀ k, k < fts.length → parseFieldDescriptor (T k).2.2.1 = some (ty k)) ∧
    (Cond.classLink own z.1 C).before args s = true ∧ (Cond.instantiable C fts.length).before args s = true ∧ (Cond.initialized C).before args s = true ∧ ∀ (Y : xY) (k : Nat) (ft : xV), fts[k]? = some ft → x_c Y ft (defaultValue (ty k))
/-- an array of numbers is made here, with this tag -/
def x_aok (G : List xG) (s : State) (args : Array Value) (at_ : ArrayType) (tag : Nat) : Prop :=
  ∃ (n : Nat) (pre : List xV) (ft : xV), G[tag]? = some (.inr (newarray.typeOf at_, n, pre, ft)) ∧ (newarray.typeOf at_).isReference = false ∧ n * componentBytes (newarray.typeOf at_) ≤ 536870912 ∧ (Cond.arrayClass (newarray.typeOf at_)).before args s = true ∧ ∀ (Y : xY) (j : Nat), x_c Y (pre.getD j ft) (defaultValue (newarray.typeOf at_))
/-- an array of references is made here, with this tag -/
def x_rok (G : List xG) (s : State) (args : Array Value) (own : String) (idx tag : Nat) : Prop :=
  ∃ (n : Nat) (pre : List xV) (ft : xV) (C : String), G[tag]? = some (.inr (.object C, n, pre, ft)) ∧ n * 4 ≤ 536870912 ∧ (Cond.classLink own idx C).before args s = true ∧ (Cond.arrayOver (.object C)).before args s = true ∧ ∀ (Y : xY) (j : Nat), x_c Y (pre.getD j ft) .null
def x_mk (a : xS) (S : List Nat) (pc tag n : Nat) : Nat × xS := (pc, (a.1 ++ [.inr (.inr (false, [tag]))], a.2.1, a.1.length :: S, a.2.2.2.1, a.2.2.2.2.1, a.2.2.2.2.2.1, a.1.length :: a.2.2.2.2.2.2.1, x_cells a + 1, x_slots a + n))
def x_newo (G : List xG) (pn : List (Nat × Nat)) (mc ms : Nat) (a : xS) (pc idx : Nat) : xN := match pn.find? (fun z => z.1 == idx) with
  | some z => (match G[z.2]? with
    | some (.inl o) => if x_cells a + 1 ≤ mc ∧ x_slots a + o.2.length ≤ ms then some [x_mk a a.2.2.1 (pc + 3) z.2 o.2.length] else none
    | _ => none)
  | none => none
def x_newa (G : List xG) (pa : List (Nat × Nat)) (mc ms : Nat) (a : xS) (pc len : Nat) : xN := match pa.find? (fun z => z.1 == pc), a.2.2.1 with
  | some z, k :: S => (match G[z.2]?, a.1[k]? with
    | some (.inr o), some (.inl u) => if u.1 = (o.2.1 : Int) ∧ u.2 = (o.2.1 : Int) ∧ x_cells a + 1 ≤ mc ∧ x_slots a + o.2.1 ≤ ms then some [x_mk a S (pc + len) z.2 o.2.1] else none
    | _, _ => none)
  | _, _ => none
section XM1
variable {p : Program} {l : Launch} {e : Env} {R : Room} {s : State} {m : MethodId} {args : Array Value} {below : List Frame} {meth : Method} {c : Code} {Q : State → Prop}
variable {D : va_G} {G : List xG} {Zs : List xZ} {U : State} {ef : List (Nat × Nat)} {Y0 : xY} {H0 : Heap} {nL : Nat} {mu : List Value}
variable {cc : ByteArray} {pc : Nat} {a : xS} {sc : List (Nat × xS)} {cl : List vw_C} {Ts : List Cond} {own : String}
/-- behind a cell that is made -/
theorem x_made {Y : xY} {H H1 : Heap} {locs : List Loc} {r : Nat → Value} {ls : Array Slot} {st : List Value} {tag : Nat} {g : xG} {S : List Nat} {n pc' : Nat} (hw : x_wf a = true) (hY0 : ∀ q u, Y0 q = some u → q < H0.size) (hS : ∀ k ∈ S, k < a.1.length)
    (hI : x_I D G Zs U ef Y0 H0 Y H locs) (hC : x_C D Y0 nL mu Y H a r ls st) (hg : G[tag]? = some g) (hz : H1.size = H.size + 1) (ho : ∀ q, q < H.size → H1[q]? = H[q]?) (hc : x_cell D U (x_up Y H.size tag) g H.size H1)
    (hs : x_K p l e R s m args below meth c Q D G Zs U ef Y0 H0 nL mu (x_mk a S pc' tag n)) : W p l e R s m args below meth c H1 locs (x_cells a + 1) (x_slots a + n) Q (F0 m pc' ls (.ref H.size :: S.map r)) := by
  have hsz : H0.size ≤ H.size := hI.2.2.2.1
  have hmon : ∀ q u, Y q = some u → x_up Y H.size tag q = some u := fun q u hq => by rw [x_up_ne (Nat.ne_of_lt (hI.1.lt hq))]; exact hq
  have hI2 : x_I D G Zs U ef Y0 H0 (x_up Y H.size tag) H1 locs := by
    refine ⟨hI.1.new rfl ho hg hc, fun q hq => ?_, hI.2.2.1.kept (fun b u hb => ho b (Nat.lt_of_lt_of_le (hY0 b u hb) hsz)), Nat.le_trans hsz (by omega), fun q q1 q2 => ?_, hI.2.2.2.2.2⟩
    · rw [x_up_ne (by omega)]; exact hI.2.1 q hq
    · rw [ho q (by omega)]; exact hI.2.2.2.2.1 q q1 q2
  have hC1 : x_C D Y0 nL mu (x_up Y H.size tag) H1 a r ls st := by
    refine ⟨fun k t hk => (hC.1 k t hk).mono hmon, hC.2.1, hC.2.2.1, fun f hf => ?_, hC.2.2.2.2⟩
    obtain ⟨b, b1, b2⟩ := hC.2.2.2.1 f hf
    refine ⟨b, b1, ?_⟩
    have hbs : b < H.size := by
      have : (x_fv D f.2.1 f.2.2.1 b H).isSome := by rw [b2]; rfl
      unfold x_fv at this
      cases hh : H[b]? with
      | none => rw [hh] at this; cases this
      | some w => exact (Array.getElem?_eq_some_iff.mp hh).1
    show (H1[b]?).bind _ = _
    rw [ho b hbs]; exact b2
  have hP := hC1.psh hw hS (t := .inr (.inr (false, [tag]))) (v := .ref H.size) (Or.inr ⟨_, tag, rfl, List.mem_cons_self, x_up_self _ _ _⟩)
  refine hs (x_up Y H.size tag) H1 locs (updV r a.1.length (.ref H.size)) ls _ hI2 ?_
  obtain ⟨p1, p2, p3, p4, p5, p6, p7⟩ := hP
  refine ⟨p1, p2, p3, p4, p5, p6, fun k hk => ?_⟩
  rcases List.mem_cons.mp hk with e0 | hk
  · rw [e0]
    refine ⟨H.size, x_up_at, ?_⟩
    cases hy : Y0 H.size with
    | none => rfl
    | some u => exact absurd (hY0 _ _ hy) (by omega)
  · exact p7 k hk
theorem x_newo_ok {idx mc ms : Nat} {pn : List (Nat × Nat)} (hw : x_wf a = true) (hx : p.tables.exec = Jvm.exec) (hb : c.code = cc) (hts : ∀ w ∈ Ts, w.before args s = true) (hown : s.vm.findClass own = some m.cls) (hK : va_K D cl [] s) (hY0 : ∀ q u, Y0 q = some u → q < H0.size)
    (hpn : ∀ z ∈ pn, x_nok cl G Ts s args own z) (hmc : mc ≤ R.cells) (hms : ms ≤ R.slots) (hd : decode cc pc = .ok (.new idx, 3)) (h : x_newo G pn mc ms a pc idx = some sc) (hs : ∀ q ∈ sc, x_K p l e R s m args below meth c Q D G Zs U ef Y0 H0 nL mu q) : x_K p l e R s m args below meth c Q D G Zs U ef Y0 H0 nL mu (pc, a) := by
  intro Y H locs r ls st hI hC
  unfold x_newo at h
  split at h
  · next z hz =>
    have hzm := List.mem_of_find?_eq_some hz
    have hze := List.find?_some hz
    simp only [beq_iff_eq] at hze
    subst hze
    split at h
    · next o hg =>
      split at h
      · next hc =>
        cases h
        obtain ⟨ci, fts, C, T, ty, g1, g2, g3, g4, g5, g6, g7, g8⟩ := hpn z hzm
        cases hg.symm.trans g1
        have hKn := hK.1 ci _ g2
        refine W.newcK hx hb hown g5 g6 g7 rfl hd (Nat.le_trans hc.1 hmc) (Nat.le_trans hc.2 hms) hKn.2.1 rfl fun H1 kC hkC e1 z1 o1 => ?_
        have hst := hC.2.2.1
        rw [hst]
        refine x_made (st := st) hw hY0 (fun k hk => (x_wf_spec hw).2.1 k hk) hI hC g1 z1 o1 ?_ (hs _ List.mem_cons_self)
        exact ⟨fun k => defaultValue (ty k), u_born ty hts g3 hKn hkC e1 g4, fun k ft hk => g8 _ k ft hk⟩
      · cases h
    · cases h
  · cases h
theorem x_newa_ok {at_ : ArrayType} {mc ms : Nat} {pa : List (Nat × Nat)} (hw : x_wf a = true) (hx : p.tables.exec = Jvm.exec) (hb : c.code = cc) (hU : U.vm.Alike s.vm) (hY0 : ∀ q u, Y0 q = some u → q < H0.size)
    (hpa : ∀ z ∈ pa, z.1 = pc → x_aok G s args at_ z.2) (hmc : mc ≤ R.cells) (hms : ms ≤ R.slots) (hd : decode cc pc = .ok (.newarray at_, 2)) (h : x_newa G pa mc ms a pc 2 = some sc) (hs : ∀ q ∈ sc, x_K p l e R s m args below meth c Q D G Zs U ef Y0 H0 nL mu q) : x_K p l e R s m args below meth c Q D G Zs U ef Y0 H0 nL mu (pc, a) := by
  intro Y H locs r ls st hI hC
  unfold x_newa at h
  split at h
  · next z k S hz hS =>
    have hzm := List.mem_of_find?_eq_some hz
    have hze := List.find?_some hz
    simp only [beq_iff_eq] at hze
    split at h
    · next o u hg hu =>
      split at h
      · next hc =>
        cases h
        obtain ⟨c1, c2, c3, c4⟩ := hc
        obtain ⟨n, pre, ft, g1, g2, g3, g4, g5⟩ := hpa z hzm hze
        cases hg.symm.trans g1
        obtain ⟨v, ev, bv⟩ := hC.1 k _ hu
        have hst : st = .int v :: S.map r := by rw [hC.2.2.1, hS, List.map_cons, ev]
        rw [hst]
        have b1 := bv.1; have b2 := bv.2
        dsimp only at c1 c2 c3 c4
        have hvn : v.toInt = (n : Int) := by omega
        have hv0 : ¬ v < 0 := by
          rw [Int32.lt_iff_toInt_lt]
          have z0 : (0 : Int32).toInt = 0 := rfl
          omega
        have hvN : v.toNatClampNeg = n := by
          have hcl : v.toNatClampNeg = v.toInt.toNat := rfl
          rw [hcl]; omega
        refine va_newaK hx hb g4 rfl hd rfl hv0 hvN g3 (Nat.le_trans c3 hmc) (Nat.le_trans c4 hms) rfl fun H1 cA e1 z1 o1 hAr hNm => ?_
        refine x_made (st := st) hw hY0 (fun j hj => (x_wf_spec hw).2.1 j (by rw [hS]; exact List.mem_cons_of_mem _ hj)) hI hC g1 z1 o1 ?_ (hs _ List.mem_cons_self)
        refine ⟨_, e1, State.isArrayOf_alike hU.symm (hAr n _), fun hq => (by cases hq), arrV_size _ _ _, fun hq => absurd (g2.symm.trans hq) (by decide), fun j w hj => ?_⟩
        have hjn : j < n := by
          have := (Array.getElem?_eq_some_iff.mp hj).1
          rw [arrV_size] at this
          exact this
        rw [arrV_read _ _ hjn] at hj
        cases hj
        exact g5 _ j
      · cases h
    · cases h
  · cases h
theorem x_newr_ok {idx : Nat} {mc ms : Nat} {pa : List (Nat × Nat)} (hw : x_wf a = true) (hx : p.tables.exec = Jvm.exec) (hb : c.code = cc) (hU : U.vm.Alike s.vm) (hown : s.vm.findClass own = some m.cls) (hY0 : ∀ q u, Y0 q = some u → q < H0.size)
    (hpa : ∀ z ∈ pa, z.1 = pc → x_rok G s args own idx z.2) (hmc : mc ≤ R.cells) (hms : ms ≤ R.slots) (hd : decode cc pc = .ok (.anewarray idx, 3)) (h : x_newa G pa mc ms a pc 3 = some sc) (hs : ∀ q ∈ sc, x_K p l e R s m args below meth c Q D G Zs U ef Y0 H0 nL mu q) : x_K p l e R s m args below meth c Q D G Zs U ef Y0 H0 nL mu (pc, a) := by
  intro Y H locs r ls st hI hC
  unfold x_newa at h
  split at h
  · next z k S hz hS =>
    have hzm := List.mem_of_find?_eq_some hz
    have hze := List.find?_some hz
    simp only [beq_iff_eq] at hze
    split at h
    · next o u hg hu =>
      split at h
      · next hc =>
        cases h
        obtain ⟨c1, c2, c3, c4⟩ := hc
        obtain ⟨n, pre, ft, C, g1, g2, g3, g4, g5⟩ := hpa z hzm hze
        cases hg.symm.trans g1
        obtain ⟨v, ev, bv⟩ := hC.1 k _ hu
        have hst : st = .int v :: S.map r := by rw [hC.2.2.1, hS, List.map_cons, ev]
        rw [hst]
        have b1 := bv.1; have b2 := bv.2
        dsimp only at c1 c2 c3 c4
        have hvn : v.toInt = (n : Int) := by omega
        have hv0 : ¬ v < 0 := by
          rw [Int32.lt_iff_toInt_lt]
          have z0 : (0 : Int32).toInt = 0 := rfl
          omega
        have hvN : v.toNatClampNeg = n := by
          have hcl : v.toNatClampNeg = v.toInt.toNat := rfl
          rw [hcl]; omega
        refine W.anew hx hb hown g3 g4 rfl hd rfl hv0 (by rw [hvN]; exact g2) (Nat.le_trans c3 hmc) (by rw [hvN]; exact Nat.le_trans c4 hms) fun cA kA comp n1 n2 n3 n4 => ?_
        rw [hvN]
        have hlast : (H.push { cls := cA, slots := Array.replicate n Value.null, vm := .none })[H.size]? = some { cls := cA, slots := Array.replicate n Value.null, vm := .none } := by simp
        refine x_made (st := st) (H := H) hw hY0 (fun j hj => (x_wf_spec hw).2.1 j (by rw [hS]; exact List.mem_cons_of_mem _ hj)) hI hC g1 (by simp) (fun q hq => by rw [Array.getElem?_push, if_neg (Nat.ne_of_lt hq)]) ?_ (hs _ List.mem_cons_self)
        refine ⟨_, hlast, State.isArrayOf_alike hU.symm ⟨fun q hq => (by cases hq), kA, n2, comp, n3⟩, fun hq => (by cases hq), by simp, fun _ => ?_, fun j w hj => ?_⟩
        · exact va_RA.moved hU.symm ⟨kA, comp, n2, n3, n4, n1⟩
        · have hjn := (Array.getElem?_eq_some_iff.mp hj)
          obtain ⟨q1, q2⟩ := hjn
          have : w = .null := by rw [← q2]; simp
          rw [this]
          exact g5 _ j
      · cases h
    · cases h
  · cases h
end XM1
end
section
/-! stores of booleans and references; null tests; switches; constants; the stack -/
def x_bas (G : List xG) (ef : List (Nat × Nat)) (a : xS) (pc : Nat) : xN := match a.2.2.1 with
  | v :: i :: o :: S => (match a.1[o]?, a.1[i]?, a.1[v]? with
    | some (.inr (.inr (false, ts))), some (.inl u), some (.inl _) => x_all (fun (t : Nat) => match G[t]? with
      | some (.inr (.boolean, n, pre, ft)) => if (x_ew pre ft u).any (fun w => x_le (.inl (0, 1)) w) = true ∧ 0 ≤ u.1 ∧ u.2 < (n : Int) ∧ (ef.any (fun q => q.1 == t && q.2 == 0) = true ∨ a.2.2.2.2.2.2.1.any (fun k => k == o) = true) then
          some (pc + 1, (a.1.set o (.inr (.inr (false, [t]))), a.2.1, S, a.2.2.2.1.filter (x_kp a.1 o u), a.2.2.2.2)) else none
      | _ => none) ts
    | _, _, _ => none)
  | _ => none
def x_aas (G : List xG) (ef ao : List (Nat × Nat)) (a : xS) (pc : Nat) : xN := match a.2.2.1 with
  | v :: i :: o :: S => (match a.1[o]?, a.1[i]?, a.1[v]? with
    | some (.inr (.inr (false, ts))), some (.inl u), some (.inr (.inr (false, us))) => x_all (fun (t : Nat) => match G[t]? with
      | some (.inr (_, n, pre, ft)) => if (x_ew pre ft u).any (fun w => x_le (.inr (.inr (false, us))) w) = true ∧ us.all (fun z => ao.any (fun q => q.1 == t && q.2 == z)) = true ∧ 0 ≤ u.1 ∧ u.2 < (n : Int) ∧ (ef.any (fun q => q.1 == t && q.2 == 0) = true ∨ a.2.2.2.2.2.2.1.any (fun k => k == o) = true) then
          some (pc + 1, (a.1.set o (.inr (.inr (false, [t]))), a.2.1, S, a.2.2.2.1.filter (x_kp a.1 o u), a.2.2.2.2)) else none
      | _ => none) ts
    | _, _, _ => none)
  | _ => none
/-- a value of tag z.2 may stand in an array of tag z.1 -/
def x_sok (cl : List vw_C) (G : List xG) (s : State) (z : Nat × Nat) : Prop := ∃ (n : Nat) (pre : List xV) (ft : xV) (C : String) (ci : Nat) (fts : List xV) (r : vw_C), G[z.1]? = some (.inr (.object C, n, pre, ft)) ∧ G[z.2]? = some (.inl (ci, fts)) ∧ cl[ci]? = some r ∧ va_Nw (.castable r.1 C) s
def x_ifn (a : xS) (pc : Nat) (off : Int) (non : Bool) : xN := match a.2.2.1 with
  | o :: S => (match a.1[o]? with
    | some (.inr (.inr q)) => if (pc : Int) + off = ((((pc : Int) + off).toNat : Nat) : Int) then some ((if non then ((pc : Int) + off).toNat else pc + 3, (a.1.set o (.inr (.inr (false, q.2))), a.2.1, S, a.2.2.2)) ::
        (if q.1 then [(if non then pc + 3 else ((pc : Int) + off).toNat, x_top a S)] else [])) else none
    | _ => none)
  | _ => none
def x_tgt (pc : Nat) (off : Int) : Option Nat := if (pc : Int) + off = ((((pc : Int) + off).toNat : Nat) : Int) then some ((pc : Int) + off).toNat else none
def x_sw (a : xS) (pc : Nat) (dflt lo hi : Int) (offs : Array Int) : xN := match a.2.2.1 with
  | x :: S => (match a.1[x]?, x_tgt pc dflt with
    | some (.inl u), some td => if 0 ≤ hi - lo ∧ hi - lo < 100 then
      (match x_all (fun (k : Nat) => match offs[k]? with
        | some off => (match x_tgt pc off, x_meet (.inl u) (.inl (lo + k, lo + k)) with
          | some t, some w => some [(t, (a.1.set x w, a.2.1, S, a.2.2.2))]
          | some _, none => some []
          | none, _ => none)
        | none => none) (List.range ((hi - lo).toNat + 1)) with
      | some ys => some (ys.flatten ++ ((match x_meet (.inl u) (.inl (-2147483648, lo - 1)) with
        | some w => [(td, (a.1.set x w, a.2.1, S, a.2.2.2))]
        | none => []) ++ (match x_meet (.inl u) (.inl (hi + 1, 2147483647)) with
        | some w => [(td, (a.1.set x w, a.2.1, S, a.2.2.2))]
        | none => [])))
      | none => none) else none
    | _, _ => none)
  | _ => none
def x_dup (a : xS) (pc : Nat) : xN := match a.2.2.1 with
  | x :: S => if x_n2 a.1 x then some [(pc + 1, x_top a (x :: x :: S))] else none
  | _ => none
def x_dup2 (a : xS) (pc : Nat) : xN := match a.2.2.1 with
  | y :: x :: S => if x_n2 a.1 x = true ∧ x_n2 a.1 y = true then some [(pc + 1, x_top a (y :: x :: y :: x :: S))] else none
  | _ => none
def x_pop (a : xS) (pc : Nat) : xN := match a.2.2.1 with
  | x :: S => if x_n2 a.1 x then some [(pc + 1, x_top a S)] else none
  | _ => none
def x_pop2 (a : xS) (pc : Nat) : xN := match a.2.2.1 with
  | x :: S => (match a.1[x]? with
    | some (.inr (.inl _)) => some [(pc + 1, x_top a S)]
    | _ => none)
  | _ => none
section XD
variable {p : Program} {l : Launch} {e : Env} {R : Room} {s : State} {m : MethodId} {args : Array Value} {below : List Frame} {meth : Method} {c : Code} {Q : State → Prop}
variable {D : va_G} {G : List xG} {Zs : List xZ} {U : State} {ef : List (Nat × Nat)} {Y0 : xY} {H0 : Heap} {nL : Nat} {mu : List Value}
variable {cc : ByteArray} {pc : Nat} {a : xS} {sc : List (Nat × xS)} {cl : List vw_C} {Ts : List Cond} {own : String}
/-- behind a store into an array of ours -/
theorem x_stored {Y : xY} {H H' : Heap} {locs : List Loc} {r : Nat → Value} {ls : Array Slot} {st : List Value} {o b t j : Nat} {S : List Nat} {cell : Cell} {q : FieldType × Nat × List xV × xV} {v : Value} {pc' : Nat} {u : Int × Int} {nf : List (Nat × Nat × Nat × Nat)} (hnf : ∀ f ∈ nf, f.1 = o ∧ f.2.1 = 1000 ∧ f.2.2.1 = j ∧ r f.2.2.2 = v) (hju : u.1 ≤ (j : Int) ∧ (j : Int) ≤ u.2) (hY0 : ∀ q u, Y0 q = some u → q < H0.size)
    (hI : x_I D G Zs U ef Y0 H0 Y H locs) (hC : x_C D Y0 nL mu Y H a r ls st) (eb : r o = .ref b) (hY : Y b = some t) (hg : G[t]? = some (.inr q)) (q1 : H[b]? = some cell) (q2 : U.isArrayOf cell q.1) (q3 : cell.vm ≠ .unknown) (q4 : cell.slots.size = q.2.1) (q5 : q.1.isReference = true → va_RA U cell.cls q.1)
    (q6 : ∀ (j : Nat) (v : Value), cell.slots[j]? = some v → x_c Y (q.2.2.1.getD j q.2.2.2) v) (hj : j < q.2.1) (hv : x_c Y (q.2.2.1.getD j q.2.2.2) v) (e1 : H'[b]? = some (cell.setSlot j v)) (e2 : H'.size = H.size) (e3 : ∀ q, q ≠ b → H'[q]? = H[q]?)
    (hef : ef.any (fun q => q.1 == t && q.2 == 0) = true ∨ a.2.2.2.2.2.2.1.any (fun k => k == o) = true)
    (hs : x_K p l e R s m args below meth c Q D G Zs U ef Y0 H0 nL mu (pc', (a.1.set o (.inr (.inr (false, [t]))), a.2.1, S, nf ++ a.2.2.2.1.filter (x_kp a.1 o u), a.2.2.2.2))) : W p l e R s m args below meth c H' (locs ++ [⟨b, j⟩]) (x_cells a) (x_slots a) Q (F0 m pc' ls (S.map r)) := by
  have hE : ∀ (k : Nat) (u : xV), (a.1.set o (.inr (.inr (false, [t]))))[k]? = some u → x_c Y u (r k) := x_set_ok hC.1 (Or.inr ⟨b, t, eb, List.mem_cons_self, hY⟩)
  have hH' : x_H D G Zs U Y H' := by
    refine hI.1.put hY e3 hg ⟨_, e1, ⟨q2.1, q2.2⟩, q3, by show (cell.setSlot _ _).slots.size = q.2.1; rw [← q4]; simp [Cell.setSlot], q5, fun j' w hj' => ?_⟩
    by_cases ej : j' = j
    · subst ej
      rw [Cell.slots_setSlot_self _ (by rw [q4]; exact hj)] at hj'
      cases hj'
      exact hv
    · rw [Cell.slots_setSlot_ne _ (Ne.symm ej)] at hj'
      exact q6 j' w hj'
  have hI' : x_I D G Zs U ef Y0 H0 Y H' (locs ++ [⟨b, j⟩]) := by
    refine hI.put hY0 hY hH' e2 e3 (fun g hy0 hg2 => ?_)
    cases hg.symm.trans hg2
    intro hn
    rcases hef with h1 | h1
    · obtain ⟨q, q1, q2⟩ := List.any_eq_true.mp h1
      simp only [Bool.and_eq_true, beq_iff_eq] at q2
      exact absurd (by rw [← q2.1, ← q2.2]; exact q1) hn
    · obtain ⟨q, q1, q2⟩ := List.any_eq_true.mp h1
      simp only [beq_iff_eq] at q2
      obtain ⟨b', f1, f2⟩ := hC.2.2.2.2.2.2 q q1
      rw [q2, eb] at f1
      cases f1
      rw [f2] at hy0; cases hy0
  refine hs Y H' _ r ls _ hI' ⟨hE, hC.2.1, rfl, fun f hf => ?_, hC.2.2.2.2⟩
  rcases List.mem_append.mp hf with hf | hf
  · obtain ⟨n1, n2, n3, n4⟩ := hnf f hf
    refine ⟨b, by rw [n1]; exact eb, ?_⟩
    rw [n2, n3, n4]
    unfold x_fv
    rw [e1, if_pos rfl]
    exact Cell.slots_setSlot_self _ (by rw [q4]; exact hj)
  obtain ⟨hfm, hfc⟩ := List.mem_filter.mp hf
  obtain ⟨b', f1, f2⟩ := hC.2.2.2.1 f hfm
  refine ⟨b', f1, ?_⟩
  unfold x_kp at hfc
  rw [Bool.or_eq_true] at hfc
  rcases hfc with hfc | hfc
  · have hne := x_dj_ok hC.1 hfc f1 eb
    show (H'[b']?).bind _ = _
    rw [e3 b' hne]; exact f2
  · simp only [Bool.and_eq_true, Bool.or_eq_true, beq_iff_eq, decide_eq_true_eq] at hfc
    obtain ⟨g1, g2, g3⟩ := hfc
    rw [g1, eb] at f1
    cases f1
    rw [g2] at f2 ⊢
    unfold x_fv at f2 ⊢
    rw [q1, if_pos rfl] at f2
    rw [e1, if_pos rfl]
    show (cell.setSlot j v).slots[f.2.2.1]? = _
    rw [Cell.slots_setSlot_ne _ (by intro e0; subst e0; omega)]
    exact f2
theorem x_ias_ok (hx : p.tables.exec = Jvm.exec) (hb : c.code = cc) (hU : U.vm.Alike s.vm) (hY0 : ∀ q u, Y0 q = some u → q < H0.size) (hd : decode cc pc = .ok (.iastore, 1))
    (h : x_ias G ef a pc = some sc) (hs : ∀ q ∈ sc, x_K p l e R s m args below meth c Q D G Zs U ef Y0 H0 nL mu q) : x_K p l e R s m args below meth c Q D G Zs U ef Y0 H0 nL mu (pc, a) := by
  intro Y H locs r ls st hI hC
  unfold x_ias at h
  split at h
  · next v i o S hS =>
    split at h
    · next ts u tv ho hi hv =>
      obtain ⟨b, t, eb, ht, hY⟩ := x_ref_at (hC.1 o _ ho) rfl
      obtain ⟨y, hy, hm⟩ := x_all_mem h t ht
      have hK1 := hs y hm
      obtain ⟨vi, ei, bi⟩ := hC.1 i _ hi
      obtain ⟨vv, ev, bv⟩ := hC.1 v _ hv
      have hst : st = .int vv :: .int vi :: .ref b :: S.map r := by rw [hC.2.2.1, hS, List.map_cons, List.map_cons, List.map_cons, eb, ei, ev]
      rw [hst]
      split at hy
      · next n pre ft hg =>
        split at hy
        · next hc =>
          cases hy
          obtain ⟨hle, c2, c3, hef⟩ := hc
          obtain ⟨w, hwr, hle⟩ : ∃ w, x_ew pre ft u = some w ∧ x_le (.inl tv) w = true := by
            cases hq : x_ew pre ft u with
            | none => rw [hq] at hle; cases hle
            | some w => rw [hq] at hle; exact ⟨w, rfl, hle⟩
          obtain ⟨g, h1, h2⟩ := hI.1.1 b _ hY
          cases h1.symm.trans hg
          obtain ⟨cell, q1, q2, q3, q4, q5, q6⟩ := h2
          have q4' : cell.slots.size = n := q4
          have hix := x_idx bi c2 c3
          refine W.iast hx hb q1 (State.isArrayOf_alike hU q2) q3 (by rw [q4']; exact hix.1) rfl rfl hd fun H' e1 e2 e3 => ?_
          have hvv : x_c Y (pre.getD vi.toNatClampNeg ft) (.int vv) := by rw [x_ew_ok hwr bi c2]; exact x_le_ok hle ⟨vv, rfl, bv⟩
          have b1 := bi.1; have b2 := bi.2
          have hcl : vi.toNatClampNeg = vi.toInt.toNat := rfl
          refine x_stored (S := S) (u := u) (fun f hf => ?_) (by rw [hcl]; omega) hY0 hI hC eb hY hg q1 q2 q3 q4 q5 q6 hix.2 hvv e1 e2 e3 hef hK1
          split at hf
          · next huu =>
            rcases List.mem_cons.mp hf with e0 | hf
            · rw [e0]
              exact ⟨rfl, rfl, by show u.1.toNat = _; rw [hcl]; omega, ev⟩
            · cases hf
          · cases hf
        · cases hy
      · cases hy
    · cases h
  · cases h
theorem x_bas_ok (hx : p.tables.exec = Jvm.exec) (hb : c.code = cc) (hU : U.vm.Alike s.vm) (hY0 : ∀ q u, Y0 q = some u → q < H0.size) (hd : decode cc pc = .ok (.bastore, 1))
    (h : x_bas G ef a pc = some sc) (hs : ∀ q ∈ sc, x_K p l e R s m args below meth c Q D G Zs U ef Y0 H0 nL mu q) : x_K p l e R s m args below meth c Q D G Zs U ef Y0 H0 nL mu (pc, a) := by
  intro Y H locs r ls st hI hC
  unfold x_bas at h
  split at h
  · next v i o S hS =>
    split at h
    · next ts u tv ho hi hv =>
      obtain ⟨b, t, eb, ht, hY⟩ := x_ref_at (hC.1 o _ ho) rfl
      obtain ⟨y, hy, hm⟩ := x_all_mem h t ht
      have hK1 := hs y hm
      obtain ⟨vi, ei, bi⟩ := hC.1 i _ hi
      obtain ⟨vv, ev, bv⟩ := hC.1 v _ hv
      have hst : st = .int vv :: .int vi :: .ref b :: S.map r := by rw [hC.2.2.1, hS, List.map_cons, List.map_cons, List.map_cons, eb, ei, ev]
      rw [hst]
      split at hy
      · next n pre ft hg =>
        split at hy
        · next hc =>
          cases hy
          obtain ⟨hle, c2, c3, hef⟩ := hc
          obtain ⟨w, hwr, hle⟩ : ∃ w, x_ew pre ft u = some w ∧ x_le (.inl (0, 1)) w = true := by
            cases hq : x_ew pre ft u with
            | none => rw [hq] at hle; cases hle
            | some w => rw [hq] at hle; exact ⟨w, rfl, hle⟩
          obtain ⟨g, h1, h2⟩ := hI.1.1 b _ hY
          cases h1.symm.trans hg
          obtain ⟨cell, q1, q2, q3, q4, q5, q6⟩ := h2
          have q4' : cell.slots.size = n := q4
          have hix := x_idx bi c2 c3
          refine W.zast hx hb q1 (State.isArrayOf_alike hU q2) q3 (by rw [q4']; exact hix.1) rfl rfl hd fun H' e1 e2 e3 => ?_
          have z1 : (0 : Int) ≤ (1 : Int32).toInt := by decide
          have hvv : x_c Y (pre.getD vi.toNatClampNeg ft) (narrow .boolean (.int vv)) := by
            rw [x_ew_ok hwr bi c2]
            exact x_le_ok hle ⟨vv &&& 1, rfl, (x_and1 z1).1, (x_and1 z1).2⟩
          have b1 := bi.1; have b2 := bi.2
          have hcl : vi.toNatClampNeg = vi.toInt.toNat := rfl
          exact x_stored (S := S) (u := u) (nf := []) (fun f hf => by cases hf) (by rw [hcl]; omega) hY0 hI hC eb hY hg q1 q2 q3 q4 q5 q6 hix.2 hvv e1 e2 e3 hef hK1
        · cases hy
      · cases hy
    · cases h
  · cases h
theorem x_aas_ok {ao : List (Nat × Nat)} (hx : p.tables.exec = Jvm.exec) (hb : c.code = cc) (hU : U.vm.Alike s.vm) (hK : va_K D cl [] s) (hY0 : ∀ q u, Y0 q = some u → q < H0.size) (hao : ∀ z ∈ ao, x_sok cl G s z) (hd : decode cc pc = .ok (.aastore, 1))
    (h : x_aas G ef ao a pc = some sc) (hs : ∀ q ∈ sc, x_K p l e R s m args below meth c Q D G Zs U ef Y0 H0 nL mu q) : x_K p l e R s m args below meth c Q D G Zs U ef Y0 H0 nL mu (pc, a) := by
  intro Y H locs r ls st hI hC
  unfold x_aas at h
  split at h
  · next v i o S hS =>
    split at h
    · next ts u us ho hi hv =>
      obtain ⟨b, t, eb, ht, hY⟩ := x_ref_at (hC.1 o _ ho) rfl
      obtain ⟨y, hy, hm⟩ := x_all_mem h t ht
      have hK1 := hs y hm
      obtain ⟨vi, ei, bi⟩ := hC.1 i _ hi
      have hcv := hC.1 v _ hv
      obtain ⟨bv, tv, ev, htv, hYv⟩ := x_ref_at hcv rfl
      have hst : st = .ref bv :: .int vi :: .ref b :: S.map r := by rw [hC.2.2.1, hS, List.map_cons, List.map_cons, List.map_cons, eb, ei, ev]
      rw [hst]
      split at hy
      · next et n pre ft hg =>
        split at hy
        · next hc =>
          cases hy
          obtain ⟨hle, hau, c2, c3, hef⟩ := hc
          obtain ⟨w, hwr, hle⟩ : ∃ w, x_ew pre ft u = some w ∧ x_le (.inr (.inr (false, us))) w = true := by
            cases hq : x_ew pre ft u with
            | none => rw [hq] at hle; cases hle
            | some w => rw [hq] at hle; exact ⟨w, rfl, hle⟩
          obtain ⟨z, hz, hze⟩ := List.any_eq_true.mp (List.all_eq_true.mp hau tv htv)
          simp only [Bool.and_eq_true, beq_iff_eq] at hze
          obtain ⟨n', pre', ft', C, ci, fts, rr, g1, g2, g3, g4⟩ := hao z hz
          rw [hze.1] at g1
          rw [hze.2] at g2
          cases hg.symm.trans g1
          obtain ⟨g, h1, h2⟩ := hI.1.1 b _ hY
          cases h1.symm.trans hg
          obtain ⟨cell, q1, q2, q3, q4, q5, q6⟩ := h2
          obtain ⟨gv, h3, h4⟩ := hI.1.1 bv _ hYv
          cases h3.symm.trans g2
          obtain ⟨V, ⟨cellV, w1, w2, w3, -⟩, -⟩ := h4
          have q4' : cell.slots.size = n := q4
          have hix := x_idx bi c2 c3
          obtain ⟨kA, comp, k1, k2, k3, -⟩ := va_RA.moved hU (q5 rfl)
          obtain ⟨kE, hkE, -⟩ := Vm.findClass_spec k3
          obtain ⟨c0, t1, f1, f2, f3⟩ := Cond.castable_spec (va_Nw.use (A := args) rfl g4)
          have hcls := (hK.1 ci rr g3).2
          cases hcls.1.symm.trans f1
          cases k3.symm.trans f2
          obtain ⟨kC, hkC, -⟩ := hcls.2
          have hI1 : ¬ vi < 0 := fun hq => hix.1 (Or.inl hq)
          refine W.aast hx hb q1 q2.1 q3 k1 k2 rfl hkE ⟨hI1, by rw [q4']; exact hix.2⟩ w1 (fun q hq => by rw [w3] at hq; cases hq) (by rw [w2]; exact hkC) (by rw [w2]; exact f3) rfl rfl hd fun H' e1 e2 e3 => ?_
          have hvv : x_c Y (pre.getD vi.toNatClampNeg ft) (.ref bv) := by
            rw [x_ew_ok hwr bi c2]
            rw [ev] at hcv
            exact x_le_ok hle hcv
          have b1 := bi.1; have b2 := bi.2
          have hcl : vi.toNatClampNeg = vi.toInt.toNat := rfl
          exact x_stored (S := S) (u := u) (nf := []) (fun f hf => by cases hf) (by rw [hcl]; omega) hY0 hI hC eb hY hg q1 q2 q3 q4 q5 q6 hix.2 hvv e1 e2 e3 hef hK1
        · cases hy
      · cases hy
    · cases h
  · cases h
theorem x_ifn_ok {off : Int} {non : Bool} (rowR : ∀ (H : Heap) (locs : List Loc) (cells slots : Nat) (ls : Array Slot) (rest : List Value) (b tgt : Nat), (pc : Int) + off = (tgt : Int) → W p l e R s m args below meth c H locs cells slots Q (F0 m (if non then tgt else pc + 3) ls rest) → W p l e R s m args below meth c H locs cells slots Q (F0 m pc ls (.ref b :: rest)))
    (rowN : ∀ (H : Heap) (locs : List Loc) (cells slots : Nat) (ls : Array Slot) (rest : List Value) (tgt : Nat), (pc : Int) + off = (tgt : Int) → W p l e R s m args below meth c H locs cells slots Q (F0 m (if non then pc + 3 else tgt) ls rest) → W p l e R s m args below meth c H locs cells slots Q (F0 m pc ls (.null :: rest)))
    (h : x_ifn a pc off non = some sc) (hs : ∀ q ∈ sc, x_K p l e R s m args below meth c Q D G Zs U ef Y0 H0 nL mu q) : x_K p l e R s m args below meth c Q D G Zs U ef Y0 H0 nL mu (pc, a) := by
  intro Y H locs r ls st hI hC
  unfold x_ifn at h
  split at h
  · next o S hS =>
    split at h
    · next q ho =>
      split at h
      · next htg =>
        cases h
        have hc := hC.1 o _ ho
        have hst : st = r o :: S.map r := by rw [hC.2.2.1, hS, List.map_cons]
        rw [hst]
        rcases hc with ⟨hn, hq⟩ | ⟨b, t, eb, ht, hY⟩
        · rw [hn]
          refine rowN H locs _ _ ls _ _ htg ?_
          refine hs (_, x_top a S) (List.mem_cons_of_mem _ ?_) Y H locs r ls _ hI (hC.stk S)
          rw [if_pos hq]
          exact List.mem_cons_self
        · rw [eb]
          refine rowR H locs _ _ ls _ b _ htg ?_
          refine hs (_, (a.1.set o (.inr (.inr (false, q.2))), a.2.1, S, a.2.2.2)) List.mem_cons_self Y H locs r ls _ hI (hC.env ?_ S)
          exact x_set_ok hC.1 (Or.inr ⟨b, t, eb, ht, hY⟩)
      · cases h
    · cases h
  · cases h
theorem x_tgt_ok {off : Int} {t : Nat} (h : x_tgt pc off = some t) : (pc : Int) + off = (t : Int) := by
  unfold x_tgt at h
  split at h
  · next q => cases h; exact q
  · cases h
theorem x_sw_ok {dflt lo hi : Int} {offs : Array Int} {len : Nat} (hx : p.tables.exec = Jvm.exec) (hb : c.code = cc) (hd : decode cc pc = .ok (.tableswitch dflt lo hi offs, len))
    (h : x_sw a pc dflt lo hi offs = some sc) (hs : ∀ q ∈ sc, x_K p l e R s m args below meth c Q D G Zs U ef Y0 H0 nL mu q) : x_K p l e R s m args below meth c Q D G Zs U ef Y0 H0 nL mu (pc, a) := by
  intro Y H locs r ls st hI hC
  unfold x_sw at h
  split at h
  · next x S hS =>
    split at h
    · next u td hu htd =>
      split at h
      · next hlh =>
        split at h
        · next ys hys =>
          cases h
          obtain ⟨v, ev, bv⟩ := hC.1 x _ hu
          have hst : st = .int v :: S.map r := by rw [hC.2.2.1, hS, List.map_cons, ev]
          rw [hst]
          have hcv : x_c Y (.inl u) (r x) := hC.1 x _ hu
          have rg := x_rng v
          by_cases h1 : v.toInt < lo
          · obtain ⟨w, m1, m2⟩ := x_meet_ok hcv (u := .inl (-2147483648, lo - 1)) ⟨v, ev, by show -2147483648 ≤ v.toInt; omega, by show v.toInt ≤ lo - 1; omega⟩
            refine lv_tableOut hx hb hd (Or.inl h1) (x_tgt_ok htd) ?_
            refine hs (td, (a.1.set x w, a.2.1, S, a.2.2.2)) (List.mem_append_right _ (List.mem_append_left _ (by rw [m1]; exact List.mem_cons_self))) Y H locs r ls _ hI (hC.env (x_set_ok hC.1 m2) S)
          · by_cases h2 : hi < v.toInt
            · obtain ⟨w, m1, m2⟩ := x_meet_ok hcv (u := .inl (hi + 1, 2147483647)) ⟨v, ev, by show hi + 1 ≤ v.toInt; omega, by show v.toInt ≤ 2147483647; omega⟩
              refine lv_tableOut hx hb hd (Or.inr h2) (x_tgt_ok htd) ?_
              refine hs (td, (a.1.set x w, a.2.1, S, a.2.2.2)) (List.mem_append_right _ (List.mem_append_right _ (by rw [m1]; exact List.mem_cons_self))) Y H locs r ls _ hI (hC.env (x_set_ok hC.1 m2) S)
            · obtain ⟨y, hy, hym⟩ := x_all_mem hys (v.toInt - lo).toNat (List.mem_range.mpr (by omega))
              split at hy
              · next off hoff =>
                have ek : lo + (((v.toInt - lo).toNat : Nat) : Int) = v.toInt := by omega
                obtain ⟨w, m1, m2⟩ := x_meet_ok hcv (u := .inl (lo + (((v.toInt - lo).toNat : Nat) : Int), lo + (((v.toInt - lo).toNat : Nat) : Int))) ⟨v, ev, by show _ ≤ v.toInt; omega, by show v.toInt ≤ _; omega⟩
                rw [m1] at hy
                split at hy
                · next t w' ht0 hw0 =>
                  cases hw0
                  cases hy
                  refine lv_tableIn hx hb hd h1 h2 hoff (x_tgt_ok ht0) ?_
                  refine hs (t, (a.1.set x w, a.2.1, S, a.2.2.2)) (List.mem_append_left _ (List.mem_flatten.mpr ⟨_, hym, List.mem_cons_self⟩)) Y H locs r ls _ hI (hC.env (x_set_ok hC.1 m2) S)
                · next hw0 => cases hw0
                · cases hy
              · cases hy
        · cases h
      · cases h
    · cases h
  · cases h
theorem x_cst_ok {pc' : Nat} {v : Value} {t : xV} (hw : x_wf a = true) (hv : ∀ Y : xY, x_c Y t v)
    (row : ∀ (H : Heap) (locs : List Loc) (cells slots : Nat) (ls : Array Slot) (rest : List Value), W p l e R s m args below meth c H locs cells slots Q (F0 m pc' ls (v :: rest)) → W p l e R s m args below meth c H locs cells slots Q (F0 m pc ls rest))
    (hs : x_K p l e R s m args below meth c Q D G Zs U ef Y0 H0 nL mu (pc', x_psh a a.2.2.1 t)) : x_K p l e R s m args below meth c Q D G Zs U ef Y0 H0 nL mu (pc, a) := by
  intro Y H locs r ls st hI hC
  have hst := hC.2.2.1
  rw [hst]
  refine row H locs _ _ ls _ ?_
  exact hs Y H locs _ ls _ hI (hC.psh hw (x_wf_spec hw).2.1 (hv Y))
theorem x_stk_ok {pc' : Nat} {S S' : List Nat} (hS : a.2.2.1 = S) (row : ∀ (Y : xY) (H : Heap) (locs : List Loc) (cells slots : Nat) (ls : Array Slot) (r : Nat → Value), (∀ (k : Nat) (t : xV), a.1[k]? = some t → x_c Y t (r k)) → W p l e R s m args below meth c H locs cells slots Q (F0 m pc' ls (S'.map r)) → W p l e R s m args below meth c H locs cells slots Q (F0 m pc ls (S.map r)))
    (hs : x_K p l e R s m args below meth c Q D G Zs U ef Y0 H0 nL mu (pc', x_top a S')) : x_K p l e R s m args below meth c Q D G Zs U ef Y0 H0 nL mu (pc, a) := by
  intro Y H locs r ls st hI hC
  have hst := hC.2.2.1
  rw [hst]
  show W p l e R s m args below meth c H locs (x_cells a) (x_slots a) Q (F0 m pc ls (a.2.2.1.map r))
  rw [hS]
  exact row Y H locs _ _ ls r hC.1 (hs Y H locs r ls _ hI (hC.stk S'))
end XD
end
section
/-! System.arraycopy, from the first places of an array of ints to the first places of another of its tag -/
def x_acp (G : List xG) (ef : List (Nat × Nat)) (a : xS) (pc : Nat) : xN := match a.2.2.1 with
  | kn :: kd :: o :: ks :: q :: S => (match a.1[o]?, a.1[q]? with
    | some (.inr (.inr (false, [t]))), some (.inr (.inr (false, [t2]))) => (match a.1[kn]?, a.1[kd]?, a.1[ks]? with
      | some (.inl u), some (.inl ud), some (.inl us) => (match G[t]? with
        | some (.inr (.int, n, pre, ft)) => if t = t2 ∧ u.1 = u.2 ∧ 0 ≤ u.1 ∧ u.1 ≤ (n : Int) ∧ ud = (0, 0) ∧ us = (0, 0) ∧ x_ct a.1 S ≤ 8 ∧ x_le ft xFull = true ∧ pre.all (fun w => x_le w xFull) = true ∧ (ef.any (fun z => z.1 == t && z.2 == 0) = true ∨ a.2.2.2.2.2.2.1.any (fun k => k == o) = true) then
            some [(pc + 3, (a.1, a.2.1, S, a.2.2.2.1.filter (fun f => x_dj a.1 f.1 o), a.2.2.2.2))] else none
        | _ => none)
      | _, _, _ => none)
    | _, _ => none)
  | _ => none
section XCP
variable {p : Program} {l : Launch} {e : Env} {R : Room} {s : State} {m : MethodId} {args : Array Value} {below : List Frame} {meth : Method} {c : Code} {Q : State → Prop}
variable {D : va_G} {G : List xG} {Zs : List xZ} {U : State} {ef : List (Nat × Nat)} {Y0 : xY} {H0 : Heap} {nL : Nat} {mu : List Value}
variable {cc : ByteArray} {pc : Nat} {a : xS} {sc : List (Nat × xS)} {own : String}
theorem x_I.putL {Y : xY} {H H' : Heap} {locs L : List Loc} {b t : Nat} (hL : ∀ q ∈ L, q.base = b) (hY0 : ∀ q u, Y0 q = some u → q < H0.size) (hI : x_I D G Zs U ef Y0 H0 Y H locs) (hY : Y b = some t) (hH : x_H D G Zs U Y H') (hz : H'.size = H.size) (ho : ∀ q, q ≠ b → H'[q]? = H[q]?)
    (hE : ∀ g, Y0 b = some t → G[t]? = some g → match g with
      | .inl o => ∀ k, k < o.2.length → (t, k) ∉ ef → x_sl D o.1 k b H' = x_sl D o.1 k b H
      | .inr _ => (t, 0) ∉ ef → H'[b]? = H[b]?) : x_I D G Zs U ef Y0 H0 Y H' (locs ++ L) := by
  have hA : (∃ u, Y0 b = some u) ∨ H0.size ≤ b := by
    rcases Nat.lt_or_ge b H0.size with q | q
    · exact Or.inl ⟨t, by rw [← hI.2.1 b q]; exact hY⟩
    · exact Or.inr q
  have h1 := hI.put (sl := 0) hY0 hY hH hz ho hE
  refine ⟨h1.1, h1.2.1, h1.2.2.1, h1.2.2.2.1, h1.2.2.2.2.1, fun q hq => ?_⟩
  rcases List.mem_append.mp hq with hq | hq
  · exact hI.2.2.2.2.2 q hq
  · rw [hL q hq]; exact hA
theorem x_acp_ok {idx : Nat} (hx : p.tables.exec = Jvm.exec) (hb : c.code = cc) (hml : c.maxLocals = nL) (hown : s.vm.findClass own = some m.cls) (hU : U.vm.Alike s.vm) (hY0 : ∀ q u, Y0 q = some u → q < H0.size)
    (hlink : (Cond.methodLink own idx arraycopyName).before args s = true) (hnat : (Cond.native arraycopyName).before args s = true) (hstat : (Cond.static arraycopyName).before args s = true) (hini : (Cond.initialized "java/lang/System").before args s = true) (hfr : 1 ≤ R.frames) (hlo : nativeFrameWords "java/lang/System" "arraycopy" 5 + 19 ≤ R.locals)
    (hd : decode cc pc = .ok (.invokestatic idx, 3)) (h : x_acp G ef a pc = some sc) (hs : ∀ q ∈ sc, x_K p l e R s m args below meth c Q D G Zs U ef Y0 H0 nL mu q) : x_K p l e R s m args below meth c Q D G Zs U ef Y0 H0 nL mu (pc, a) := by
  intro Y H locs r ls st hI hC
  unfold x_acp at h
  split at h
  · next kn kd o ks q S hS =>
    split at h
    · next t t2 ho hq =>
      split at h
      · next u ud us hu hud hus =>
        split at h
        · next n pre ft hg =>
          split at h
          · next hc =>
            cases h
            obtain ⟨c0, c1, c2, c3, c4, c5, c6, c7, c8, hef⟩ := hc
            subst c0; subst c4; subst c5
            obtain ⟨bd, td, ed, htd, hYd⟩ := x_ref_at (hC.1 o _ ho) rfl
            obtain ⟨bs, ts, es, hts, hYs⟩ := x_ref_at (hC.1 q _ hq) rfl
            have htd : td = t := by rcases List.mem_cons.mp htd with e0 | e0; exact e0; cases e0
            have hts : ts = t := by rcases List.mem_cons.mp hts with e0 | e0; exact e0; cases e0
            subst htd; subst hts
            obtain ⟨vn, en, bn⟩ := hC.1 kn _ hu
            obtain ⟨vd, edd, bdd⟩ := hC.1 kd _ hud
            obtain ⟨vs, ess, bss⟩ := hC.1 ks _ hus
            have n1 := bn.1; have n2 := bn.2
            have d1 : (0 : Int) ≤ vd.toInt := bdd.1; have d2 : vd.toInt ≤ 0 := bdd.2
            have s1 : (0 : Int) ≤ vs.toInt := bss.1; have s2 : vs.toInt ≤ 0 := bss.2
            have z0 : (0 : Int32).toInt = 0 := rfl
            have ed0 : vd = 0 := Int32.toInt_inj.mp (by omega)
            have es0 : vs = 0 := Int32.toInt_inj.mp (by omega)
            subst ed0; subst es0
            have hst : st = .int vn :: .int 0 :: .ref bd :: .int 0 :: .ref bs :: S.map r := by rw [hC.2.2.1, hS]; simp only [List.map_cons]; rw [en, edd, ed, ess, es]
            rw [hst]
            obtain ⟨gd, h1, h2⟩ := hI.1.1 bd _ hYd
            cases h1.symm.trans hg
            obtain ⟨cd, w1, w2, w3, w4, w5, w6⟩ := h2
            obtain ⟨gs, h3, h4⟩ := hI.1.1 bs _ hYs
            cases h3.symm.trans hg
            obtain ⟨cs, v1, v2, v3, v4, v5, v6⟩ := h4
            have w4 : cd.slots.size = n := w4
            have v4 : cs.slots.size = n := v4
            obtain ⟨-, kd1, hkd1, cmd, hkkd⟩ := State.isArrayOf_alike hU w2
            obtain ⟨-, ks1, hks1, cms, hkks⟩ := State.isArrayOf_alike hU v2
            have hcl : vn.toNatClampNeg = vn.toInt.toNat := rfl
            have hvals : ∀ i, i < vn.toNatClampNeg → ∃ x : Int32, cs.slots[i]? = some (.int x) := by
              intro i hi
              have hin : i < cs.slots.size := by rw [v4]; omega
              have h9 := v6 i _ (Array.getElem?_eq_getElem hin)
              have h10 : x_c Y xFull cs.slots[i] := by
                rw [List.getD_eq_getElem?_getD] at h9
                cases hq9 : pre[i]? with
                | none => rw [hq9] at h9; exact x_le_ok c7 h9
                | some w => rw [hq9] at h9; exact x_le_ok (List.all_eq_true.mp c8 w (List.mem_of_getElem? hq9)) h9
              obtain ⟨x, hx9, -⟩ := h10
              exact ⟨x, by rw [Array.getElem?_eq_getElem hin, hx9]⟩
            intro T hT XS
            have hcat := Nat.le_trans (x_ct_ok hC.1 S) c6
            obtain ⟨vm', X', step⟩ := XS.arraycopy hx hown hlink hnat hstat hini (src := bs) (dst := bd) (cs := cs) (cd := cd) (srcPos := 0) (destPos := 0) (n := vn) (by rw [hT]; exact v1) (by rw [hT]; exact w1)
              v2.1 w2.1 v3 w3 hks1 hkd1 hkks hkkd (by simp [refKind]) (by decide) (by decide) (by rw [Int32.lt_iff_toInt_lt]; omega)
              (by rw [v4, z0]; omega) (by rw [w4, z0]; omega)
              (fun vm₁ _ i hi => by
                obtain ⟨x, hx9⟩ := hvals i hi
                have e9 : cs.slots.getD ((0 : Int32).toNatClampNeg + i) .null = .int x := by
                  rw [show (0 : Int32).toNatClampNeg = 0 from rfl, Nat.zero_add, Array.getD_eq_getD_getElem?, hx9]
                  rfl
                rw [e9]
                exact ⟨rfl, trivial⟩)
              (g := F0 m pc ls (.int vn :: .int 0 :: .ref bd :: .int 0 :: .ref bs :: S.map r)) rfl (by rw [hml]; exact hC.2.1.1) (rest := S.map r) rfl (by rw [hb]; exact hd) hfr (by show 2 * 0 + _ + _ ≤ _; omega)
            have hfacts := cd.storeRun_facts (0 : Int32).toNatClampNeg (cs.stretch (0 : Int32).toNatClampNeg vn.toNatClampNeg)
            have hslen : (cs.stretch (0 : Int32).toNatClampNeg vn.toNatClampNeg).length = vn.toNatClampNeg := by simp [Cell.stretch]
            have hget : ∀ (j : Nat) (w : Value), (copied cs cd 0 0 vn).slots[j]? = some w → cs.slots[j]? = some w ∨ cd.slots[j]? = some w := by
              intro j w hj
              have h9 : (copied cs cd 0 0 vn).slots[j]? = _ := cd.storeRun_get (0 : Int32).toNatClampNeg (cs.stretch (0 : Int32).toNatClampNeg vn.toNatClampNeg) j (by rw [hslen, w4, show (0 : Int32).toNatClampNeg = 0 from rfl]; omega)
              rw [h9] at hj
              split at hj
              · next hjj =>
                rw [hslen, show (0 : Int32).toNatClampNeg = 0 from rfl] at hjj
                rw [show (0 : Int32).toNatClampNeg = 0 from rfl] at hj
                have hjn : j < vn.toNatClampNeg := by omega
                obtain ⟨x, hx9⟩ := hvals j hjn
                unfold Cell.stretch at hj
                rw [List.getElem?_map, Nat.sub_zero, List.getElem?_range hjn] at hj
                have e9 : cs.slots.getD (0 + j) .null = w := Option.some.inj hj
                rw [Nat.zero_add, Array.getD_eq_getD_getElem?, hx9] at e9
                left
                rw [hx9, ← e9]
                rfl
              · exact Or.inr hj
            have hbl : bd < H.size := (Array.getElem?_eq_some_iff.mp w1).1
            have hheap : ((T.setVm vm').setCell bd (copied cs cd 0 0 vn)).heap = H.setIfInBounds bd (copied cs cd 0 0 vn) := by rw [← hT]; rfl
            have oq : ∀ q : Nat, q ≠ bd → (H.setIfInBounds bd (copied cs cd 0 0 vn))[q]? = H[q]? := fun q hq => by simp [Array.getElem?_setIfInBounds, Ne.symm hq]
            have hat : (H.setIfInBounds bd (copied cs cd 0 0 vn))[bd]? = some (copied cs cd 0 0 vn) := by simp [Array.getElem?_setIfInBounds, hbl]
            have hH' : x_H D G Zs U Y (H.setIfInBounds bd (copied cs cd 0 0 vn)) := by
              refine hI.1.put hYd oq hg ⟨_, hat, ⟨?_, ?_⟩, ?_, ?_, ?_, fun j w hj => ?_⟩
              · intro k; rw [show (copied cs cd 0 0 vn).vm = cd.vm from hfacts.2.1]; exact w2.1 k
              · rw [show (copied cs cd 0 0 vn).cls = cd.cls from hfacts.1]; exact w2.2
              · rw [show (copied cs cd 0 0 vn).vm = cd.vm from hfacts.2.1]; exact w3
              · show (copied cs cd 0 0 vn).slots.size = n
                rw [show (copied cs cd 0 0 vn).slots.size = cd.slots.size from hfacts.2.2.1]; exact w4
              · intro hr9; rw [show (copied cs cd 0 0 vn).cls = cd.cls from hfacts.1]; exact w5 hr9
              · rcases hget j w hj with h9 | h9
                · exact v6 j w h9
                · exact w6 j w h9
            have hI' := hI.putL (L := (cs.stretch (0 : Int32).toNatClampNeg vn.toNatClampNeg).zipIdx.map fun q => ⟨bd, (0 : Int32).toNatClampNeg + q.2⟩) (fun q hq => by obtain ⟨z, -, rfl⟩ := List.mem_map.mp hq; rfl) hY0 hYd hH' (by simp) oq (fun g hy0 hg2 => by
              cases hg.symm.trans hg2
              intro hn
              rcases hef with h9 | h9
              · obtain ⟨z, y1, y2⟩ := List.any_eq_true.mp h9
                simp only [Bool.and_eq_true, beq_iff_eq] at y2
                exact absurd (by rw [← y2.1, ← y2.2]; exact y1) hn
              · obtain ⟨z, y1, y2⟩ := List.any_eq_true.mp h9
                simp only [beq_iff_eq] at y2
                obtain ⟨b', f1, f2⟩ := hC.2.2.2.2.2.2 z y1
                rw [y2, ed] at f1
                cases f1
                rw [f2] at hy0; cases hy0)
            have hK1 := hs _ List.mem_cons_self Y (H.setIfInBounds bd (copied cs cd 0 0 vn)) _ r ls (S.map r) hI' ⟨hC.1, hC.2.1, rfl, fun f hf => by
              obtain ⟨hfm, hfc⟩ := List.mem_filter.mp hf
              obtain ⟨b', f1, f2⟩ := hC.2.2.2.1 f hfm
              refine ⟨b', f1, ?_⟩
              have hne := x_dj_ok hC.1 hfc f1 ed
              show ((H.setIfInBounds bd (copied cs cd 0 0 vn))[b']?).bind _ = _
              rw [oq b' hne]; exact f2, hC.2.2.2.2⟩
            obtain ⟨tt, a1, b1⟩ := hK1 _ hheap X'
            exact ⟨tt, step tt a1, b1⟩
          · cases h
        · cases h
      · cases h
    · cases h
  · cases h
end XCP
end
section
/-! ONE INSTRUCTION -/
def x_len (i : Instr) : Nat := match i with
  | .bipush _ => 2 | .ldc _ => 2 | .iload _ => 2 | .lload _ => 2 | .aload _ => 2 | .istore _ => 2 | .lstore _ => 2 | .astore _ => 2 | .newarray _ => 2
  | .sipush _ => 3 | .ldc_w _ => 3 | .ldc2_w _ => 3 | .iinc _ _ => 3 | .if_icmp _ _ => 3 | .ifCond _ _ => 3 | .ifnull _ => 3 | .ifnonnull _ => 3 | .goto _ => 3
  | .getfield _ => 3 | .putfield _ => 3 | .getstatic _ => 3 | .invokevirtual _ => 3 | .invokestatic _ => 3 | .invokespecial _ => 3 | .new _ => 3 | .anewarray _ => 3
  | _ => 1
def x_lenF (i : Instr) (n : Nat) : Nat := match i with
  | .tableswitch _ _ _ _ => n
  | i => x_len i
def x_swp (o : Option xB2) : Option xB2 := o.map (fun b => (b.2, b.1))
def x_nz (q : Int × Int) : Bool := decide (0 < q.1) || decide (q.2 < 0)
abbrev xTab : Type := List (Nat × Nat × Nat) × List (Nat × Nat × Nat) × List (Nat × Nat) × List (Nat × Nat) × List (Nat × Nat) × List (Nat × Int) × List (Nat × Int) × List xCl × List Nat × List (Nat × Nat) × List (Nat × Nat)
abbrev tb_pf (T : xTab) := T.1
abbrev tb_pw (T : xTab) := T.2.1
abbrev tb_pn (T : xTab) := T.2.2.1
abbrev tb_pa (T : xTab) := T.2.2.2.1
abbrev tb_ps (T : xTab) := T.2.2.2.2.1
abbrev tb_pk (T : xTab) := T.2.2.2.2.2.1
abbrev tb_pl (T : xTab) := T.2.2.2.2.2.2.1
abbrev tb_cs (T : xTab) := T.2.2.2.2.2.2.2.1
abbrev tb_oi (T : xTab) := T.2.2.2.2.2.2.2.2.1
abbrev tb_ao (T : xTab) := T.2.2.2.2.2.2.2.2.2.1
abbrev tb_ac (T : xTab) := T.2.2.2.2.2.2.2.2.2.2
/-- an int that is known -/
def x_k (a : xS) (pc : Nat) (n : Int) : xN := if -2147483648 ≤ n ∧ n ≤ 2147483647 then some [(pc, x_psh a a.2.2.1 (.inl (n, n)))] else none
def x_kL (a : xS) (pc : Nat) (n : Int) : xN := if -9223372036854775808 ≤ n ∧ n ≤ 9223372036854775807 then some [(pc, x_psh a a.2.2.1 (.inr (.inl (n, n))))] else none
def x_oi (a : xS) (pc : Nat) : xN := match a.2.2.1 with
  | x :: S => (match a.1[x]? with
    | some (.inr (.inr (false, _))) => if x_ct a.1 S ≤ 8 then some [(pc + 3, x_top a S)] else none
    | _ => none)
  | _ => none
def x_gs (a : xS) (pc tag : Nat) : xN := some [(pc + 3, x_psh a a.2.2.1 (.inr (.inr (false, [tag]))))]
def x_stp (nL : Nat) (G : List xG) (ef : List (Nat × Nat)) (T : xTab) (mc ms : Nat) (i : Instr) (pc : Nat) (a : xS) : xN := match i with
  | .iconst n => if -128 ≤ n ∧ n ≤ 127 then x_k a (pc + 1) n else none
  | .bipush n => if -128 ≤ n ∧ n ≤ 127 then x_k a (pc + 2) n else none
  | .sipush n => if -32768 ≤ n ∧ n ≤ 32767 then x_k a (pc + 3) n else none
  | .ldc idx => (match (tb_pk T).find? (fun z => z.1 == idx) with
    | some z => x_k a (pc + 2) z.2
    | none => none)
  | .ldc_w idx => (match (tb_pk T).find? (fun z => z.1 == idx) with
    | some z => x_k a (pc + 3) z.2
    | none => none)
  | .ldc2_w idx => (match (tb_pl T).find? (fun z => z.1 == idx) with
    | some z => x_kL a (pc + 3) z.2
    | none => none)
  | .lconst n => x_kL a (pc + 1) ((n : Nat) : Int)
  | .iload i => x_ld a (pc + 2) i x_isI
  | .iload_n k => x_ld a (pc + 1) (k : Nat) x_isI
  | .lload i => x_ld a (pc + 2) i x_isL
  | .lload_n k => x_ld a (pc + 1) (k : Nat) x_isL
  | .aload i => x_ld a (pc + 2) i x_isR
  | .aload_n k => x_ld a (pc + 1) (k : Nat) x_isR
  | .istore i => x_sto a (pc + 2) i nL x_isI
  | .istore_n k => x_sto a (pc + 1) (k : Nat) nL x_isI
  | .astore i => x_sto a (pc + 2) i nL x_isR
  | .astore_n k => x_sto a (pc + 1) (k : Nat) nL x_isR
  | .lstore i => x_stoL a (pc + 2) i nL
  | .lstore_n k => x_stoL a (pc + 1) (k : Nat) nL
  | .iinc i n => x_iinc a pc i nL n
  | .iadd => x_addS a pc
  | .isub => x_bin a pc (fun u q => some (x_subB u q))
  | .imul => x_bin a pc (fun u q => some (x_mulB u q))
  | .iand => x_bin a pc (fun u q => some (x_andB u q))
  | .ior => x_bin a pc (fun u q => some (x_orB u q))
  | .ixor => x_bin a pc (fun u q => some (x_orB u q))
  | .ishl => x_bin a pc (fun u q => some (x_shlB u q))
  | .ishr => x_bin a pc (fun u q => some (x_shrB u q))
  | .iushr => x_bin a pc (fun _ _ => some x_full)
  | .idiv => x_bin a pc (fun u q => if x_nz q then some (x_divB u q) else none)
  | .irem => x_bin a pc (fun u q => if x_nz q then some (x_remB u q) else none)
  | .ineg => x_un a pc x_negB
  | .i2l => x_i2l a pc
  | .l2i => x_l2i a pc
  | .ladd => x_binL a pc false
  | .lsub => x_binL a pc false
  | .lmul => x_binL a pc false
  | .land => x_binL a pc false
  | .lor => x_binL a pc false
  | .ldiv => x_binL a pc true
  | .lrem => x_binL a pc true
  | .lneg => x_unL a pc
  | .lshl => x_shL a pc
  | .lshr => x_shL a pc
  | .lushr => x_shL a pc
  | .lcmp => x_lcmp a pc
  | .if_icmp .eq off => x_icmp a pc off x_req x_rne
  | .if_icmp .ne off => x_icmp a pc off x_rne x_req
  | .if_icmp .lt off => x_icmp a pc off x_rlt (fun u q => x_swp (x_rle q u))
  | .if_icmp .ge off => x_icmp a pc off (fun u q => x_swp (x_rle q u)) x_rlt
  | .if_icmp .gt off => x_icmp a pc off (fun u q => x_swp (x_rlt q u)) x_rle
  | .if_icmp .le off => x_icmp a pc off x_rle (fun u q => x_swp (x_rlt q u))
  | .ifCond .eq off => x_if0 a pc off x_req x_rne
  | .ifCond .ne off => x_if0 a pc off x_rne x_req
  | .ifCond .lt off => x_if0 a pc off x_rlt (fun u q => x_swp (x_rle q u))
  | .ifCond .ge off => x_if0 a pc off (fun u q => x_swp (x_rle q u)) x_rlt
  | .ifCond .gt off => x_if0 a pc off (fun u q => x_swp (x_rlt q u)) x_rle
  | .ifCond .le off => x_if0 a pc off x_rle (fun u q => x_swp (x_rlt q u))
  | .ifnull off => x_ifn a pc off false
  | .ifnonnull off => x_ifn a pc off true
  | .goto off => (match x_tgt pc off with
    | some t => some [(t, a)]
    | none => none)
  | .tableswitch d lo hi offs => x_sw a pc d lo hi offs
  | .dup => x_dup a pc
  | .dup2 => x_dup2 a pc
  | .pop => x_pop a pc
  | .pop2 => x_pop2 a pc
  | .getfield idx => x_gf G (tb_pf T) a pc idx
  | .putfield idx => x_pf G (tb_pw T) ef a pc idx
  | .getstatic idx => (match (tb_ps T).find? (fun z => z.1 == idx) with
    | some z => x_gs a pc z.2
    | none => none)
  | .iaload => x_ial G a pc (fun t => t == .int)
  | .baload => x_ial G a pc (fun t => t == .boolean || t == .byte)
  | .aaload => x_ial G a pc (fun t => t.isReference)
  | .iastore => x_ias G ef a pc
  | .bastore => x_bas G ef a pc
  | .aastore => x_aas G ef (tb_ao T) a pc
  | .arraylength => x_aln G a pc
  | .new idx => x_newo G (tb_pn T) mc ms a pc idx
  | .newarray _ => x_newa G (tb_pa T) mc ms a pc 2
  | .anewarray _ => x_newa G (tb_pa T) mc ms a pc 3
  | .invokevirtual idx => x_call G ef (tb_cs T) mc ms a pc 0 idx
  | .invokestatic idx => if (tb_ac T).any (fun z => z.1 == idx) then x_acp G ef a pc else x_call G ef (tb_cs T) mc ms a pc 1 idx
  | .invokespecial idx => if (tb_oi T).any (fun z => z == idx) then x_oi a pc else x_call G ef (tb_cs T) mc ms a pc 2 idx
  | _ => none
section XZ
variable {p : Program} {l : Launch} {e : Env} {R : Room} {s : State} {m : MethodId} {args : Array Value} {below : List Frame} {meth : Method} {c : Code} {Q : State → Prop}
variable {D : va_G} {G : List xG} {Zs : List xZ} {U : State} {ef : List (Nat × Nat)} {Y0 : xY} {H0 : Heap} {nL : Nat} {mu : List Value}
variable {cc : ByteArray} {pc : Nat} {a : xS} {sc : List (Nat × xS)} {cl : List vw_C} {Ts : List Cond} {own : String}
variable (p l e R s m args below meth c D G Zs U nL cc cl Ts own) in
/-- the tables of a method's code are right, by the words at hand -/
def x_tok (T : xTab) : Prop :=
  (∀ z ∈ tb_pf T, x_fok cl G Ts s args own z) ∧ (∀ z ∈ tb_pw T, x_pok cl G Ts s args own meth.name z) ∧ (∀ z ∈ tb_pn T, x_nok cl G Ts s args own z) ∧
  (∀ z ∈ tb_pa T, (∀ at_, decode cc z.1 = .ok (.newarray at_, 2) → x_aok G s args at_ z.2) ∧ ∀ idx, decode cc z.1 = .ok (.anewarray idx, 3) → x_rok G s args own idx z.2) ∧
  (∀ z ∈ tb_ps T, ∀ (Q : State → Prop) (H : Heap) (locs : List Loc) (cells slots pc : Nat) (ls : Array Slot) (rest : List Value) (Y : xY), decode cc pc = .ok (.getstatic z.1, 3) → x_H D G Zs U Y H → (∀ b : Nat, Y b = some z.2 → W p l e R s m args below meth c H locs cells slots Q (F0 m (pc + 3) ls (.ref b :: rest))) → W p l e R s m args below meth c H locs cells slots Q (F0 m pc ls rest)) ∧
  (∀ z ∈ tb_pk T, ∃ v : Int32, v.toInt = z.2 ∧ (Cond.constant own z.1 v).before args s = true) ∧ (∀ z ∈ tb_pl T, ∃ v : Int64, v.toInt = z.2 ∧ (Cond.constantLong own z.1 v).before args s = true) ∧
  (∀ z ∈ tb_cs T, x_cok p l e R s m args below meth c D G Zs U nL cc z) ∧
  (∀ z ∈ tb_oi T, (Cond.methodLink own z objectInit).before args s = true ∧ (Cond.instanceMethod objectInit).before args s = true ∧ (Cond.code objectInit ⟨#[0xb1]⟩ 1 none).before args s = true ∧ 1 ≤ R.frames ∧ 20 ≤ R.locals) ∧
  (∀ z ∈ tb_ao T, x_sok cl G s z) ∧
  (∀ z ∈ tb_ac T, (Cond.methodLink own z.1 arraycopyName).before args s = true ∧ (Cond.native arraycopyName).before args s = true ∧ (Cond.static arraycopyName).before args s = true ∧ (Cond.initialized "java/lang/System").before args s = true ∧ 1 ≤ R.frames ∧ nativeFrameWords "java/lang/System" "arraycopy" 5 + 19 ≤ R.locals)
theorem x_swp_ok {o : Option xB2} {x y : Int32} (h : ∃ b : xB2, o = some b ∧ x_b b.1 y ∧ x_b b.2 x) : ∃ b : xB2, x_swp o = some b ∧ x_b b.1 x ∧ x_b b.2 y := by
  obtain ⟨b, h1, h2, h3⟩ := h
  exact ⟨(b.2, b.1), by rw [h1]; rfl, h3, h2⟩
theorem x_lt32 {x y : Int32} : x < y ↔ x.toInt < y.toInt := Int32.lt_iff_toInt_lt
theorem x_le32 {x y : Int32} : x ≤ y ↔ x.toInt ≤ y.toInt := Int32.le_iff_toInt_le
theorem x_b0 : x_b (0, 0) (0 : Int32) := by unfold x_b; decide
theorem x_1st {o : Option xB2} {x y : Int32} (h : ∃ b : xB2, o = some b ∧ x_b b.1 x ∧ x_b b.2 y) : ∃ b : xB2, o = some b ∧ x_b b.1 x := by
  obtain ⟨b, h1, h2, -⟩ := h
  exact ⟨b, h1, h2⟩
theorem x_k_ok {pc' : Nat} {n : Int} {v : Int32} (hw : x_wf a = true) (hv : v.toInt = n) (row : ∀ (H : Heap) (locs : List Loc) (cells slots : Nat) (ls : Array Slot) (rest : List Value), W p l e R s m args below meth c H locs cells slots Q (F0 m pc' ls (.int v :: rest)) → W p l e R s m args below meth c H locs cells slots Q (F0 m pc ls rest))
    (h : x_k a pc' n = some sc) (hs : ∀ q ∈ sc, x_K p l e R s m args below meth c Q D G Zs U ef Y0 H0 nL mu q) : x_K p l e R s m args below meth c Q D G Zs U ef Y0 H0 nL mu (pc, a) := by
  unfold x_k at h
  split at h
  · cases h
    exact x_cst_ok (t := .inl (n, n)) (v := .int v) hw (fun Y => ⟨v, rfl, by show n ≤ _; omega, by show _ ≤ n; omega⟩) row (hs _ List.mem_cons_self)
  · cases h
theorem x_kL_ok {pc' : Nat} {n : Int} {v : Int64} (hw : x_wf a = true) (hv : v.toInt = n) (row : ∀ (H : Heap) (locs : List Loc) (cells slots : Nat) (ls : Array Slot) (rest : List Value), W p l e R s m args below meth c H locs cells slots Q (F0 m pc' ls (.long v :: rest)) → W p l e R s m args below meth c H locs cells slots Q (F0 m pc ls rest))
    (h : x_kL a pc' n = some sc) (hs : ∀ q ∈ sc, x_K p l e R s m args below meth c Q D G Zs U ef Y0 H0 nL mu q) : x_K p l e R s m args below meth c Q D G Zs U ef Y0 H0 nL mu (pc, a) := by
  unfold x_kL at h
  split at h
  · cases h
    exact x_cst_ok (t := .inr (.inl (n, n))) (v := .long v) hw (fun Y => ⟨v, rfl, by show n ≤ _; omega, by show _ ≤ n; omega⟩) row (hs _ List.mem_cons_self)
  · cases h
theorem x_isI_ok {Y : xY} {t : xV} {v : Value} (h : x_isI t = true) (hc : x_c Y t v) : ∃ x : Int32, v = .int x := by
  rcases t with q | q | q
  · obtain ⟨x, e0, -⟩ := hc; exact ⟨x, e0⟩
  · cases h
  · cases h
theorem x_isL_ok {Y : xY} {t : xV} {v : Value} (h : x_isL t = true) (hc : x_c Y t v) : ∃ x : Int64, v = .long x := by
  rcases t with q | q | q
  · cases h
  · obtain ⟨x, e0, -⟩ := hc; exact ⟨x, e0⟩
  · cases h
theorem x_isR_ok {Y : xY} {t : xV} {v : Value} (h : x_isR t = true) (hc : x_c Y t v) : v = .null ∨ ∃ b : Nat, v = .ref b := by
  rcases t with q | q | q
  · cases h
  · cases h
  · rcases hc with ⟨e0, -⟩ | ⟨b, t, e0, -⟩
    · exact Or.inl e0
    · exact Or.inr ⟨b, e0⟩
theorem x_nz_ok {q : Int × Int} {y : Int32} (h : x_nz q = true) (hb : x_b q y) : ¬ y = 0 := by
  intro e0
  subst e0
  simp only [x_nz, Bool.or_eq_true, decide_eq_true_eq] at h
  have a1 := hb.1; have a2 := hb.2
  have z : (0 : Int32).toInt = 0 := rfl
  omega
theorem x_l01 : ∀ n : Fin 2, (Int64.ofNat (n : Nat)).toInt = ((n : Nat) : Int) := by decide
set_option maxHeartbeats 4000000 in
theorem x_stp_ok {T : xTab} {mc ms : Nat} {i : Instr} {len : Nat} (hw : x_wf a = true) (hx : p.tables.exec = Jvm.exec) (hb : c.code = cc) (hml : c.maxLocals = nL) (hts : ∀ w ∈ Ts, w.before args s = true) (hown : s.vm.findClass own = some m.cls) (hK : va_K D cl [] s) (hU : U.vm.Alike s.vm)
    (hY0 : ∀ q u, Y0 q = some u → q < H0.size) (hT : x_tok p l e R s m args below meth c D G Zs U nL cc cl Ts own T) (hmc : mc ≤ R.cells) (hms : ms ≤ R.slots) (hd : decode cc pc = .ok (i, len)) (hlen : len = x_lenF i len)
    (h : x_stp nL G ef T mc ms i pc a = some sc) (hs : ∀ q ∈ sc, x_K p l e R s m args below meth c Q D G Zs U ef Y0 H0 nL mu q) : x_K p l e R s m args below meth c Q D G Zs U ef Y0 H0 nL mu (pc, a) := by
  obtain ⟨tpf, tpw, tpn, tpa, tps, tpk, tpl, tcs, toi, tao, tac⟩ := hT
  cases i <;> first
    | (dsimp only [x_stp] at h; cases h; done)
    | skip
  all_goals first
    | (change len = 1 at hlen; subst hlen)
    | (change len = 2 at hlen; subst hlen)
    | (change len = 3 at hlen; subst hlen)
    | skip
  all_goals dsimp only [x_stp] at h
  case aaload => exact x_ial_ok (i := .aaload) hw hU (fun H locs cells slots ls rest b cell j v et ht h1 h2 h3 h4 h5 k => W.aald hx hb h1 h2 ht h3 h4 h5 rfl rfl hd k) h hs
  case aastore => exact x_aas_ok hx hb hU hK hY0 tao hd h hs
  case aload i =>
    refine x_ld_ok (fun Y H locs cells slots ls rest t v ht hc hl k => ?_) h hs
    rcases x_isR_ok ht hc with e0 | ⟨b, e0⟩
    · rw [e0] at hl k; exact lv_aloadN hx hb hd hl k
    · rw [e0] at hl k; exact lv_aload hx hb hd hl k
  case aload_n i =>
    refine x_ld_ok (fun Y H locs cells slots ls rest t v ht hc hl k => ?_) h hs
    rcases x_isR_ok ht hc with e0 | ⟨b, e0⟩
    · rw [e0] at hl k; exact lv_aload_nN hx hb hd rfl hl k
    · rw [e0] at hl k; exact lv_aload_n hx hb hd rfl hl k
  case anewarray idx => exact x_newr_ok hw hx hb hU hown hY0 (fun z hz he => (tpa z hz).2 idx (by rw [he]; exact hd)) hmc hms hd h hs
  case arraylength => exact x_aln_ok hw hx hb hU hd h hs
  case astore i =>
    refine x_sto_ok (fun Y H locs cells slots ls rest t v lv ht hc hl hn k => ?_) h hs
    rcases x_isR_ok ht hc with e0 | ⟨b, e0⟩
    · subst e0; exact lv_astoreN hx hb hd hl hn rfl k
    · subst e0; exact lv_astore hx hb hd hl hn rfl k
  case astore_n i =>
    refine x_sto_ok (fun Y H locs cells slots ls rest t v lv ht hc hl hn k => ?_) h hs
    rcases x_isR_ok ht hc with e0 | ⟨b, e0⟩
    · subst e0; exact lv_astore_nN hx hb hd rfl hl hn rfl k
    · subst e0; exact lv_astore_n hx hb hd rfl hl hn rfl k
  case baload =>
    refine x_ial_ok (i := .baload) hw hU (fun H locs cells slots ls rest b cell j v et ht h1 h2 h3 h4 h5 k => ?_) h hs
    simp only [Bool.or_eq_true, beq_iff_eq] at ht
    rcases ht with e0 | e0
    · subst e0; exact W.zald hx hb h1 h2 h3 h4 h5 rfl rfl hd k
    · subst e0; exact W.bald hx hb h1 h2 h3 h4 h5 rfl rfl hd k
  case bastore => exact x_bas_ok hx hb hU hY0 hd h hs
  case bipush n =>
    split at h
    · next hn =>
      have ev : ((Int8.ofInt n).toInt32).toInt = n := by
        rw [Int8.toInt_toInt32, Int8.toInt_ofInt]
        show Int.bmod n 256 = n
        exact Int.bmod_eq_of_le (by omega) (by omega)
      exact x_k_ok hw ev (fun H locs cells slots ls rest k => lv_bipush hx hb hd rfl k) h hs
    · cases h
  case dup =>
    unfold x_dup at h
    split at h
    · next x S hS =>
      split at h
      · next hn =>
        cases h
        exact x_stk_ok hS (fun Y H locs cells slots ls r hr k => lv_dup hx hb hd (x_n2_ok hr hn) k) (hs _ List.mem_cons_self)
      · cases h
    · cases h
  case dup2 =>
    unfold x_dup2 at h
    split at h
    · next y x S hS =>
      split at h
      · next hn =>
        cases h
        exact x_stk_ok hS (fun Y H locs cells slots ls r hr k => lv_dup2_11 hx hb hd (x_n2_ok hr hn.2) (x_n2_ok hr hn.1) k) (hs _ List.mem_cons_self)
      · cases h
    · cases h
  case getfield idx => exact x_gf_ok hw hx hb hts hown hK tpf hd h hs
  case getstatic idx =>
    split at h
    · next z hz =>
      have hzm := List.mem_of_find?_eq_some hz
      have hze := List.find?_some hz
      simp only [beq_iff_eq] at hze
      subst hze
      cases h
      intro Y H locs r ls st hI hC
      have hst := hC.2.2.1
      rw [hst]
      refine tps z hzm Q H locs _ _ pc ls _ Y hd hI.1 fun b hb' => ?_
      exact hs _ List.mem_cons_self Y H locs _ ls _ hI (hC.psh hw (x_wf_spec hw).2.1 (Or.inr ⟨b, z.2, rfl, List.mem_cons_self, hb'⟩))
    · cases h
  case goto off =>
    split at h
    · next t ht =>
      cases h
      intro Y H locs r ls st hI hC
      exact lv_goto hx hb hd (x_tgt_ok ht) (hs _ List.mem_cons_self Y H locs r ls st hI hC)
    · cases h
  case i2l => exact x_i2l_ok hw hx hb hd h hs
  case iadd => exact x_addS_ok hw hx hb hd h hs
  case iaload =>
    refine x_ial_ok (i := .iaload) hw hU (fun H locs cells slots ls rest b cell j v et ht h1 h2 h3 h4 h5 k => ?_) h hs
    simp only [beq_iff_eq] at ht
    subst ht
    exact W.iald hx hb h1 h2 h3 h4 h5 rfl rfl hd k
  case iand => exact x_bin_ok hw (fun u q t x y e0 h1 h2 => by cases e0; exact x_and_ok h1 h2) (fun H locs cells slots ls rest x y u q t _ _ _ k => lv_iand hx hb hd k) h hs
  case iastore => exact x_ias_ok hx hb hU hY0 hd h hs
  case iconst n =>
    split at h
    · next hn =>
      have ev : (Int32.ofInt n).toInt = n := by rw [Int32.toInt_ofInt, x_bm (by omega) (by omega)]
      exact x_k_ok hw ev (fun H locs cells slots ls rest k => lv_iconst hx hb hd rfl k) h hs
    · cases h
  case idiv =>
    refine x_bin_ok (g := fun x y => x / y) hw (fun u q t x y e0 h1 h2 => ?_) (fun H locs cells slots ls rest x y u q t e0 _ h2 k => ?_) h hs
    · split at e0
      · cases e0; exact x_div_ok h1 h2
      · cases e0
    · split at e0
      · next hz => exact lv_idiv hx hb hd (x_nz_ok hz h2) k
      · cases e0
  case if_icmp cond off =>
    cases cond <;> dsimp only at h
    · exact x_icmp_ok (P := fun x y => x = y) (fun u q x y h1 h2 hp => x_req_ok h1 h2 (by rw [hp])) (fun u q x y h1 h2 hp => x_rne_ok h1 h2 (fun e0 => hp (Int32.toInt_inj.mp e0))) (fun H locs cells slots ls rest x y tgt ht k1 k2 => lv_icmp_eq hx hb hd ht k1 k2) h hs
    · exact x_icmp_ok (P := fun x y => ¬ x = y) (fun u q x y h1 h2 hp => x_rne_ok h1 h2 (fun e0 => hp (Int32.toInt_inj.mp e0))) (fun u q x y h1 h2 hp => x_req_ok h1 h2 (by rw [Decidable.not_not.mp hp])) (fun H locs cells slots ls rest x y tgt ht k1 k2 => lv_icmp_ne hx hb hd ht k1 (fun e0 => k2 (fun hn => hn e0))) h hs
    · exact x_icmp_ok (P := fun x y => x < y) (fun u q x y h1 h2 hp => x_rlt_ok h1 h2 (x_lt32.mp hp)) (fun u q x y h1 h2 hp => x_swp_ok (x_rle_ok h2 h1 (by rw [x_lt32] at hp; omega))) (fun H locs cells slots ls rest x y tgt ht k1 k2 => lv_icmp_lt hx hb hd ht k1 k2) h hs
    · exact x_icmp_ok (P := fun x y => y ≤ x) (fun u q x y h1 h2 hp => x_swp_ok (x_rle_ok h2 h1 (x_le32.mp hp))) (fun u q x y h1 h2 hp => x_rlt_ok h1 h2 (by rw [x_le32] at hp; omega)) (fun H locs cells slots ls rest x y tgt ht k1 k2 => lv_icmp_ge hx hb hd ht k1 k2) h hs
    · exact x_icmp_ok (P := fun x y => y < x) (fun u q x y h1 h2 hp => x_swp_ok (x_rlt_ok h2 h1 (x_lt32.mp hp))) (fun u q x y h1 h2 hp => x_rle_ok h1 h2 (by rw [x_lt32] at hp; omega)) (fun H locs cells slots ls rest x y tgt ht k1 k2 => lv_icmp_gt hx hb hd ht k1 k2) h hs
    · exact x_icmp_ok (P := fun x y => x ≤ y) (fun u q x y h1 h2 hp => x_rle_ok h1 h2 (x_le32.mp hp)) (fun u q x y h1 h2 hp => x_swp_ok (x_rlt_ok h2 h1 (by rw [x_le32] at hp; omega))) (fun H locs cells slots ls rest x y tgt ht k1 k2 => lv_icmp_le hx hb hd ht k1 k2) h hs
  case ifCond cond off =>
    cases cond <;> dsimp only at h
    · exact x_if0_ok (P := fun x => x = 0) (fun u x h1 hp => x_1st (x_req_ok h1 x_b0 (by rw [hp]))) (fun u x h1 hp => x_1st (x_rne_ok h1 x_b0 (fun e0 => hp (Int32.toInt_inj.mp e0)))) (fun H locs cells slots ls rest x tgt ht k1 k2 => lv_if_eq hx hb hd ht k1 k2) h hs
    · exact x_if0_ok (P := fun x => ¬ x = 0) (fun u x h1 hp => x_1st (x_rne_ok h1 x_b0 (fun e0 => hp (Int32.toInt_inj.mp e0)))) (fun u x h1 hp => x_1st (x_req_ok h1 x_b0 (by rw [Decidable.not_not.mp hp]))) (fun H locs cells slots ls rest x tgt ht k1 k2 => lv_if_ne hx hb hd ht k1 (fun e0 => k2 (fun hn => hn e0))) h hs
    · exact x_if0_ok (P := fun x => x < 0) (fun u x h1 hp => x_1st (x_rlt_ok h1 x_b0 (x_lt32.mp hp))) (fun u x h1 hp => x_1st (x_swp_ok (x_rle_ok x_b0 h1 (by rw [x_lt32] at hp; omega)))) (fun H locs cells slots ls rest x tgt ht k1 k2 => lv_if_lt hx hb hd ht k1 k2) h hs
    · exact x_if0_ok (P := fun x => 0 ≤ x) (fun u x h1 hp => x_1st (x_swp_ok (x_rle_ok x_b0 h1 (x_le32.mp hp)))) (fun u x h1 hp => x_1st (x_rlt_ok h1 x_b0 (by rw [x_le32] at hp; omega))) (fun H locs cells slots ls rest x tgt ht k1 k2 => lv_if_ge hx hb hd ht k1 k2) h hs
    · exact x_if0_ok (P := fun x => 0 < x) (fun u x h1 hp => x_1st (x_swp_ok (x_rlt_ok x_b0 h1 (x_lt32.mp hp)))) (fun u x h1 hp => x_1st (x_rle_ok h1 x_b0 (by rw [x_lt32] at hp; omega))) (fun H locs cells slots ls rest x tgt ht k1 k2 => lv_if_gt hx hb hd ht k1 k2) h hs
    · exact x_if0_ok (P := fun x => x ≤ 0) (fun u x h1 hp => x_1st (x_rle_ok h1 x_b0 (x_le32.mp hp))) (fun u x h1 hp => x_1st (x_swp_ok (x_rlt_ok x_b0 h1 (by rw [x_le32] at hp; omega)))) (fun H locs cells slots ls rest x tgt ht k1 k2 => lv_if_le hx hb hd ht k1 k2) h hs
  case ifnonnull off => exact x_ifn_ok (non := true) (fun H locs cells slots ls rest b tgt ht k => lv_ifnonnull hx hb hd ht k) (fun H locs cells slots ls rest tgt ht k => lv_ifnonnullN hx hb hd k) h hs
  case ifnull off => exact x_ifn_ok (non := false) (fun H locs cells slots ls rest b tgt ht k => lv_ifnull hx hb hd k) (fun H locs cells slots ls rest tgt ht k => lv_ifnullN hx hb hd ht k) h hs
  case iinc i n => exact x_iinc_ok hw hx hb hd h hs
  case iload i =>
    refine x_ld_ok (fun Y H locs cells slots ls rest t v ht hc hl k => ?_) h hs
    obtain ⟨x, e0⟩ := x_isI_ok ht hc
    rw [e0] at hl k; exact lv_iload hx hb hd hl k
  case iload_n i =>
    refine x_ld_ok (fun Y H locs cells slots ls rest t v ht hc hl k => ?_) h hs
    obtain ⟨x, e0⟩ := x_isI_ok ht hc
    rw [e0] at hl k; exact lv_iload_n hx hb hd rfl hl k
  case imul => exact x_bin_ok hw (fun u q t x y e0 h1 h2 => by cases e0; exact x_mul_ok h1 h2) (fun H locs cells slots ls rest x y u q t _ _ _ k => lv_imul hx hb hd k) h hs
  case ineg => exact x_un_ok hw (fun u x h1 => x_neg_ok h1) (fun H locs cells slots ls rest x k => lv_ineg hx hb hd k) h hs
  case invokespecial idx =>
    split at h
    · next hoi =>
      obtain ⟨z, hz, hze⟩ := List.any_eq_true.mp hoi
      simp only [beq_iff_eq] at hze
      subst hze
      obtain ⟨o1, o2, o3, o4, o5⟩ := toi z hz
      unfold x_oi at h
      split at h
      · next x S hS =>
        split at h
        · next ts hts' =>
          split at h
          · next hct =>
            cases h
            intro Y H locs r ls st hI hC
            obtain ⟨b, t, eb, -, -⟩ := x_ref_at (hC.1 x _ hts') rfl
            have hst : st = .ref b :: S.map r := by rw [hC.2.2.1, hS, List.map_cons, eb]
            rw [hst]
            have hcat := Nat.le_trans (x_ct_ok hC.1 S) hct
            refine W.objInit hx hb hown o1 o2 o3 rfl (by rw [hml]; exact hC.2.1.1) rfl hd o4 (by show 2 * 0 + _ + 12 ≤ _; omega) ?_
            exact hs _ List.mem_cons_self Y H locs r ls _ hI (hC.stk S)
          · cases h
        · cases h
      · cases h
    · exact x_call_ok (kind := 2) hw hY0 tcs hd hmc hms h hs
  case invokestatic idx =>
    split at h
    · next hac =>
      obtain ⟨z, hz, hze⟩ := List.any_eq_true.mp hac
      simp only [beq_iff_eq] at hze
      subst hze
      obtain ⟨o1, o2, o3, o4, o5, o6⟩ := tac z hz
      exact x_acp_ok hx hb hml hown hU hY0 o1 o2 o3 o4 o5 o6 hd h hs
    · exact x_call_ok (kind := 1) hw hY0 tcs hd hmc hms h hs
  case invokevirtual idx => exact x_call_ok (kind := 0) hw hY0 tcs hd hmc hms h hs
  case ior => exact x_bin_ok hw (fun u q t x y e0 h1 h2 => by cases e0; exact x_or_ok h1 h2) (fun H locs cells slots ls rest x y u q t _ _ _ k => lv_ior hx hb hd k) h hs
  case irem =>
    refine x_bin_ok (g := fun x y => x - x / y * y) hw (fun u q t x y e0 h1 h2 => ?_) (fun H locs cells slots ls rest x y u q t e0 _ h2 k => ?_) h hs
    · split at e0
      · cases e0; exact x_rem_ok h1 h2
      · cases e0
    · split at e0
      · next hz => exact lv_irem hx hb hd (x_nz_ok hz h2) k
      · cases e0
  case ishl => exact x_bin_ok hw (fun u q t x y e0 h1 h2 => by cases e0; exact x_shl_ok h1 h2) (fun H locs cells slots ls rest x y u q t _ _ _ k => lv_ishl hx hb hd k) h hs
  case ishr => exact x_bin_ok hw (fun u q t x y e0 h1 h2 => by cases e0; exact x_shr_ok h1 h2) (fun H locs cells slots ls rest x y u q t _ _ _ k => lv_ishr hx hb hd k) h hs
  case istore i =>
    refine x_sto_ok (fun Y H locs cells slots ls rest t v lv ht hc hl hn k => ?_) h hs
    obtain ⟨x, e0⟩ := x_isI_ok ht hc
    subst e0; exact lv_istore hx hb hd hl hn rfl k
  case istore_n i =>
    refine x_sto_ok (fun Y H locs cells slots ls rest t v lv ht hc hl hn k => ?_) h hs
    obtain ⟨x, e0⟩ := x_isI_ok ht hc
    subst e0; exact lv_istore_n hx hb hd rfl hl hn rfl k
  case isub => exact x_bin_ok hw (fun u q t x y e0 h1 h2 => by cases e0; exact x_sub_ok h1 h2) (fun H locs cells slots ls rest x y u q t _ _ _ k => lv_isub hx hb hd k) h hs
  case iushr => exact x_bin_ok hw (fun u q t x y e0 h1 h2 => by cases e0; exact x_fullb _) (fun H locs cells slots ls rest x y u q t _ _ _ k => lv_iushr hx hb hd rfl k) h hs
  case ixor => exact x_bin_ok hw (fun u q t x y e0 h1 h2 => by cases e0; exact x_xor_ok h1 h2) (fun H locs cells slots ls rest x y u q t _ _ _ k => lv_ixor hx hb hd k) h hs
  case l2i => exact x_l2i_ok hw hx hb hd h hs
  case ladd => exact x_binL_ok hw (fun H locs cells slots ls rest x y _ k => lv_ladd hx hb hd k) h hs
  case land => exact x_binL_ok hw (fun H locs cells slots ls rest x y _ k => lv_land hx hb hd k) h hs
  case lcmp => exact x_lcmp_ok hw hx hb hd h hs
  case lconst n =>
    have ev : (Int64.ofNat (n : Nat)).toInt = ((n : Nat) : Int) := x_l01 n
    exact x_kL_ok hw ev (fun H locs cells slots ls rest k => lv_lconst hx hb hd rfl k) h hs
  case ldc idx =>
    split at h
    · next z hz =>
      have hzm := List.mem_of_find?_eq_some hz
      have hze := List.find?_some hz
      simp only [beq_iff_eq] at hze
      subst hze
      obtain ⟨v, e0, hk⟩ := tpk z hzm
      exact x_k_ok hw e0 (fun H locs cells slots ls rest k => lv_ldc hx hb hown hk hd k) h hs
    · cases h
  case ldc_w idx =>
    split at h
    · next z hz =>
      have hzm := List.mem_of_find?_eq_some hz
      have hze := List.find?_some hz
      simp only [beq_iff_eq] at hze
      subst hze
      obtain ⟨v, e0, hk⟩ := tpk z hzm
      exact x_k_ok hw e0 (fun H locs cells slots ls rest k => lv_ldcw hx hb hown hk hd k) h hs
    · cases h
  case ldc2_w idx =>
    split at h
    · next z hz =>
      have hzm := List.mem_of_find?_eq_some hz
      have hze := List.find?_some hz
      simp only [beq_iff_eq] at hze
      subst hze
      obtain ⟨v, e0, hk⟩ := tpl z hzm
      exact x_kL_ok hw e0 (fun H locs cells slots ls rest k => lv_ldc2 hx hb hown hk hd k) h hs
    · cases h
  case ldiv => exact x_binL_ok hw (fun H locs cells slots ls rest x y hz k => lv_ldiv hx hb hd (hz rfl) k) h hs
  case lload i =>
    refine x_ld_ok (fun Y H locs cells slots ls rest t v ht hc hl k => ?_) h hs
    obtain ⟨x, e0⟩ := x_isL_ok ht hc
    rw [e0] at hl k; exact lv_lload hx hb hd hl k
  case lload_n i =>
    refine x_ld_ok (fun Y H locs cells slots ls rest t v ht hc hl k => ?_) h hs
    obtain ⟨x, e0⟩ := x_isL_ok ht hc
    rw [e0] at hl k; exact lv_lload_n hx hb hd rfl hl k
  case lmul => exact x_binL_ok hw (fun H locs cells slots ls rest x y _ k => lv_lmul hx hb hd k) h hs
  case lneg => exact x_unL_ok hw (fun H locs cells slots ls rest x k => lv_lneg hx hb hd k) h hs
  case lor => exact x_binL_ok hw (fun H locs cells slots ls rest x y _ k => lv_lor hx hb hd k) h hs
  case lrem => exact x_binL_ok hw (fun H locs cells slots ls rest x y hz k => lv_lrem hx hb hd (hz rfl) k) h hs
  case lshl => exact x_shL_ok hw (fun H locs cells slots ls rest x y k => lv_lshl hx hb hd rfl k) h hs
  case lshr => exact x_shL_ok hw (fun H locs cells slots ls rest x y k => lv_lshr hx hb hd rfl k) h hs
  case lstore i => exact x_stoL_ok (fun H locs cells slots ls rest v lv hl hn k => lv_lstore hx hb hd hl hn rfl k) h hs
  case lstore_n i => exact x_stoL_ok (fun H locs cells slots ls rest v lv hl hn k => lv_lstore_n hx hb hd rfl hl hn rfl k) h hs
  case lsub => exact x_binL_ok hw (fun H locs cells slots ls rest x y _ k => lv_lsub hx hb hd k) h hs
  case lushr => exact x_shL_ok hw (fun H locs cells slots ls rest x y k => lv_lushr hx hb hd rfl k) h hs
  case new idx => exact x_newo_ok hw hx hb hts hown hK hY0 tpn hmc hms hd h hs
  case newarray at_ => exact x_newa_ok hw hx hb hU hY0 (fun z hz he => (tpa z hz).1 at_ (by rw [he]; exact hd)) hmc hms hd h hs
  case pop =>
    unfold x_pop at h
    split at h
    · next x S hS =>
      split at h
      · next hn =>
        cases h
        exact x_stk_ok hS (fun Y H locs cells slots ls r hr k => lv_pop hx hb hd (x_n2_ok hr hn) k) (hs _ List.mem_cons_self)
      · cases h
    · cases h
  case pop2 =>
    unfold x_pop2 at h
    split at h
    · next x S hS =>
      split at h
      · next u hu =>
        cases h
        refine x_stk_ok hS (fun Y H locs cells slots ls r hr k => ?_) (hs _ List.mem_cons_self)
        obtain ⟨v, e0, -⟩ := hr x _ hu
        refine lv_pop2_2 hx hb hd ?_ k
        rw [e0]; rfl
      · cases h
    · cases h
  case putfield idx => exact x_pf_ok hx hb hts hown hK hY0 tpw hd h hs
  case sipush n =>
    split at h
    · next hn =>
      have ev : ((Int16.ofInt n).toInt32).toInt = n := by
        rw [Int16.toInt_toInt32, Int16.toInt_ofInt]
        show Int.bmod n 65536 = n
        exact Int.bmod_eq_of_le (by omega) (by omega)
      exact x_k_ok hw ev (fun H locs cells slots ls rest k => lv_sipush hx hb hd rfl k) h hs
    · cases h
  case tableswitch d lo hi offs => exact x_sw_ok hx hb hd h hs
end XZ
end
section
/-! THE CHECKER: a method's code from its start, path by path; loops by what their heads keep and a number that goes one way -/
abbrev xIv : Type := List (Nat × xV) × List xV × List (Nat × Nat × Nat × xV)
abbrev xLb : Type := Nat × xIv × (Nat × Bool) × List Nat × Nat × Nat × List (Nat × Nat)
abbrev xAn : Type := Nat × xIv × (Nat × Bool) × List Nat × Bool × Nat × List (Nat × Nat)
/-- a field of an object in a local gets a number, though nothing reads it -/
def x_gst (G : List xG) (a : xS) (z : Nat × Nat) : Option xS := if x_wf a then (match a.2.1.find? (fun q => q.1 == z.1) with
  | some q => (match a.1[q.2]? with
    | some (.inr (.inr (false, [t]))) => (match G[t]? with
      | some (.inl o) => if o.1 = 1000 then none else (match a.2.2.2.1.find? (fun f => f.1 == q.2 && (f.2.1 == o.1 && f.2.2.1 == z.2)) with
        | some _ => some a
        | none => (match o.2[z.2]? with
          | some ft => some (a.1 ++ [ft], a.2.1, a.2.2.1, (q.2, o.1, z.2, a.1.length) :: a.2.2.2.1, a.2.2.2.2)
          | none => none))
      | _ => none)
    | _ => none)
  | none => none) else none
def x_gsts (G : List xG) : List (Nat × Nat) → xS → Option xS
  | [], a => some a
  | z :: zs, a => match x_gst G a z with
    | some b => x_gsts G zs b
    | none => none
def x_vs (v : xIv) : List xV := v.1.map (fun q => q.2) ++ (v.2.1 ++ v.2.2.map (fun q => q.2.2.2))
def x_can (v : xIv) (tr : List Nat) (cells slots : Nat) : xS := (x_vs v, v.1.zipIdx.map (fun q => (q.1.1, q.2)), (List.range v.2.1.length).map (fun k => k + v.1.length), v.2.2.zipIdx.map (fun q => (q.1.1, q.1.2.1, q.1.2.2.1, v.1.length + v.2.1.length + q.2)), [], tr, [], cells, slots)
def x_sig (a : xS) (v : xIv) : Option (List Nat) := match x_all (fun (q : Nat × xV) => (a.2.1.find? (fun z => z.1 == q.1)).map (fun z => z.2)) v.1 with
  | some A => (match x_all (fun (q : Nat × Nat × Nat × xV) => ((A ++ a.2.2.1)[q.1]?).bind (fun o => (a.2.2.2.1.find? (fun f => f.1 == o && (f.2.1 == q.2.1 && f.2.2.1 == q.2.2.1))).map (fun f => f.2.2.2))) v.2.2 with
    | some B => some (A ++ (a.2.2.1 ++ B))
    | none => none)
  | none => none
/-- state b says less than state a, by the numbers g of b's values in a -/
def x_ent (a b : xS) (g : List Nat) : Bool :=
  x_fitA a.1 g b.1 && (b.2.1.all (fun q => match g[q.2]? with
    | some k => a.2.1.any (fun z => z.1 == q.1 && z.2 == k)
    | none => false) && (b.2.2.1.map (fun k => g[k]?) == a.2.2.1.map some && (b.2.2.2.1.all (fun f => match g[f.1]?, g[f.2.2.2]? with
    | some o, some v => a.2.2.2.1.any (fun z => z.1 == o && (z.2.1 == f.2.1 && (z.2.2.1 == f.2.2.1 && z.2.2.2 == v)))
    | _, _ => false) && (b.2.2.2.2.1.isEmpty && b.2.2.2.2.2.2.1.isEmpty))))
theorem x_ent_ok {D : va_G} {Y0 Y : xY} {nL : Nat} {mu mu' : List Value} {H : Heap} {a b : xS} {r : Nat → Value} {ls : Array Slot} {st : List Value} {g : List Nat} (h : x_ent a b g = true) (hC : x_C D Y0 nL mu Y H a r ls st)
    (hm : b.2.2.2.2.2.1.map (fun k => r (g.getD k 0)) = mu') : x_C D Y0 nL mu' Y H b (fun k => r (g.getD k 0)) ls st := by
  unfold x_ent at h
  simp only [Bool.and_eq_true, List.all_eq_true, beq_iff_eq, List.isEmpty_iff] at h
  obtain ⟨h1, h2, h3, h4, h5, h6⟩ := h
  obtain ⟨f1, f2⟩ := x_fitA_ok hC.1 h1
  have hgd : ∀ k j, g[k]? = some j → g.getD k 0 = j := fun k j hk => by rw [List.getD_eq_getElem?_getD, hk]; rfl
  refine ⟨fun k t hk => ?_, hC.2.1.less fun q hq => ?_, ?_, fun f hf => ?_, fun d hd => (by rw [h5] at hd; cases hd), hm, fun k hk => (by rw [h6] at hk; cases hk)⟩
  · have hkl : k < b.1.length := (List.getElem?_eq_some_iff.mp hk).1
    have hgl : k < g.length := by
      have := f1.1
      rw [List.length_map] at this
      omega
    have hg := List.getElem?_eq_getElem hgl
    refine f1.2 k t _ hk ?_
    rw [List.getElem?_map, hg]
    show some (r g[k]) = some (r (g.getD k 0))
    rw [hgd k _ hg]
  · obtain ⟨z, hz, rfl⟩ := List.mem_map.mp hq
    have h7 := h2 z hz
    split at h7
    · next k hk =>
      obtain ⟨y, hy, he⟩ := List.any_eq_true.mp h7
      simp only [Bool.and_eq_true, beq_iff_eq] at he
      refine List.mem_map.mpr ⟨y, hy, ?_⟩
      dsimp only
      rw [he.1, he.2, hgd _ _ hk]
    · cases h7
  · rw [hC.2.2.1]
    have h8 : (b.2.2.1.map (fun k => g[k]?)).map (fun o => r (o.getD 0)) = (a.2.2.1.map some).map (fun o => r (o.getD 0)) := by rw [h3]
    rw [List.map_map, List.map_map] at h8
    have e1 : b.2.2.1.map (fun k => r (g.getD k 0)) = b.2.2.1.map ((fun o => r (Option.getD o 0)) ∘ fun k => g[k]?) := List.map_congr_left fun k _ => by
      show r (g.getD k 0) = r ((g[k]?).getD 0)
      rw [List.getD_eq_getElem?_getD]
    rw [e1, h8]
    exact List.map_congr_left fun k _ => rfl
  · have h7 := h4 f hf
    split at h7
    · next o v ho hv =>
      obtain ⟨z, hz, he⟩ := List.any_eq_true.mp h7
      simp only [Bool.and_eq_true, beq_iff_eq] at he
      obtain ⟨e1, e2, e3, e4⟩ := he
      obtain ⟨bb, b1, b2⟩ := hC.2.2.2.1 z hz
      refine ⟨bb, ?_, ?_⟩
      · show r (g.getD f.1 0) = _
        rw [hgd _ _ ho, ← e1]; exact b1
      · show x_fv D f.2.1 f.2.2.1 bb H = some (r (g.getD f.2.2.2 0))
        rw [hgd _ _ hv, ← e2, ← e3, ← e4]; exact b2
    · cases h7
def x_trk (g tp tr : List Nat) : Bool := tp.map (fun k => g[k]?) == tr.map some
theorem x_trk_ok {r : Nat → Value} {g tp tr : List Nat} (h : x_trk g tp tr = true) : tp.map (fun k => r (g.getD k 0)) = tr.map r := by
  unfold x_trk at h
  rw [beq_iff_eq] at h
  have h8 : (tp.map (fun k => g[k]?)).map (fun o => r (o.getD 0)) = (tr.map some).map (fun o => r (o.getD 0)) := by rw [h]
  rw [List.map_map, List.map_map] at h8
  have e1 : tp.map (fun k => r (g.getD k 0)) = tp.map ((fun o => r (Option.getD o 0)) ∘ fun k => g[k]?) := List.map_congr_left fun k _ => by
    show r (g.getD k 0) = r ((g[k]?).getD 0)
    rw [List.getD_eq_getElem?_getD]
  rw [e1, h8]
  exact List.map_congr_left fun k _ => rfl
def x_back (E : xLb) (a : xS) : Bool := match x_sig a E.2.1, a.2.2.2.2.2.1.drop (a.2.2.2.2.2.1.length - (E.2.2.2.1.length + 1)) with
  | some g, t0 :: rest => (x_ent a (x_can E.2.1 (E.2.2.1.1 :: E.2.2.2.1) E.2.2.2.2.1 E.2.2.2.2.2.1) g && (x_trk g E.2.2.2.1 rest && (Nat.ble (x_cells a) E.2.2.2.2.1 && Nat.ble (x_slots a) E.2.2.2.2.2.1))) &&
      (match g[E.2.2.1.1]?, (x_vs E.2.1)[E.2.2.1.1]? with
        | some k, some (.inl _) => a.2.2.2.2.1.any (fun q => q.1 == k && (q.2.1 == t0 && (if E.2.2.1.2 then decide (1 ≤ q.2.2) else decide (q.2.2 ≤ -1)))) && Nat.beq rest.length E.2.2.2.1.length
        | _, _ => false)
  | _, _ => false
def x_cut {α : Type} (k : Bool) (l : List α) (na : Nat) : List α := if k then l else l.take (l.length - na)
/-- what the machine does at a place: nothing more to look at; or these labels, this state, and whether the method's own values are still known -/
def x_lab (G : List xG) (an : List xAn) (na : Nat) (L : List xLb) (top : Bool) (pc : Nat) (a : xS) : Option (Option (List xLb × Bool × xS)) := match L.find? (fun E => E.1 == pc) with
  | some E => (match x_gsts G E.2.2.2.2.2.2 a with
    | some a' => if x_back E a' then some none else none
    | none => none)
  | none => (match an.find? (fun A => A.1 == pc) with
    | some A => (match x_gsts G A.2.2.2.2.2.2 a with
      | some a' => (match x_sig a' A.2.1 with
        | some g => (let k := L.length - A.2.2.2.2.2.1
          let b := x_can A.2.1 (A.2.2.1.1 :: A.2.2.2.1) (x_cells a') (x_slots a')
          if (x_ent a' b g && (x_trk g A.2.2.2.1 (x_cut (A.2.2.2.2.1 || !top) (a'.2.2.2.2.2.1.drop k) na) && (((A.2.2.2.2.1 || !top) || (L.drop k).isEmpty) && ((L.drop k).all (fun E => Nat.ble (E.2.2.2.1.length + 1 + k) a'.2.2.2.2.2.1.length) && (!top || Nat.ble (k + na) a'.2.2.2.2.2.1.length))))) = true ∧ x_wf b = true then (match (x_vs A.2.1)[A.2.2.1.1]? with
            | some (.inl _) => some (some ((pc, A.2.1, A.2.2.1, A.2.2.2.1, x_cells a', x_slots a', A.2.2.2.2.2.2) :: L.drop k, top && A.2.2.2.2.1, b))
            | _ => none) else none)
        | none => none)
      | none => none)
    | none => some (some (L, top, a)))
/-- a value of a local, case by case -/
def x_spl (sp : List (Nat × Nat)) (pc : Nat) (a : xS) : Option (Nat × (Int × Int)) := match sp.find? (fun z => z.1 == pc) with
  | some z => (match a.2.1.find? (fun q => q.1 == z.2) with
    | some q => (match a.1[q.2]? with
      | some (.inl u) => if u.1 < u.2 ∧ u.2 - u.1 ≤ 200 then some (q.2, u) else none
      | _ => none)
    | none => none)
  | none => none
def x_nar (ty : FieldType) (u : Int × Int) : Bool := match ty with
  | .int => true
  | .boolean => decide (0 ≤ u.1) && decide (u.2 ≤ 1)
  | .byte => decide (-128 ≤ u.1) && decide (u.2 ≤ 127)
  | .char => decide (0 ≤ u.1) && decide (u.2 ≤ 65535)
  | _ => false
def x_ina (as : List xV) (o : List xV) : Bool := match as, o with
  | [], [] => true
  | t :: ts, u :: us => x_le t u && x_ina ts us
  | _, _ => false
def x_aok1 (M : xM) (top : Bool) (a : xS) (o : List xV) : Bool := x_ina (x_args M) o || (top && x_fitA a.1 (a.2.2.2.2.2.1.drop (a.2.2.2.2.2.1.length - (x_args M).length)) o)
def x_nrT (raw : Nat) (t : xV) : Bool := match t with
  | .inr (.inr q) => q.2.all (fun u => !(u == raw))
  | _ => true
def x_nrG (G : List xG) (raw : Nat) : Bool := G.all (fun g => match g with
  | .inl o => o.2.all (x_nrT raw)
  | .inr q => q.2.2.1.all (x_nrT raw) && x_nrT raw q.2.2.2)
/-- a constructor's end: its object has all that its tag asks -/
def x_rtc (G : List xG) (Zs : List xZ) (M : xM) (t' : Nat) (top : Bool) (a : xS) : Bool := top && (match a.2.2.2.2.2.1.drop (a.2.2.2.2.2.1.length - (x_args M).length) with
  | k0 :: _ => (match a.1[k0]?, G[t']? with
    | some (.inr (.inr (false, [raw]))), some (.inl o) => (match G[raw]? with
      | some (.inl o0) => (o.1 == o0.1 && !(o.1 == 1000)) && (Nat.beq o.2.length o0.2.length && (x_nrG G raw && (Zs.all (fun z => !(z.2.2.2 == raw)) && ((List.range o.2.length).all (fun k => match o.2[k]? with
          | some ft => (match a.2.2.2.1.find? (fun f => f.1 == k0 && (f.2.1 == o.1 && f.2.2.1 == k)) with
            | some f => (match a.1[f.2.2.2]? with
              | some tv => x_le tv ft && x_nrT raw tv
              | none => false)
            | none => (match o0.2[k]? with
              | some f0 => x_le f0 ft && x_nrT raw f0
              | none => false))
          | none => false) && (x_outs M).any (fun q => q.2.isNone && (match q.1 with
            | u :: us => x_le (.inr (.inr (false, [t']))) u && (x_ina ((x_args M).drop 1) us && us.all (x_nrT raw))
            | [] => false))))))
      | _ => false)
    | _, _ => false)
  | [] => false)
def x_isRet (i : Instr) : Bool := match i with
  | .ireturn => true | .lreturn => true | .areturn => true | .return_ => true
  | _ => false
def x_rck (G : List xG) (Zs : List xZ) (M : xM) (i : Instr) (top : Bool) (a : xS) : Bool := (Nat.ble (x_cells a) (x_rm M).cells && Nat.ble (x_slots a) (x_rm M).slots) && (match x_rt M with
  | some t' => (match i, a.2.2.1, M.2.2.2.1 with
    | .return_, [], none => x_rtc G Zs M t' top a
    | _, _, _ => false)
  | none => (match i, a.2.2.1, M.2.2.2.1 with
    | .ireturn, [x], some ty => (match a.1[x]? with
      | some (.inl u) => x_nar ty u && (x_outs M).any (fun o => (match o.2 with
        | some t => x_le (.inl u) t
        | none => false) && x_aok1 M top a o.1)
      | _ => false)
    | .lreturn, [x], some .long => (match a.1[x]? with
      | some (.inr (.inl u)) => (x_outs M).any (fun o => (match o.2 with
        | some t => x_le (.inr (.inl u)) t
        | none => false) && x_aok1 M top a o.1)
      | _ => false)
    | .areturn, [x], some ty => (match a.1[x]? with
      | some (.inr (.inr u)) => ty.isReference && (x_outs M).any (fun o => (match o.2 with
        | some t => x_le (.inr (.inr u)) t
        | none => false) && x_aok1 M top a o.1)
      | _ => false)
    | .return_, [], none => (x_outs M).any (fun o => o.2.isNone && x_aok1 M top a o.1)
    | _, _, _ => false))
def x_go (G : List xG) (Zs : List xZ) (T : xTab) (M : xM) (top : Bool) (pc : Nat) (a : xS) (f : Nat × xS → Bool) : Bool := match decode M.2.1 pc with
  | .ok (i, len) => if Nat.beq len (x_lenF i len) then (if x_isRet i then x_rck G Zs M i top a else (match x_stp M.2.2.1 G (x_efs M) T (x_rm M).cells (x_rm M).slots i pc a with
      | some sc => sc.all f
      | none => false)) else false
  | _ => false
def x_ex (G : List xG) (Zs : List xZ) (T : xTab) (M : xM) (an : List xAn) (sp : List (Nat × Nat)) : Nat → List xLb → Bool → Nat × xS → Bool
  | 0, _, _, _ => false
  | n + 1, L, top, q => if x_wf q.2 then (match x_spl sp q.1 q.2 with
    | some z => (List.range ((z.2.2 - z.2.1).toNat + 1)).all (fun k => x_ex G Zs T M an sp n L top (q.1, (q.2.1.set z.1 (.inl (z.2.1 + k, z.2.1 + k)), q.2.2)))
    | none => (match x_lab G an (x_args M).length L top q.1 q.2 with
      | some none => true
      | some (some z) => x_go G Zs T M z.2.1 q.1 z.2.2 (x_ex G Zs T M an sp n z.1 z.2.1)
      | none => false)) else false
def x_al : Nat → Nat → List xV → List (Nat × Nat)
  | _, _, [] => []
  | i, k, t :: ts => (i, k) :: x_al (if x_isL t then i + 2 else i + 1) (k + 1) ts
def x_0 (M : xM) : xS := (x_args M, x_al 0 0 (x_args M), [], [], [], List.range (x_args M).length, [], 0, 0)
end
section
section XO
variable {p : Program} {l : Launch} {e : Env} {R : Room} {s : State} {m : MethodId} {args : Array Value} {below : List Frame} {meth : Method} {c : Code} {Q : State → Prop}
variable {D : va_G} {G : List xG} {Zs : List xZ} {U : State} {ef : List (Nat × Nat)} {Y0 : xY} {H0 : Heap} {nL : Nat} {mu : List Value}
/-- a loop's head may be reached again, with its number gone on -/
def x_prog (up : Bool) (z z' : Int32) : Prop := if up then z.toInt < z'.toInt else z'.toInt < z.toInt
variable (p l e R s m args below meth c Q D G Zs U ef Y0 H0 nL) in
def x_LOK (mu : List Value) (E : xLb) : Prop := ∃ (pre : List Value) (z : Int32) (mus : List Value), mu = pre ++ (.int z :: mus) ∧ mus.length = E.2.2.2.1.length ∧
  ∀ z' : Int32, x_prog E.2.2.1.2 z z' → x_K p l e R s m args below meth c Q D G Zs U ef Y0 H0 nL (.int z' :: mus) (E.1, x_can E.2.1 (E.2.2.1.1 :: E.2.2.2.1) E.2.2.2.2.1 E.2.2.2.2.2.1)
theorem x_back_ok {E : xLb} {a : xS} (hE : x_LOK p l e R s m args below meth c Q D G Zs U ef Y0 H0 nL mu E) (h : x_back E a = true) : x_K p l e R s m args below meth c Q D G Zs U ef Y0 H0 nL mu (E.1, a) := by
  intro Y H locs r ls st hI hC
  obtain ⟨pre, z, mus, e1, e2, hk⟩ := hE
  unfold x_back at h
  split at h
  · next g t0 rest hg hdr =>
    simp only [Bool.and_eq_true] at h
    obtain ⟨⟨h1, h2, h3, h4⟩, h5⟩ := h
    split at h5
    · next k u hgk hvk =>
      rw [Bool.and_eq_true] at h5
      obtain ⟨h5, h6⟩ := h5
      have hlr : rest.length = E.2.2.2.1.length := Nat.eq_of_beq_eq_true h6
      obtain ⟨d, hd, hde⟩ := List.any_eq_true.mp h5
      simp only [Bool.and_eq_true, beq_iff_eq] at hde
      obtain ⟨d1, d2, d3⟩ := hde
      have htr := hC.2.2.2.2.2.1
      have hlen : a.2.2.2.2.2.1.length = pre.length + (mus.length + 1) := by
        have := congrArg List.length htr
        rw [e1, List.length_map, List.length_append, List.length_cons] at this
        exact this
      have hdm : (a.2.2.2.2.2.1.drop (a.2.2.2.2.2.1.length - (E.2.2.2.1.length + 1))).map r = .int z :: mus := by
        rw [List.map_drop, htr, e1]
        have : a.2.2.2.2.2.1.length - (E.2.2.2.1.length + 1) = pre.length := by omega
        rw [this, List.drop_left']
        rfl
      rw [hdr, List.map_cons] at hdm
      obtain ⟨m1, m2⟩ := List.cons.inj hdm
      have hgd : g.getD E.2.2.1.1 0 = k := by rw [List.getD_eq_getElem?_getD, hgk]; rfl
      have hfit : x_fitA a.1 g (x_vs E.2.1) = true := by
        have := h1
        unfold x_ent at this
        rw [Bool.and_eq_true] at this
        exact this.1
      obtain ⟨f1, -⟩ := x_fitA_ok hC.1 hfit
      have hkc : x_c Y (.inl u) (r k) := f1.2 _ _ _ hvk (by rw [List.getElem?_map, hgk]; rfl)
      obtain ⟨z', ez, -⟩ := hkc
      have hprog : x_prog E.2.2.1.2 z z' := by
        obtain ⟨x, y, n1, n2, n3⟩ := hC.2.2.2.2.1 d hd
        rw [d1, ez] at n1
        rw [d2, m1] at n2
        cases n1; cases n2
        unfold x_prog
        split at d3
        · next hu =>
          rw [if_pos hu]
          simp only [decide_eq_true_eq] at d3
          omega
        · next hu =>
          rw [if_neg hu]
          simp only [decide_eq_true_eq] at d3
          omega
      have hK1 := hk z' hprog
      refine W.widen (Nat.le_of_ble_eq_true h3) (Nat.le_of_ble_eq_true h4) ?_
      refine hK1 Y H locs _ ls st hI (x_ent_ok h1 hC ?_)
      show (E.2.2.1.1 :: E.2.2.2.1).map (fun k => r (g.getD k 0)) = _
      rw [List.map_cons, hgd, ez, x_trk_ok h2, m2]
    · cases h5
  · cases h
theorem x_gst_ok {a b : xS} {z : Nat × Nat} {pc : Nat} (h : x_gst G a z = some b) (hs : x_K p l e R s m args below meth c Q D G Zs U ef Y0 H0 nL mu (pc, b)) : x_K p l e R s m args below meth c Q D G Zs U ef Y0 H0 nL mu (pc, a) := by
  unfold x_gst at h
  split at h
  · next hw =>
    split at h
    · next q hq =>
      split at h
      · next t ht =>
        split at h
        · next o ho =>
          split at h
          · cases h
          next hci =>
          split at h
          · cases h; exact hs
          · split at h
            · next ft hft =>
              cases h
              intro Y H locs r ls st hI hC
              obtain ⟨bb, tt, eb, htt, hY⟩ := x_ref_at (hC.1 _ _ ht) rfl
              have htt : tt = t := by
                rcases List.mem_cons.mp htt with e0 | e0
                · exact e0
                · cases e0
              subst htt
              obtain ⟨g, h1, h2⟩ := hI.1.1 bb _ hY
              cases h1.symm.trans ho
              obtain ⟨V, ⟨cell, q1, q2, q3, q4⟩, hV⟩ := h2
              have hkl : z.2 < o.2.length := (List.getElem?_eq_some_iff.mp hft).1
              have hN := hC.new hw (t := ft) (v := V z.2) (hV _ _ hft)
              have hql : q.2 < a.1.length := (List.getElem?_eq_some_iff.mp ht).1
              refine hs Y H locs (updV r a.1.length (V z.2)) ls st hI ?_
              obtain ⟨p1, p2, p3, p4, p5⟩ := hN
              refine ⟨p1, p2, p3, fun f hf => ?_, p5⟩
              rcases List.mem_cons.mp hf with e0 | hf
              · rw [e0]
                refine ⟨bb, by show updV r a.1.length (V z.2) q.2 = _; rw [x_up_ag hql]; exact eb, ?_⟩
                show x_fv D o.1 z.2 bb H = some (updV r a.1.length (V z.2) a.1.length)
                rw [x_up_at, x_fv_sl hci]
                unfold x_sl
                rw [q1]
                exact q4 _ hkl
              · exact p4 f hf
            · cases h
        · cases h
      · cases h
    · cases h
  · cases h
theorem x_gsts_ok {pc : Nat} : ∀ {zs : List (Nat × Nat)} {a b : xS}, x_gsts G zs a = some b → x_K p l e R s m args below meth c Q D G Zs U ef Y0 H0 nL mu (pc, b) → x_K p l e R s m args below meth c Q D G Zs U ef Y0 H0 nL mu (pc, a) := by
  intro zs
  induction zs with
  | nil => intro a b h hs; cases h; exact hs
  | cons z zs ih =>
    intro a b h hs
    unfold x_gsts at h
    split at h
    · next b1 hb1 => exact x_gst_ok hb1 (ih h hs)
    · cases h
end XO
end
section
theorem x_ina_ok {Y : xY} : ∀ {ts us : List xV} {vs : List Value}, x_ina ts us = true → x_cs Y ts vs → x_cs Y us vs := by
  intro ts
  induction ts with
  | nil =>
    intro us vs h hc
    cases us with
    | nil => exact hc
    | cons u us => cases h
  | cons t ts ih =>
    intro us vs h hc
    cases us with
    | nil => cases h
    | cons u us =>
      unfold x_ina at h
      rw [Bool.and_eq_true] at h
      cases vs with
      | nil => exact absurd hc.1 (by simp)
      | cons v vs =>
        have hc' : x_cs Y ts vs := ⟨by have := hc.1; simpa using this, fun k t' v' h1 h2 => hc.2 (k + 1) t' v' (by simpa using h1) (by simpa using h2)⟩
        have hi := ih h.2 hc'
        refine ⟨by have := hi.1; simp [this], fun k t' v' h1 h2 => ?_⟩
        cases k with
        | zero =>
          rw [List.getElem?_cons_zero] at h1 h2
          cases h1; cases h2
          exact x_le_ok h.1 (hc.2 0 t v (by simp) (by simp))
        | succ k =>
          rw [List.getElem?_cons_succ] at h1 h2
          exact hi.2 k t' v' h1 h2
theorem x_cs.mono {Y Y' : xY} {ts : List xV} {vs : List Value} (h : x_cs Y ts vs) (hY : ∀ a t, Y a = some t → Y' a = some t) : x_cs Y' ts vs := ⟨h.1, fun k t v h1 h2 => (h.2 k t v h1 h2).mono hY⟩
theorem x_nr_ok {Y : xY} {t : xV} {v : Value} {b raw t' : Nat} (h : x_nrT raw t = true) (hb : Y b = some raw) (hc : x_c Y t v) : x_c (x_up Y b t') t v := by
  rcases t with q | q | q
  · exact hc
  · exact hc
  · rcases hc with hc | ⟨b2, u, h1, h2, h3⟩
    · exact Or.inl hc
    · refine Or.inr ⟨b2, u, h1, h2, ?_⟩
      have hne : b2 ≠ b := by
        intro e0
        subst e0
        cases h3.symm.trans hb
        unfold x_nrT at h
        have := List.all_eq_true.mp h raw h2
        simp at this
      rw [x_up_ne hne]; exact h3
theorem x_nar_ok {ty : FieldType} {u : Int × Int} {v : Int32} (h : x_nar ty u = true) (hb : x_b u v) : narrow ty (.int v) = .int v := by
  have a1 := hb.1; have a2 := hb.2
  unfold x_nar at h
  split at h
  · rfl
  · simp only [Bool.and_eq_true, decide_eq_true_eq] at h
    show Value.int (v &&& 1) = .int v
    have : v = 0 ∨ v = 1 := by
      rcases (by omega : v.toInt = 0 ∨ v.toInt = 1) with q | q
      · exact Or.inl (Int32.toInt_inj.mp q)
      · exact Or.inr (Int32.toInt_inj.mp q)
    rcases this with q | q <;> subst q <;> rfl
  · simp only [Bool.and_eq_true, decide_eq_true_eq] at h
    show Value.int v.toInt8.toInt32 = .int v
    congr 1
    apply Int32.toInt_inj.mp
    rw [Int8.toInt_toInt32, Int32.toInt_toInt8]
    show Int.bmod v.toInt 256 = v.toInt
    exact Int.bmod_eq_of_le (by omega) (by omega)
  · simp only [Bool.and_eq_true, decide_eq_true_eq] at h
    have e1 : v = nI v.toInt.toNat := by
      apply Int32.toInt_inj.mp
      rw [nI_toInt (by omega)]; omega
    have hlt : v.toInt.toNat < 65536 := by omega
    have h9 := (pk_charN hlt).1
    rw [← e1] at h9
    exact h9
  · cases h
section XE2
variable {p : Program} {l : Launch} {e : Env} {R : Room} {s : State} {m : MethodId} {args : Array Value} {below : List Frame} {meth : Method} {c : Code}
variable {D : va_G} {G : List xG} {Zs : List xZ} {U : State} {Y0 : xY} {nL : Nat} {mu : List Value} {cc : ByteArray} {pc : Nat} {a : xS} {M : xM} {av : List Value} {sz : Nat}
theorem x_aok1_ok {Y : xY} {H : Heap} {r : Nat → Value} {ls : Array Slot} {st : List Value} {top : Bool} {o : List xV} (h : x_aok1 M top a o = true) (hC : x_C D Y0 nL mu Y H a r ls st) (hmon : ∀ q u, Y0 q = some u → Y q = some u) (hav : x_cs Y0 (x_args M) av) (htop : top = true → ∃ pre, mu = pre ++ av) : x_cs Y o av := by
  unfold x_aok1 at h
  rw [Bool.or_eq_true, Bool.and_eq_true] at h
  rcases h with h | ⟨h1, h2⟩
  · exact x_ina_ok h (hav.mono hmon)
  · obtain ⟨pre, e1⟩ := htop h1
    have h3 := (x_fitA_ok hC.1 h2).1
    have htr := hC.2.2.2.2.2.1
    have hlen : a.2.2.2.2.2.1.length = pre.length + av.length := by
      have := congrArg List.length htr
      rw [e1, List.length_map, List.length_append] at this
      exact this
    have hna : (x_args M).length = av.length := hav.1
    have : (a.2.2.2.2.2.1.drop (a.2.2.2.2.2.1.length - (x_args M).length)).map r = av := by
      rw [List.map_drop, htr, e1]
      have e2 : a.2.2.2.2.2.1.length - (x_args M).length = pre.length := by omega
      rw [e2, List.drop_left' rfl]
    rw [this] at h3
    exact h3
theorem x_rck_ok {i : Instr} {top : Bool} (hx : p.tables.exec = Jvm.exec) (hb : c.code = cc) (hr : meth.sig.returnType = M.2.2.2.1) (hlocks : meth.locks = false) (hsz : s.heap.size = sz) (hY0 : ∀ q u, Y0 q = some u → q < s.heap.size) (hav : x_cs Y0 (x_args M) av) (htop : top = true → ∃ pre, mu = pre ++ av)
    (hd : decode cc pc = .ok (i, 1)) (h : x_rck G Zs M i top a = true) :
    x_K p l e R s m args below meth c (MQ below (x_Q D G Zs U M av Y0) args s (x_rm M).cells (x_rm M).slots (fun q => (∃ u, Y0 q = some u) ∨ sz ≤ q)) D G Zs U (x_efs M) Y0 s.heap nL mu (pc, a) := by
  intro Y H locs r ls st hI hC
  subst hsz
  unfold x_rck at h
  rw [Bool.and_eq_true, Bool.and_eq_true] at h
  obtain ⟨⟨h1, h2⟩, h⟩ := h
  refine W.widen (Nat.le_of_ble_eq_true h1) (Nat.le_of_ble_eq_true h2) ?_
  have hmon : ∀ q u, Y0 q = some u → Y q = some u := fun q u hq => by rw [hI.2.1 q (hY0 q u hq)]; exact hq
  have hf : ∀ q ∈ locs, (∃ u, Y0 q.base = some u) ∨ s.heap.size ≤ q.base := hI.2.2.2.2.2
  have hF : ∀ t : State, t.heap = H → va_F (fun q => (∃ u, Y0 q = some u) ∨ s.heap.size ≤ q) s t := fun t ht => ⟨by rw [ht]; exact hI.2.2.2.1, fun q q1 q2 => by rw [ht]; exact hI.2.2.2.2.1 q q1 q2⟩
  split at h
  · next t' hrt =>
    split at h
    · next _ _ _ hS hM =>
      have hst : st = [] := by rw [hC.2.2.1, hS]; rfl
      rw [hst]
      rw [hM] at hr
      unfold x_rtc at h
      rw [Bool.and_eq_true] at h
      obtain ⟨ht0, h⟩ := h
      obtain ⟨pre, e1⟩ := htop ht0
      have htr := hC.2.2.2.2.2.1
      have hlen : a.2.2.2.2.2.1.length = pre.length + av.length := by
        have := congrArg List.length htr
        rw [e1, List.length_map, List.length_append] at this
        exact this
      have hna : (x_args M).length = av.length := hav.1
      have hdm : (a.2.2.2.2.2.1.drop (a.2.2.2.2.2.1.length - (x_args M).length)).map r = av := by
        rw [List.map_drop, htr, e1]
        have e2 : a.2.2.2.2.2.1.length - (x_args M).length = pre.length := by omega
        rw [e2, List.drop_left' rfl]
      split at h
      · next k0 ks hks =>
        rw [hks] at hdm
        split at h
        · next raw o hk0 hg' =>
          split at h
          · next o0 hg0 =>
            simp only [Bool.and_eq_true, beq_iff_eq] at h
            obtain ⟨⟨c1, c1n⟩, c2, c3, c4, c5, c6⟩ := h
            have hci : ¬ o.1 = 1000 := by simpa using c1n
            have c2 : o.2.length = o0.2.length := Nat.eq_of_beq_eq_true c2
            obtain ⟨b, tt, eb, htt, hYb⟩ := x_ref_at (hC.1 k0 _ hk0) rfl
            have htt : tt = raw := by
              rcases List.mem_cons.mp htt with e0 | e0
              · exact e0
              · cases e0
            subst htt
            have hav0 : av[0]? = some (.ref b) := by rw [← hdm, List.map_cons, eb]; rfl
            have hbH : b < H.size := hI.1.lt hYb
            obtain ⟨gr, hgr, hcr⟩ := hI.1.1 b _ hYb
            cases hgr.symm.trans hg0
            obtain ⟨V, hOB, hV⟩ := hcr
            have hG3 := List.all_eq_true.mp c3
            have hHn : x_H D G Zs U (x_up Y b t') H := by
              refine ⟨fun a' u hu => ?_, fun z hz => ?_⟩
              · by_cases ea : a' = b
                · subst ea
                  rw [x_up_self] at hu
                  cases hu
                  refine ⟨_, hg', V, ?_, fun k ft hk => ?_⟩
                  · rw [c1, c2]; exact hOB
                  · have hkl : k < o.2.length := (List.getElem?_eq_some_iff.mp hk).1
                    have h5 := List.all_eq_true.mp c5 k (List.mem_range.mpr hkl)
                    rw [hk] at h5
                    dsimp only at h5
                    split at h5
                    · next f hf0 =>
                      have hfm := List.mem_of_find?_eq_some hf0
                      have hfe := List.find?_some hf0
                      simp only [Bool.and_eq_true, beq_iff_eq] at hfe
                      obtain ⟨f1, f2, f3⟩ := hfe
                      split at h5
                      · next tv htv =>
                        rw [Bool.and_eq_true] at h5
                        obtain ⟨bb, b1, b2⟩ := hC.2.2.2.1 f hfm
                        rw [f1, eb] at b1
                        cases b1
                        rw [f2, f3, x_fv_sl hci] at b2
                        have hVk : V k = r f.2.2.2 := by
                          obtain ⟨cell, q1, q2, q3, q4⟩ := hOB
                          have q5 := q4 k (by rw [← c2]; exact hkl)
                          unfold x_sl at b2
                          rw [q1] at b2
                          dsimp only [Option.bind] at b2
                          rw [c1] at b2
                          exact Option.some.inj (q5.symm.trans b2)
                        rw [hVk]
                        exact x_le_ok h5.1 (x_nr_ok h5.2 hYb (hC.1 _ _ htv))
                      · cases h5
                    · split at h5
                      · next f0 hf0 =>
                        rw [Bool.and_eq_true] at h5
                        exact x_le_ok h5.1 (x_nr_ok h5.2 hYb (hV k f0 hf0))
                      · cases h5
                · rw [x_up_ne ea] at hu
                  obtain ⟨g, g1, g2⟩ := hI.1.1 a' u hu
                  refine ⟨g, g1, ?_⟩
                  have h9 := hG3 g (List.mem_of_getElem? g1)
                  rcases g with q | q
                  · obtain ⟨V', w1, w2⟩ := g2
                    exact ⟨V', w1, fun k ft hk => x_nr_ok (List.all_eq_true.mp h9 ft (List.mem_of_getElem? hk)) hYb (w2 k ft hk)⟩
                  · obtain ⟨cell, w1, w2, w3, w4, w5, w6⟩ := g2
                    refine ⟨cell, w1, w2, w3, w4, w5, fun j v hj => x_nr_ok ?_ hYb (w6 j v hj)⟩
                    dsimp only at h9
                    rw [Bool.and_eq_true] at h9
                    rw [List.getD_eq_getElem?_getD]
                    cases hq : q.2.2.1[j]? with
                    | none => exact h9.2
                    | some w => exact List.all_eq_true.mp h9.1 w (List.mem_of_getElem? hq)
              · obtain ⟨bz, z1, z2⟩ := hI.1.2 z hz
                have hzr : z.2.2.2 ≠ tt := by
                  have := List.all_eq_true.mp c4 z hz
                  simpa using this
                refine ⟨bz, ?_, z2.narrow fun q hq => ?_⟩
                · have : bz ≠ b := by
                    intro e0
                    subst e0
                    rw [z1] at hYb
                    exact hzr (Option.some.inj hYb)
                  rw [x_up_ne this]; exact z1
                · obtain ⟨u, hu⟩ := hq
                  by_cases eq : q = b
                  · rw [eq]; exact ⟨_, hYb⟩
                  · rw [x_up_ne eq] at hu
                    exact ⟨u, hu⟩
            obtain ⟨oo, ho1, ho2⟩ := List.any_eq_true.mp c6
            rw [Bool.and_eq_true] at ho2
            refine W.vret hx hb hr (fun t ht hW => ?_) hf hd hlocks
            refine ⟨none, x_up Y b t', oo, rfl, ho1, ?_, ?_, by rw [ht]; exact hHn, ?_, by rw [ht]; exact hI.2.2.1, hF t ht⟩
            · have : oo.2 = none := Option.isNone_iff_eq_none.mp ho2.1
              rw [this]; rfl
            · have h7 := ho2.2
              split at h7
              · next u us hou =>
                simp only [Bool.and_eq_true] at h7
                obtain ⟨k1, k2, k3⟩ := h7
                rw [hou]
                cases hA : av with
                | nil => rw [hA] at hav0; cases hav0
                | cons v0 vs =>
                  rw [hA] at hav0 hav
                  have hv0 : v0 = .ref b := by simpa using hav0
                  have hds : x_cs Y ((x_args M).drop 1) vs := by
                    refine ⟨by have := hav.1; simp at this ⊢; omega, fun k t2 v2 q1 q2 => ?_⟩
                    rw [List.getElem?_drop] at q1
                    exact (hav.2 (1 + k) t2 v2 q1 (by rw [Nat.add_comm, List.getElem?_cons_succ]; exact q2)).mono hmon
                  have hus := x_ina_ok k2 hds
                  refine ⟨by have := hus.1; simp [this], fun k t2 v2 q1 q2 => ?_⟩
                  cases k with
                  | zero =>
                    rw [List.getElem?_cons_zero] at q1 q2
                    cases q1; cases q2
                    exact x_le_ok k1 (Or.inr ⟨b, t', hv0, List.mem_cons_self, x_up_self _ _ _⟩)
                  | succ k =>
                    rw [List.getElem?_cons_succ] at q1 q2
                    exact x_nr_ok (List.all_eq_true.mp k3 t2 (List.mem_of_getElem? q1)) hYb (hus.2 k t2 v2 q1 q2)
              · cases h7
            · rw [hrt]
              exact ⟨b, hav0, x_up_self _ _ _, fun q q1 q2 => by rw [x_up_ne q2]; exact hI.2.1 q q1⟩
          · cases h
        · cases h
      · cases h
    · cases h
  · next hrt =>
    have hQ : ∀ (t : State) (v : Option Value) (o : List xV × Option xV), t.heap = H → o ∈ x_outs M → x_ret Y o.2 v → x_cs Y o.1 av → x_Q D G Zs U M av Y0 args s (.returned v) t := fun t v o ht ho h3 h4 =>
      ⟨v, Y, o, rfl, ho, h3, h4, by rw [ht]; exact hI.1, by rw [hrt]; exact hI.2.1, by rw [ht]; exact hI.2.2.1, hF t ht⟩
    split at h
    · next _ _ _ x ty hS hM =>
      rw [hM] at hr
      split at h
      · next u hu =>
        rw [Bool.and_eq_true] at h
        obtain ⟨o, ho, h3⟩ := List.any_eq_true.mp h.2
        rw [Bool.and_eq_true] at h3
        obtain ⟨v, ev, bv⟩ := hC.1 x _ hu
        have hst : st = [.int v] := by rw [hC.2.2.1, hS]; show [r x] = _; rw [ev]
        rw [hst]
        refine W.zret hx hb hr (x_nar_ok h.1 bv) (fun t ht hW => hQ t _ o ht ho ?_ (x_aok1_ok h3.2 hC hmon hav htop)) hf hd hlocks
        have h4 := h3.1
        split at h4
        · next tt htt => rw [htt]; exact ⟨_, rfl, x_le_ok h4 ⟨v, rfl, bv⟩⟩
        · cases h4
      · cases h
    · next _ _ _ x hS hM =>
      rw [hM] at hr
      split at h
      · next u hu =>
        obtain ⟨o, ho, h3⟩ := List.any_eq_true.mp h
        rw [Bool.and_eq_true] at h3
        obtain ⟨v, ev, bv⟩ := hC.1 x _ hu
        have hst : st = [.long v] := by rw [hC.2.2.1, hS]; show [r x] = _; rw [ev]
        rw [hst]
        refine W.lret hx hb hr (fun t ht hW => hQ t _ o ht ho ?_ (x_aok1_ok h3.2 hC hmon hav htop)) hf hd hlocks
        have h4 := h3.1
        split at h4
        · next tt htt => rw [htt]; exact ⟨_, rfl, x_le_ok h4 ⟨v, rfl, bv⟩⟩
        · cases h4
      · cases h
    · next _ _ _ x ty hS hM =>
      rw [hM] at hr
      split at h
      · next u hu =>
        rw [Bool.and_eq_true] at h
        obtain ⟨o, ho, h3⟩ := List.any_eq_true.mp h.2
        rw [Bool.and_eq_true] at h3
        have hc := hC.1 x _ hu
        have hst : st = [r x] := by rw [hC.2.2.1, hS]; rfl
        rw [hst]
        have hty : (∃ n, ty = .object n) ∨ ∃ t, ty = .array t := by
          cases ty <;> first | exact Or.inl ⟨_, rfl⟩ | exact Or.inr ⟨_, rfl⟩ | (exact absurd h.1 (by simp [FieldType.isReference]))
        have hvr : r x = .null ∨ ∃ b, r x = .ref b := by
          rcases hc with ⟨q, -⟩ | ⟨b, t, q, -⟩
          · exact Or.inl q
          · exact Or.inr ⟨b, q⟩
        refine W.aret hx hb hr hty hvr (fun t ht hW => hQ t _ o ht ho ?_ (x_aok1_ok h3.2 hC hmon hav htop)) hf hd hlocks
        have h4 := h3.1
        split at h4
        · next tt htt => rw [htt]; exact ⟨_, rfl, x_le_ok h4 hc⟩
        · cases h4
      · cases h
    · next _ _ _ hS hM =>
      rw [hM] at hr
      obtain ⟨o, ho, h3⟩ := List.any_eq_true.mp h
      rw [Bool.and_eq_true] at h3
      have hst : st = [] := by rw [hC.2.2.1, hS]; rfl
      rw [hst]
      refine W.vret hx hb hr (fun t ht hW => hQ t _ o ht ho ?_ (x_aok1_ok h3.2 hC hmon hav htop)) hf hd hlocks
      have : o.2 = none := Option.isNone_iff_eq_none.mp h3.1
      rw [this]; rfl
    · cases h
end XE2
end
section
section XF
variable {p : Program} {l : Launch} {e : Env} {R : Room} {s : State} {m : MethodId} {args : Array Value} {below : List Frame} {meth : Method} {c : Code}
variable {D : va_G} {G : List xG} {Zs : List xZ} {U : State} {Y0 : xY} {M : xM} {av : List Value} {sz : Nat} {cl : List vw_C} {Ts : List Cond} {T : xTab} {an : List xAn} {sp : List (Nat × Nat)}
abbrev x_QQ (below : List Frame) (D : va_G) (G : List xG) (Zs : List xZ) (U : State) (M : xM) (av : List Value) (Y0 : xY) (args : Array Value) (s : State) (sz : Nat) : State → Prop := MQ below (x_Q D G Zs U M av Y0) args s (x_rm M).cells (x_rm M).slots (fun q => (∃ u, Y0 q = some u) ∨ sz ≤ q)
/-- THE CHECKER IS RIGHT -/
theorem x_ex_ok (hx : p.tables.exec = Jvm.exec) (hb : c.code = M.2.1) (hml : c.maxLocals = M.2.2.1) (hr : meth.sig.returnType = M.2.2.2.1) (hlocks : meth.locks = false) (hts : ∀ w ∈ Ts, w.before args s = true) (hown : s.vm.findClass M.1.cls = some m.cls) (hK : va_K D cl [] s) (hU : U.vm.Alike s.vm)
    (hsz : s.heap.size = sz) (hY0 : ∀ q u, Y0 q = some u → q < s.heap.size) (hav : x_cs Y0 (x_args M) av) (hT : x_tok p l e R s m args below meth c D G Zs U M.2.2.1 M.2.1 cl Ts M.1.cls T) (hmc : (x_rm M).cells ≤ R.cells) (hms : (x_rm M).slots ≤ R.slots) :
    ∀ (n : Nat) (L : List xLb) (top : Bool) (q : Nat × xS) (mu : List Value), x_ex G Zs T M an sp n L top q = true → (top = true → ∃ pre, mu = pre ++ av) →
      (∀ E ∈ L, x_LOK p l e R s m args below meth c (x_QQ below D G Zs U M av Y0 args s sz) D G Zs U (x_efs M) Y0 s.heap M.2.2.1 mu E) →
      x_K p l e R s m args below meth c (x_QQ below D G Zs U M av Y0 args s sz) D G Zs U (x_efs M) Y0 s.heap M.2.2.1 mu q := by
  intro n
  induction n with
  | zero => intro L top q mu h; cases h
  | succ n ih =>
    intro L top q mu h htop hL
    unfold x_ex at h
    split at h
    · next hw =>
      -- what follows the labels: one step, and on
      have go : ∀ (L : List xLb) (top : Bool) (a : xS) (mu : List Value), x_wf a = true → x_go G Zs T M top q.1 a (x_ex G Zs T M an sp n L top) = true → (top = true → ∃ pre, mu = pre ++ av) →
          (∀ E ∈ L, x_LOK p l e R s m args below meth c (x_QQ below D G Zs U M av Y0 args s sz) D G Zs U (x_efs M) Y0 s.heap M.2.2.1 mu E) →
          x_K p l e R s m args below meth c (x_QQ below D G Zs U M av Y0 args s sz) D G Zs U (x_efs M) Y0 s.heap M.2.2.1 mu (q.1, a) := by
        intro L top a mu hw h htop hL
        unfold x_go at h
        split at h
        · next i len hd =>
          split at h
          · next hlen =>
            have hlen : len = x_lenF i len := Nat.eq_of_beq_eq_true hlen
            split at h
            · next hret =>
              have hl1 : len = 1 := by
                cases i <;> first | exact hlen | (cases hret)
              subst hl1
              exact x_rck_ok hx hb hr hlocks hsz hY0 hav htop hd h
            · split at h
              · next sc hsc =>
                refine x_stp_ok hw hx hb hml hts hown hK hU hY0 hT hmc hms hd hlen hsc (fun z hz => ?_)
                exact ih L top z mu (List.all_eq_true.mp h z hz) htop hL
              · cases h
          · cases h
        · cases h
      split at h
      · next zz hzz =>
        intro Y H locs r ls st hI hC
        unfold x_spl at hzz
        split at hzz
        · split at hzz
          · next qq hqq =>
            split at hzz
            · next u hu =>
              split at hzz
              · next hlt =>
                cases hzz
                obtain ⟨v, ev, bv⟩ := hC.1 _ _ hu
                have b1 := bv.1; have b2 := bv.2
                have hk := List.all_eq_true.mp h (v.toInt - u.1).toNat (List.mem_range.mpr (by show _ < (u.2 - u.1).toNat + 1; omega))
                refine ih L top _ mu hk htop hL Y H locs r ls st hI ⟨x_set_ok hC.1 ?_, hC.2⟩
                rw [ev]
                exact ⟨v, rfl, by show u.1 + (((v.toInt - u.1).toNat : Nat) : Int) ≤ _; omega, by show _ ≤ u.1 + (((v.toInt - u.1).toNat : Nat) : Int); omega⟩
              · cases hzz
            · cases hzz
          · cases hzz
        · cases hzz
      next hspl =>
      split at h
      · next hlab =>
        unfold x_lab at hlab
        split at hlab
        · next E hE =>
          split at hlab
          · next a' hgs =>
            split at hlab
            · next hbk =>
              have hEm := List.mem_of_find?_eq_some hE
              have hEe := List.find?_some hE
              simp only [beq_iff_eq] at hEe
              have := x_back_ok (hL E hEm) hbk
              rw [hEe] at this
              exact x_gsts_ok hgs this
            · cases hlab
          · cases hlab
        · split at hlab
          · split at hlab
            · split at hlab
              · dsimp only at hlab
                split at hlab
                · split at hlab <;> cases hlab
                · cases hlab
              · cases hlab
            · cases hlab
          · cases hlab
      · next z hlab =>
        unfold x_lab at hlab
        split at hlab
        · split at hlab
          · split at hlab <;> cases hlab
          · cases hlab
        · split at hlab
          · next A hA =>
            split at hlab
            · next a' hgs =>
             refine x_gsts_ok hgs ?_
             split at hlab
             · next g hg =>
               dsimp only at hlab
               split at hlab
               · next hc =>
                 obtain ⟨hc, hwb⟩ := hc
                 simp only [Bool.and_eq_true, Bool.or_eq_true (_ || _) _] at hc
                 obtain ⟨h1, h2, h3, h4, h5⟩ := hc
                 split at hlab
                 · next u hu =>
                   cases hlab
                   dsimp only at h
                   -- the head, for every number that it may have
                   intro Y H locs r ls st hI hC
                   have htr := hC.2.2.2.2.2.1
                   have hmlen : a'.2.2.2.2.2.1.length = mu.length := by rw [← htr, List.length_map]
                   let mux : List Value := x_cut (A.2.2.2.2.1 || !top) (mu.drop (L.length - A.2.2.2.2.2.1)) (x_args M).length
                   have hLx : ∀ E ∈ L.drop (L.length - A.2.2.2.2.2.1), x_LOK p l e R s m args below meth c (x_QQ below D G Zs U M av Y0 args s sz) D G Zs U (x_efs M) Y0 s.heap M.2.2.1 mux E := by
                     intro E hE
                     rcases h3 with h3 | h3
                     · have e0 : mux = mu.drop (L.length - A.2.2.2.2.2.1) := if_pos h3
                       rw [e0]
                       obtain ⟨pre, z0, mus, m1, m2, m3⟩ := hL E (List.mem_of_mem_drop hE)
                       have h6 : E.2.2.2.1.length + 1 + (L.length - A.2.2.2.2.2.1) ≤ a'.2.2.2.2.2.1.length := Nat.le_of_ble_eq_true (List.all_eq_true.mp h4 E hE)
                       have h7 : mu.length = pre.length + (mus.length + 1) := by rw [m1, List.length_append, List.length_cons]
                       refine ⟨pre.drop (L.length - A.2.2.2.2.2.1), z0, mus, ?_, m2, m3⟩
                       rw [m1, List.drop_append_of_le_length (by omega)]
                     · rw [List.isEmpty_iff] at h3
                       rw [h3] at hE; cases hE
                   have htopx : (top && A.2.2.2.2.1) = true → ∃ pre, mux = pre ++ av := by
                     intro ht
                     rw [Bool.and_eq_true] at ht
                     obtain ⟨pre, e1⟩ := htop ht.1
                     have e0 : mux = mu.drop (L.length - A.2.2.2.2.2.1) := if_pos (by rw [ht.2]; rfl)
                     have h6 : (L.length - A.2.2.2.2.2.1) + (x_args M).length ≤ a'.2.2.2.2.2.1.length := by
                       rw [ht.1] at h5
                       exact Nat.le_of_ble_eq_true (by simpa using h5)
                     have h7 : mu.length = pre.length + av.length := by rw [e1, List.length_append]
                     have h8 := hav.1
                     refine ⟨pre.drop (L.length - A.2.2.2.2.2.1), ?_⟩
                     rw [e0, e1, List.drop_append_of_le_length (by omega)]
                   have hvj : ∀ (Y : xY) (H : Heap) (z : Int32) (r : Nat → Value) (ls : Array Slot) (st : List Value), x_C D Y0 M.2.2.1 (.int z :: mux) Y H (x_can A.2.1 (A.2.2.1.1 :: A.2.2.2.1) (x_cells a') (x_slots a')) r ls st → u.1 ≤ z.toInt ∧ z.toInt ≤ u.2 := by
                     intro Y H z r ls st hC
                     have h7 := hC.2.2.2.2.2.1
                     have h8 : r A.2.2.1.1 = .int z := by
                       have : (A.2.2.1.1 :: A.2.2.2.1).map r = .int z :: mux := h7
                       rw [List.map_cons] at this
                       exact (List.cons.inj this).1
                     obtain ⟨x, e1, e2⟩ := hC.1 _ _ hu
                     rw [h8] at e1
                     cases e1
                     exact e2
                   have head : ∀ (k : Nat) (z : Int32), (if A.2.2.1.2 then (u.2 - z.toInt).toNat else (z.toInt - u.1).toNat) < k →
                       x_K p l e R s m args below meth c (x_QQ below D G Zs U M av Y0 args s sz) D G Zs U (x_efs M) Y0 s.heap M.2.2.1 (.int z :: mux) (q.1, x_can A.2.1 (A.2.2.1.1 :: A.2.2.2.1) (x_cells a') (x_slots a')) := by
                     intro k
                     induction k with
                     | zero => intro z hz; exact absurd hz (Nat.not_lt_zero _)
                     | succ k ihk =>
                       intro z hz Y H locs r ls st hI hC
                       have hbd := hvj Y H z r ls st hC
                       refine go _ _ _ (.int z :: mux) hwb h (fun ht => ?_) (fun E hE => ?_) Y H locs r ls st hI hC
                       · obtain ⟨pre, e1⟩ := htopx ht
                         exact ⟨.int z :: pre, by rw [e1]; rfl⟩
                       · rcases List.mem_cons.mp hE with e0 | hE
                         · rw [e0]
                           refine ⟨[], z, mux, rfl, ?_, fun z' hp => ?_⟩
                           · have h7 := hC.2.2.2.2.2.1
                             have : (A.2.2.1.1 :: A.2.2.2.1).map r = .int z :: mux := h7
                             have := congrArg List.length this
                             rw [List.length_map, List.length_cons, List.length_cons] at this
                             show mux.length = A.2.2.2.1.length
                             omega
                           · intro Y' H' locs' r' ls' st' hI' hC'
                             have hbd' := hvj Y' H' z' r' ls' st' hC'
                             refine ihk z' ?_ Y' H' locs' r' ls' st' hI' hC'
                             have hp : x_prog A.2.2.1.2 z z' := hp
                             unfold x_prog at hp
                             split
                             · next hup =>
                               rw [if_pos hup] at hz hp
                               omega
                             · next hup =>
                               rw [if_neg hup] at hz hp
                               omega
                         · obtain ⟨pre, z0, mus, m1, m2, m3⟩ := hLx E hE
                           exact ⟨.int z :: pre, z0, mus, by rw [m1]; rfl, m2, m3⟩
                   have hgj : x_c Y (.inl u) (r (g.getD A.2.2.1.1 0)) := by
                     have hfit : x_fitA a'.1 g (x_vs A.2.1) = true := by
                       have := h1
                       unfold x_ent at this
                       rw [Bool.and_eq_true] at this
                       exact this.1
                     obtain ⟨f1, -⟩ := x_fitA_ok hC.1 hfit
                     have hjl : A.2.2.1.1 < g.length := by
                       have := f1.1
                       rw [List.length_map] at this
                       have h9 := (List.getElem?_eq_some_iff.mp hu).1
                       omega
                     refine f1.2 _ _ _ hu ?_
                     rw [List.getElem?_map, List.getElem?_eq_getElem hjl, List.getD_eq_getElem?_getD, List.getElem?_eq_getElem hjl]
                     rfl
                   obtain ⟨z0, ez, -⟩ := hgj
                   refine head _ z0 (Nat.lt_succ_self _) Y H locs _ ls st hI (x_ent_ok h1 hC ?_)
                   show (A.2.2.1.1 :: A.2.2.2.1).map (fun k => r (g.getD k 0)) = .int z0 :: mux
                   rw [List.map_cons, ez, x_trk_ok h2]
                   congr 1
                   show (x_cut (A.2.2.2.2.1 || !top) (a'.2.2.2.2.2.1.drop (L.length - A.2.2.2.2.2.1)) (x_args M).length).map r = x_cut (A.2.2.2.2.1 || !top) (mu.drop (L.length - A.2.2.2.2.2.1)) (x_args M).length
                   unfold x_cut
                   split
                   · rw [List.map_drop, htr]
                   · rw [List.map_take, List.map_drop, htr, List.length_drop, List.length_drop, hmlen]
                 · cases hlab
               · cases hlab
             · cases hlab
            · cases hlab
          · cases hlab
            exact go L top q.2 mu hw h htop hL
      · cases h
    · cases h
end XF
end
section
/-- the tables of a method's code hold wherever its words do -/
def x_TOK (cl : List vw_C) (G : List xG) (Zs : List xZ) (Tb Nb : List Cond) (M : xM) (T : xTab) : Prop :=
  ∀ (p : Program) (l : Launch) (e : Env) (s : State) (m : MethodId) (args : Array Value) (below : List Frame) (meth : Method) (c : Code) (D : va_G) (U : State), p.tables.exec = Jvm.exec → c.code = M.2.1 → c.maxLocals = M.2.2.1 → (∀ w ∈ Tb, w.before args s = true) →
    s.vm.findClass M.1.cls = some m.cls → va_K D cl [] s → va_K D cl [] U → U.vm.Alike s.vm → meth.name = M.1.name → (∀ w ∈ Nb, va_Nw w s) → x_tok p l e (x_rm M) s m args below meth c D G Zs U M.2.2.1 M.2.1 cl Tb M.1.cls T
theorem x_al_ok {Y : xY} {r : Nat → Value} : ∀ (ts : List xV) (vs : List Value) (i k : Nat), x_cs Y ts vs → (∀ j v, vs[j]? = some v → r (k + j) = v) → ∀ q ∈ (x_al i k ts).map (fun q => (q.1, r q.2)), q ∈ lv_args i vs := by
  intro ts
  induction ts with
  | nil => intro vs i k _ _ q hq; cases hq
  | cons t ts ih =>
    intro vs i k hc hr q hq
    cases vs with
    | nil => exact absurd hc.1 (by simp)
    | cons v vs =>
      have h0 := hc.2 0 t v (by simp) (by simp)
      have hr0 : r k = v := hr 0 v (by simp)
      have hc' : x_cs Y ts vs := ⟨by have := hc.1; simpa using this, fun j t' v' h1 h2 => hc.2 (j + 1) t' v' (by simpa using h1) (by simpa using h2)⟩
      have hcat : (if x_isL t then i + 2 else i + 1) = (if v.category = 2 then i + 2 else i + 1) := by
        rcases t with u | u | u
        · obtain ⟨x, e0, -⟩ := h0; rw [e0]; rfl
        · obtain ⟨x, e0, -⟩ := h0; rw [e0]; rfl
        · rcases h0 with ⟨e0, -⟩ | ⟨b, t, e0, -⟩ <;> rw [e0] <;> rfl
      unfold x_al at hq
      rw [List.map_cons] at hq
      unfold lv_args
      rcases List.mem_cons.mp hq with e0 | hq
      · rw [e0, hr0]; exact List.mem_cons_self
      · rw [hcat] at hq
        refine List.mem_cons_of_mem _ (ih vs _ (k + 1) hc' (fun j w hj => ?_) q hq)
        have := hr (j + 1) w (by simpa using hj)
        rw [← this]
        congr 1
        omega
theorem x_range_map {α : Type} (r : Nat → α) : ∀ (vs : List α), (∀ j v, vs[j]? = some v → r j = v) → (List.range vs.length).map r = vs := by
  intro vs h
  apply List.ext_getElem?
  intro j
  rw [List.getElem?_map]
  by_cases hj : j < vs.length
  · rw [List.getElem?_range hj, List.getElem?_eq_getElem hj]
    show some (r j) = _
    rw [h j _ (List.getElem?_eq_getElem hj)]
  · rw [List.getElem?_eq_none (by simpa using hj), List.getElem?_eq_none (by simpa using hj)]
    rfl
theorem x_sl_len : ∀ (ts : List xV) (vs : List Value) (Y : xY), x_cs Y ts vs → (lg_sl vs).length = (ts.map (fun t => if x_isL t then 2 else 1)).sum := by
  intro ts
  induction ts with
  | nil =>
    intro vs Y h
    cases vs with
    | nil => rfl
    | cons v vs => exact absurd h.1 (by simp)
  | cons t ts ih =>
    intro vs Y hc
    cases vs with
    | nil => exact absurd hc.1 (by simp)
    | cons v vs =>
      have h0 := hc.2 0 t v (by simp) (by simp)
      have hc' : x_cs Y ts vs := ⟨by have := hc.1; simpa using this, fun j t' v' h1 h2 => hc.2 (j + 1) t' v' (by simpa using h1) (by simpa using h2)⟩
      have hi := ih vs Y hc'
      have e1 : lg_sl (v :: vs) = (if v.category = 2 then [.val v, .second] else [.val v]) ++ lg_sl vs := rfl
      rw [e1, List.length_append, hi, List.map_cons, List.sum_cons]
      congr 1
      rcases t with u | u | u
      · obtain ⟨x, e0, -⟩ := h0; rw [e0]; rfl
      · obtain ⟨x, e0, -⟩ := h0; rw [e0]; rfl
      · rcases h0 with ⟨e0, -⟩ | ⟨b, t, e0, -⟩ <;> rw [e0] <;> rfl
/-- A METHOD'S CONTRACT, out of the checker's yes -/
theorem x_main {cl : List vw_C} {G : List xG} {Zs : List xZ} {Tb Nb : List Cond} {M : xM} (T : xTab) (an : List xAn) (sp : List (Nat × Nat)) (n : Nat) (hy : plainName M.1.cls = true) (hl : ((x_args M).map (fun t => if x_isL t then 2 else 1)).sum ≤ M.2.2.1) (hT : x_TOK cl G Zs Tb Nb M T) (h : x_ex G Zs T M an sp n [] true (0, x_0 M) = true) : x_Met cl G Zs Tb Nb M := by
  intro l D U Y sz av hK0 hav
  refine Met.ofW (cc := M.2.1) (maxL := M.2.2.1) (ret := M.2.2.2.1) hy rfl ?_
  intro p e s m args below meth c s₁ B hml hv
  obtain ⟨rfl, hsz, hU, hH, hN⟩ := hv
  have hts0 := atoms_spec B.pre
  have hts : ∀ w ∈ Tb, w.before av.toArray s = true := fun w hw => hts0 w (List.mem_cons_of_mem _ hw)
  have hown : s.vm.findClass M.1.cls = some m.cls := findClass_of_methodNamed B.named
  have hnm : meth.name = M.1.name := (name_of_methodNamed B.named B.method).1
  have hK : va_K D cl [] s := va_K.moved hU hK0
  have hY0 : ∀ q u, Y q = some u → q < s.heap.size := fun q u hq => hH.lt hq
  have hT1 : x_tok p l e (x_rm M) s m av.toArray below meth c D G Zs U M.2.2.1 M.2.1 cl Tb M.1.cls T := hT p l e s m av.toArray below meth c D U B.exec B.bytes hml hts hown hK hK0 hU hnm hN
  have hK1 := x_ex_ok (R := x_rm M) (an := an) (sp := sp) B.exec B.bytes hml B.returns B.notSynchronized hts hown hK hU hsz hY0 hav hT1 (Nat.le_refl _) (Nat.le_refl _) n [] true (0, x_0 M) av h (fun _ => ⟨[], rfl⟩) (fun E hE => by cases hE)
  have hlen : (lg_sl av).length ≤ M.2.2.1 := by rw [x_sl_len _ _ _ hav]; exact hl
  have hlv := lv_entry av (n := M.2.2.1) hlen
  rw [lg_entry_eq]
  refine hK1 Y s.heap [] (fun k => av.getD k .null) _ [] ⟨hH, fun q _ => rfl, x_E.rf, va_S.rf⟩ ⟨fun k t hk => ?_, hlv.less (x_al_ok (Y := Y) (r := fun k => av.getD k .null) (x_args M) av 0 0 hav (fun j v hj => ?_)), rfl, fun f hf => (by cases hf), fun d hd => (by cases hd), ?_, fun k hk => (by cases hk)⟩
  · show x_c Y t (av.getD k .null)
    have hkl : k < (x_args M).length := (List.getElem?_eq_some_iff.mp hk).1
    have hka : k < av.length := by rw [← hav.1]; exact hkl
    refine hav.2 k t _ hk ?_
    rw [List.getD_eq_getElem?_getD, List.getElem?_eq_getElem hka]
    rfl
  · rw [Nat.zero_add, List.getD_eq_getElem?_getD, hj]
    rfl
  · show (List.range (x_args M).length).map (fun k => av.getD k .null) = av
    rw [hav.1]
    exact x_range_map _ av (fun j v hj => by rw [List.getD_eq_getElem?_getD, hj]; rfl)
end
section
/-! CALLS OF EACH KIND, by a callee's contract -/
def x_Nk : Cond → Bool
  | .methodLinkNest .. => true
  | .fieldLinkNest .. => true
  | .castable .. => true
  | .declares .. => true
  | .arrayOver (.object _) => true
  | _ => false
theorem x_Nk_ok {w : Cond} {s U : State} (h : x_Nk w = true) (hW : s.WarmedH U.vm) (hZ : va_Nw w s) : va_Nw w U := by
  unfold x_Nk at h
  split at h
  · exact hZ.warmM hW
  · exact hZ.warmF hW
  · exact hZ.warmC hW
  · exact hZ.warmD hW
  · exact va_AO.moved hW.alike hZ
  · cases h
theorem x_Nk_same {w : Cond} {u U : State} (h : x_Nk w = true) (hv : u.vm = U.vm) (hZ : va_Nw w u) : va_Nw w U := by
  unfold x_Nk at h
  split at h
  · exact hZ.same rfl hv
  · exact hZ.same rfl hv
  · exact hZ.same rfl hv
  · exact hZ.same rfl hv
  · refine va_AO.moved ?_ hZ
    rw [hv]; exact Vm.Alike.refl _
  · cases h
section XQ
variable {p : Program} {l : Launch} {e : Env} {R : Room} {s : State} {m : MethodId} {args : Array Value} {below : List Frame} {meth : Method} {c : Code}
variable {D : va_G} {G : List xG} {Zs : List xZ} {U : State} {nL : Nat} {cc : ByteArray} {cl : List vw_C} {Tb Nb : List Cond} {own : String} {M : xM} {idx n : Nat}
theorem x_gw {ws : List Cond} (hG : ∀ w ∈ Tb, goodWord w = true) (h : ∀ w ∈ ws, w ∈ Tb) : GoodIn Tb (ws ++ (.code M.1 M.2.1 M.2.2.1 M.2.2.2.1 :: Tb)) → GoodIn Tb (ws ++ (.code M.1 M.2.1 M.2.2.1 M.2.2.2.1 :: Tb)) := id
theorem x_good {ws : List Cond} (hG : ∀ w ∈ Tb, goodWord w = true) (h : ∀ w ∈ ws, w ∈ Tb) (hc : Cond.code M.1 M.2.1 M.2.2.1 M.2.2.2.1 ∈ Tb) : GoodIn Tb (ws ++ (.code M.1 M.2.1 M.2.2.1 M.2.2.2.1 :: Tb)) := by
  intro w hw
  have hm : w ∈ Tb := by
    rcases List.mem_append.mp hw with q | q
    · exact h w q
    · rcases List.mem_cons.mp q with q | q
      · rw [q]; exact hc
      · exact q
  exact ⟨hm, good_of_word (hG w hm)⟩
theorem x_blind {av : List Value} {Y : xY} {sz : Nat} (hN : ∀ w ∈ Nb, x_Nk w = true) : FrameBlind (va_Pc av (fun S => S.heap.size = sz ∧ U.vm.Alike S.vm ∧ x_H D G Zs U Y S.heap ∧ ∀ w ∈ Nb, va_Nw w S)) := by
  intro a V g mk q
  obtain ⟨q0, q1, q2, q3, q4⟩ := q
  exact ⟨q0, q1, q2, q3, fun w hw => x_Nk_same (u := V) (hN w hw) rfl (q4 w hw)⟩
theorem x_pre {av : List Value} {Y : xY} {H : Heap} (hN : ∀ w ∈ Nb, x_Nk w = true) (hNw : ∀ w ∈ Nb, va_Nw w s) (hU : U.vm.Alike s.vm) (hH : x_H D G Zs U Y H) : ∀ V : State, V.heap = H → s.WarmedH V.vm → va_Pc av (fun S => S.heap.size = H.size ∧ U.vm.Alike S.vm ∧ x_H D G Zs U Y S.heap ∧ ∀ w ∈ Nb, va_Nw w S) av.toArray V :=
  fun V hV hW => ⟨rfl, by rw [hV], hU.trans hW.alike, by rw [hV]; exact hH, fun w hw => x_Nk_ok (hN w hw) hW (hNw w hw)⟩
variable (p l e s m args below meth c D U) in
/-- what holds inside a method's body -/
def x_cx (cc : ByteArray) (nL : Nat) (cl : List vw_C) (Tb Nb : List Cond) (own : String) : Prop := p.tables.exec = Jvm.exec ∧ c.code = cc ∧ c.maxLocals = nL ∧ s.vm.findClass own = some m.cls ∧ (∀ w ∈ Tb, w.before args s = true) ∧ va_K D cl [] s ∧ va_K D cl [] U ∧ U.vm.Alike s.vm ∧ (∀ w ∈ Nb, va_Nw w s) ∧ (∀ w ∈ Tb, goodWord w = true) ∧ ∀ w ∈ Nb, x_Nk w = true
theorem x_cokS (X : x_cx p s m args c D U cc nL cl Tb Nb own) (hM : x_Met cl G Zs Tb Nb M) (h : ∀ w ∈ [Cond.methodLink own idx M.1, .static M.1, .initialized M.1.cls], w ∈ Tb) (hc : Cond.code M.1 M.2.1 M.2.2.1 M.2.2.2.1 ∈ Tb)
    (hd : M.1.cls ≠ "java/lang/invoke/MethodHandle" ∧ M.1.cls ≠ "java/lang/invoke/VarHandle" ∧ (parseMethodDescriptor M.1.desc).map (fun d => d.parameters.length) = some n) (hR : (x_rm M).frames + 1 ≤ R.frames ∧ 8 + (M.2.2.1 + 11) + (x_rm M).locals ≤ R.locals) :
    x_cok p l e R s m args below meth c D G Zs U nL cc (1, idx, n, none, M) := by
  intro H locs cells slots pc ls rest av Y hdec hls hrest hcl hsl hH hcs hlen hrt
  obtain ⟨hx, hb, hml, hown, hts, hK, hK0, hU, hNw, hG, hN⟩ := X
  exact va_runS (As := av) (rest := rest) (Ts := Tb) ⟨hx, hb, hml, hown, hts⟩ (hM l D U Y H.size av hK0 hcs) (va_cwS n hts (x_good hG h hc) rfl rfl rfl hd hR) ⟨x_blind hN, x_pre hN hNw hU hH⟩ rfl hlen hls rfl (lv_room hrest) hdec ⟨hcl, hsl⟩
theorem x_cokSN {host : String} (X : x_cx p s m args c D U cc nL cl Tb Nb own) (hM : x_Met cl G Zs Tb Nb M) (h : ∀ w ∈ [Cond.static M.1, .initialized M.1.cls], w ∈ Tb) (hl : Cond.methodLinkNest own idx M.1 host ∈ Nb) (hc : Cond.code M.1 M.2.1 M.2.2.1 M.2.2.2.1 ∈ Tb)
    (hd : M.1.cls ≠ "java/lang/invoke/MethodHandle" ∧ M.1.cls ≠ "java/lang/invoke/VarHandle" ∧ (parseMethodDescriptor M.1.desc).map (fun d => d.parameters.length) = some n) (hR : (x_rm M).frames + 1 ≤ R.frames ∧ 8 + (M.2.2.1 + 11) + (x_rm M).locals ≤ R.locals) :
    x_cok p l e R s m args below meth c D G Zs U nL cc (1, idx, n, none, M) := by
  intro H locs cells slots pc ls rest av Y hdec hls hrest hcl hsl hH hcs hlen hrt
  obtain ⟨hx, hb, hml, hown, hts, hK, hK0, hU, hNw, hG, hN⟩ := X
  exact va_runSN (As := av) (rest := rest) (Ts := Tb) (host := host) ⟨hx, hb, hml, hown, hts⟩ (hM l D U Y H.size av hK0 hcs) ⟨va_cnB n hts (x_good (ws := []) hG (fun w hw => by cases hw) hc) rfl rfl rfl (hNw _ hl) (hts _ (h _ (by simp))) hd hR, hts _ (h _ (by simp)), trivial⟩ ⟨x_blind hN, x_pre hN hNw hU hH⟩ rfl hlen hls rfl (lv_room hrest) hdec ⟨hcl, hsl⟩
theorem x_recv {Y : xY} {H : Heap} (hK : va_K D cl [] s) (hH : x_H D G Zs U Y H) {b t ci : Nat} {fts : List xV} {q : vw_C} (hY : Y b = some t) (hg : G[t]? = some (.inl (ci, fts))) (hq : cl[ci]? = some q) : ∃ cell : Cell, H[b]? = some cell ∧ cell.vm.isStatics = false ∧ s.vm.findClass q.1 = some cell.cls := by
  obtain ⟨g, h1, h2⟩ := hH.1 b t hY
  cases h1.symm.trans hg
  obtain ⟨V, ⟨cell, q1, q2, q3, -⟩, -⟩ := h2
  exact ⟨cell, q1, by rw [q3]; rfl, by rw [q2]; exact (hK.1 ci q hq).2.1⟩
theorem x_cokV {t ci : Nat} {fts : List xV} {q : vw_C} (X : x_cx p s m args c D U cc nL cl Tb Nb own) (hM : x_Met cl G Zs Tb Nb M) (hg : G[t]? = some (.inl (ci, fts))) (hq : cl[ci]? = some q) (hC : M.1.cls = q.1)
    (h : ∀ w ∈ [Cond.methodLink own idx M.1, .instanceMethod M.1, .selects q.1 M.1 M.1, .initialized q.1], w ∈ Tb) (hc : Cond.code M.1 M.2.1 M.2.2.1 M.2.2.2.1 ∈ Tb)
    (hd : M.1.cls ≠ "java/lang/invoke/MethodHandle" ∧ M.1.cls ≠ "java/lang/invoke/VarHandle" ∧ (parseMethodDescriptor M.1.desc).map (fun d => d.parameters.length) = some n) (hR : (x_rm M).frames + 1 ≤ R.frames ∧ 8 + (M.2.2.1 + 11) + (x_rm M).locals ≤ R.locals) :
    x_cok p l e R s m args below meth c D G Zs U nL cc (0, idx, n + 1, some t, M) := by
  intro H locs cells slots pc ls rest av Y hdec hls hrest hcl hsl hH hcs hlen hrt
  obtain ⟨hx, hb, hml, hown, hts, hK, hK0, hU, hNw, hG, hN⟩ := X
  obtain ⟨b, hb0, hbY⟩ := hrt t rfl
  cases hav : av with
  | nil => rw [hav] at hb0; cases hb0
  | cons v As =>
    rw [hav] at hb0 hcs hlen
    have hv : v = .ref b := by simpa using hb0
    subst hv
    have hM1 := hM l D U Y H.size (.ref b :: As) hK0 hcs
    rw [List.reverse_cons, List.append_assoc]
    exact va_runV (As := As) (rest := rest) (Ts := Tb) (C := q.1) ⟨hx, hb, hml, hown, hts⟩ hM1 (cwV n hts (x_good hG h hc) rfl rfl rfl ⟨hC, hd⟩ hR) ⟨x_blind hN, x_recv hK hH hbY hg hq, x_pre hN hNw hU hH⟩ rfl (by simpa using hlen) hls rfl (lv_room hrest) hdec ⟨hcl, hsl⟩
theorem x_cokU {t ci : Nat} {fts : List xV} {q : vw_C} {x : MethodName} (X : x_cx p s m args c D U cc nL cl Tb Nb own) (hM : x_Met cl G Zs Tb Nb M) (hg : G[t]? = some (.inl (ci, fts))) (hq : cl[ci]? = some q) (hyx : M.1 = ⟨M.1.cls, x.name, x.desc⟩)
    (h : ∀ w ∈ [Cond.methodLink own idx x, .sameMethod x.cls M.1.cls x.name x.desc, .selects q.1 x M.1, .instanceMethod M.1, .initialized M.1.cls], w ∈ Tb) (hc : Cond.code M.1 M.2.1 M.2.2.1 M.2.2.2.1 ∈ Tb)
    (hd : M.1.cls ≠ "java/lang/invoke/MethodHandle" ∧ M.1.cls ≠ "java/lang/invoke/VarHandle" ∧ (parseMethodDescriptor x.desc).map (fun d => d.parameters.length) = some n) (hR : (x_rm M).frames + 1 ≤ R.frames ∧ 8 + (M.2.2.1 + 11) + (x_rm M).locals ≤ R.locals) :
    x_cok p l e R s m args below meth c D G Zs U nL cc (0, idx, n + 1, some t, M) := by
  intro H locs cells slots pc ls rest av Y hdec hls hrest hcl hsl hH hcs hlen hrt
  obtain ⟨hx, hb, hml, hown, hts, hK, hK0, hU, hNw, hG, hN⟩ := X
  obtain ⟨b, hb0, hbY⟩ := hrt t rfl
  cases hav : av with
  | nil => rw [hav] at hb0; cases hb0
  | cons v As =>
    rw [hav] at hb0 hcs hlen
    have hv : v = .ref b := by simpa using hb0
    subst hv
    have hM1 := hM l D U Y H.size (.ref b :: As) hK0 hcs
    rw [List.reverse_cons, List.append_assoc]
    exact va_runU (As := As) (rest := rest) (Ts := Tb) (C := q.1) (owner := M.1.cls) (x := x) ⟨hx, hb, hml, hown, hts⟩ hM1 (va_cwU n hts (x_good hG h hc) rfl rfl rfl hyx hd hR) ⟨x_blind hN, x_recv hK hH hbY hg hq, x_pre hN hNw hU hH⟩ rfl (by simpa using hlen) hls rfl (lv_room hrest) hdec ⟨hcl, hsl⟩
theorem x_cokI (X : x_cx p s m args c D U cc nL cl Tb Nb own) (hM : x_Met cl G Zs Tb Nb M) (hret : M.2.2.2.1 = none) (h : ∀ w ∈ [Cond.methodLink own idx M.1, .instanceMethod M.1, .initialized M.1.cls], w ∈ Tb) (hc : Cond.code M.1 M.2.1 M.2.2.1 M.2.2.2.1 ∈ Tb) (hi : M.1.name = "<init>")
    (h0 : ∀ (Y : xY) (av : List Value), x_cs Y (x_args M) av → ∃ (b : Nat) (As : List Value), av = .ref b :: As)
    (hd : M.1.cls ≠ "java/lang/invoke/MethodHandle" ∧ M.1.cls ≠ "java/lang/invoke/VarHandle" ∧ (parseMethodDescriptor M.1.desc).map (fun d => d.parameters.length) = some n) (hR : (x_rm M).frames + 1 ≤ R.frames ∧ 8 + (M.2.2.1 + 11) + (x_rm M).locals ≤ R.locals) :
    x_cok p l e R s m args below meth c D G Zs U nL cc (2, idx, n + 1, none, M) := by
  intro H locs cells slots pc ls rest av Y hdec hls hrest hcl hsl hH hcs hlen hrt
  obtain ⟨hx, hb, hml, hown, hts, hK, hK0, hU, hNw, hG, hN⟩ := X
  obtain ⟨b, As, rfl⟩ := h0 Y av hcs
  have hM1 := hM l D U Y H.size (.ref b :: As) hK0 hcs
  rw [hret] at hM1 hc
  rw [List.reverse_cons, List.append_assoc]
  have hg : GoodIn Tb (Cond.code M.1 M.2.1 M.2.2.1 none :: Tb) := fun w hw => by
    have hm : w ∈ Tb := by
      rcases List.mem_cons.mp hw with q | q
      · rw [q]; exact hc
      · exact q
    exact ⟨hm, good_of_word (hG w hm)⟩
  exact va_runI (As := As) (rest := rest) (Ts := Tb) ⟨hx, hb, hml, hown, hts⟩ hM1 (cwI n hts hg rfl rfl rfl (hts _ (h _ (by simp))) (hts _ (h _ (by simp))) (hts _ (h _ (by simp))) hi hd hR) ⟨x_blind hN, x_pre hN hNw hU hH⟩ rfl (by simpa using hlen) hls rfl (lv_room hrest) hdec ⟨hcl, hsl⟩
theorem x_cokIN {host : String} (X : x_cx p s m args c D U cc nL cl Tb Nb own) (hM : x_Met cl G Zs Tb Nb M) (hret : M.2.2.2.1 = none) (h : ∀ w ∈ [Cond.instanceMethod M.1, .initialized M.1.cls], w ∈ Tb) (hl : Cond.methodLinkNest own idx M.1 host ∈ Nb) (hc : Cond.code M.1 M.2.1 M.2.2.1 M.2.2.2.1 ∈ Tb) (hi : M.1.name = "<init>")
    (h0 : ∀ (Y : xY) (av : List Value), x_cs Y (x_args M) av → ∃ (b : Nat) (As : List Value), av = .ref b :: As)
    (hd : M.1.cls ≠ "java/lang/invoke/MethodHandle" ∧ M.1.cls ≠ "java/lang/invoke/VarHandle" ∧ (parseMethodDescriptor M.1.desc).map (fun d => d.parameters.length) = some n) (hR : (x_rm M).frames + 1 ≤ R.frames ∧ 8 + (M.2.2.1 + 11) + (x_rm M).locals ≤ R.locals) :
    x_cok p l e R s m args below meth c D G Zs U nL cc (2, idx, n + 1, none, M) := by
  intro H locs cells slots pc ls rest av Y hdec hls hrest hcl hsl hH hcs hlen hrt
  obtain ⟨hx, hb, hml, hown, hts, hK, hK0, hU, hNw, hG, hN⟩ := X
  obtain ⟨b, As, rfl⟩ := h0 Y av hcs
  have hM1 := hM l D U Y H.size (.ref b :: As) hK0 hcs
  rw [hret] at hM1 hc
  rw [List.reverse_cons, List.append_assoc]
  have hg : GoodIn Tb (Cond.code M.1 M.2.1 M.2.2.1 none :: Tb) := fun w hw => by
    have hm : w ∈ Tb := by
      rcases List.mem_cons.mp hw with q | q
      · rw [q]; exact hc
      · exact q
    exact ⟨hm, good_of_word (hG w hm)⟩
  exact va_runIN (As := As) (rest := rest) (Ts := Tb) (host := host) ⟨hx, hb, hml, hown, hts⟩ hM1 ⟨va_cnB n hts hg rfl rfl rfl (hNw _ hl) (hts _ (h _ (by simp))) hd hR, hi, hts _ (h _ (by simp))⟩ ⟨x_blind hN, x_pre hN hNw hU hH⟩ rfl (by simpa using hlen) hls rfl (lv_room hrest) hdec ⟨hcl, hsl⟩
theorem x_this {Y : xY} {ts : List xV} {av : List Value} {tg : List Nat} (h : x_cs Y (.inr (.inr (false, tg)) :: ts) av) : ∃ (b : Nat) (As : List Value), av = .ref b :: As := by
  cases av with
  | nil => exact absurd h.1 (by simp)
  | cons v As =>
    have h0 := h.2 0 (.inr (.inr (false, tg))) v (by simp) (by simp)
    obtain ⟨b, t, e0, -⟩ := x_ref_at h0 rfl
    exact ⟨b, As, by rw [e0]⟩
end XQ
end
section
theorem x_sub1 {s : State} {a b : ClassId} {k : Class} (h1 : s.vm.classes[a]? = some k) (h2 : k.super = some b) : s.vm.isSubclass a b = true := by
  have hpos : 0 < s.vm.classes.size := Nat.lt_of_le_of_lt (Nat.zero_le _) (Array.getElem?_eq_some_iff.mp h1).1
  obtain ⟨n, hn⟩ : ∃ n, s.vm.classes.size = n + 1 := ⟨s.vm.classes.size - 1, by omega⟩
  unfold Vm.isSubclass
  rw [hn]
  simp [Vm.isSubclassAux, h1, h2]
section XQ2
variable {p : Program} {l : Launch} {e : Env} {R : Room} {s : State} {m : MethodId} {args : Array Value} {below : List Frame} {meth : Method} {c : Code}
variable {D : va_G} {G : List xG} {Zs : List xZ} {U : State} {nL : Nat} {cc : ByteArray} {cl : List vw_C} {Tb Nb : List Cond} {own : String} {M : xM} {idx n : Nat}
/-- an overriding method: what the reference names is another one's -/
theorem x_cokO {t ci : Nat} {fts : List xV} {q : vw_C} {x : MethodName} {b0 : ByteArray} {m0 : Nat} {r0 : Option FieldType} (X : x_cx p s m args c D U cc nL cl Tb Nb own) (hM : x_Met cl G Zs Tb Nb M) (hg : G[t]? = some (.inl (ci, fts))) (hq : cl[ci]? = some q) (hx0 : Cond.code ⟨x.cls, x.name, x.desc⟩ b0 m0 r0 ∈ Tb)
    (h : ∀ w ∈ [Cond.methodLink own idx x, .sameMethod x.cls x.cls x.name x.desc, .instanceMethod ⟨x.cls, x.name, x.desc⟩, .selects q.1 x M.1, .instanceMethod M.1, .initialized M.1.cls], w ∈ Tb) (hc : Cond.code M.1 M.2.1 M.2.2.1 M.2.2.2.1 ∈ Tb)
    (hd : x.cls ≠ "java/lang/invoke/MethodHandle" ∧ x.cls ≠ "java/lang/invoke/VarHandle" ∧ (parseMethodDescriptor x.desc).map (fun d => d.parameters.length) = some n) (hR : (x_rm M).frames + 1 ≤ R.frames ∧ 8 + (M.2.2.1 + 11) + (x_rm M).locals ≤ R.locals) :
    x_cok p l e R s m args below meth c D G Zs U nL cc (0, idx, n + 1, some t, M) := by
  intro H locs cells slots pc ls rest av Y hdec hls hrest hcl hsl hH hcs hlen hrt
  obtain ⟨hx, hb, hml, hown, hts, hK, hK0, hU, hNw, hG, hN⟩ := X
  obtain ⟨b, hb0, hbY⟩ := hrt t rfl
  cases hav : av with
  | nil => rw [hav] at hb0; cases hb0
  | cons v As =>
    rw [hav] at hb0 hcs hlen
    have hv : v = .ref b := by simpa using hb0
    subst hv
    have hM1 := hM l D U Y H.size (.ref b :: As) hK0 hcs
    rw [List.reverse_cons, List.append_assoc]
    exact va_runU (As := As) (rest := rest) (Ts := Tb) (C := q.1) (owner := x.cls) (x := x) ⟨hx, hb, hml, hown, hts⟩ hM1 (va_cwO n hts (x_good hG h hc) rfl rfl rfl hx0 hd hR) ⟨x_blind hN, x_recv hK hH hbY hg hq, x_pre hN hNw hU hH⟩ rfl (by simpa using hlen) hls rfl (lv_room hrest) hdec ⟨hcl, hsl⟩
theorem x_castSelf {C : String} {cC : ClassId} (h : ClassAt s C cC) : va_Nw (.castable C C) s := by
  have h1 := va_assign h
  unfold va_Nw Cond.before Cond.holds
  simp [Cond.value, h.1, h1]
/-- super.m(..), of which the superclass has it from its own -/
theorem x_cokSUP {x : MethodName} {tg : List Nat} {ts : List xV} (X : x_cx p s m args c D U cc nL cl Tb Nb own) (hM : x_Met cl G Zs Tb Nb M) (hyx : M.1 = ⟨M.1.cls, x.name, x.desc⟩) (hargs : x_args M = .inr (.inr (false, tg)) :: ts)
    (htg : tg.all (fun t => match G[t]? with
      | some (.inl o) => (cl[o.1]?).isSome
      | _ => false) = true)
    (h : ∀ w ∈ [Cond.methodLink own idx x, .sameMethod x.cls M.1.cls x.name x.desc, .superclass own x.cls, .superclass x.cls M.1.cls, .instanceMethod M.1, .initialized M.1.cls], w ∈ Tb) (hc : Cond.code M.1 M.2.1 M.2.2.1 M.2.2.2.1 ∈ Tb)
    (hd : x.name ≠ "<init>" ∧ (parseMethodDescriptor M.1.desc).map (fun d => d.parameters.length) = some n) (hR : (x_rm M).frames + 1 ≤ R.frames ∧ 8 + (M.2.2.1 + 11) + (x_rm M).locals ≤ R.locals) :
    x_cok p l e R s m args below meth c D G Zs U nL cc (2, idx, n + 1, none, M) := by
  intro H locs cells slots pc ls rest av Y hdec hls hrest hcl hsl hH hcs hlen hrt
  obtain ⟨hx, hb, hml, hown, hts, hK, hK0, hU, hNw, hG, hN⟩ := X
  have hcs : x_cs Y (x_args M) av := hcs
  rw [hargs] at hcs
  have h00 := hcs
  obtain ⟨b, As, rfl⟩ := x_this hcs
  obtain ⟨b', t, e0, ht, hbY⟩ := x_ref_at (h00.2 0 (.inr (.inr (false, tg))) (.ref b) (by simp) (by simp)) rfl
  cases e0
  rw [← hargs] at hcs
  have hM1 := hM l D U Y H.size (.ref b :: As) hK0 hcs
  have hrec : ∃ (cell : Cell) (kB : Class), H[b]? = some cell ∧ cell.vm.isStatics = false ∧ s.vm.classes[cell.cls]? = some kB := by
    have h1 := List.all_eq_true.mp htg t ht
    split at h1
    · next o ho =>
      obtain ⟨q, hq⟩ := Option.isSome_iff_exists.mp h1
      obtain ⟨g, h2, h3⟩ := hH.1 b t hbY
      cases h2.symm.trans ho
      obtain ⟨V, ⟨cell, q1, q2, q3, -⟩, -⟩ := h3
      obtain ⟨-, kC, hkC, -⟩ := (hK.1 o.1 q hq).2
      exact ⟨cell, kC, q1, by rw [q3]; rfl, by rw [q2]; exact hkC⟩
    · cases h1
  obtain ⟨cellB, kB, hcB, hoB, hkB⟩ := hrec
  have hK1 : Back l R p e below s args M.1 3 8 (PreOf R (x_rm M).cells (x_rm M).slots (va_Pc (.ref b :: As) (fun S => S.heap.size = H.size ∧ U.vm.Alike S.vm ∧ x_H D G Zs U Y S.heap ∧ ∀ w ∈ Nb, va_Nw w S))) (PostOf (x_Q D G Zs U M (.ref b :: As) Y) (x_rm M).cells (x_rm M).slots (fun q => (∃ u, Y q = some u) ∨ H.size ≤ q)) :=
    back_of (bytes := M.2.1) (maxL := M.2.2.1) (ret := M.2.2.2.1) hM1 (x_blind hN) rfl rfl hR.1 hR.2 (pay_in hts (x_good (ws := []) hG (fun w hw => by cases hw) hc)) List.mem_cons_self (fun a' V hW => word_at hW (Or.inl (by first | rfl | simp [Cond.onTables, Cond.keeps, Cond.steady])) (hts _ (h _ (by simp))))
  intro T hT XS
  obtain ⟨mk, methM, hnamed, hmethM, hstM, habM⟩ := Cond.instanceMethod_spec (hts _ (h (Cond.instanceMethod M.1) (by simp)))
  obtain ⟨methM', cM, hmethM', -, -, -, -, -, -, hsigM⟩ := Cond.code_spec hnamed (hts _ hc)
  cases hmethM.symm.trans hmethM'
  obtain ⟨ps, dk, kp, hps, hdk, hkp, hsuper, -, -, hnid⟩ := Cond.superclass_spec hown (hts _ (h (Cond.superclass own x.cls) (by simp)))
  obtain ⟨ps2, dk2, kp2, hps2, hdk2, hkp2, hsuper2, -, -, -⟩ := Cond.superclass_spec hps (hts _ (h (Cond.superclass x.cls M.1.cls) (by simp)))
  have hn : s.methodNamed? ⟨M.1.cls, x.name, x.desc⟩ = some mk := by rw [← hyx]; exact hnamed
  have hpm : ps2 = mk.cls := Option.some.inj (hps2.symm.trans (findClass_of_methodNamed hnamed))
  have hsub : s.vm.isSubclass ps mk.cls = true := by
    rw [← hpm]
    exact x_sub1 hdk2 hsuper2
  have hsz : (F0 m pc ls ((Value.ref b :: As).reverse ++ rest)).locals.size = c.maxLocals := by rw [hml]; exact hls
  have hlenA : As.length = n := by simpa using hlen
  have hsl2 : ∀ sig, parseMethodDescriptor M.1.desc = some sig → As.length = sig.parameters.length := fun sig hsig => by
    have h2 := hd.2
    rw [hsig] at h2
    rw [hlenA]
    exact (Option.some.inj h2).symm
  obtain ⟨vm₁, X₁, hstep₁⟩ := XS.invokespecialUp hx hown (hts _ (h (Cond.methodLink own idx x) (by simp))) (hts _ (h (Cond.sameMethod x.cls M.1.cls x.name x.desc) (by simp))) hn hmethM hstM habM hd.1 hdk hnid hps hsuper hsub (a := b) (cell := cellB) (by rw [hT]; exact hcB)
    (fun z hz => by rw [hz] at hoB; cases hoB) hkB (g := F0 m pc ls ((Value.ref b :: As).reverse ++ rest)) rfl (argsL := As) (rest := rest) (hsl2 _ hsigM) (by show (Value.ref b :: As).reverse ++ rest = _; rw [List.reverse_cons, List.append_assoc]; rfl) (by rw [hb]; exact hdec)
  obtain ⟨v, ⟨U', l2, c2, s2⟩, X', ⟨g', mk', t', L, e1, e2, hq, h1, hL, h2, h3⟩, hsteps⟩ := hK1 m meth c ⟨T.setVm vm₁, locs, cells, slots⟩ { F0 m pc ls ((Value.ref b :: As).reverse ++ rest) with stack := rest } (.invokespecial idx) mk (Value.ref b :: As).toArray X₁ rfl hsz (by rw [hb]; exact hdec) (lv_room hrest) (X₁.named hnamed) ⟨hcl, hsl, x_pre hN hNw hU hH (T.setVm vm₁) hT X₁.warmed⟩
  dsimp only [Pt.U, Pt.locs, Pt.cells, Pt.slots] at X' e1 e2 h1 h2 h3 hsteps
  subst h1; subst h2; subst h3
  exact ⟨v, (T.setVm vm₁).calling g' mk' (Value.ref b :: As).toArray, t', U', L, hT, X', hL, e1, e2, hq, fun target ht => hstep₁ _ (by rw [doInvoke_state]; exact hsteps.trans ht)⟩
end XQ2
/-! what a new cell holds at first -/
def x_dv (ft : xV) (ty : FieldType) : Bool := match ft, ty with
  | .inl q, .int => decide (q.1 ≤ 0) && decide (0 ≤ q.2)
  | .inl q, .boolean => decide (q.1 ≤ 0) && decide (0 ≤ q.2)
  | .inr (.inl q), .long => decide (q.1 ≤ 0) && decide (0 ≤ q.2)
  | .inr (.inr q), .object _ => q.1
  | .inr (.inr q), .array _ => q.1
  | _, _ => false
theorem x_dv_ok {Y : xY} {ft : xV} {ty : FieldType} (h : x_dv ft ty = true) : x_c Y ft (defaultValue ty) := by
  unfold x_dv at h
  split at h
  · simp only [Bool.and_eq_true, decide_eq_true_eq] at h
    exact ⟨0, rfl, h.1, h.2⟩
  · simp only [Bool.and_eq_true, decide_eq_true_eq] at h
    exact ⟨0, rfl, h.1, h.2⟩
  · simp only [Bool.and_eq_true, decide_eq_true_eq] at h
    exact ⟨0, rfl, h.1, h.2⟩
  · exact Or.inl ⟨rfl, h⟩
  · exact Or.inl ⟨rfl, h⟩
  · cases h
theorem x_dfl {fts : List xV} {ty : Nat → FieldType} (h : (List.range fts.length).all (fun k => match fts[k]? with
    | some ft => x_dv ft (ty k)
    | none => false) = true) (Y : xY) (k : Nat) (ft : xV) (hk : fts[k]? = some ft) : x_c Y ft (defaultValue (ty k)) := by
  have h1 := List.all_eq_true.mp h k (List.mem_range.mpr (List.getElem?_eq_some_iff.mp hk).1)
  rw [hk] at h1
  exact x_dv_ok h1
theorem x_dfa {pre : List xV} {ft : xV} {ty : FieldType} (h : (pre.all (fun t => x_dv t ty) && x_dv ft ty) = true) (Y : xY) (j : Nat) : x_c Y (pre.getD j ft) (defaultValue ty) := by
  rw [Bool.and_eq_true] at h
  rw [List.getD_eq_getElem?_getD]
  cases hq : pre[j]? with
  | none => exact x_dv_ok h.2
  | some w => exact x_dv_ok (List.all_eq_true.mp h.1 w (List.mem_of_getElem? hq))
end
section
/-! Math's min, max and abs: the library's own contracts, as calls of ours -/
section XMT
variable {p : Program} {l : Launch} {e : Env} {R : Room} {s : State} {m : MethodId} {args : Array Value} {below : List Frame} {meth : Method} {c : Code}
variable {D : va_G} {G : List xG} {Zs : List xZ} {U : State} {nL : Nat} {cc : ByteArray} {cl : List vw_C} {Tb Nb : List Cond} {own : String} {idx : Nat}
theorem x_i32 (x : Int32) : -2147483648 ≤ x.toInt ∧ x.toInt ≤ 2147483647 := by
  have h1 := Int32.le_toInt x
  have h2 := Int32.toInt_lt x
  omega
theorem x_i64 (x : Int64) : -9223372036854775808 ≤ x.toInt ∧ x.toInt ≤ 9223372036854775807 := by
  have h1 := Int64.le_toInt x
  have h2 := Int64.toInt_lt x
  omega
def xM2 (y : MethodName) (cw : ByteArray) : xM := (y, cw, 2, some .int, [.inl (-2147483648, 2147483647), .inl (-2147483648, 2147483647)], [([.inl (-2147483648, 2147483647), .inl (-2147483648, 2147483647)], some (.inl (-2147483648, 2147483647)))], [], (0, 1, 0, 0), none)
def xM1 (y : MethodName) (cw : ByteArray) : xM := (y, cw, 1, some .int, [.inl (-2147483648, 2147483647)], [([.inl (-2147483648, 2147483647)], some (.inl (-2147483648, 2147483647)))], [], (0, 1, 0, 0), none)
def xM1L (y : MethodName) (cw : ByteArray) : xM := (y, cw, 2, some .long, [.inr (.inl (-9223372036854775808, 9223372036854775807))], [([.inr (.inl (-9223372036854775808, 9223372036854775807))], some (.inr (.inl (-9223372036854775808, 9223372036854775807))))], [], (0, 1, 0, 0), none)
theorem x_pure {t : xV} {M : xM} {Y : xY} {H : Heap} {av : List Value} {v : Value} {T : State} {vm' : Vm} (hT : T.heap = H) (hH : x_H D G Zs U Y H) (ho : x_outs M = [(x_args M, some t)]) (hr : x_rt M = none) (he : x_efs M = []) (hv : x_c Y t v) (hcs : x_cs Y (x_args M) av) : x_Q D G Zs U M av Y av.toArray T (.returned (some v)) (T.setVm vm') := by
  refine ⟨some v, Y, (x_args M, some t), rfl, by rw [ho]; exact List.mem_cons_self, ⟨v, rfl, hv⟩, hcs, ?_, ?_, ?_, ?_⟩
  · show x_H D G Zs U Y T.heap
    rw [hT]; exact hH
  · rw [hr]; exact fun q _ => rfl
  · exact x_E.rf
  · exact ⟨Nat.le_refl _, fun q _ _ => rfl⟩
theorem x_two {Y : xY} {t u : xV} {av : List Value} (h : x_cs Y [t, u] av) : ∃ v w, av = [v, w] ∧ x_c Y t v ∧ x_c Y u w := by
  obtain ⟨h1, h2⟩ := h
  match av, h1 with
  | [v, w], _ => exact ⟨v, w, rfl, h2 0 t v rfl rfl, h2 1 u w rfl rfl⟩
theorem x_one {Y : xY} {t : xV} {av : List Value} (h : x_cs Y [t] av) : ∃ v, av = [v] ∧ x_c Y t v := by
  obtain ⟨h1, h2⟩ := h
  match av, h1 with
  | [v], _ => exact ⟨v, rfl, h2 0 t v rfl rfl⟩
theorem x_cokMin (X : x_cx p s m args c D U cc nL cl Tb Nb own) {cw : ByteArray} (hcw : cw = Lib.Math.min.code) (h : ∀ w ∈ [Cond.methodLink own idx Lib.Math.min.name, .static Lib.Math.min.name, .initialized "java/lang/Math", .code Lib.Math.min.name cw 2 (some .int)], w ∈ Tb) (hR : 1 ≤ R.frames ∧ 21 ≤ R.locals) :
    x_cok p l e R s m args below meth c D G Zs U nL cc (1, idx, 2, none, xM2 Lib.Math.min.name cw) := by
  subst hcw
  intro H locs cells slots pc ls rest av Y hdec hls hrest hcl hsl hH hcs hlen hrt T hT X'
  obtain ⟨hx, hb, hml, hown, hts, -⟩ := X
  obtain ⟨v, w, rfl, ⟨x, rfl, -⟩, ⟨y, rfl, -⟩⟩ := x_two hcs
  obtain ⟨vm', X2, st⟩ := X'.mathMinV hx hown (hts _ (h _ List.mem_cons_self)) (hts _ (h _ (List.mem_cons_of_mem _ List.mem_cons_self))) (hts _ (h _ (List.mem_cons_of_mem _ (List.mem_cons_of_mem _ List.mem_cons_self)))) (hts _ (h _ (List.mem_cons_of_mem _ (List.mem_cons_of_mem _ (List.mem_cons_of_mem _ List.mem_cons_self))))) (g := F0 m pc ls (.int y :: .int x :: rest)) rfl (by rw [hml]; exact hls) (a := x) (b := y) (rest := rest) rfl (by rw [hb]; exact hdec) hR.1 (by show 2 * 0 + _ + 13 ≤ _; omega) hcl hsl
  exact ⟨some (.int _), T, T.setVm vm', T.setVm vm', [], hT, by rw [List.append_nil]; exact X2, fun q hq => (by cases hq), rfl, rfl, x_pure hT hH rfl rfl rfl ⟨_, rfl, x_i32 _⟩ hcs, st⟩
theorem x_cokMax (X : x_cx p s m args c D U cc nL cl Tb Nb own) {cw : ByteArray} (hcw : cw = Lib.Math.max.code) (h : ∀ w ∈ [Cond.methodLink own idx Lib.Math.max.name, .static Lib.Math.max.name, .initialized "java/lang/Math", .code Lib.Math.max.name cw 2 (some .int)], w ∈ Tb) (hR : 1 ≤ R.frames ∧ 21 ≤ R.locals) :
    x_cok p l e R s m args below meth c D G Zs U nL cc (1, idx, 2, none, xM2 Lib.Math.max.name cw) := by
  subst hcw
  intro H locs cells slots pc ls rest av Y hdec hls hrest hcl hsl hH hcs hlen hrt T hT X'
  obtain ⟨hx, hb, hml, hown, hts, -⟩ := X
  obtain ⟨v, w, rfl, ⟨x, rfl, -⟩, ⟨y, rfl, -⟩⟩ := x_two hcs
  obtain ⟨vm', X2, st⟩ := va_mathMaxV X' hx hown (hts _ (h _ List.mem_cons_self)) (hts _ (h _ (List.mem_cons_of_mem _ List.mem_cons_self))) (hts _ (h _ (List.mem_cons_of_mem _ (List.mem_cons_of_mem _ List.mem_cons_self)))) (hts _ (h _ (List.mem_cons_of_mem _ (List.mem_cons_of_mem _ (List.mem_cons_of_mem _ List.mem_cons_self))))) (g := F0 m pc ls (.int y :: .int x :: rest)) rfl (by rw [hml]; exact hls) (a := x) (b := y) (rest := rest) rfl (by rw [hb]; exact hdec) hR.1 (by show 2 * 0 + _ + 13 ≤ _; omega) hcl hsl
  exact ⟨some (.int _), T, T.setVm vm', T.setVm vm', [], hT, by rw [List.append_nil]; exact X2, fun q hq => (by cases hq), rfl, rfl, x_pure hT hH rfl rfl rfl ⟨_, rfl, x_i32 _⟩ hcs, st⟩
theorem x_cokAbs (X : x_cx p s m args c D U cc nL cl Tb Nb own) {cw : ByteArray} (hcw : cw = Lib.Math.abs.code) (h : ∀ w ∈ [Cond.methodLink own idx Lib.Math.abs.name, .static Lib.Math.abs.name, .initialized "java/lang/Math", .code Lib.Math.abs.name cw 1 (some .int)], w ∈ Tb) (hR : 1 ≤ R.frames ∧ 21 ≤ R.locals) :
    x_cok p l e R s m args below meth c D G Zs U nL cc (1, idx, 1, none, xM1 Lib.Math.abs.name cw) := by
  subst hcw
  intro H locs cells slots pc ls rest av Y hdec hls hrest hcl hsl hH hcs hlen hrt T hT X'
  obtain ⟨hx, hb, hml, hown, hts, -⟩ := X
  obtain ⟨v, rfl, ⟨x, rfl, -⟩⟩ := x_one hcs
  obtain ⟨vm', X2, st⟩ := va_mathAbsV X' hx hown (hts _ (h _ List.mem_cons_self)) (hts _ (h _ (List.mem_cons_of_mem _ List.mem_cons_self))) (hts _ (h _ (List.mem_cons_of_mem _ (List.mem_cons_of_mem _ List.mem_cons_self)))) (hts _ (h _ (List.mem_cons_of_mem _ (List.mem_cons_of_mem _ (List.mem_cons_of_mem _ List.mem_cons_self))))) (g := F0 m pc ls (.int x :: rest)) rfl (by rw [hml]; exact hls) (a := x) (rest := rest) rfl (by rw [hb]; exact hdec) hR.1 (by show 2 * 0 + _ + 13 ≤ _; omega) hcl hsl
  exact ⟨some (.int _), T, T.setVm vm', T.setVm vm', [], hT, by rw [List.append_nil]; exact X2, fun q hq => (by cases hq), rfl, rfl, x_pure hT hH rfl rfl rfl ⟨_, rfl, x_i32 _⟩ hcs, st⟩
theorem x_cokAbsL (X : x_cx p s m args c D U cc nL cl Tb Nb own) {cw : ByteArray} (hcw : cw = Lib.MathLoose.abs_long.code) (h : ∀ w ∈ [Cond.methodLink own idx Lib.MathLoose.abs_long.x, .static Lib.MathLoose.abs_long.x, .initialized "java/lang/Math", .code Lib.MathLoose.abs_long.x cw 2 (some .long)], w ∈ Tb) (hR : 1 ≤ R.frames ∧ 21 ≤ R.locals) :
    x_cok p l e R s m args below meth c D G Zs U nL cc (1, idx, 1, none, xM1L Lib.MathLoose.abs_long.x cw) := by
  subst hcw
  intro H locs cells slots pc ls rest av Y hdec hls hrest hcl hsl hH hcs hlen hrt T hT X'
  obtain ⟨hx, hb, hml, hown, hts, -⟩ := X
  obtain ⟨v, rfl, ⟨x, rfl, -⟩⟩ := x_one hcs
  obtain ⟨vm', X2, st⟩ := va_abs_longV X' hx hown (hts _ (h _ List.mem_cons_self)) (hts _ (h _ (List.mem_cons_of_mem _ List.mem_cons_self))) (hts _ (h _ (List.mem_cons_of_mem _ (List.mem_cons_of_mem _ List.mem_cons_self)))) (hts _ (h _ (List.mem_cons_of_mem _ (List.mem_cons_of_mem _ (List.mem_cons_of_mem _ List.mem_cons_self))))) (g := F0 m pc ls (.long x :: rest)) rfl (by rw [hml]; exact hls) (a := x) (rest := rest) rfl (by rw [hb]; exact hdec) hR.1 (by show 2 * 0 + _ + 13 ≤ _; omega) hcl hsl
  exact ⟨some (.long _), T, T.setVm vm', T.setVm vm', [], hT, by rw [List.append_nil]; exact X2, fun q hq => (by cases hq), rfl, rfl, x_pure hT hH rfl rfl rfl ⟨_, rfl, x_i64 _⟩ hcs, st⟩
end XMT
end
